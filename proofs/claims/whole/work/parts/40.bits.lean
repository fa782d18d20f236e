def bt (x : Int32) (i : Nat) : Bool := x.toBitVec.getLsbD i
theorem b_ext {x y : Int32} (h : ∀ i, i < 32 → bt x i = bt y i) : x = y := Int32.toBitVec_inj.mp (BitVec.eq_of_getLsbD_eq (fun i hi => h i hi))
theorem b_or (x y : Int32) (i : Nat) : bt (x ||| y) i = (bt x i || bt y i) := by unfold bt; rw [Int32.toBitVec_or, BitVec.getLsbD_or]
theorem b_and (x y : Int32) (i : Nat) : bt (x &&& y) i = (bt x i && bt y i) := by unfold bt; rw [Int32.toBitVec_and, BitVec.getLsbD_and]
theorem b_xor (x y : Int32) (i : Nat) : bt (x ^^^ y) i = (bt x i ^^ bt y i) := by unfold bt; rw [Int32.toBitVec_xor, BitVec.getLsbD_xor]
theorem b_big {x : Int32} {i : Nat} (h : 32 ≤ i) : bt x i = false := BitVec.getLsbD_of_ge _ _ h
theorem b_m1 : ∀ i, i < 32 → bt (-1) i = true := by decide +kernel
theorem b_0 (i : Nat) : bt 0 i = false := BitVec.getLsbD_zero
theorem s_l : ∀ n, n < 32 → ((nI n &&& 31).toBitVec.smod 32).toNat = n := by decide +kernel
theorem b_shl (n : Nat) (hn : n < 32) (x : Int32) {i : Nat} (hi : i < 32) : bt (x <<< (nI n &&& 31)) i = (decide (n ≤ i) && bt x (i - n)) := by
  unfold bt
  rw [Int32.toBitVec_shiftLeft]
  show (x.toBitVec <<< ((nI n &&& 31).toBitVec.smod 32).toNat).getLsbD i = _
  rw [s_l n hn, BitVec.getLsbD_shiftLeft]
  rcases Nat.lt_or_ge i n with h | h
  · simp [h, Nat.not_le.mpr h]
  · simp [hi, h, Nat.not_lt.mpr h]
theorem b_sshr (n : Nat) (hn : n < 32) (x : Int32) {i : Nat} (hi : i < 32) : bt (x >>> (nI n &&& 31)) i = if n + i < 32 then bt x (n + i) else bt x 31 := by
  unfold bt
  rw [Int32.toBitVec_shiftRight]
  show (x.toBitVec.sshiftRight ((nI n &&& 31).toBitVec.smod 32).toNat).getLsbD i = _
  rw [s_l n hn, BitVec.getLsbD_sshiftRight, BitVec.msb_eq_getLsbD_last]
  simp [hi]
theorem b_1 : ∀ i, i < 32 → bt (nI 1) i = decide (i = 0) := by decide +kernel
theorem hasB_bt (x : Int32) {k : Nat} (hk : k < 32) : hasB x (nI k) = bt x k := by
  unfold hasB
  cases hb : bt x k
  · rw [decide_eq_false]
    intro e
    have e2 : bt ((x >>> (nI k &&& 31)) &&& nI 1) 0 = bt (nI 1) 0 := congrArg (fun z => bt z 0) e
    rw [b_and, b_sshr k hk x (by decide), if_pos (by omega), Nat.add_zero, hb] at e2
    exact absurd e2 (by decide)
  · rw [decide_eq_true]
    apply b_ext
    intro i hi
    rw [b_and, b_1 i hi]
    by_cases q : i = 0
    · subst q
      rw [b_sshr k hk x (by decide), if_pos (by omega), Nat.add_zero, hb]
      rfl
    · rw [decide_eq_false q, Bool.and_false]
theorem b_1shl {k i : Nat} (hk : k < 32) (hi : i < 32) : bt (nI 1 <<< (nI k &&& 31)) i = decide (i = k) := by
  rw [b_shl k hk _ hi]
  by_cases q : k ≤ i
  · rw [b_1 _ (by omega), decide_eq_true q, Bool.true_and]
    by_cases r : i = k
    · rw [decide_eq_true r, decide_eq_true (by omega)]
    · rw [decide_eq_false r, decide_eq_false (by omega)]
  · rw [decide_eq_false q, decide_eq_false (by omega), Bool.false_and]
theorem b_not (x : Int32) {i : Nat} (hi : i < 32) : bt (x ^^^ (-1)) i = !bt x i := by
  rw [b_xor, b_m1 i hi]
  cases bt x i <;> rfl
/-- all hours (bits) below H -/
def allI (H : Nat) : Int32 := nI 1 <<< (nI H &&& 31) - nI 1
theorem b_all : ∀ H, H < 25 → ∀ i, i < 32 → bt (allI H) i = decide (i < H) := by decide +kernel
theorem allI_N : ∀ H, H < 25 → allI H = nI (2 ^ H - 1) := by decide +kernel
def clrI (x : Int32) (p : Nat) : Int32 := x &&& ((nI 1 <<< (nI p &&& 31)) ^^^ (-1))
theorem b_clr (x : Int32) {p i : Nat} (hp : p < 32) (hi : i < 32) : bt (clrI x p) i = (bt x i && !decide (i = p)) := by
  unfold clrI
  rw [b_and, b_not _ hi, b_1shl hp hi]
/-- how many bits below n -/
def cntB (x : Int32) (n : Nat) : Nat := sumN (fun i => if bt x i = true then 1 else 0) n
theorem cnt_clr {x : Int32} {p : Nat} (hp : p < 32) (hb : bt x p = true) : ∀ n, n ≤ 32 → cntB (clrI x p) n + (if p < n then 1 else 0) = cntB x n
  | 0, _ => by rw [if_neg (Nat.not_lt_zero p)]; rfl
  | n + 1, hn => by
    have ih := cnt_clr hp hb n (by omega)
    show cntB (clrI x p) n + (if bt (clrI x p) n = true then 1 else 0) + _ = cntB x n + (if bt x n = true then 1 else 0)
    rw [b_clr x hp (by omega)]
    by_cases q : n = p
    · subst q
      rw [if_neg (Nat.lt_irrefl n)] at ih
      rw [hb, decide_eq_true rfl, if_pos (Nat.lt_succ_self n), if_neg (by decide), if_pos rfl]
      omega
    · rw [decide_eq_false q, Bool.not_false, Bool.and_true]
      by_cases r : p < n
      · rw [if_pos r] at ih
        rw [if_pos (show p < n + 1 by omega)]
        omega
      · rw [if_neg r] at ih
        rw [if_neg (show ¬ p < n + 1 by omega)]
        omega
theorem cnt_0 {x : Int32} : ∀ n, cntB x n = 0 → ∀ i, i < n → bt x i = false
  | 0, _, i, h => absurd h (Nat.not_lt_zero i)
  | n + 1, h, i, hi => by
    have e : cntB x n + (if bt x n = true then 1 else 0) = 0 := h
    by_cases q : i = n
    · subst q
      cases hb : bt x i
      · rfl
      · rw [hb, if_pos rfl] at e; omega
    · exact cnt_0 n (by omega) i (by omega)
theorem cnt_ex {x : Int32} : ∀ n, cntB x n ≠ 0 → ∃ i, i < n ∧ bt x i = true
  | 0, h => absurd rfl h
  | n + 1, h => by
    cases hb : bt x n
    · have e : cntB x (n + 1) = cntB x n := by
        show cntB x n + (if bt x n = true then 1 else 0) = _
        rw [hb, if_neg (by decide), Nat.add_zero]
      rw [e] at h
      obtain ⟨i, h1, h2⟩ := cnt_ex n h
      exact ⟨i, by omega, h2⟩
    · exact ⟨n, by omega, hb⟩
theorem cnt_all {H : Nat} (hH : H < 25) : ∀ n, n ≤ 32 → cntB (allI H) n = min n H
  | 0, _ => by rw [Nat.zero_min]; rfl
  | n + 1, hn => by
    show cntB (allI H) n + (if bt (allI H) n = true then 1 else 0) = _
    rw [cnt_all hH n (by omega), b_all H hH n (by omega)]
    by_cases q : n < H
    · rw [decide_eq_true q, if_pos rfl]; omega
    · rw [decide_eq_false q, if_neg (by decide)]; omega
theorem b_zero {x : Int32} (h : ∀ i, i < 32 → bt x i = false) : x = 0 := b_ext (fun i hi => by rw [h i hi, b_0])
