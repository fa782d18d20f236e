def ushr (x z : Int32) : Int32 := (x.toUInt32 >>> (z.toUInt32 &&& Int32.toUInt32 31)).toInt32
def bc1 (x : Int32) : Int32 := x - (ushr x (nI 1) &&& 1431655765)
def bc2 (x : Int32) : Int32 := (x &&& 858993459) + (ushr x (nI 2) &&& 858993459)
def bc3 (x : Int32) : Int32 := (x + ushr x (nI 4)) &&& 252645135
def bc4 (x : Int32) : Int32 := x + ushr x (nI 8)
def bc5 (x : Int32) : Int32 := (x + ushr x (nI 16))
def bcI (x : Int32) : Int32 := bc5 (bc4 (bc3 (bc2 (bc1 x)))) &&& nI 63
set_option maxRecDepth 100000 in
theorem bcI_N : ∀ k, k < 1024 → bcI (nI k) = nI (cntB (nI k) 10) := by decide +kernel
/-- no bit from n on -/
def BI (x : Int32) (n : Nat) : Prop := ∀ i, n ≤ i → i < 32 → bt x i = false
theorem BI.num {x : Int32} {n : Nat} (h : BI x n) (hn : n ≤ 30) : ∃ k, k < 2 ^ n ∧ x = nI k := by
  refine ⟨x.toBitVec.toNat, ?_, ?_⟩
  · refine Nat.lt_pow_two_of_testBit _ (fun i hi => ?_)
    rcases Nat.lt_or_ge i 32 with q | q
    · exact h i hi q
    · exact BitVec.getLsbD_of_ge _ _ q
  · apply Int32.toBitVec_inj.mp
    apply BitVec.eq_of_toNat_eq
    show x.toBitVec.toNat = (BitVec.ofNat 32 x.toBitVec.toNat).toNat
    rw [BitVec.toNat_ofNat, Nat.mod_eq_of_lt x.toBitVec.isLt]
theorem BI.clr {x : Int32} {n p : Nat} (h : BI x n) (hp : p < 32) : BI (clrI x p) n := fun i a b => by rw [b_clr x hp b, h i a b]; rfl
theorem sh_p {p : Nat} (hp : p < 31) : nI (2 ^ p) = nI 1 <<< (nI p &&& 31) := (shl1 p hp).symm
theorem BI.flip {x : Int32} {n p : Nat} (h : BI x n) (hp : p < n) (hn : n ≤ 30) : BI (x ^^^ nI (2 ^ p)) n := fun i a b => by
  rw [b_xor, h i a b, sh_p (by omega), b_1shl (by omega) b, decide_eq_false (by omega)]; rfl
theorem BI.zero (n : Nat) : BI (nI 0) n := fun i _ _ => b_0 i
theorem BI.told {V : Nat → Nat} : ∀ n, n ≤ 30 → BI (foldN (fun p x => x ||| nI (if V (42 + 27 * p + 0) = 1 then 2 ^ p else 0)) (nI 0) n) n
  | 0, _ => BI.zero 0
  | n + 1, hn => fun i a b => by
    rw [foldN_s, b_or, BI.told n (by omega) i (by omega) b]
    split
    · rw [sh_p (by omega), b_1shl (by omega) b, decide_eq_false (by omega)]; rfl
    · rw [show nI 0 = 0 from rfl, b_0]; rfl
theorem BI.told4 {V : Nat → Nat} (h4 : V 4 ≤ 10) : BI (toldI V) (V 4) := BI.told (V 4) (by omega)
theorem cntB_s (x : Int32) (n : Nat) : cntB x (n + 1) = cntB x n + if bt x n = true then 1 else 0 := rfl
theorem cnt_hi {x : Int32} {n : Nat} (h : BI x n) : ∀ m, n + m ≤ 32 → cntB x (n + m) = cntB x n
  | 0, _ => rfl
  | m + 1, hm => by
    rw [← Nat.add_assoc, cntB_s, cnt_hi h m (by omega), h (n + m) (by omega) (by omega)]
    rfl
/-- those who live in city 1, one left out -/
theorem liv1 {x : Int32} {but : Nat} (hb : but < 32) : ∀ n, n ≤ 32 → sumN (fun p => if p = but then 0 else if bN (hasB x (nI p)) = 1 then 1 else 0) n = cntB (clrI x but) n
  | 0, _ => rfl
  | n + 1, hn => by
    rw [sumN_s, liv1 hb n (by omega), cntB_s, b_clr x hb (by omega), hasB_bt x (by omega)]
    congr 1
    by_cases q : n = but
    · rw [if_pos q, decide_eq_true q, Bool.not_true, Bool.and_false]; rfl
    · rw [if_neg q, decide_eq_false q, Bool.not_false, Bool.and_true]
      unfold bN
      cases bt x n <;> rfl
theorem liv0 {x : Int32} {but : Nat} (hb : but < 32) : ∀ n, n ≤ 32 → sumN (fun p => if p = but then 0 else if bN (hasB x (nI p)) = 0 then 1 else 0) n + cntB (clrI x but) n + (if but < n then 1 else 0) = n
  | 0, _ => by rw [if_neg (Nat.not_lt_zero _)]; rfl
  | n + 1, hn => by
    have ih := liv0 (x := x) hb n (by omega)
    rw [sumN_s, cntB_s, b_clr x hb (by omega), hasB_bt x (by omega)]
    by_cases q : n = but
    · subst q
      rw [if_neg (Nat.lt_irrefl n)] at ih
      rw [if_pos rfl, decide_eq_true rfl, Bool.not_true, Bool.and_false, if_pos (Nat.lt_succ_self n), if_neg (by decide)]
      omega
    · rw [if_neg q, decide_eq_false q, Bool.not_false, Bool.and_true]
      have e : (if but < n + 1 then 1 else 0) = (if but < n then 1 else 0) := by
        by_cases r : but < n
        · rw [if_pos r, if_pos (by omega)]
        · rw [if_neg r, if_neg (by omega)]
      rw [e]
      generalize sumN (fun p => if p = but then 0 else if bN (hasB x (nI p)) = 0 then 1 else 0) n = sm at *
      unfold bN
      cases bt x n <;> simp <;> omega
theorem foldAdd (f : Nat → Nat) (z : Int32) : ∀ n, foldN (fun h y => y + nI (f h)) z n = z + nI (sumN f n)
  | 0 => (Int32.add_zero z).symm
  | n + 1 => by rw [foldN_s, foldAdd f z n, sumN_s, ← nI_add, Int32.add_assoc]
theorem gain_eq {V w : Nat → Nat} {p cc : Nat} {x : Int32} : gainI V w p cc x = nI (lkdN V w p cc) - nI (V 2 * livN V cc x p) := by
  unfold gainI
  rw [foldAdd, ← nI_mul]
  unfold lkdN
  grind
set_option maxHeartbeats 4000000 in
set_option maxRecDepth 100000 in
theorem c_JI_bitCount {G : GE} (h : AH) {k : Nat} (hk : k < 1024) : Ctr G y_JI_bitCount b_JI_bitCount 1 (some .int) r_JI_bitCount [.int (nI k)] h (Pu (.int (nI (cntB (nI k) 10))) h) := by
  refine Ctr.ofF (by decide +kernel) (by simp) (Nat.le_of_ble_eq_true rfl) (L0 := [some (.int (nI k))]) rfl ?_
  refine A_iload_n0 d_JI_bitCount_0 ?_
  refine A_iload_n0 d_JI_bitCount_1 ?_
  refine A_iconst (v := nI 1) d_JI_bitCount_2 (by decide) ?_
  refine A_iushr d_JI_bitCount_3 ?_
  refine A_ldcw d_JI_bitCount_4 q_925 ?_
  refine A_iand d_JI_bitCount_7 ?_
  first | refine A_isubN d_JI_bitCount_8 (by with_reducible rfl) (by with_reducible rfl) (by omega) ?_ | refine A_isub d_JI_bitCount_8 ?_
  refine A_istore0 d_JI_bitCount_9 ?_
  refine A_iload_n0 d_JI_bitCount_10 ?_
  refine A_ldcw d_JI_bitCount_11 q_926 ?_
  refine A_iand d_JI_bitCount_14 ?_
  refine A_iload_n0 d_JI_bitCount_15 ?_
  refine A_iconst (v := nI 2) d_JI_bitCount_16 (by decide) ?_
  refine A_iushr d_JI_bitCount_17 ?_
  refine A_ldcw d_JI_bitCount_18 q_926 ?_
  refine A_iand d_JI_bitCount_21 ?_
  first | refine A_iaddN d_JI_bitCount_22 (by with_reducible rfl) (by with_reducible rfl) ?_ | refine A_iadd d_JI_bitCount_22 ?_
  refine A_istore0 d_JI_bitCount_23 ?_
  refine A_iload_n0 d_JI_bitCount_24 ?_
  refine A_iload_n0 d_JI_bitCount_25 ?_
  refine A_iconst (v := nI 4) d_JI_bitCount_26 (by decide) ?_
  refine A_iushr d_JI_bitCount_27 ?_
  first | refine A_iaddN d_JI_bitCount_28 (by with_reducible rfl) (by with_reducible rfl) ?_ | refine A_iadd d_JI_bitCount_28 ?_
  refine A_ldcw d_JI_bitCount_29 q_927 ?_
  refine A_iand d_JI_bitCount_32 ?_
  refine A_istore0 d_JI_bitCount_33 ?_
  refine A_iload_n0 d_JI_bitCount_34 ?_
  refine A_iload_n0 d_JI_bitCount_35 ?_
  refine A_bipush (v := nI 8) d_JI_bitCount_36 (by decide) ?_
  refine A_iushr d_JI_bitCount_38 ?_
  first | refine A_iaddN d_JI_bitCount_39 (by with_reducible rfl) (by with_reducible rfl) ?_ | refine A_iadd d_JI_bitCount_39 ?_
  refine A_istore0 d_JI_bitCount_40 ?_
  refine A_iload_n0 d_JI_bitCount_41 ?_
  refine A_iload_n0 d_JI_bitCount_42 ?_
  refine A_bipush (v := nI 16) d_JI_bitCount_43 (by decide) ?_
  refine A_iushr d_JI_bitCount_45 ?_
  first | refine A_iaddN d_JI_bitCount_46 (by with_reducible rfl) (by with_reducible rfl) ?_ | refine A_iadd d_JI_bitCount_46 ?_
  refine A_istore0 d_JI_bitCount_47 ?_
  refine A_iload_n0 d_JI_bitCount_48 ?_
  refine A_bipush (v := nI 63) d_JI_bitCount_49 (by decide) ?_
  refine A_iand d_JI_bitCount_51 ?_
  refine A_iret d_JI_bitCount_52 rfl ⟨Nat.zero_le _, Nat.zero_le _⟩ ?_
  exact pu (congrArg Value.int (bcI_N k hk))
