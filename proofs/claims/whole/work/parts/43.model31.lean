def prodN (f : Nat → Nat) : Nat → Nat
  | 0 => 1
  | n + 1 => prodN f n * f n
theorem prodN_congr {f g : Nat → Nat} : ∀ n, (∀ i, i < n → f i = g i) → prodN f n = prodN g n
  | 0, _ => rfl
  | n + 1, h => by
    show prodN f n * f n = prodN g n * g n
    rw [prodN_congr n (fun i hi => h i (by omega)), h n (by omega)]
def cntT (tm : Nat → Nat) (t : Nat) : Nat → Nat := sumN (fun b => if tm b = t then 1 else 0)
def tirT (V tm : Nat → Nat) (t : Nat) : Nat → Nat := prodN (fun b => if tm b = t then V (30 + 2 * b + 1) else 1)
theorem tirT_le {V : Nat → Nat} (ok : VOK V) (tm : Nat → Nat) (t : Nat) : ∀ n, n ≤ 6 → tirT V tm t n ≤ 10 ^ cntT tm t n
  | 0, _ => Nat.le_refl _
  | n + 1, hn => by
    have ih := tirT_le ok tm t n (by omega)
    have hv := (ok.2.2.2.2.2.2.2.1 n (by omega)).2
    show tirT V tm t n * (if tm n = t then V (30 + 2 * n + 1) else 1) ≤ 10 ^ (cntT tm t n + (if tm n = t then 1 else 0))
    split
    · rw [Nat.pow_succ]
      exact Nat.mul_le_mul ih hv
    · rw [Nat.mul_one]
      exact ih
/-- of how many of ten each no team of the first so many puts it down; none if one has nobody -/
def chT (V tm : Nat → Nat) : Nat → Option Nat := foldN (fun t q => match q with
  | none => none
  | some a => if cntT tm t (V 5) = 0 then none else some (a * (10 ^ cntT tm t (V 5) - tirT V tm t (V 5)))) (some 1)
theorem chT_s (V tm : Nat → Nat) (t : Nat) : chT V tm (t + 1) = match chT V tm t with
  | none => none
  | some a => if cntT tm t (V 5) = 0 then none else some (a * (10 ^ cntT tm t (V 5) - tirT V tm t (V 5))) := rfl
theorem chT_none {V tm : Nat → Nat} {t : Nat} (h : chT V tm t = none) : ∀ n, chT V tm (t + n) = none
  | 0 => h
  | n + 1 => by rw [show t + (n + 1) = t + n + 1 from rfl, chT_s, chT_none h n]
/-- how many are in the first so many teams -/
def cntL (tm : Nat → Nat) (t : Nat) : Nat → Nat := sumN (fun b => if tm b < t then 1 else 0)
theorem cntL_s (tm : Nat → Nat) (t : Nat) : ∀ n, cntL tm (t + 1) n = cntL tm t n + cntT tm t n
  | 0 => rfl
  | n + 1 => by
    have ih := cntL_s tm t n
    show cntL tm (t + 1) n + (if tm n < t + 1 then 1 else 0) = cntL tm t n + (if tm n < t then 1 else 0) + (cntT tm t n + (if tm n = t then 1 else 0))
    rw [ih]
    split <;> split <;> split <;> omega
theorem cntL_le (tm : Nat → Nat) (t : Nat) : ∀ n, cntL tm t n ≤ n
  | 0 => Nat.le_refl _
  | n + 1 => by
    have ih := cntL_le tm t n
    show cntL tm t n + (if tm n < t then 1 else 0) ≤ n + 1
    split <;> omega
theorem chT_le {V : Nat → Nat} (ok : VOK V) (tm : Nat → Nat) : ∀ t a, chT V tm t = some a → a ≤ 10 ^ cntL tm t (V 5)
  | 0, a, h => by
    cases h
    exact Nat.one_le_iff_ne_zero.mpr (Nat.pos_iff_ne_zero.mp (Nat.pow_pos (by decide)))
  | t + 1, a, h => by
    rw [chT_s] at h
    cases hq : chT V tm t with
    | none => rw [hq] at h; cases h
    | some x =>
      rw [hq] at h
      have h : (if cntT tm t (V 5) = 0 then none else some (x * (10 ^ cntT tm t (V 5) - tirT V tm t (V 5)))) = some a := h
      split at h
      · cases h
      · cases h
        rw [cntL_s, Nat.pow_add]
        exact Nat.mul_le_mul (chT_le ok tm t x hq) (Nat.sub_le _ _)
theorem chT_le6 {V : Nat → Nat} (ok : VOK V) {tm : Nat → Nat} {t a : Nat} (h : chT V tm t = some a) : a ≤ 1000000 := by
  have h1 := chT_le ok tm t a h
  have h2 := cntL_le tm t (V 5)
  have h3 := ok.2.2.2.2.2.1
  exact Nat.le_trans h1 (Nat.le_trans (Nat.pow_le_pow_right (by decide) (show cntL tm t (V 5) ≤ 6 by omega)) (by decide))
def o1 : Option Nat → Nat
  | none => 0
  | some a => a + 1
theorem encN_hI (q : Option Nat) : encN q = hI (o1 q) := by
  cases q with
  | none => rfl
  | some a => exact (if_neg (Nat.succ_ne_zero a)).symm
theorem hI_le {a b : Nat} (ha : a < 2 ^ 31) (hb : b < 2 ^ 31) : hI a ≤ hI b ↔ a ≤ b := by
  have e : ∀ x : Nat, x < 2 ^ 31 → (hI x).toInt = (x : Int) - 1 := fun x hx => by
    unfold hI
    split
    · rename_i q
      subst q
      rfl
    · rw [nI_toInt (by omega)]
      omega
  rw [Int32.le_iff_toInt_le, e a ha, e b hb]
  omega
set_option maxHeartbeats 4000000 in
set_option maxRecDepth 100000 in
theorem c_M_tens {G : GE} (x : Nat) (hx : x < 2 ^ 31) (h : AH) : Ctr G y_M_tens b_M_tens 3 (some .int) r_M_tens [.int (nI x)] h (Pu (.int (nI (10 ^ x))) h) := by
  have key : ∀ i, i ≤ x → WA G y_M_tens b_M_tens 3 (some .int) r_M_tens 0 0 (Pu (.int (nI (10 ^ x))) h) 0 0 4 [some (.int (nI x)), some (.int (nI (10 ^ i))), some (.int (nI i))] [] h := by
    refine down ?_ (fun i hi ih => ?_)
    · refine A_iload_n2 d_M_tens_4 ?_
      refine A_iload_n0 d_M_tens_5 ?_
      first | refine A_icmp_geN (tgt := 20) d_M_tens_6 (by decide) (by with_reducible rfl) (by with_reducible rfl) (by omega) (by omega) (fun c_6 => ?_) (fun c_6 => ?_) | refine A_icmp_ge (tgt := 20) d_M_tens_6 (by decide) (fun c_6 => ?_) (fun c_6 => ?_)
      · refine A_iload_n1 d_M_tens_20 ?_
        refine A_iret d_M_tens_21 rfl ⟨Nat.zero_le _, Nat.zero_le _⟩ ?_
        exact pu rfl
      · exact absurd c_6 (by omega)
    · refine A_iload_n2 d_M_tens_4 ?_
      refine A_iload_n0 d_M_tens_5 ?_
      first | refine A_icmp_geN (tgt := 20) d_M_tens_6 (by decide) (by with_reducible rfl) (by with_reducible rfl) (by omega) (by omega) (fun c_6 => ?_) (fun c_6 => ?_) | refine A_icmp_ge (tgt := 20) d_M_tens_6 (by decide) (fun c_6 => ?_) (fun c_6 => ?_)
      · exact absurd c_6 (by omega)
      · refine A_iload_n1 d_M_tens_9 ?_
        refine A_bipush (v := nI 10) d_M_tens_10 (by decide) ?_
        first | refine A_imulN d_M_tens_12 (by with_reducible rfl) (by with_reducible rfl) ?_ | refine A_imul d_M_tens_12 ?_
        refine A_istore1 d_M_tens_13 trivial ?_
        first | refine A_iinc2 d_M_tens_14 (nI_1 _) trivial ?_ | refine A_iinc2 d_M_tens_14 rfl trivial ?_
        refine A_goto (tgt := 4) d_M_tens_17 (by decide) ?_
        exact A_loc (by rw [Nat.pow_succ]) ih
  refine Ctr.of (by decide +kernel) (by simp) (Nat.le_of_ble_eq_true rfl) (L0 := [some (.int (nI x)), none, none]) rfl ?_
  refine A_iconst (v := nI 1) d_M_tens_0 (by decide) ?_
  refine A_istore1 d_M_tens_1 trivial ?_
  refine A_iconst (v := nI 0) d_M_tens_2 (by decide) ?_
  refine A_istore2 d_M_tens_3 trivial ?_
  exact key 0 (Nat.zero_le _)
set_option maxHeartbeats 4000000 in
set_option maxRecDepth 100000 in
theorem c_M_common {G : GE} (a b : Nat) (ha : a < 2 ^ 31) (hb : b < 2 ^ 31) (h : AH) : Ctr G y_M_common b_M_common 5 (some .int) r_M_common [.int (nI a), .int (nI b)] h (Pu (.int (nI (Nat.gcd a b))) h) := by
  have key : ∀ y x, x < 2 ^ 31 → y < 2 ^ 31 → Nat.gcd x y = Nat.gcd a b → WA G y_M_common b_M_common 5 (some .int) r_M_common 0 0 (Pu (.int (nI (Nat.gcd a b))) h) 0 0 4 [some (.int (nI a)), some (.int (nI b)), some (.int (nI x)), some (.int (nI y)), none] [] h := by
    intro y
    induction y using Nat.strongRecOn with
    | _ y ih =>
      intro x hx hy hg
      by_cases q : y = 0
      · subst q
        refine A_iload_n3 d_M_common_4 ?_
        refine A_if_eq (tgt := 21) d_M_common_5 (by decide) (fun c_5 => ?_) (fun c => absurd rfl c)
        refine A_iload_n2 d_M_common_21 ?_
        refine A_iret d_M_common_22 rfl ⟨Nat.zero_le _, Nat.zero_le _⟩ ?_
        exact pu (by rw [← hg, Nat.gcd_zero_right])
      refine A_iload_n3 d_M_common_4 ?_
      refine A_if_eq (tgt := 21) d_M_common_5 (by decide) (fun c => absurd c (nI_ne0 (by omega) (by omega))) (fun c_5 => ?_)
      refine A_iload_n2 d_M_common_8 ?_
      refine A_iload_n3 d_M_common_9 ?_
      refine A_iremN d_M_common_10 (by with_reducible rfl) (by with_reducible rfl) (by omega) ?_
      refine A_istore4 d_M_common_11 trivial ?_
      refine A_iload_n3 d_M_common_13 ?_
      refine A_istore2 d_M_common_14 trivial ?_
      refine A_iload4 d_M_common_15 ?_
      refine A_istore3 d_M_common_17 trivial ?_
      refine A_goto (tgt := 4) d_M_common_18 (by decide) ?_
      exact A_drop4 (ih (x % y) (Nat.mod_lt _ (by omega)) y hy (Nat.lt_trans (Nat.mod_lt _ (by omega)) hy) (by rw [← hg, Nat.gcd_comm y, ← Nat.gcd_rec, Nat.gcd_comm]))
  refine Ctr.of (by decide +kernel) (by simp) (Nat.le_of_ble_eq_true rfl) (L0 := [some (.int (nI a)), some (.int (nI b)), none, none, none]) rfl ?_
  refine A_iload_n0 d_M_common_0 ?_
  refine A_istore2 d_M_common_1 trivial ?_
  refine A_iload_n1 d_M_common_2 ?_
  refine A_istore3 d_M_common_3 trivial ?_
  exact key b a ha hb rfl
set_option maxHeartbeats 4000000 in
set_option maxRecDepth 100000 in
theorem c_M_chance2 {G : GE} {h0 h : AH} {m : Nat} {S : MS} (hM : MW h0 h m S) {l : Nat} {V : Nat → Nat} (hS : HS S l V) {tm : Nat → Nat} (hT : ∀ b, b < V 5 → S.2.2.1 47 b = nI (tm b) ∧ tm b < 8) {K : Option Value → AH → Prop} {k a t : Nat} (ht8 : t < 8) (hk : WA G y_M_chanceOf b_M_chanceOf 7 (some .int) r_M_chanceOf 0 0 K 0 0 80 [some (.ref m), some (.int (nI k)), some (.int (nI a)), some (.int (nI t)), some (.int (nI (tirT V tm t (V 5)))), some (.int (nI (cntT tm t (V 5)))), none] [] h) : ∀ b, b ≤ V 5 → WA G y_M_chanceOf b_M_chanceOf 7 (some .int) r_M_chanceOf 0 0 K 0 0 18 [some (.ref m), some (.int (nI k)), some (.int (nI a)), some (.int (nI t)), some (.int (nI (tirT V tm t b))), some (.int (nI (cntT tm t b))), some (.int (nI b))] [] h := by
  have ok := hS.ok
  have h5 := ok.2.2.2.2.2.1
  refine down ?_ (fun b hb ih => ?_)
  · refine A_iload6 d_M_chanceOf_18 ?_
    refine A_aload_n0 d_M_chanceOf_20 ?_
    refine A_getf (kf := 30) d_M_chanceOf_21 hM.o ok_8 (by decide) q_1079 rfl ?_
    refine A_topI hS.bearers ?_
    first | refine A_icmp_geN (tgt := 80) d_M_chanceOf_24 (by decide) (by with_reducible rfl) (by with_reducible rfl) (by omega) (by omega) (fun c_24 => ?_) (fun c_24 => ?_) | refine A_icmp_ge (tgt := 80) d_M_chanceOf_24 (by decide) (fun c_24 => ?_) (fun c_24 => ?_)
    · exact A_drop6 hk
    · exact absurd c_24 (by omega)
  · refine A_iload6 d_M_chanceOf_18 ?_
    refine A_aload_n0 d_M_chanceOf_20 ?_
    refine A_getf (kf := 30) d_M_chanceOf_21 hM.o ok_8 (by decide) q_1079 rfl ?_
    refine A_topI hS.bearers ?_
    first | refine A_icmp_geN (tgt := 80) d_M_chanceOf_24 (by decide) (by with_reducible rfl) (by with_reducible rfl) (by omega) (by omega) (fun c_24 => ?_) (fun c_24 => ?_) | refine A_icmp_ge (tgt := 80) d_M_chanceOf_24 (by decide) (fun c_24 => ?_) (fun c_24 => ?_)
    · exact absurd c_24 (by omega)
    · refine A_iload4 d_M_chanceOf_27 ?_
      refine A_aload_n0 d_M_chanceOf_29 ?_
      refine A_getf (kf := 47) d_M_chanceOf_30 hM.o ok_8 (by decide) q_1096 rfl ?_
      refine A_iload6 d_M_chanceOf_33 ?_
      refine A_ialdN d_M_chanceOf_35 hM.a47 ⟨by omega, by decide⟩ ?_
      refine A_topI (hT b hb).1 ?_
      have htb := (hT b hb).2
      refine A_iload_n3 d_M_chanceOf_36 ?_
      first | refine A_icmp_neN (tgt := 49) d_M_chanceOf_37 (by decide) (by with_reducible rfl) (by with_reducible rfl) (by omega) (by omega) (fun c_37 => ?_) (fun c_37 => ?_) | refine A_icmp_ne (tgt := 49) d_M_chanceOf_37 (by decide) (fun c_37 => ?_) (fun c_37 => ?_)
      · refine A_iconst (v := nI 1) d_M_chanceOf_49 (by decide) ?_
        first | refine A_imulN d_M_chanceOf_50 (by with_reducible rfl) (by with_reducible rfl) ?_ | refine A_imul d_M_chanceOf_50 ?_
        refine A_istore4 d_M_chanceOf_51 trivial ?_
        refine A_iload5 d_M_chanceOf_53 ?_
        refine A_aload_n0 d_M_chanceOf_55 ?_
        refine A_getf (kf := 47) d_M_chanceOf_56 hM.o ok_8 (by decide) q_1096 rfl ?_
        refine A_iload6 d_M_chanceOf_59 ?_
        refine A_ialdN d_M_chanceOf_61 hM.a47 ⟨by omega, by decide⟩ ?_
        refine A_topI (hT b hb).1 ?_
        have htb := (hT b hb).2
        refine A_iload_n3 d_M_chanceOf_62 ?_
        refine A_icmp_ne (tgt := 70) d_M_chanceOf_63 (by decide) (fun c_63 => ?_) (fun c => absurd ((nI_eq (by omega) (by omega)).mp c) c_37)
        refine A_iconst (v := nI 0) d_M_chanceOf_70 (by decide) ?_
        first | refine A_iaddN d_M_chanceOf_71 (by with_reducible rfl) (by with_reducible rfl) ?_ | refine A_iadd d_M_chanceOf_71 ?_
        refine A_istore5 d_M_chanceOf_72 trivial ?_
        first | refine A_iinc6 d_M_chanceOf_74 (nI_1 _) trivial ?_ | refine A_iinc6 d_M_chanceOf_74 rfl trivial ?_
        refine A_goto (tgt := 18) d_M_chanceOf_77 (by decide) ?_
        refine A_loc ?_ ih
        have e1 : tirT V tm t (b + 1) = tirT V tm t b * (if tm b = t then V (30 + 2 * b + 1) else 1) := rfl
        have e2 : cntT tm t (b + 1) = cntT tm t b + (if tm b = t then 1 else 0) := rfl
        first | (rw [e1, e2, if_pos c_37, if_pos c_37]; done) | (rw [e1, e2, if_neg c_37, if_neg c_37]; done)
      · refine A_aload_n0 d_M_chanceOf_40 ?_
        refine A_iload6 d_M_chanceOf_41 ?_
        refine A_callVP d_M_chanceOf_43 (c_M_tiredOf hM hS b (by omega)) hM.o rfl q_1623 q_1625 qs_89 mk_M_tiredOf rfl (by decide) rfl (Nat.le_of_ble_eq_true rfl) ⟨Nat.le_of_ble_eq_true rfl, Nat.le_of_ble_eq_true rfl⟩ ⟨rfl, rfl⟩ ?_
        refine A_goto (tgt := 50) d_M_chanceOf_46 (by decide) ?_
        first | refine A_imulN d_M_chanceOf_50 (by with_reducible rfl) (by with_reducible rfl) ?_ | refine A_imul d_M_chanceOf_50 ?_
        refine A_istore4 d_M_chanceOf_51 trivial ?_
        refine A_iload5 d_M_chanceOf_53 ?_
        refine A_aload_n0 d_M_chanceOf_55 ?_
        refine A_getf (kf := 47) d_M_chanceOf_56 hM.o ok_8 (by decide) q_1096 rfl ?_
        refine A_iload6 d_M_chanceOf_59 ?_
        refine A_ialdN d_M_chanceOf_61 hM.a47 ⟨by omega, by decide⟩ ?_
        refine A_topI (hT b hb).1 ?_
        have htb := (hT b hb).2
        refine A_iload_n3 d_M_chanceOf_62 ?_
        refine A_icmp_ne (tgt := 70) d_M_chanceOf_63 (by decide) (fun c => absurd (congrArg nI c_37) c) (fun c_63 => ?_)
        refine A_iconst (v := nI 1) d_M_chanceOf_66 (by decide) ?_
        refine A_goto (tgt := 71) d_M_chanceOf_67 (by decide) ?_
        first | refine A_iaddN d_M_chanceOf_71 (by with_reducible rfl) (by with_reducible rfl) ?_ | refine A_iadd d_M_chanceOf_71 ?_
        refine A_istore5 d_M_chanceOf_72 trivial ?_
        first | refine A_iinc6 d_M_chanceOf_74 (nI_1 _) trivial ?_ | refine A_iinc6 d_M_chanceOf_74 rfl trivial ?_
        refine A_goto (tgt := 18) d_M_chanceOf_77 (by decide) ?_
        refine A_loc ?_ ih
        have e1 : tirT V tm t (b + 1) = tirT V tm t b * (if tm b = t then V (30 + 2 * b + 1) else 1) := rfl
        have e2 : cntT tm t (b + 1) = cntT tm t b + (if tm b = t then 1 else 0) := rfl
        first | (rw [e1, e2, if_pos c_37, if_pos c_37]; done) | (rw [e1, e2, if_neg c_37, if_neg c_37]; done)
set_option maxHeartbeats 4000000 in
set_option maxRecDepth 100000 in
theorem c_M_chanceOf {G : GE} {h0 h : AH} {m : Nat} {S : MS} (hM : MW h0 h m S) {l : Nat} {V : Nat → Nat} (hS : HS S l V) {tm : Nat → Nat} (hT : ∀ b, b < V 5 → S.2.2.1 47 b = nI (tm b) ∧ tm b < 8) (k : Nat) (hk8 : k ≤ 8) : Ctr G y_M_chanceOf b_M_chanceOf 7 (some .int) r_M_chanceOf [.ref m, .int (nI k)] h (Pu (.int (encN (chT V tm k))) h) := by
  have ok := hS.ok
  have h5 := ok.2.2.2.2.2.1
  have key : ∀ t, t ≤ k → ∀ a, chT V tm t = some a → WA G y_M_chanceOf b_M_chanceOf 7 (some .int) r_M_chanceOf 0 0 (Pu (.int (encN (chT V tm k))) h) 0 0 4 [some (.ref m), some (.int (nI k)), some (.int (nI a)), some (.int (nI t)), none, none, none] [] h := by
    refine down ?_ (fun t ht ih => ?_)
    · intro a hq
      refine A_iload_n3 d_M_chanceOf_4 ?_
      refine A_iload_n1 d_M_chanceOf_5 ?_
      first | refine A_icmp_geN (tgt := 104) d_M_chanceOf_6 (by decide) (by with_reducible rfl) (by with_reducible rfl) (by omega) (by omega) (fun c_6 => ?_) (fun c_6 => ?_) | refine A_icmp_ge (tgt := 104) d_M_chanceOf_6 (by decide) (fun c_6 => ?_) (fun c_6 => ?_)
      · refine A_iload_n2 d_M_chanceOf_104 ?_
        refine A_iret d_M_chanceOf_105 rfl ⟨Nat.zero_le _, Nat.zero_le _⟩ ?_
        exact pu (by rw [hq]; rfl)
      · exact absurd c_6 (by omega)
    · intro a hq
      refine A_iload_n3 d_M_chanceOf_4 ?_
      refine A_iload_n1 d_M_chanceOf_5 ?_
      first | refine A_icmp_geN (tgt := 104) d_M_chanceOf_6 (by decide) (by with_reducible rfl) (by with_reducible rfl) (by omega) (by omega) (fun c_6 => ?_) (fun c_6 => ?_) | refine A_icmp_ge (tgt := 104) d_M_chanceOf_6 (by decide) (fun c_6 => ?_) (fun c_6 => ?_)
      · exact absurd c_6 (by omega)
      · refine A_iconst (v := nI 1) d_M_chanceOf_9 (by decide) ?_
        refine A_istore4 d_M_chanceOf_10 trivial ?_
        refine A_iconst (v := nI 0) d_M_chanceOf_12 (by decide) ?_
        refine A_istore5 d_M_chanceOf_13 trivial ?_
        refine A_iconst (v := nI 0) d_M_chanceOf_15 (by decide) ?_
        refine A_istore6 d_M_chanceOf_16 trivial ?_
        have hst := chT_s V tm t
        rw [hq] at hst
        have hst : chT V tm (t + 1) = if cntT tm t (V 5) = 0 then none else some (a * (10 ^ cntT tm t (V 5) - tirT V tm t (V 5))) := hst
        have hle := tirT_le ok tm t (V 5) h5
        have hcl : cntT tm t (V 5) ≤ 6 := by
          have q1 := cntL_s tm t (V 5)
          have q2 := cntL_le tm (t + 1) (V 5)
          omega
        refine c_M_chance2 hM hS hT (by omega) ?_ 0 (Nat.zero_le _)
        refine A_iload5 d_M_chanceOf_80 ?_
        first | refine A_if_neN (tgt := 87) d_M_chanceOf_82 (by decide) (by with_reducible rfl) (by omega) (fun c_82 => ?_) (fun c_82 => ?_) | refine A_if_ne (tgt := 87) d_M_chanceOf_82 (by decide) (fun c_82 => ?_) (fun c_82 => ?_)
        · refine A_iload_n2 d_M_chanceOf_87 ?_
          refine A_iload5 d_M_chanceOf_88 ?_
          refine A_callSP d_M_chanceOf_90 (c_M_tens (cntT tm t (V 5)) (by omega) h) q_1627 q_1628 mk_M_tens rfl (by decide) rfl (Nat.le_of_ble_eq_true rfl) ⟨Nat.le_of_ble_eq_true rfl, Nat.le_of_ble_eq_true rfl⟩ ⟨rfl, rfl⟩ ?_
          refine A_iload4 d_M_chanceOf_93 ?_
          first | refine A_isubN d_M_chanceOf_95 (by with_reducible rfl) (by with_reducible rfl) (by omega) ?_ | refine A_isub d_M_chanceOf_95 ?_
          first | refine A_imulN d_M_chanceOf_96 (by with_reducible rfl) (by with_reducible rfl) ?_ | refine A_imul d_M_chanceOf_96 ?_
          refine A_istore2 d_M_chanceOf_97 trivial ?_
          first | refine A_iinc3 d_M_chanceOf_98 (nI_1 _) trivial ?_ | refine A_iinc3 d_M_chanceOf_98 rfl trivial ?_
          refine A_goto (tgt := 4) d_M_chanceOf_101 (by decide) ?_
          exact A_drop4 (A_drop5 (A_drop6 (ih _ (by rw [hst, if_neg c_82]))))
        · refine A_iconst (v := (-1)) d_M_chanceOf_85 (by decide) ?_
          refine A_iret d_M_chanceOf_86 rfl ⟨Nat.zero_le _, Nat.zero_le _⟩ ?_
          exact pu (by rw [show k = t + 1 + (k - (t + 1)) by omega, chT_none (by rw [hst, if_pos c_82]) (k - (t + 1))]; rfl)
  refine Ctr.of (by decide +kernel) (by simp) (Nat.le_of_ble_eq_true rfl) (L0 := [some (.ref m), some (.int (nI k)), none, none, none, none, none]) rfl ?_
  refine A_iconst (v := nI 1) d_M_chanceOf_0 (by decide) ?_
  refine A_istore2 d_M_chanceOf_1 trivial ?_
  refine A_iconst (v := nI 0) d_M_chanceOf_2 (by decide) ?_
  refine A_istore3 d_M_chanceOf_3 trivial ?_
  exact key 0 (Nat.zero_le _) 1 rfl
