set_option maxHeartbeats 4000000 in
set_option maxRecDepth 100000 in
theorem c_N_commonDivisor {G : GE} (h : AH) (a b : Nat) (ha0 : 0 < a) (ha : a < 2 ^ 31) (hb : b < 2 ^ 31) : Ctr G y_N_commonDivisor b_N_commonDivisor 6 (some .int) r_N_commonDivisor [.int (nI a), .int (nI b)] h (Pu (.int (nI (Nat.gcd a b))) h) := by
  refine Ctr.of (by decide +kernel) (by simp) (Nat.le_of_ble_eq_true rfl) (L0 := [some (.int (nI a)), some (.int (nI b)), none, none, none, none]) rfl ?_
  have key : ∀ i, i ≤ 64 → WA G y_N_commonDivisor b_N_commonDivisor 6 (some .int) r_N_commonDivisor 0 0 (Pu (.int (nI (Nat.gcd a b))) h) 0 0 7 [some (.int (nI a)), some (.int (nI b)), some (.int (nI (euS a b i).1)), some (.int (nI (euS a b i).2)), some (.int (nI i)), none] [] h := by
    refine down ?_ (fun i hi ih => ?_)
    · have hl := euS_le a b ha hb 64
      refine A_iload4 d_N_commonDivisor_7 ?_
      refine A_bipush (v := nI 64) d_N_commonDivisor_9 (by decide) ?_
      first | refine A_icmp_geN (tgt := 34) d_N_commonDivisor_11 (by decide) (by with_reducible rfl) (by with_reducible rfl) (by omega) (by omega) (fun c_11 => ?_) (fun c_11 => ?_) | refine A_icmp_ge (tgt := 34) d_N_commonDivisor_11 (by decide) (fun c_11 => ?_) (fun c_11 => ?_)
      · refine A_iconst (v := nI 1) d_N_commonDivisor_34 (by decide) ?_
        refine A_iload_n2 d_N_commonDivisor_35 ?_
        refine A_callSP d_N_commonDivisor_36 (c_JM_max_0 _ _ _) q_791 q_580 mk_JM_max_0 rfl (by decide) rfl (Nat.le_of_ble_eq_true rfl) ⟨Nat.le_of_ble_eq_true rfl, Nat.le_of_ble_eq_true rfl⟩ ⟨rfl, rfl⟩ ?_
        refine A_iret d_N_commonDivisor_39 rfl ⟨Nat.zero_le _, Nat.zero_le _⟩ ?_
        have hg := euS_gcd a b 64
        rw [euS_64 hb, Nat.gcd_zero_right] at hg
        have hgp := Nat.gcd_pos_of_pos_left b ha0
        exact pu ((congrArg Value.int (nI_maxJ (by decide) (by omega))).trans (congrArg (fun z => Value.int (nI z)) (by omega)))
      · exact absurd c_11 (by omega)
    · have hl := euS_le a b ha hb i
      have es : euS a b (i + 1) = if 0 < (euS a b i).2 then ((euS a b i).2, (euS a b i).1 % (euS a b i).2) else euS a b i := rfl
      refine A_iload4 d_N_commonDivisor_7 ?_
      refine A_bipush (v := nI 64) d_N_commonDivisor_9 (by decide) ?_
      first | refine A_icmp_geN (tgt := 34) d_N_commonDivisor_11 (by decide) (by with_reducible rfl) (by with_reducible rfl) (by omega) (by omega) (fun c_11 => ?_) (fun c_11 => ?_) | refine A_icmp_ge (tgt := 34) d_N_commonDivisor_11 (by decide) (fun c_11 => ?_) (fun c_11 => ?_)
      · refine A_iconst (v := nI 1) d_N_commonDivisor_34 (by decide) ?_
        refine A_iload_n2 d_N_commonDivisor_35 ?_
        refine A_callSP d_N_commonDivisor_36 (c_JM_max_0 _ _ _) q_791 q_580 mk_JM_max_0 rfl (by decide) rfl (Nat.le_of_ble_eq_true rfl) ⟨Nat.le_of_ble_eq_true rfl, Nat.le_of_ble_eq_true rfl⟩ ⟨rfl, rfl⟩ ?_
        refine A_iret d_N_commonDivisor_39 rfl ⟨Nat.zero_le _, Nat.zero_le _⟩ ?_
        first
          | (exfalso; omega)
          | (have hg := euS_gcd a b i
             rw [c_15, Nat.gcd_zero_right] at hg
             have hgp := Nat.gcd_pos_of_pos_left b ha0
             exact pu ((congrArg Value.int (nI_maxJ (by decide) (by omega))).trans (congrArg (fun z => Value.int (nI z)) (by omega))))
      · refine A_iload_n3 d_N_commonDivisor_14 ?_
        first | refine A_if_leN (tgt := 34) d_N_commonDivisor_15 (by decide) (by with_reducible rfl) (by omega) (fun c_15 => ?_) (fun c_15 => ?_) | refine A_if_le (tgt := 34) d_N_commonDivisor_15 (by decide) (fun c_15 => ?_) (fun c_15 => ?_)
        · refine A_iconst (v := nI 1) d_N_commonDivisor_34 (by decide) ?_
          refine A_iload_n2 d_N_commonDivisor_35 ?_
          refine A_callSP d_N_commonDivisor_36 (c_JM_max_0 _ _ _) q_791 q_580 mk_JM_max_0 rfl (by decide) rfl (Nat.le_of_ble_eq_true rfl) ⟨Nat.le_of_ble_eq_true rfl, Nat.le_of_ble_eq_true rfl⟩ ⟨rfl, rfl⟩ ?_
          refine A_iret d_N_commonDivisor_39 rfl ⟨Nat.zero_le _, Nat.zero_le _⟩ ?_
          first
            | (exfalso; omega)
            | (have hg := euS_gcd a b i
               rw [c_15, Nat.gcd_zero_right] at hg
               have hgp := Nat.gcd_pos_of_pos_left b ha0
               exact pu ((congrArg Value.int (nI_maxJ (by decide) (by omega))).trans (congrArg (fun z => Value.int (nI z)) (by omega))))
        · refine A_iload_n2 d_N_commonDivisor_18 ?_
          refine A_iload_n3 d_N_commonDivisor_19 ?_
          refine A_iremN d_N_commonDivisor_20 (by with_reducible rfl) (by with_reducible rfl) (by omega) ?_
          refine A_istore5 d_N_commonDivisor_21 trivial ?_
          refine A_iload_n3 d_N_commonDivisor_23 ?_
          refine A_istore2 d_N_commonDivisor_24 trivial ?_
          refine A_iload5 d_N_commonDivisor_25 ?_
          refine A_istore3 d_N_commonDivisor_27 trivial ?_
          first | refine A_iinc4 d_N_commonDivisor_28 (nI_1 _) trivial ?_ | refine A_iinc4 d_N_commonDivisor_28 rfl trivial ?_
          refine A_goto (tgt := 7) d_N_commonDivisor_31 (by decide) ?_
          rw [if_pos c_15] at es
          rw [es] at ih
          exact A_drop5 ih
  refine A_iload_n0 d_N_commonDivisor_0 ?_
  refine A_istore2 d_N_commonDivisor_1 trivial ?_
  refine A_iload_n1 d_N_commonDivisor_2 ?_
  refine A_istore3 d_N_commonDivisor_3 trivial ?_
  refine A_iconst (v := nI 0) d_N_commonDivisor_4 (by decide) ?_
  refine A_istore4 d_N_commonDivisor_5 trivial ?_
  exact key 0 (Nat.zero_le _)
set_option maxHeartbeats 4000000 in
set_option maxRecDepth 100000 in
theorem c_N_inBaseEight {G : GE} (h : AH) (z k B : Nat) (hz : z < 2 ^ 31) (hk1 : 1 ≤ k) (hk6 : k ≤ 6) (hB : B ≤ 6) : Ctr G y_N_inBaseEight b_N_inBaseEight 6 (some .int) r_N_inBaseEight [.int (nI z), .int (nI k), .int (nI B)] h (Pu (.int (nI (oct k z B))) h) := by
  refine Ctr.of (by decide +kernel) (by simp) (Nat.le_of_ble_eq_true rfl) (L0 := [some (.int (nI z)), some (.int (nI k)), some (.int (nI B)), none, none, none]) rfl ?_
  have key : ∀ i, i ≤ B → WA G y_N_inBaseEight b_N_inBaseEight 6 (some .int) r_N_inBaseEight 0 0 (Pu (.int (nI (oct k z B))) h) 0 0 8 [some (.int (nI z)), some (.int (nI k)), some (.int (nI B)), some (.int (nI (oct k z i))), some (.int (nI (z / k ^ i))), some (.int (nI i))] [] h := by
    refine down ?_ (fun i hi ih => ?_)
    · refine A_iload5 d_N_inBaseEight_8 ?_
      refine A_iload_n2 d_N_inBaseEight_10 ?_
      first | refine A_icmp_geN (tgt := 54) d_N_inBaseEight_11 (by decide) (by with_reducible rfl) (by with_reducible rfl) (by omega) (by omega) (fun c_11 => ?_) (fun c_11 => ?_) | refine A_icmp_ge (tgt := 54) d_N_inBaseEight_11 (by decide) (fun c_11 => ?_) (fun c_11 => ?_)
      · refine A_iload_n3 d_N_inBaseEight_54 ?_
        refine A_iret d_N_inBaseEight_55 rfl ⟨Nat.zero_le _, Nat.zero_le _⟩ ?_
        exact pu rfl
      · exact absurd c_11 (by omega)
    · have hdv : z / k ^ i ≤ z := Nat.div_le_self _ _
      refine A_iload5 d_N_inBaseEight_8 ?_
      refine A_iload_n2 d_N_inBaseEight_10 ?_
      first | refine A_icmp_geN (tgt := 54) d_N_inBaseEight_11 (by decide) (by with_reducible rfl) (by with_reducible rfl) (by omega) (by omega) (fun c_11 => ?_) (fun c_11 => ?_) | refine A_icmp_ge (tgt := 54) d_N_inBaseEight_11 (by decide) (fun c_11 => ?_) (fun c_11 => ?_)
      · exact absurd c_11 (by omega)
      · refine A_iload_n3 d_N_inBaseEight_14 ?_
        refine A_iload_n1 d_N_inBaseEight_15 ?_
        refine A_if_le (tgt := 26) d_N_inBaseEight_16 (by decide) (fun c => absurd c (nI_nle (by omega) (by omega))) (fun c_16 => ?_)
        refine A_iload4 d_N_inBaseEight_19 ?_
        refine A_iload_n1 d_N_inBaseEight_21 ?_
        refine A_iremN d_N_inBaseEight_22 (by with_reducible rfl) (by with_reducible rfl) (by omega) ?_
        refine A_goto (tgt := 27) d_N_inBaseEight_23 (by decide) ?_
        refine A_iconst (v := nI 3) d_N_inBaseEight_27 (by decide) ?_
        refine A_iload5 d_N_inBaseEight_28 ?_
        first | refine A_imulN d_N_inBaseEight_30 (by with_reducible rfl) (by with_reducible rfl) ?_ | refine A_imul d_N_inBaseEight_30 ?_
        refine A_ishl d_N_inBaseEight_31 ?_
        refine A_ior d_N_inBaseEight_32 ?_
        refine A_topI (oct_s hk1 (by omega) (by omega)) ?_
        refine A_istore3 d_N_inBaseEight_33 trivial ?_
        refine A_iload_n1 d_N_inBaseEight_34 ?_
        refine A_if_le (tgt := 45) d_N_inBaseEight_35 (by decide) (fun c => absurd c (nI_nle (by omega) (by omega))) (fun c_35 => ?_)
        refine A_iload4 d_N_inBaseEight_38 ?_
        refine A_iload_n1 d_N_inBaseEight_40 ?_
        refine A_idivN d_N_inBaseEight_41 (by with_reducible rfl) (by with_reducible rfl) (by omega) ?_
        refine A_goto (tgt := 46) d_N_inBaseEight_42 (by decide) ?_
        refine A_topN (k := z / k ^ (i + 1)) (congrArg nI (by rw [Nat.pow_succ, Nat.div_div_eq_div_mul])) ?_
        refine A_istore4 d_N_inBaseEight_46 trivial ?_
        first | refine A_iinc5 d_N_inBaseEight_48 (nI_1 _) trivial ?_ | refine A_iinc5 d_N_inBaseEight_48 rfl trivial ?_
        refine A_goto (tgt := 8) d_N_inBaseEight_51 (by decide) ?_
        exact ih
  refine A_iconst (v := nI 0) d_N_inBaseEight_0 (by decide) ?_
  refine A_istore3 d_N_inBaseEight_1 trivial ?_
  refine A_iload_n0 d_N_inBaseEight_2 ?_
  refine A_istore4 d_N_inBaseEight_3 trivial ?_
  refine A_iconst (v := nI 0) d_N_inBaseEight_5 (by decide) ?_
  refine A_istore5 d_N_inBaseEight_6 trivial ?_
  have k0 := key 0 (Nat.zero_le _)
  rw [Nat.pow_zero, Nat.div_one] at k0
  exact k0
theorem prodN_sh (f : Nat → Nat) : ∀ n, prodN f (n + 1) = f 0 * prodN (fun i => f (i + 1)) n
  | 0 => by rw [prodN_s]; show 1 * f 0 = f 0 * 1; omega
  | n + 1 => by rw [prodN_s, prodN_sh f n, prodN_s, Nat.mul_assoc]
theorem prodN_rev (f : Nat → Nat) : ∀ n, prodN (fun j => f (n - 1 - j)) n = prodN f n
  | 0 => rfl
  | n + 1 => by
    rw [prodN_s, prodN_sh f n, Nat.add_sub_cancel, Nat.sub_self, Nat.mul_comm]
    congr 1
    refine (prodN_congr n (fun i hi => ?_)).trans (prodN_rev (fun i => f (i + 1)) n)
    show f (n - i) = f (n - 1 - i + 1)
    congr 1
    omega
theorem prodN_10 (tm : Nat → Nat) (t : Nat) : ∀ n, prodN (fun b => if tm b = t then 10 else 1) n = 10 ^ sumN (fun b => if tm b = t then 1 else 0) n
  | 0 => rfl
  | n + 1 => by
    rw [prodN_s, sumN_s, prodN_10 tm t n]
    by_cases z : tm n = t
    · rw [if_pos z, if_pos z, Nat.pow_succ]
    · rw [if_neg z, if_neg z, Nat.mul_one, Nat.add_zero]
/-- what is tired, how many there are, of the last so many bearers, by a parting's number -/
def qTm (V : Nat → Nat) (k z m t : Nat) : Nat := prodN (fun j => if z / k ^ j % k = t then V (30 + 2 * (V 5 - 1 - j) + 1) else 1) m
def wTm (k z m t : Nat) : Nat := prodN (fun j => if z / k ^ j % k = t then 10 else 1) m
theorem dig_j {k B z j : Nat} (hj : j < B) : digN k B z (B - 1 - j) = z / k ^ j % k := by
  unfold digN
  rw [show B - 1 - (B - 1 - j) = j by omega]
theorem qTm_end (V : Nat → Nat) (k z t : Nat) : qTm V k z (V 5) t = tirT V (digN k (V 5) z) t (V 5) := by
  unfold qTm tirT
  rw [← prodN_rev (fun b => if digN k (V 5) z b = t then V (30 + 2 * b + 1) else 1)]
  exact prodN_congr _ (fun j hj => by rw [dig_j hj])
theorem wTm_end (V : Nat → Nat) (k z t : Nat) : wTm k z (V 5) t = 10 ^ cntT (digN k (V 5) z) t (V 5) := by
  unfold wTm cntT
  rw [← prodN_10, ← prodN_rev (fun b => if digN k (V 5) z b = t then 10 else 1)]
  exact prodN_congr _ (fun j hj => by rw [dig_j hj])
def HT2 (h : AH) (n : Nat) (T U : Nat → Int32) : AH := hset (hset h (n + 80) (.inl (0, 6, .inl T))) (n + 81) (.inl (0, 6, .inl U))
theorem hset_swap {h : AH} {p q : Nat} {e e' e2 : va_E} (hpq : p ≠ q) : hset (hset (hset h p e) q e') p e2 = hset (hset h p e2) q e' := funext fun i => by
  by_cases a : i = p
  · subst a
    rw [hset_eq, hset_ne hpq, hset_eq]
  · rw [hset_ne a]
    by_cases b : i = q
    · subst b
      rw [hset_eq, hset_eq]
    · rw [hset_ne b, hset_ne a, hset_ne b, hset_ne a]
theorem HT2.s80 {h : AH} {n : Nat} {T U T' : Nat → Int32} : hset (HT2 h n T U) (n + 80) (.inl (0, 6, .inl T')) = HT2 h n T' U := hset_swap (by omega)
theorem HT2.s81 {h : AH} {n : Nat} {T U U' : Nat → Int32} : hset (HT2 h n T U) (n + 81) (.inl (0, 6, .inl U')) = HT2 h n T U' := hset_hset _ _ _ _
theorem HT2.c80 {h : AH} {n : Nat} {T U : Nat → Int32} : HT2 h n T U (n + 80) = some (.inl (0, 6, .inl T)) := (hset_ne (by omega)).trans (hset_eq _ _ _)
theorem HT2.c81 {h : AH} {n : Nat} {T U : Nat → Int32} : HT2 h n T U (n + 81) = some (.inl (0, 6, .inl U)) := hset_eq _ _ _
theorem HT2.far {h : AH} {n i : Nat} {T U : Nat → Int32} (hi : i < n + 80 ∨ n + 82 ≤ i) : HT2 h n T U i = h i := (hset_ne (by omega)).trans (hset_ne (by omega))
theorem HT2.tw {h : AH} {n : Nat} {T U T' U' : Nat → Int32} : HT2 (HT2 h n T U) n T' U' = HT2 h n T' U' := by
  show hset (hset (HT2 h n T U) _ _) _ _ = _
  rw [HT2.s80, HT2.s81]
theorem HT2.same {h : AH} {n : Nat} {T U : Nat → Int32} (h1 : h (n + 80) = some (.inl (0, 6, .inl T))) (h2 : h (n + 81) = some (.inl (0, 6, .inl U))) : HT2 h n T U = h := by
  unfold HT2
  rw [hset_same h1, hset_same h2]
def TUq (V : Nat → Nat) (k z m : Nat) (T U : Nat → Int32) : Prop := ∀ t, t < 6 → T t = nI (qTm V k z m t) ∧ U t = nI (wTm k z m t)
theorem TUq.step {V : Nat → Nat} {k z m : Nat} {T U : Nat → Int32} (q : TUq V k z m T U) : TUq V k z (m + 1) (fup T (z / k ^ m % k) (nI (qTm V k z m (z / k ^ m % k) * V (30 + 2 * (V 5 - 1 - m) + 1)))) (fup U (z / k ^ m % k) (nI (wTm k z m (z / k ^ m % k) * 10))) := fun t ht => by
  unfold qTm wTm
  rw [prodN_s, prodN_s]
  by_cases e : z / k ^ m % k = t
  · rw [if_pos e, if_pos e, e]
    exact ⟨fup_eq _ _ _, fup_eq _ _ _⟩
  · rw [if_neg e, if_neg e, Nat.mul_one, Nat.mul_one, fup_ne _ _ (fun y => e y.symm), fup_ne _ _ (fun y => e y.symm)]
    exact q t ht
theorem hI_s (m : Nat) : hI (m + 1) = nI m := if_neg (Nat.succ_ne_zero m)
theorem hI_0 : hI 0 = -1 := if_pos rfl
set_option maxHeartbeats 4000000 in
set_option maxRecDepth 100000 in
theorem c_N_chanceOf {G : GE} {h : AH} {n a : Nat} (hO : h n = some (.inr (7, nfs n))) (hn : 1000 ≤ n) {D : LD} (hA : LAt h a D) {V : Nat → Nat} (hV : LVr D V) (ha : a + 9 ≤ n + 78) {T0 U0 : Nat → Int32} (hT0 : h (n + 80) = some (.inl (0, 6, .inl T0))) (hU0 : h (n + 81) = some (.inl (0, 6, .inl U0))) (k z : Nat) (hk1 : 1 ≤ k) (hk5 : k ≤ V 5) (hz : z < 2 ^ 31)  : Ctr G y_N_chanceOf b_N_chanceOf 7 (some .int) r_N_chanceOf [.ref n, .ref a, .int (nI k), .int (nI z)] h (fun v h1 => v = some (.int (encN (chT V (digN k (V 5) z) k))) ∧ ∃ T U, h1 = HT2 h n T U) := by
  refine Ctr.of (by decide +kernel) (by simp) (Nat.le_of_ble_eq_true rfl) (L0 := [some (.ref n), some (.ref a), some (.int (nI k)), some (.int (nI z)), none, none, none]) rfl ?_
  have hV0 := hV
  obtain ⟨ok, ⟨f0, f1, f2, f3, f4, f9⟩, hP, hBe, hTo⟩ := hV
  have hH := ok.1
  have h5 := ok.2.2.2.2.2.1
  have key2 : ∀ T U, TUq V k z (V 5) T U → ∀ t, t ≤ k → ∀ c0, chT V (digN k (V 5) z) t = some c0 → WA G y_N_chanceOf b_N_chanceOf 7 (some .int) r_N_chanceOf 0 0 (fun v h1 => v = some (.int (encN (chT V (digN k (V 5) z) k))) ∧ ∃ T U, h1 = HT2 h n T U) 0 0 101 [some (.ref n), some (.ref a), some (.int (nI k)), some (.int (nI z)), none, some (.int (nI c0)), some (.int (nI t))] [] (HT2 h n T U) := by
    intro T U hTU
    refine down ?_ (fun t ht ih => ?_)
    · intro c0 hc0
      refine A_iload6 d_N_chanceOf_101 ?_
      refine A_iload_n2 d_N_chanceOf_103 ?_
      first | refine A_icmp_geN (tgt := 146) d_N_chanceOf_104 (by decide) (by with_reducible rfl) (by with_reducible rfl) (by omega) (by omega) (fun c_104 => ?_) (fun c_104 => ?_) | refine A_icmp_ge (tgt := 146) d_N_chanceOf_104 (by decide) (fun c_104 => ?_) (fun c_104 => ?_)
      · refine A_iload5 d_N_chanceOf_146 ?_
        refine A_iret d_N_chanceOf_148 rfl ⟨Nat.zero_le _, Nat.zero_le _⟩ ?_
        exact ⟨by rw [hc0]; rfl, T, U, rfl⟩
      · exact absurd c_104 (by omega)
    · intro c0 hc0
      have hq := (hTU t (by omega)).1
      have hu := (hTU t (by omega)).2
      rw [qTm_end] at hq
      rw [wTm_end] at hu
      have htl := tirT_le ok (digN k (V 5) z) t (V 5) h5
      have hcl : cntT (digN k (V 5) z) t (V 5) ≤ V 5 := by
        have := sumN_le (f := fun b => if digN k (V 5) z b = t then 1 else 0) (c := 1) (V 5) (fun i _ => by split <;> omega)
        unfold cntT
        omega
      have hpl : 10 ^ cntT (digN k (V 5) z) t (V 5) ≤ 10 ^ 6 := Nat.pow_le_pow_right (by decide) (by omega)
      have es : chT V (digN k (V 5) z) (t + 1) = if cntT (digN k (V 5) z) t (V 5) = 0 then none else some (c0 * (10 ^ cntT (digN k (V 5) z) t (V 5) - tirT V (digN k (V 5) z) t (V 5))) := by rw [chT_s, hc0]
      refine A_iload6 d_N_chanceOf_101 ?_
      refine A_iload_n2 d_N_chanceOf_103 ?_
      first | refine A_icmp_geN (tgt := 146) d_N_chanceOf_104 (by decide) (by with_reducible rfl) (by with_reducible rfl) (by omega) (by omega) (fun c_104 => ?_) (fun c_104 => ?_) | refine A_icmp_ge (tgt := 146) d_N_chanceOf_104 (by decide) (fun c_104 => ?_) (fun c_104 => ?_)
      · exact absurd c_104 (by omega)
      · refine A_aload_n0 d_N_chanceOf_107 ?_
        refine A_getf (kf := 7) d_N_chanceOf_108 ((HT2.far (by omega)).trans hO) ok_7 (by decide) q_375 rfl ?_
        refine A_iload6 d_N_chanceOf_111 ?_
        refine A_ialdN d_N_chanceOf_113 HT2.c81 ⟨by omega, by decide⟩ ?_
        refine A_topI hu ?_
        refine A_iconst (v := nI 1) d_N_chanceOf_114 (by decide) ?_
        first | refine A_icmp_neN (tgt := 120) d_N_chanceOf_115 (by decide) (by with_reducible rfl) (by with_reducible rfl) (by omega) (by omega) (fun c_115 => ?_) (fun c_115 => ?_) | refine A_icmp_ne (tgt := 120) d_N_chanceOf_115 (by decide) (fun c_115 => ?_) (fun c_115 => ?_)
        · refine A_iload5 d_N_chanceOf_120 ?_
          refine A_aload_n0 d_N_chanceOf_122 ?_
          refine A_getf (kf := 7) d_N_chanceOf_123 ((HT2.far (by omega)).trans hO) ok_7 (by decide) q_375 rfl ?_
          refine A_iload6 d_N_chanceOf_126 ?_
          refine A_ialdN d_N_chanceOf_128 HT2.c81 ⟨by omega, by decide⟩ ?_
          refine A_topI hu ?_
          refine A_aload_n0 d_N_chanceOf_129 ?_
          refine A_getf (kf := 6) d_N_chanceOf_130 ((HT2.far (by omega)).trans hO) ok_7 (by decide) q_374 rfl ?_
          refine A_iload6 d_N_chanceOf_133 ?_
          refine A_ialdN d_N_chanceOf_135 HT2.c80 ⟨by omega, by decide⟩ ?_
          refine A_topI hq ?_
          first | refine A_isubN d_N_chanceOf_136 (by with_reducible rfl) (by with_reducible rfl) (by omega) ?_ | refine A_isub d_N_chanceOf_136 ?_
          first | refine A_imulN d_N_chanceOf_137 (by with_reducible rfl) (by with_reducible rfl) ?_ | refine A_imul d_N_chanceOf_137 ?_
          refine A_istore5 d_N_chanceOf_138 trivial ?_
          first | refine A_iinc6 d_N_chanceOf_140 (nI_1 _) trivial ?_ | refine A_iinc6 d_N_chanceOf_140 rfl trivial ?_
          refine A_goto (tgt := 101) d_N_chanceOf_143 (by decide) ?_
          have hz : cntT (digN k (V 5) z) t (V 5) ≠ 0 := fun y => by
            rw [y] at c_115
            exact c_115 rfl
          rw [if_neg hz] at es
          exact ih _ es
        · refine A_iconst (v := (-1)) d_N_chanceOf_118 (by decide) ?_
          refine A_iret d_N_chanceOf_119 rfl ⟨Nat.zero_le _, Nat.zero_le _⟩ ?_
          have hz : cntT (digN k (V 5) z) t (V 5) = 0 := by
            rcases Nat.eq_zero_or_pos (cntT (digN k (V 5) z) t (V 5)) with y | y
            · exact y
            · have : 10 ^ 1 ≤ 10 ^ cntT (digN k (V 5) z) t (V 5) := Nat.pow_le_pow_right (by decide) y
              omega
          rw [if_pos hz] at es
          have en := chT_none es (k - (t + 1))
          rw [show t + 1 + (k - (t + 1)) = k by omega] at en
          exact ⟨by rw [en]; rfl, T, U, rfl⟩
  have key : ∀ m, m ≤ V 5 → ∀ T U, TUq V k z m T U → WA G y_N_chanceOf b_N_chanceOf 7 (some .int) r_N_chanceOf 0 0 (fun v h1 => v = some (.int (encN (chT V (digN k (V 5) z) k))) ∧ ∃ T U, h1 = HT2 h n T U) 0 0 27 [some (.ref n), some (.ref a), some (.int (nI k)), some (.int (nI z)), some (.int (nI (z / k ^ m))), some (.int (hI (V 5 - m))), none] [] (HT2 h n T U) := by
    refine down ?_ (fun m hm ih => ?_)
    · intro T U hTU
      rw [Nat.sub_self, hI_0]
      refine A_iload5 d_N_chanceOf_27 ?_
      refine A_if_lt (tgt := 95) d_N_chanceOf_29 (by decide) (fun c_29 => ?_) (fun c => absurd (by decide) c)
      refine A_iconst (v := nI 1) d_N_chanceOf_95 (by decide) ?_
      refine A_istore5 d_N_chanceOf_96 trivial ?_
      refine A_iconst (v := nI 0) d_N_chanceOf_98 (by decide) ?_
      refine A_istore6 d_N_chanceOf_99 trivial ?_
      exact A_drop4 (key2 T U hTU 0 (Nat.zero_le _) 1 rfl)
    · intro T U hTU
      rw [show V 5 - m = V 5 - 1 - m + 1 by omega, hI_s]
      have hml := Nat.mod_lt (z / k ^ m) (show 0 < k by omega)
      have hdv : z / k ^ m ≤ z := Nat.div_le_self _ _
      refine A_iload5 d_N_chanceOf_27 ?_
      refine A_if_lt (tgt := 95) d_N_chanceOf_29 (by decide) (fun c => absurd c (nI_pos (by omega))) (fun c_29 => ?_)
      refine A_iload_n2 d_N_chanceOf_32 ?_
      refine A_if_le (tgt := 43) d_N_chanceOf_33 (by decide) (fun c => absurd c (nI_nle (by omega) (by omega))) (fun c_33 => ?_)
      refine A_iload4 d_N_chanceOf_36 ?_
      refine A_iload_n2 d_N_chanceOf_38 ?_
      refine A_iremN d_N_chanceOf_39 (by with_reducible rfl) (by with_reducible rfl) (by omega) ?_
      refine A_goto (tgt := 44) d_N_chanceOf_40 (by decide) ?_
      refine A_istore6 d_N_chanceOf_44 trivial ?_
      refine A_iload_n2 d_N_chanceOf_46 ?_
      refine A_if_le (tgt := 57) d_N_chanceOf_47 (by decide) (fun c => absurd c (nI_nle (by omega) (by omega))) (fun c_47 => ?_)
      refine A_iload4 d_N_chanceOf_50 ?_
      refine A_iload_n2 d_N_chanceOf_52 ?_
      refine A_idivN d_N_chanceOf_53 (by with_reducible rfl) (by with_reducible rfl) (by omega) ?_
      refine A_goto (tgt := 58) d_N_chanceOf_54 (by decide) ?_
      refine A_topN (k := z / k ^ (m + 1)) (congrArg nI (by rw [Nat.pow_succ, Nat.div_div_eq_div_mul])) ?_
      refine A_istore4 d_N_chanceOf_58 trivial ?_
      refine A_aload_n0 d_N_chanceOf_60 ?_
      refine A_getf (kf := 6) d_N_chanceOf_61 ((HT2.far (by omega)).trans hO) ok_7 (by decide) q_374 rfl ?_
      refine A_iload6 d_N_chanceOf_64 ?_
      refine A_dup2IR d_N_chanceOf_66 ?_
      refine A_ialdN d_N_chanceOf_67 HT2.c80 ⟨by omega, by decide⟩ ?_
      refine A_topI (hTU _ (by omega)).1 ?_
      refine A_aload_n1 d_N_chanceOf_68 ?_
      refine A_getf (kf := 11) d_N_chanceOf_69 (hA.kept (fun i _ _ => HT2.far (h := h) (n := n) (T := T) (U := U) (by omega))).o ok_1 (by decide) q_84 rfl ?_
      refine A_iload5 d_N_chanceOf_72 ?_
      refine A_ialdN d_N_chanceOf_74 (hA.kept (fun i _ _ => HT2.far (h := h) (n := n) (T := T) (U := U) (by omega))).a11 ⟨by omega, by decide⟩ ?_
      refine A_topI (hBe (V 5 - 1 - m) (by omega)).2 ?_
      first | refine A_imulN d_N_chanceOf_75 (by with_reducible rfl) (by with_reducible rfl) ?_ | refine A_imul d_N_chanceOf_75 ?_
      refine A_iastN d_N_chanceOf_76 HT2.c80 ⟨by omega, by decide⟩ (by omega) ?_
      rw [HT2.s80]
      refine A_aload_n0 d_N_chanceOf_77 ?_
      refine A_getf (kf := 7) d_N_chanceOf_78 ((HT2.far (by omega)).trans hO) ok_7 (by decide) q_375 rfl ?_
      refine A_iload6 d_N_chanceOf_81 ?_
      refine A_dup2IR d_N_chanceOf_83 ?_
      refine A_ialdN d_N_chanceOf_84 HT2.c81 ⟨by omega, by decide⟩ ?_
      refine A_topI (hTU _ (by omega)).2 ?_
      refine A_bipush (v := nI 10) d_N_chanceOf_85 (by decide) ?_
      first | refine A_imulN d_N_chanceOf_87 (by with_reducible rfl) (by with_reducible rfl) ?_ | refine A_imul d_N_chanceOf_87 ?_
      refine A_iastN d_N_chanceOf_88 HT2.c81 ⟨by omega, by decide⟩ (by omega) ?_
      rw [HT2.s81]
      refine A_iinc5 d_N_chanceOf_89 rfl trivial ?_
      refine A_goto (tgt := 27) d_N_chanceOf_92 (by decide) ?_
      have k1 := ih _ _ hTU.step
      rw [show V 5 - (m + 1) = V 5 - 1 - m by omega] at k1
      refine A_drop6 (A_loc ?_ k1)
      rw [hI_dec]
  have hO2 := hO
  have hA2 := hA
  refine A_aload_n0 d_N_chanceOf_0 ?_
  refine A_getf (kf := 6) d_N_chanceOf_1 hO2 ok_7 (by decide) q_374 rfl ?_
  refine A_iconst (v := nI 1) d_N_chanceOf_4 (by decide) ?_
  refine A_callS d_N_chanceOf_5 (c_JA_fill_0 hT0 (by omega) (by decide) (nI 1)) q_964 q_426 mk_JA_fill_0 rfl (by decide) rfl (Nat.le_of_ble_eq_true rfl) ⟨Nat.le_of_ble_eq_true rfl, Nat.le_of_ble_eq_true rfl⟩ ?_
  rintro _ h1 ⟨rfl, rfl⟩
  replace hO2 := (hset_ne (h := h) (q := n + 80) (e := .inl (0, 6, .inl (filF T0 (nI 1) 0 6))) (by omega : n ≠ n + 80)).trans hO
  refine A_aload_n0 d_N_chanceOf_8 ?_
  refine A_getf (kf := 7) d_N_chanceOf_9 hO2 ok_7 (by decide) q_375 rfl ?_
  refine A_iconst (v := nI 1) d_N_chanceOf_12 (by decide) ?_
  refine A_callS d_N_chanceOf_13 (c_JA_fill_0 ((hset_ne (by omega)).trans hU0) (by omega) (by decide) (nI 1)) q_964 q_426 mk_JA_fill_0 rfl (by decide) rfl (Nat.le_of_ble_eq_true rfl) ⟨Nat.le_of_ble_eq_true rfl, Nat.le_of_ble_eq_true rfl⟩ ?_
  rintro _ h1 ⟨rfl, rfl⟩
  replace hA2 := (hA.hs (q := n + 80) (e := .inl (0, 6, .inl (filF T0 (nI 1) 0 6))) (by omega)).hs (q := n + 81) (e := .inl (0, 6, .inl (filF U0 (nI 1) 0 6))) (by omega)
  refine A_iload_n3 d_N_chanceOf_16 ?_
  refine A_istore4 d_N_chanceOf_17 trivial ?_
  refine A_aload_n1 d_N_chanceOf_19 ?_
  refine A_getf (kf := 9) d_N_chanceOf_20 hA2.o ok_1 (by decide) q_78 rfl ?_
  refine A_topI f9 ?_
  refine A_iconst (v := nI 1) d_N_chanceOf_23 (by decide) ?_
  first | refine A_isubN d_N_chanceOf_24 (by with_reducible rfl) (by with_reducible rfl) (by omega) ?_ | refine A_isub d_N_chanceOf_24 ?_
  refine A_istore5 d_N_chanceOf_25 trivial ?_
  have k0 := key 0 (Nat.zero_le _) (filF T0 (nI 1) 0 6) (filF U0 (nI 1) 0 6) (fun t ht => ⟨if_pos ⟨Nat.zero_le _, ht⟩, if_pos ⟨Nat.zero_le _, ht⟩⟩)
  rw [Nat.pow_zero, Nat.div_one, Nat.sub_zero, show V 5 = V 5 - 1 + 1 by omega, hI_s] at k0
  exact k0
