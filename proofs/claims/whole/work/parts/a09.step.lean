theorem rn_in {lo hi : Nat} {B : Nat → Nat} {n : Nat} : ∀ d p, p + d = n → ∀ k, p ≤ k → k < rnN lo hi B n p → inN lo hi (B k) = true
  | 0, p, e, k, h1, h2 => by
    obtain rfl : p = n := by omega
    rw [rn_e] at h2
    omega
  | d + 1, p, e, k, h1, h2 => by
    rw [rn_s (by omega)] at h2
    split at h2
    · rename_i c
      rcases Nat.lt_or_ge p k with q | q
      · exact rn_in d (p + 1) (by omega) k (by omega) h2
      · obtain rfl : k = p := by omega
        exact c
    · omega
theorem rn_bd {lo hi : Nat} {B : Nat → Nat} {n : Nat} : ∀ d p, p + d = n → p ≤ rnN lo hi B n p ∧ rnN lo hi B n p ≤ n
  | 0, p, e => by
    obtain rfl : p = n := by omega
    rw [rn_e]
    omega
  | d + 1, p, e => by
    rw [rn_s (by omega)]
    split
    · have := rn_bd (lo := lo) (hi := hi) (B := B) (n := n) d (p + 1) (by omega)
      omega
    · omega
theorem sk_bd {B : Nat → Nat} {n : Nat} : ∀ d p, p + d = n → p ≤ skN B n p ∧ skN B n p ≤ n
  | 0, p, e => by
    obtain rfl : p = n := by omega
    rw [sk_e]
    omega
  | d + 1, p, e => by
    rw [sk_s (by omega)]
    split
    · have := sk_bd (B := B) (n := n) d (p + 1) (by omega)
      omega
    · omega
set_option maxHeartbeats 4000000 in
set_option maxRecDepth 100000 in
theorem c_To_takeNumber {G : GE} {h : AH} {z tp : Nat} {E : Nat → Int32} (hz : 1000 ≤ z) (hoz : h z = some (.inr (5, tkfs tp E))) {B : Nat → Nat} (hB : TPB h tp B) (hzt : tp ≠ z) {n : Nat} (hn : n ≤ 600) (hE1 : E 1 = nI n) {q e : Nat} (hqe : q ≤ e) (hen : e ≤ n) (hE2 : E 2 = nI q) (hE3 : E 3 = nI e) (hD : ∀ k, q ≤ k → k < e → inN 48 57 (B k) = true)  : Ctr G y_To_takeNumber b_To_takeNumber 2 none r_To_takeNumber [.ref z] h (fun v h1 => v = none ∧ ∃ E1, TKW h h1 z tp E1 ∧ (∀ j, j ≠ 4 → j ≠ 5 → E1 j = E j) ∧ E1 4 = nI (if e - q ≤ 2 then 2 else 4) ∧ (e - q ≤ 2 → E1 5 = nI (tkV B q (e - q)))) := by
  refine Ctr.of (by decide +kernel) (by simp) (Nat.le_of_ble_eq_true rfl) (L0 := [some (.ref z), none]) rfl ?_
  obtain ⟨⟨f, hf, hfB⟩, hB2⟩ := hB
  have M := TKW.start hz hoz
  by_cases hle : e - q ≤ 2
  · have key : ∀ i, i ≤ e - q → ∀ h' E1, TKW h h' z tp E1 → (∀ j, j ≠ 4 → j ≠ 5 → E1 j = E j) → E1 4 = nI 2 → E1 5 = nI (tkV B q i) → E1 3 = nI e → WA G y_To_takeNumber b_To_takeNumber 2 none r_To_takeNumber 0 0 (fun v h1 => v = none ∧ ∃ E1, TKW h h1 z tp E1 ∧ (∀ j, j ≠ 4 → j ≠ 5 → E1 j = E j) ∧ E1 4 = nI (if e - q ≤ 2 then 2 else 4) ∧ (e - q ≤ 2 → E1 5 = nI (tkV B q (e - q)))) 0 0 32 [some (.ref z), some (.int (nI (q + i)))] [] h' := by
      refine down ?_ (fun i hi ih => ?_)
      · intro h' E1 M hEj hE4 hE5 hE3
        rw [show q + (e - q) = e by omega]
        refine A_iload_n1 d_To_takeNumber_32 ?_
        refine A_aload_n0 d_To_takeNumber_33 ?_
        refine A_getf (kf := 3) d_To_takeNumber_34 M.o ok_5 (by decide) q_250 rfl ?_
        refine A_topI hE3 ?_
        first | refine A_icmp_geN (tgt := 75) d_To_takeNumber_37 (by decide) (by with_reducible rfl) (by with_reducible rfl) (by omega) (by omega) (fun c_37 => ?_) (fun c_37 => ?_) | refine A_icmp_ge (tgt := 75) d_To_takeNumber_37 (by decide) (fun c_37 => ?_) (fun c_37 => ?_)
        · refine A_vret d_To_takeNumber_75 rfl ⟨Nat.zero_le _, Nat.zero_le _⟩ ?_
          refine ⟨rfl, E1, M, hEj, by rw [hE4, if_pos hle], fun _ => ?_⟩
          rw [hE5]
          first | done | (congr 2; omega)
        · exact absurd c_37 (by omega)
      · intro h' E1 M hEj hE4 hE5 hE3
        refine A_iload_n1 d_To_takeNumber_32 ?_
        refine A_aload_n0 d_To_takeNumber_33 ?_
        refine A_getf (kf := 3) d_To_takeNumber_34 M.o ok_5 (by decide) q_250 rfl ?_
        refine A_topI hE3 ?_
        first | refine A_icmp_geN (tgt := 75) d_To_takeNumber_37 (by decide) (by with_reducible rfl) (by with_reducible rfl) (by omega) (by omega) (fun c_37 => ?_) (fun c_37 => ?_) | refine A_icmp_ge (tgt := 75) d_To_takeNumber_37 (by decide) (fun c_37 => ?_) (fun c_37 => ?_)
        · exact absurd c_37 (by omega)
        · refine A_aload_n0 d_To_takeNumber_40 ?_
          refine A_getf (kf := 4) d_To_takeNumber_41 M.o ok_5 (by decide) q_252 rfl ?_
          refine A_topI hE4 ?_
          refine A_iconst (v := nI 2) d_To_takeNumber_44 (by decide) ?_
          refine A_icmp_ne (tgt := 75) d_To_takeNumber_45 (by decide) (fun c => absurd rfl c) (fun c_45 => ?_)
          refine A_aload_n0 d_To_takeNumber_48 ?_
          refine A_aload_n0 d_To_takeNumber_49 ?_
          refine A_getf (kf := 5) d_To_takeNumber_50 M.o ok_5 (by decide) q_254 rfl ?_
          refine A_topI hE5 ?_
          refine A_bipush (v := nI 10) d_To_takeNumber_53 (by decide) ?_
          first | refine A_imulN d_To_takeNumber_55 (by with_reducible rfl) (by with_reducible rfl) ?_ | refine A_imul d_To_takeNumber_55 ?_
          refine A_aload_n0 d_To_takeNumber_56 ?_
          refine A_getf (kf := 0) d_To_takeNumber_57 M.o ok_5 (by decide) q_246 rfl ?_
          refine A_iload_n1 d_To_takeNumber_60 ?_
          refine A_ialdN d_To_takeNumber_61 ((M.2.2 _ hzt).trans hf) ⟨by omega, by decide⟩ ?_
          refine A_topI (hfB (q + i) (by omega)) ?_
          have hb := hB2 (q + i)
          have hdg := hD (q + i) (by omega) (by omega)
          unfold inN at hdg
          have hdg1 : 48 ≤ B (q + i) := by
            rw [Bool.and_eq_true] at hdg
            exact of_decide_eq_true hdg.1
          first | refine A_iaddN d_To_takeNumber_62 (by with_reducible rfl) (by with_reducible rfl) ?_ | refine A_iadd d_To_takeNumber_62 ?_
          refine A_bipush (v := nI 48) d_To_takeNumber_63 (by decide) ?_
          first | refine A_isubN d_To_takeNumber_65 (by with_reducible rfl) (by with_reducible rfl) (by omega) ?_ | refine A_isub d_To_takeNumber_65 ?_
          refine A_topN (k := tkV B q (i + 1)) (congrArg nI (show tkV B q i * 10 + B (q + i) - 48 = if i < 2 then 10 * tkV B q i + (B (q + i) - 48) else tkV B q i by rw [if_pos (by omega)]; omega)) ?_
          refine A_tkInt (kf := 5) d_To_takeNumber_66 (by decide) q_254 (Or.inl rfl) (by decide +kernel) M rfl (fun h' M' => ?_)
          replace M := M'
          clear M'
          first | refine A_iinc1 d_To_takeNumber_69 (nI_1 _) trivial ?_ | refine A_iinc1 d_To_takeNumber_69 rfl trivial ?_
          refine A_goto (tgt := 32) d_To_takeNumber_72 (by decide) ?_
          exact ih _ _ M (fun j h1 h2 => (fup_get h2).trans (hEj j h1 h2)) ((fup_get (by decide)).trans hE4) (fup_eq _ _ _) ((fup_get (by decide)).trans hE3)
    refine A_aload_n0 d_To_takeNumber_0 ?_
    refine A_aload_n0 d_To_takeNumber_1 ?_
    refine A_getf (kf := 3) d_To_takeNumber_2 M.o ok_5 (by decide) q_250 rfl ?_
    refine A_topI hE3 ?_
    refine A_aload_n0 d_To_takeNumber_5 ?_
    refine A_getf (kf := 2) d_To_takeNumber_6 M.o ok_5 (by decide) q_249 rfl ?_
    refine A_topI hE2 ?_
    first | refine A_isubN d_To_takeNumber_9 (by with_reducible rfl) (by with_reducible rfl) (by omega) ?_ | refine A_isub d_To_takeNumber_9 ?_
    refine A_iconst (v := nI 2) d_To_takeNumber_10 (by decide) ?_
    first | refine A_icmp_gtN (tgt := 18) d_To_takeNumber_11 (by decide) (by with_reducible rfl) (by with_reducible rfl) (by omega) (by omega) (fun c_11 => ?_) (fun c_11 => ?_) | refine A_icmp_gt (tgt := 18) d_To_takeNumber_11 (by decide) (fun c_11 => ?_) (fun c_11 => ?_)
    · exact absurd c_11 (by omega)
    · refine A_iconst (v := nI 2) d_To_takeNumber_14 (by decide) ?_
      refine A_goto (tgt := 19) d_To_takeNumber_15 (by decide) ?_
      refine A_tkInt (kf := 4) d_To_takeNumber_19 (by decide) q_252 (Or.inl rfl) (by decide +kernel) M rfl (fun h' M' => ?_)
      replace M := M'
      clear M'
      refine A_aload_n0 d_To_takeNumber_22 ?_
      refine A_iconst (v := nI 0) d_To_takeNumber_23 (by decide) ?_
      refine A_tkInt (kf := 5) d_To_takeNumber_24 (by decide) q_254 (Or.inl rfl) (by decide +kernel) M rfl (fun h' M' => ?_)
      replace M := M'
      clear M'
      refine A_aload_n0 d_To_takeNumber_27 ?_
      refine A_getf (kf := 2) d_To_takeNumber_28 M.o ok_5 (by decide) q_249 rfl ?_
      refine A_topI ((fup_get (by decide)).trans ((fup_get (by decide)).trans hE2)) ?_
      refine A_istore1 d_To_takeNumber_31 trivial ?_
      exact key 0 (Nat.zero_le _) _ _ M (fun j h1 h2 => (fup_get h2).trans (fup_get h1)) ((fup_get (by decide)).trans (fup_eq _ _ _)) (fup_eq _ _ _) ((fup_get (by decide)).trans ((fup_get (by decide)).trans hE3))
  · refine A_aload_n0 d_To_takeNumber_0 ?_
    refine A_aload_n0 d_To_takeNumber_1 ?_
    refine A_getf (kf := 3) d_To_takeNumber_2 M.o ok_5 (by decide) q_250 rfl ?_
    refine A_topI hE3 ?_
    refine A_aload_n0 d_To_takeNumber_5 ?_
    refine A_getf (kf := 2) d_To_takeNumber_6 M.o ok_5 (by decide) q_249 rfl ?_
    refine A_topI hE2 ?_
    first | refine A_isubN d_To_takeNumber_9 (by with_reducible rfl) (by with_reducible rfl) (by omega) ?_ | refine A_isub d_To_takeNumber_9 ?_
    refine A_iconst (v := nI 2) d_To_takeNumber_10 (by decide) ?_
    first | refine A_icmp_gtN (tgt := 18) d_To_takeNumber_11 (by decide) (by with_reducible rfl) (by with_reducible rfl) (by omega) (by omega) (fun c_11 => ?_) (fun c_11 => ?_) | refine A_icmp_gt (tgt := 18) d_To_takeNumber_11 (by decide) (fun c_11 => ?_) (fun c_11 => ?_)
    · refine A_iconst (v := nI 4) d_To_takeNumber_18 (by decide) ?_
      refine A_tkInt (kf := 4) d_To_takeNumber_19 (by decide) q_252 (Or.inl rfl) (by decide +kernel) M rfl (fun h' M' => ?_)
      replace M := M'
      clear M'
      refine A_aload_n0 d_To_takeNumber_22 ?_
      refine A_iconst (v := nI 0) d_To_takeNumber_23 (by decide) ?_
      refine A_tkInt (kf := 5) d_To_takeNumber_24 (by decide) q_254 (Or.inl rfl) (by decide +kernel) M rfl (fun h' M' => ?_)
      replace M := M'
      clear M'
      refine A_aload_n0 d_To_takeNumber_27 ?_
      refine A_getf (kf := 2) d_To_takeNumber_28 M.o ok_5 (by decide) q_249 rfl ?_
      refine A_topI ((fup_get (by decide)).trans ((fup_get (by decide)).trans hE2)) ?_
      refine A_istore1 d_To_takeNumber_31 trivial ?_
      refine A_iload_n1 d_To_takeNumber_32 ?_
      refine A_aload_n0 d_To_takeNumber_33 ?_
      refine A_getf (kf := 3) d_To_takeNumber_34 M.o ok_5 (by decide) q_250 rfl ?_
      refine A_topI ((fup_get (by decide)).trans ((fup_get (by decide)).trans hE3)) ?_
      first | refine A_icmp_geN (tgt := 75) d_To_takeNumber_37 (by decide) (by with_reducible rfl) (by with_reducible rfl) (by omega) (by omega) (fun c_37 => ?_) (fun c_37 => ?_) | refine A_icmp_ge (tgt := 75) d_To_takeNumber_37 (by decide) (fun c_37 => ?_) (fun c_37 => ?_)
      · refine A_vret d_To_takeNumber_75 rfl ⟨Nat.zero_le _, Nat.zero_le _⟩ ?_
        exact ⟨rfl, _, M, fun j h1 h2 => (fup_get h2).trans (fup_get h1), by rw [if_neg hle]; exact (fup_get (by decide)).trans (fup_eq _ _ _), fun y => absurd y hle⟩
      · refine A_aload_n0 d_To_takeNumber_40 ?_
        refine A_getf (kf := 4) d_To_takeNumber_41 M.o ok_5 (by decide) q_252 rfl ?_
        refine A_topI ((fup_get (by decide)).trans (fup_eq _ _ _)) ?_
        refine A_iconst (v := nI 2) d_To_takeNumber_44 (by decide) ?_
        refine A_icmp_ne (tgt := 75) d_To_takeNumber_45 (by decide) (fun c_45 => ?_) (fun c => absurd c (by decide))
        refine A_vret d_To_takeNumber_75 rfl ⟨Nat.zero_le _, Nat.zero_le _⟩ ?_
        exact ⟨rfl, _, M, fun j h1 h2 => (fup_get h2).trans (fup_get h1), by rw [if_neg hle]; exact (fup_get (by decide)).trans (fup_eq _ _ _), fun y => absurd y hle⟩
    · exact absurd c_11 (by omega)
set_option maxHeartbeats 4000000 in
set_option maxRecDepth 100000 in
theorem w_To_step {G : GE} {h h' : AH} {z tp : Nat} {E : Nat → Int32} (M : TKW h h' z tp E) {B : Nat → Nat} (hB : TPB h tp B) (hzt : tp ≠ z) {n q : Nat} (hn : n ≤ 600) (hE1 : E 1 = nI n) (hE3 : E 3 = nI q) (hq : q ≤ n) : WA G y_To_step b_To_step 1 none r_To_step 0 0 (fun v h1 => v = none ∧ ∃ E1, TKW h h1 z tp E1 ∧ TKn B n q E1) 0 0 52 [some (.ref z)] [] h' := by
  obtain ⟨⟨f, hf, hfB⟩, hB2⟩ := hB
  rcases Nat.lt_or_ge q n with hnq | hnq
  · cases hw : inN 97 122 (B q)
    · cases hd : inN 48 57 (B q)
      · have hkN : kN B n q = if B q = 59 then 4 else 1 := by unfold kN; rw [if_neg (by omega), if_neg (by rw [hw]; decide), if_neg (by rw [hd]; decide)]
        have heN : eN B n q = q + 1 := by unfold eN; rw [if_neg (by omega), if_neg (by rw [hw]; decide), if_neg (by rw [hd]; decide)]
        refine A_aload_n0 d_To_step_52 ?_
        refine A_aload_n0 d_To_step_53 ?_
        refine A_getf (kf := 3) d_To_step_54 M.o ok_5 (by decide) q_250 rfl ?_
        refine A_topI hE3 ?_
        refine A_tkInt (kf := 2) d_To_step_57 (by decide) q_249 (Or.inl rfl) (by decide +kernel) M rfl (fun h' M' => ?_)
        replace M := M'
        clear M'
        refine A_aload_n0 d_To_step_60 ?_
        refine A_getf (kf := 3) d_To_step_61 M.o ok_5 (by decide) q_250 rfl ?_
        refine A_topI ((fup_get (by decide)).trans hE3) ?_
        refine A_aload_n0 d_To_step_64 ?_
        refine A_getf (kf := 1) d_To_step_65 M.o ok_5 (by decide) q_247 rfl ?_
        refine A_topI ((fup_get (by decide)).trans hE1) ?_
        first | refine A_icmp_ltN (tgt := 79) d_To_step_68 (by decide) (by with_reducible rfl) (by with_reducible rfl) (by omega) (by omega) (fun c_68 => ?_) (fun c_68 => ?_) | refine A_icmp_lt (tgt := 79) d_To_step_68 (by decide) (fun c_68 => ?_) (fun c_68 => ?_)
        · refine A_aload_n0 d_To_step_79 ?_
          refine A_aload_n0 d_To_step_80 ?_
          refine A_getf (kf := 3) d_To_step_81 M.o ok_5 (by decide) q_250 rfl ?_
          refine A_topI ((fup_get (by decide)).trans hE3) ?_
          refine A_bipush (v := nI 97) d_To_step_84 (by decide) ?_
          refine A_bipush (v := nI 122) d_To_step_86 (by decide) ?_
          refine A_callVP d_To_step_88 (c_To_isWithin M.1 M.o ⟨⟨f, (M.2.2 _ hzt).trans hf, hfB⟩, hB2⟩ hzt hn ((fup_get (by decide)).trans hE1) q 97 122 (by omega) (by decide) (by decide)) M.o rfl q_444 q_445 q_446 mk_To_isWithin rfl (by decide) rfl (Nat.le_of_ble_eq_true rfl) ⟨Nat.le_of_ble_eq_true rfl, Nat.le_of_ble_eq_true rfl⟩ ⟨rfl, rfl⟩ ?_
          refine A_topI (show _ = bI false by rw [decide_eq_true hnq, hw]; rfl) ?_
          refine A_if_eqB (tgt := 110) d_To_step_91 (by decide) (fun c_91 => ?_) (fun c => absurd c (by decide))
          refine A_aload_n0 d_To_step_110 ?_
          refine A_aload_n0 d_To_step_111 ?_
          refine A_getf (kf := 3) d_To_step_112 M.o ok_5 (by decide) q_250 rfl ?_
          refine A_topI ((fup_get (by decide)).trans hE3) ?_
          refine A_bipush (v := nI 48) d_To_step_115 (by decide) ?_
          refine A_bipush (v := nI 57) d_To_step_117 (by decide) ?_
          refine A_callVP d_To_step_119 (c_To_isWithin M.1 M.o ⟨⟨f, (M.2.2 _ hzt).trans hf, hfB⟩, hB2⟩ hzt hn ((fup_get (by decide)).trans hE1) q 48 57 (by omega) (by decide) (by decide)) M.o rfl q_444 q_445 q_446 mk_To_isWithin rfl (by decide) rfl (Nat.le_of_ble_eq_true rfl) ⟨Nat.le_of_ble_eq_true rfl, Nat.le_of_ble_eq_true rfl⟩ ⟨rfl, rfl⟩ ?_
          refine A_topI (show _ = bI false by rw [decide_eq_true hnq, hd]; rfl) ?_
          refine A_if_eqB (tgt := 140) d_To_step_122 (by decide) (fun c_122 => ?_) (fun c => absurd c (by decide))
          refine A_aload_n0 d_To_step_140 ?_
          refine A_aload_n0 d_To_step_141 ?_
          refine A_getf (kf := 0) d_To_step_142 M.o ok_5 (by decide) q_246 rfl ?_
          refine A_aload_n0 d_To_step_145 ?_
          refine A_getf (kf := 3) d_To_step_146 M.o ok_5 (by decide) q_250 rfl ?_
          refine A_topI ((fup_get (by decide)).trans hE3) ?_
          refine A_ialdN d_To_step_149 ((M.2.2 _ hzt).trans hf) ⟨by omega, by decide⟩ ?_
          refine A_topI (hfB (q) (by omega)) ?_
          have hb := hB2 (q)
          refine A_bipush (v := nI 59) d_To_step_150 (by decide) ?_
          first | refine A_icmp_neN (tgt := 159) d_To_step_152 (by decide) (by with_reducible rfl) (by with_reducible rfl) (by omega) (by omega) (fun c_152 => ?_) (fun c_152 => ?_) | refine A_icmp_ne (tgt := 159) d_To_step_152 (by decide) (fun c_152 => ?_) (fun c_152 => ?_)
          · refine A_iconst (v := nI 4) d_To_step_159 (by decide) ?_
            refine A_tkInt (kf := 4) d_To_step_160 (by decide) q_252 (Or.inl rfl) (by decide +kernel) M rfl (fun h' M' => ?_)
            replace M := M'
            clear M'
            refine A_aload_n0 d_To_step_163 ?_
            first | refine A_dupR d_To_step_164 ?_ | refine A_dupI d_To_step_164 ?_
            refine A_getf (kf := 3) d_To_step_165 M.o ok_5 (by decide) q_250 rfl ?_
            refine A_topI ((fup_get (by decide)).trans ((fup_get (by decide)).trans hE3)) ?_
            refine A_iconst (v := nI 1) d_To_step_168 (by decide) ?_
            first | refine A_iaddN d_To_step_169 (by with_reducible rfl) (by with_reducible rfl) ?_ | refine A_iadd d_To_step_169 ?_
            refine A_tkInt (kf := 3) d_To_step_170 (by decide) q_250 (Or.inl rfl) (by decide +kernel) M rfl (fun h' M' => ?_)
            replace M := M'
            clear M'
            refine A_vret d_To_step_173 rfl ⟨Nat.zero_le _, Nat.zero_le _⟩ ?_
            refine ⟨rfl, _, M, ?_, ?_, ?_, ?_, ?_, hq⟩
            · exact (fup_get (by decide)).trans ((fup_get (by decide)).trans ((fup_get (by decide)).trans hE1))
            · exact (fup_get (by decide)).trans ((fup_get (by decide)).trans (fup_eq _ _ _))
            · rw [heN]
              exact fup_eq _ _ _
            · rw [hkN]
              first
                | (rw [if_pos c_152]; exact (fup_get (by decide)).trans (fup_eq _ _ _))
                | (rw [if_neg c_152]; exact (fup_get (by decide)).trans (fup_eq _ _ _))
            · intro y
              rw [hkN] at y
              split at y <;> omega
          · refine A_iconst (v := nI 3) d_To_step_155 (by decide) ?_
            refine A_goto (tgt := 160) d_To_step_156 (by decide) ?_
            refine A_tkInt (kf := 4) d_To_step_160 (by decide) q_252 (Or.inl rfl) (by decide +kernel) M rfl (fun h' M' => ?_)
            replace M := M'
            clear M'
            refine A_aload_n0 d_To_step_163 ?_
            first | refine A_dupR d_To_step_164 ?_ | refine A_dupI d_To_step_164 ?_
            refine A_getf (kf := 3) d_To_step_165 M.o ok_5 (by decide) q_250 rfl ?_
            refine A_topI ((fup_get (by decide)).trans ((fup_get (by decide)).trans hE3)) ?_
            refine A_iconst (v := nI 1) d_To_step_168 (by decide) ?_
            first | refine A_iaddN d_To_step_169 (by with_reducible rfl) (by with_reducible rfl) ?_ | refine A_iadd d_To_step_169 ?_
            refine A_tkInt (kf := 3) d_To_step_170 (by decide) q_250 (Or.inl rfl) (by decide +kernel) M rfl (fun h' M' => ?_)
            replace M := M'
            clear M'
            refine A_vret d_To_step_173 rfl ⟨Nat.zero_le _, Nat.zero_le _⟩ ?_
            refine ⟨rfl, _, M, ?_, ?_, ?_, ?_, ?_, hq⟩
            · exact (fup_get (by decide)).trans ((fup_get (by decide)).trans ((fup_get (by decide)).trans hE1))
            · exact (fup_get (by decide)).trans ((fup_get (by decide)).trans (fup_eq _ _ _))
            · rw [heN]
              exact fup_eq _ _ _
            · rw [hkN]
              first
                | (rw [if_pos c_152]; exact (fup_get (by decide)).trans (fup_eq _ _ _))
                | (rw [if_neg c_152]; exact (fup_get (by decide)).trans (fup_eq _ _ _))
            · intro y
              rw [hkN] at y
              split at y <;> omega
        · exact absurd c_68 (by omega)
      · have hkN : kN B n q = if rnN 48 57 B n q - q ≤ 2 then 3 else 1 := by unfold kN; rw [if_neg (by omega), if_neg (by rw [hw]; decide), if_pos hd]
        have heN : eN B n q = rnN 48 57 B n q := by unfold eN; rw [if_neg (by omega), if_neg (by rw [hw]; decide), if_pos hd]
        have hbd := rn_bd (lo := 48) (hi := 57) (B := B) (n := n) (n - q) q (by omega)
        refine A_aload_n0 d_To_step_52 ?_
        refine A_aload_n0 d_To_step_53 ?_
        refine A_getf (kf := 3) d_To_step_54 M.o ok_5 (by decide) q_250 rfl ?_
        refine A_topI hE3 ?_
        refine A_tkInt (kf := 2) d_To_step_57 (by decide) q_249 (Or.inl rfl) (by decide +kernel) M rfl (fun h' M' => ?_)
        replace M := M'
        clear M'
        refine A_aload_n0 d_To_step_60 ?_
        refine A_getf (kf := 3) d_To_step_61 M.o ok_5 (by decide) q_250 rfl ?_
        refine A_topI ((fup_get (by decide)).trans hE3) ?_
        refine A_aload_n0 d_To_step_64 ?_
        refine A_getf (kf := 1) d_To_step_65 M.o ok_5 (by decide) q_247 rfl ?_
        refine A_topI ((fup_get (by decide)).trans hE1) ?_
        first | refine A_icmp_ltN (tgt := 79) d_To_step_68 (by decide) (by with_reducible rfl) (by with_reducible rfl) (by omega) (by omega) (fun c_68 => ?_) (fun c_68 => ?_) | refine A_icmp_lt (tgt := 79) d_To_step_68 (by decide) (fun c_68 => ?_) (fun c_68 => ?_)
        · refine A_aload_n0 d_To_step_79 ?_
          refine A_aload_n0 d_To_step_80 ?_
          refine A_getf (kf := 3) d_To_step_81 M.o ok_5 (by decide) q_250 rfl ?_
          refine A_topI ((fup_get (by decide)).trans hE3) ?_
          refine A_bipush (v := nI 97) d_To_step_84 (by decide) ?_
          refine A_bipush (v := nI 122) d_To_step_86 (by decide) ?_
          refine A_callVP d_To_step_88 (c_To_isWithin M.1 M.o ⟨⟨f, (M.2.2 _ hzt).trans hf, hfB⟩, hB2⟩ hzt hn ((fup_get (by decide)).trans hE1) q 97 122 (by omega) (by decide) (by decide)) M.o rfl q_444 q_445 q_446 mk_To_isWithin rfl (by decide) rfl (Nat.le_of_ble_eq_true rfl) ⟨Nat.le_of_ble_eq_true rfl, Nat.le_of_ble_eq_true rfl⟩ ⟨rfl, rfl⟩ ?_
          refine A_topI (show _ = bI false by rw [decide_eq_true hnq, hw]; rfl) ?_
          refine A_if_eqB (tgt := 110) d_To_step_91 (by decide) (fun c_91 => ?_) (fun c => absurd c (by decide))
          refine A_aload_n0 d_To_step_110 ?_
          refine A_aload_n0 d_To_step_111 ?_
          refine A_getf (kf := 3) d_To_step_112 M.o ok_5 (by decide) q_250 rfl ?_
          refine A_topI ((fup_get (by decide)).trans hE3) ?_
          refine A_bipush (v := nI 48) d_To_step_115 (by decide) ?_
          refine A_bipush (v := nI 57) d_To_step_117 (by decide) ?_
          refine A_callVP d_To_step_119 (c_To_isWithin M.1 M.o ⟨⟨f, (M.2.2 _ hzt).trans hf, hfB⟩, hB2⟩ hzt hn ((fup_get (by decide)).trans hE1) q 48 57 (by omega) (by decide) (by decide)) M.o rfl q_444 q_445 q_446 mk_To_isWithin rfl (by decide) rfl (Nat.le_of_ble_eq_true rfl) ⟨Nat.le_of_ble_eq_true rfl, Nat.le_of_ble_eq_true rfl⟩ ⟨rfl, rfl⟩ ?_
          refine A_topI (show _ = bI true by rw [decide_eq_true hnq, hd]; rfl) ?_
          refine A_if_eqB (tgt := 140) d_To_step_122 (by decide) (fun c => absurd c (by decide)) (fun c_122 => ?_)
          refine A_aload_n0 d_To_step_125 ?_
          refine A_bipush (v := nI 48) d_To_step_126 (by decide) ?_
          refine A_bipush (v := nI 57) d_To_step_128 (by decide) ?_
          refine A_callV d_To_step_130 (c_To_pass M.1 M.o ⟨⟨f, (M.2.2 _ hzt).trans hf, hfB⟩, hB2⟩ hzt hn ((fup_get (by decide)).trans hE1) (p0 := q) (by omega) ((fup_get (by decide)).trans hE3) 48 57 (by decide) (by decide)) M.o rfl q_448 q_449 q_450 mk_To_pass rfl (by decide) rfl (Nat.le_of_ble_eq_true rfl) ⟨Nat.le_of_ble_eq_true rfl, Nat.le_of_ble_eq_true rfl⟩ ?_
          rintro _ h4 ⟨rfl, E4, M4, hj4, h43⟩
          replace M := M.trans M4
          clear M4
          refine A_aload_n0 d_To_step_133 ?_
          refine A_callV d_To_step_134 (c_To_takeNumber M.1 M.o ⟨⟨f, (M.2.2 _ hzt).trans hf, hfB⟩, hB2⟩ hzt hn ((hj4 1 (by decide)).trans ((fup_get (by decide)).trans hE1)) hbd.1 hbd.2 ((hj4 2 (by decide)).trans (fup_eq _ _ _)) h43 (fun k a b => rn_in (n := n) (n - q) q (by omega) k a b)) M.o rfl q_452 q_453 q_454 mk_To_takeNumber rfl (by decide) rfl (Nat.le_of_ble_eq_true rfl) ⟨Nat.le_of_ble_eq_true rfl, Nat.le_of_ble_eq_true rfl⟩ ?_
          rintro _ h5 ⟨rfl, E5, M5, hj5, h54, h55⟩
          replace M := M.trans M5
          clear M5
          refine A_goto (tgt := 173) d_To_step_137 (by decide) ?_
          refine A_vret d_To_step_173 rfl ⟨Nat.zero_le _, Nat.zero_le _⟩ ?_
          refine ⟨rfl, _, M, ?_, ?_, ?_, ?_, ?_, hq⟩
          · exact (hj5 1 (by decide) (by decide)).trans ((hj4 1 (by decide)).trans ((fup_get (by decide)).trans hE1))
          · exact (hj5 2 (by decide) (by decide)).trans ((hj4 2 (by decide)).trans (fup_eq _ _ _))
          · rw [heN]
            exact (hj5 3 (by decide) (by decide)).trans h43
          · rw [h54, hkN]
            by_cases w : rnN 48 57 B n q - q ≤ 2
            · rw [if_pos w, if_pos w]; rfl
            · rw [if_neg w, if_neg w]; rfl
          · intro y
            rw [hkN] at y
            have hl : rnN 48 57 B n q - q ≤ 2 := by
              by_cases w : rnN 48 57 B n q - q ≤ 2
              · exact w
              · rw [if_neg w] at y
                omega
            unfold tvN
            rw [heN]
            exact h55 hl
        · exact absurd c_68 (by omega)
    · have hkN : kN B n q = 2 := by unfold kN; rw [if_neg (by omega), if_pos hw]
      have heN : eN B n q = rnN 97 122 B n q := by unfold eN; rw [if_neg (by omega), if_pos hw]
      refine A_aload_n0 d_To_step_52 ?_
      refine A_aload_n0 d_To_step_53 ?_
      refine A_getf (kf := 3) d_To_step_54 M.o ok_5 (by decide) q_250 rfl ?_
      refine A_topI hE3 ?_
      refine A_tkInt (kf := 2) d_To_step_57 (by decide) q_249 (Or.inl rfl) (by decide +kernel) M rfl (fun h' M' => ?_)
      replace M := M'
      clear M'
      refine A_aload_n0 d_To_step_60 ?_
      refine A_getf (kf := 3) d_To_step_61 M.o ok_5 (by decide) q_250 rfl ?_
      refine A_topI ((fup_get (by decide)).trans hE3) ?_
      refine A_aload_n0 d_To_step_64 ?_
      refine A_getf (kf := 1) d_To_step_65 M.o ok_5 (by decide) q_247 rfl ?_
      refine A_topI ((fup_get (by decide)).trans hE1) ?_
      first | refine A_icmp_ltN (tgt := 79) d_To_step_68 (by decide) (by with_reducible rfl) (by with_reducible rfl) (by omega) (by omega) (fun c_68 => ?_) (fun c_68 => ?_) | refine A_icmp_lt (tgt := 79) d_To_step_68 (by decide) (fun c_68 => ?_) (fun c_68 => ?_)
      · refine A_aload_n0 d_To_step_79 ?_
        refine A_aload_n0 d_To_step_80 ?_
        refine A_getf (kf := 3) d_To_step_81 M.o ok_5 (by decide) q_250 rfl ?_
        refine A_topI ((fup_get (by decide)).trans hE3) ?_
        refine A_bipush (v := nI 97) d_To_step_84 (by decide) ?_
        refine A_bipush (v := nI 122) d_To_step_86 (by decide) ?_
        refine A_callVP d_To_step_88 (c_To_isWithin M.1 M.o ⟨⟨f, (M.2.2 _ hzt).trans hf, hfB⟩, hB2⟩ hzt hn ((fup_get (by decide)).trans hE1) q 97 122 (by omega) (by decide) (by decide)) M.o rfl q_444 q_445 q_446 mk_To_isWithin rfl (by decide) rfl (Nat.le_of_ble_eq_true rfl) ⟨Nat.le_of_ble_eq_true rfl, Nat.le_of_ble_eq_true rfl⟩ ⟨rfl, rfl⟩ ?_
        refine A_topI (show _ = bI true by rw [decide_eq_true hnq, hw]; rfl) ?_
        refine A_if_eqB (tgt := 110) d_To_step_91 (by decide) (fun c => absurd c (by decide)) (fun c_91 => ?_)
        refine A_aload_n0 d_To_step_94 ?_
        refine A_bipush (v := nI 97) d_To_step_95 (by decide) ?_
        refine A_bipush (v := nI 122) d_To_step_97 (by decide) ?_
        refine A_callV d_To_step_99 (c_To_pass M.1 M.o ⟨⟨f, (M.2.2 _ hzt).trans hf, hfB⟩, hB2⟩ hzt hn ((fup_get (by decide)).trans hE1) (p0 := q) (by omega) ((fup_get (by decide)).trans hE3) 97 122 (by decide) (by decide)) M.o rfl q_448 q_449 q_450 mk_To_pass rfl (by decide) rfl (Nat.le_of_ble_eq_true rfl) ⟨Nat.le_of_ble_eq_true rfl, Nat.le_of_ble_eq_true rfl⟩ ?_
        rintro _ h4 ⟨rfl, E4, M4, hj4, h43⟩
        replace M := M.trans M4
        clear M4
        refine A_aload_n0 d_To_step_102 ?_
        refine A_iconst (v := nI 1) d_To_step_103 (by decide) ?_
        refine A_tkInt (kf := 4) d_To_step_104 (by decide) q_252 (Or.inl rfl) (by decide +kernel) M rfl (fun h' M' => ?_)
        replace M := M'
        clear M'
        refine A_goto (tgt := 173) d_To_step_107 (by decide) ?_
        refine A_vret d_To_step_173 rfl ⟨Nat.zero_le _, Nat.zero_le _⟩ ?_
        refine ⟨rfl, _, M, ?_, ?_, ?_, ?_, ?_, hq⟩
        · exact (fup_get (by decide)).trans ((hj4 1 (by decide)).trans ((fup_get (by decide)).trans hE1))
        · exact (fup_get (by decide)).trans ((hj4 2 (by decide)).trans (fup_eq _ _ _))
        · rw [heN]
          exact (fup_get (by decide)).trans h43
        · rw [hkN]
          exact fup_eq _ _ _
        · intro y
          rw [hkN] at y
          omega
      · exact absurd c_68 (by omega)
  · refine A_aload_n0 d_To_step_52 ?_
    refine A_aload_n0 d_To_step_53 ?_
    refine A_getf (kf := 3) d_To_step_54 M.o ok_5 (by decide) q_250 rfl ?_
    refine A_topI hE3 ?_
    refine A_tkInt (kf := 2) d_To_step_57 (by decide) q_249 (Or.inl rfl) (by decide +kernel) M rfl (fun h' M' => ?_)
    replace M := M'
    clear M'
    refine A_aload_n0 d_To_step_60 ?_
    refine A_getf (kf := 3) d_To_step_61 M.o ok_5 (by decide) q_250 rfl ?_
    refine A_topI ((fup_get (by decide)).trans hE3) ?_
    refine A_aload_n0 d_To_step_64 ?_
    refine A_getf (kf := 1) d_To_step_65 M.o ok_5 (by decide) q_247 rfl ?_
    refine A_topI ((fup_get (by decide)).trans hE1) ?_
    first | refine A_icmp_ltN (tgt := 79) d_To_step_68 (by decide) (by with_reducible rfl) (by with_reducible rfl) (by omega) (by omega) (fun c_68 => ?_) (fun c_68 => ?_) | refine A_icmp_lt (tgt := 79) d_To_step_68 (by decide) (fun c_68 => ?_) (fun c_68 => ?_)
    · exact absurd c_68 (by omega)
    · refine A_aload_n0 d_To_step_71 ?_
      refine A_iconst (v := nI 0) d_To_step_72 (by decide) ?_
      refine A_tkInt (kf := 4) d_To_step_73 (by decide) q_252 (Or.inl rfl) (by decide +kernel) M rfl (fun h' M' => ?_)
      replace M := M'
      clear M'
      refine A_goto (tgt := 173) d_To_step_76 (by decide) ?_
      refine A_vret d_To_step_173 rfl ⟨Nat.zero_le _, Nat.zero_le _⟩ ?_
      refine ⟨rfl, _, M, (fup_get (by decide)).trans ((fup_get (by decide)).trans hE1), (fup_get (by decide)).trans (fup_eq _ _ _), ?_, ?_, ?_, hq⟩
      · rw [show eN B n q = q from if_pos hnq]
        exact (fup_get (by decide)).trans ((fup_get (by decide)).trans hE3)
      · rw [show kN B n q = 0 from if_pos hnq]
        exact fup_eq _ _ _
      · intro y
        rw [show kN B n q = 0 from if_pos hnq] at y
        omega
