theorem rg_c {lo hi : Nat} (hl : lo < 2 ^ 31) (hh : hi < 2 ^ 31) (x : Int32) : (∃ k, lo ≤ k ∧ k ≤ hi ∧ x = nI k) ∨ inB x (nI lo) (nI hi) = false := by
  cases h : inB x (nI lo) (nI hi)
  · exact .inr rfl
  · obtain ⟨k, rfl, a, b⟩ := inB_ex hh h hl
    exact .inl ⟨k, a, b, rfl⟩
theorem rg_o {x : Int32} {lo hi : Nat} (hl : lo < 2 ^ 31) (hh : hi < 2 ^ 31) (h : inB x (nI lo) (nI hi) = false) {k : Nat} (h1 : lo ≤ k) (h2 : k ≤ hi) : ¬ x = nI k := fun e => by
  rw [e, inB_N (by omega) hl hh, decide_eq_true h1, decide_eq_true h2] at h
  exact absurd h (by decide)
set_option maxHeartbeats 4000000 in
set_option maxRecDepth 100000 in
theorem c_N_isCity0 {G : GE} (h : AH) : Ctr G y_N_isCity b_N_isCity 1 (some .boolean) r_N_isCity [.int (nI 0)] h (Pu (.int (bI true)) h) := by
  refine Ctr.of (by decide +kernel) (by simp) (Nat.le_of_ble_eq_true rfl) (L0 := [some (.int (nI 0))]) rfl ?_
  refine A_iload_n0 d_N_isCity_0 ?_
  refine A_if_eq (tgt := 9) d_N_isCity_1 (by decide) (fun c_1 => ?_) (fun c => absurd rfl c)
  refine A_iconst (v := nI 1) d_N_isCity_9 (by decide) ?_
  refine A_goto (tgt := 14) d_N_isCity_10 (by decide) ?_
  refine A_zret d_N_isCity_14 rfl (by first | rfl | exact bI_nar _ | decide) ⟨Nat.zero_le _, Nat.zero_le _⟩ ?_
  exact pu rfl
set_option maxHeartbeats 4000000 in
set_option maxRecDepth 100000 in
theorem c_N_isCity1 {G : GE} (h : AH) : Ctr G y_N_isCity b_N_isCity 1 (some .boolean) r_N_isCity [.int (nI 1)] h (Pu (.int (bI true)) h) := by
  refine Ctr.of (by decide +kernel) (by simp) (Nat.le_of_ble_eq_true rfl) (L0 := [some (.int (nI 1))]) rfl ?_
  refine A_iload_n0 d_N_isCity_0 ?_
  refine A_if_eq (tgt := 9) d_N_isCity_1 (by decide) (fun c => absurd c (by decide)) (fun c_1 => ?_)
  refine A_iload_n0 d_N_isCity_4 ?_
  refine A_iconst (v := nI 1) d_N_isCity_5 (by decide) ?_
  refine A_icmp_ne (tgt := 13) d_N_isCity_6 (by decide) (fun c => absurd rfl c) (fun c_6 => ?_)
  refine A_iconst (v := nI 1) d_N_isCity_9 (by decide) ?_
  refine A_goto (tgt := 14) d_N_isCity_10 (by decide) ?_
  refine A_zret d_N_isCity_14 rfl (by first | rfl | exact bI_nar _ | decide) ⟨Nat.zero_le _, Nat.zero_le _⟩ ?_
  exact pu rfl
theorem c_N_isCityT {G : GE} (h : AH) {cc : Nat} (hcc : cc ≤ 1) : Ctr G y_N_isCity b_N_isCity 1 (some .boolean) r_N_isCity [.int (nI cc)] h (Pu (.int (bI true)) h) := by
  rcases (show cc = 0 ∨ cc = 1 by omega) with rfl | rfl
  · exact c_N_isCity0 h
  · exact c_N_isCity1 h
set_option maxHeartbeats 4000000 in
set_option maxRecDepth 100000 in
theorem c_N_isCityF {G : GE} (h : AH) {x : Int32} (hx : inB x (nI 0) (nI 1) = false) : Ctr G y_N_isCity b_N_isCity 1 (some .boolean) r_N_isCity [.int x] h (Pu (.int (bI false)) h) := by
  refine Ctr.of (by decide +kernel) (by simp) (Nat.le_of_ble_eq_true rfl) (L0 := [some (.int x)]) rfl ?_
  refine A_iload_n0 d_N_isCity_0 ?_
  refine A_if_eq (tgt := 9) d_N_isCity_1 (by decide) (fun c => absurd c (rg_o (by decide) (by decide) hx (k := 0) (by decide) (by decide))) (fun c_1 => ?_)
  refine A_iload_n0 d_N_isCity_4 ?_
  refine A_iconst (v := nI 1) d_N_isCity_5 (by decide) ?_
  refine A_icmp_ne (tgt := 13) d_N_isCity_6 (by decide) (fun c_6 => ?_) (fun c => absurd c (rg_o (by decide) (by decide) hx (k := 1) (by decide) (by decide)))
  refine A_iconst (v := nI 0) d_N_isCity_13 (by decide) ?_
  refine A_zret d_N_isCity_14 rfl (by first | rfl | exact bI_nar _ | decide) ⟨Nat.zero_le _, Nat.zero_le _⟩ ?_
  exact pu rfl
set_option maxHeartbeats 4000000 in
set_option maxRecDepth 100000 in
theorem c_N_worth {G : GE} {h : AH} {n : Nat} {W : TD} {c : Nat → Nat} {VL WT BK SG GM : Nat → Nat → Nat} (hN : NT h n W c VL WT BK SG GM) (la ca x : Int32) : Ctr G y_N_worth b_N_worth 4 (some .int) r_N_worth [.ref n, .int la, .int ca, .int x] h (Pu (.int (pick (c 0) la (fun l => rg ca 0 1 (fun cc => nI (worthN (VL l) cc x)) (-1)) (-1))) h) := by
  refine Ctr.of (by decide +kernel) (by simp) (Nat.le_of_ble_eq_true rfl) (L0 := [some (.ref n), some (.int la), some (.int ca), some (.int x)]) rfl ?_
  have hc0 := (hN.r.n 0 (by decide)).2
  rcases told_c (n := c 0) (by omega) la with ⟨l, hl, rfl⟩ | hno
  · rw [pick_in hl (by omega)]
    have hA := hN.a.l l (by omega)
    have hV := hN.r.l l hl
    have hV0 := hV
    obtain ⟨ok, ⟨f0, f1, f2, f3, f4, f9⟩, hP, hBe, hTo⟩ := hV
    have hH := ok.1
    have h4 := ok.2.2.2.2.1
    have h5 := ok.2.2.2.2.2.1
    rcases rg_c (lo := 0) (hi := 1) (by decide) (by decide) ca with ⟨cc, -, hcc, rfl⟩ | hro
    · rw [rg_in ⟨by omega, hcc⟩ (by decide)]
      refine A_aload_n0 d_N_worth_0 ?_
      refine A_iconst (v := nI 0) d_N_worth_1 (by decide) ?_
      refine A_iload_n1 d_N_worth_2 ?_
      refine A_callVP d_N_worth_3 (c_N_isToldT hN (by decide) hl) hN.o rfl q_644 q_646 qs_2 mk_N_isTold rfl (by decide) rfl (Nat.le_of_ble_eq_true rfl) ⟨Nat.le_of_ble_eq_true rfl, Nat.le_of_ble_eq_true rfl⟩ ⟨rfl, rfl⟩ ?_
      refine A_if_eqB (tgt := 16) d_N_worth_6 (by decide) (fun c => absurd c (by decide)) (fun c_6 => ?_)
      refine A_iload_n2 d_N_worth_9 ?_
      refine A_callSP d_N_worth_10 (c_N_isCityT _ hcc) q_868 q_869 mk_N_isCity rfl (by decide) rfl (Nat.le_of_ble_eq_true rfl) ⟨Nat.le_of_ble_eq_true rfl, Nat.le_of_ble_eq_true rfl⟩ ⟨rfl, rfl⟩ ?_
      refine A_if_neB (tgt := 18) d_N_worth_13 (by decide) (fun c_13 => ?_) (fun c => absurd c (by decide))
      refine A_aload_n0 d_N_worth_18 ?_
      refine A_getf (kf := 0) d_N_worth_19 hN.o ok_7 (by decide) q_368 rfl ?_
      refine A_getf (kf := 5) d_N_worth_22 hN.a.o ok_6 (by decide) q_203 rfl ?_
      refine A_iload_n1 d_N_worth_25 ?_
      refine A_aaldN d_N_worth_26 hN.a.lands rfl rfl ⟨by omega, by decide⟩ (show va_rf (two (n + 1 + 12) (n + 1 + 29) l) = .ref (n + 1 + 12 + 17 * l) by rw [two_at rfl (by omega)]; rfl) ?_
      refine A_iload_n2 d_N_worth_27 ?_
      refine A_iload_n3 d_N_worth_28 ?_
      refine A_callVP d_N_worth_29 (c_Ld_worthOf hA hV0 cc (by omega) x) hA.o rfl q_871 q_803 q_804 mk_Ld_worthOf rfl (by decide) rfl (Nat.le_of_ble_eq_true rfl) ⟨Nat.le_of_ble_eq_true rfl, Nat.le_of_ble_eq_true rfl⟩ ⟨rfl, rfl⟩ ?_
      refine A_iret d_N_worth_32 rfl ⟨Nat.zero_le _, Nat.zero_le _⟩ ?_
      exact pu rfl
    · rw [rg_out hro]
      refine A_aload_n0 d_N_worth_0 ?_
      refine A_iconst (v := nI 0) d_N_worth_1 (by decide) ?_
      refine A_iload_n1 d_N_worth_2 ?_
      refine A_callVP d_N_worth_3 (c_N_isToldT hN (by decide) hl) hN.o rfl q_644 q_646 qs_2 mk_N_isTold rfl (by decide) rfl (Nat.le_of_ble_eq_true rfl) ⟨Nat.le_of_ble_eq_true rfl, Nat.le_of_ble_eq_true rfl⟩ ⟨rfl, rfl⟩ ?_
      refine A_if_eqB (tgt := 16) d_N_worth_6 (by decide) (fun c => absurd c (by decide)) (fun c_6 => ?_)
      refine A_iload_n2 d_N_worth_9 ?_
      refine A_callSP d_N_worth_10 (c_N_isCityF _ hro) q_868 q_869 mk_N_isCity rfl (by decide) rfl (Nat.le_of_ble_eq_true rfl) ⟨Nat.le_of_ble_eq_true rfl, Nat.le_of_ble_eq_true rfl⟩ ⟨rfl, rfl⟩ ?_
      refine A_if_neB (tgt := 18) d_N_worth_13 (by decide) (fun c => absurd c (by decide)) (fun c_13 => ?_)
      refine A_iconst (v := (-1)) d_N_worth_16 (by decide) ?_
      refine A_iret d_N_worth_17 rfl ⟨Nat.zero_le _, Nat.zero_le _⟩ ?_
      exact pu rfl
  · rw [pick_out hno]
    refine A_aload_n0 d_N_worth_0 ?_
    refine A_iconst (v := nI 0) d_N_worth_1 (by decide) ?_
    refine A_iload_n1 d_N_worth_2 ?_
    refine A_callVP d_N_worth_3 (c_N_isToldF hN (by decide) hno) hN.o rfl q_644 q_646 qs_2 mk_N_isTold rfl (by decide) rfl (Nat.le_of_ble_eq_true rfl) ⟨Nat.le_of_ble_eq_true rfl, Nat.le_of_ble_eq_true rfl⟩ ⟨rfl, rfl⟩ ?_
    refine A_if_eqB (tgt := 16) d_N_worth_6 (by decide) (fun c_6 => ?_) (fun c => absurd c (by decide))
    refine A_iconst (v := (-1)) d_N_worth_16 (by decide) ?_
    refine A_iret d_N_worth_17 rfl ⟨Nat.zero_le _, Nat.zero_le _⟩ ?_
    exact pu rfl
theorem max0J (D : Int32) : (if nI 0 < D then D else nI 0) = if nI 0 ≤ D then D else nI 0 := by
  by_cases h : nI 0 < D
  · rw [if_pos h, if_pos (Int32.le_of_lt h)]
  · rw [if_neg h]
    by_cases q : nI 0 ≤ D
    · rw [if_pos q]
      rw [Int32.lt_iff_toInt_lt] at h
      rw [Int32.le_iff_toInt_le] at q
      exact Int32.toInt_inj.mp (by omega)
    · rw [if_neg q]
set_option maxHeartbeats 4000000 in
set_option maxRecDepth 100000 in
theorem c_N_envy {G : GE} {h : AH} {n : Nat} {W : TD} {c : Nat → Nat} {VL WT BK SG GM : Nat → Nat → Nat} (hN : NT h n W c VL WT BK SG GM) (la ca x : Int32) : Ctr G y_N_envy b_N_envy 6 (some .int) r_N_envy [.ref n, .int la, .int ca, .int x] h (Pu (.int (pick (c 0) la (fun l => rg ca 0 1 (fun cc => envyV (VL l) cc x) (-1)) (-1))) h) := by
  refine Ctr.of (by decide +kernel) (by simp) (Nat.le_of_ble_eq_true rfl) (L0 := [some (.ref n), some (.int la), some (.int ca), some (.int x), none, none]) rfl ?_
  have hc0 := (hN.r.n 0 (by decide)).2
  rcases told_c (n := c 0) (by omega) la with ⟨l, hl, rfl⟩ | hno
  · rw [pick_in hl (by omega)]
    have hA := hN.a.l l (by omega)
    have hV := hN.r.l l hl
    have hV0 := hV
    obtain ⟨ok, ⟨f0, f1, f2, f3, f4, f9⟩, hP, hBe, hTo⟩ := hV
    have hH := ok.1
    have h4 := ok.2.2.2.2.1
    have h5 := ok.2.2.2.2.2.1
    rcases rg_c (lo := 0) (hi := 1) (by decide) (by decide) ca with ⟨cc, -, hcc, rfl⟩ | hro
    · rw [rg_in ⟨by omega, hcc⟩ (by decide)]
      rcases (show cc = 0 ∨ cc = 1 by omega) with rfl | rfl
      · refine A_aload_n0 d_N_envy_0 ?_
        refine A_iconst (v := nI 0) d_N_envy_1 (by decide) ?_
        refine A_iload_n1 d_N_envy_2 ?_
        refine A_callVP d_N_envy_3 (c_N_isToldT hN (by decide) hl) hN.o rfl q_644 q_646 qs_2 mk_N_isTold rfl (by decide) rfl (Nat.le_of_ble_eq_true rfl) ⟨Nat.le_of_ble_eq_true rfl, Nat.le_of_ble_eq_true rfl⟩ ⟨rfl, rfl⟩ ?_
        refine A_if_eqB (tgt := 16) d_N_envy_6 (by decide) (fun c => absurd c (by decide)) (fun c_6 => ?_)
        refine A_iload_n2 d_N_envy_9 ?_
        refine A_callSP d_N_envy_10 (c_N_isCityT _ hcc) q_868 q_869 mk_N_isCity rfl (by decide) rfl (Nat.le_of_ble_eq_true rfl) ⟨Nat.le_of_ble_eq_true rfl, Nat.le_of_ble_eq_true rfl⟩ ⟨rfl, rfl⟩ ?_
        refine A_if_neB (tgt := 18) d_N_envy_13 (by decide) (fun c_13 => ?_) (fun c => absurd c (by decide))
        refine A_aload_n0 d_N_envy_18 ?_
        refine A_getf (kf := 0) d_N_envy_19 hN.o ok_7 (by decide) q_368 rfl ?_
        refine A_getf (kf := 5) d_N_envy_22 hN.a.o ok_6 (by decide) q_203 rfl ?_
        refine A_iload_n1 d_N_envy_25 ?_
        refine A_aaldN d_N_envy_26 hN.a.lands rfl rfl ⟨by omega, by decide⟩ (show va_rf (two (n + 1 + 12) (n + 1 + 29) l) = .ref (n + 1 + 12 + 17 * l) by rw [two_at rfl (by omega)]; rfl) ?_
        refine A_astore4 d_N_envy_27 trivial ?_
        refine A_iload_n2 d_N_envy_29 ?_
        refine A_iconst (v := nI 1) d_N_envy_30 (by decide) ?_
        refine A_icmp_ne (tgt := 38) d_N_envy_31 (by decide) (fun c_31 => ?_) (fun c => absurd c (by decide))
        refine A_iload_n3 d_N_envy_38 ?_
        refine A_iconst (v := (-1)) d_N_envy_39 (by decide) ?_
        refine A_ixor d_N_envy_40 ?_
        refine A_istore5 d_N_envy_41 trivial ?_
        refine A_iconst (v := nI 0) d_N_envy_43 (by decide) ?_
        refine A_aload4 d_N_envy_44 ?_
        refine A_iload_n2 d_N_envy_46 ?_
        refine A_iload5 d_N_envy_47 ?_
        refine A_iconst (v := (-1)) d_N_envy_49 (by decide) ?_
        refine A_ixor d_N_envy_50 ?_
        refine A_callVP d_N_envy_51 (c_Ld_worthOf hA hV0 0 (by decide) ((x ^^^ (-1)) ^^^ (-1))) hA.o rfl q_871 q_803 q_804 mk_Ld_worthOf rfl (by decide) rfl (Nat.le_of_ble_eq_true rfl) ⟨Nat.le_of_ble_eq_true rfl, Nat.le_of_ble_eq_true rfl⟩ ⟨rfl, rfl⟩ ?_
        refine A_aload4 d_N_envy_54 ?_
        refine A_iload_n2 d_N_envy_56 ?_
        refine A_iload5 d_N_envy_57 ?_
        refine A_callVP d_N_envy_59 (c_Ld_worthOf hA hV0 0 (by decide) (x ^^^ (-1))) hA.o rfl q_871 q_803 q_804 mk_Ld_worthOf rfl (by decide) rfl (Nat.le_of_ble_eq_true rfl) ⟨Nat.le_of_ble_eq_true rfl, Nat.le_of_ble_eq_true rfl⟩ ⟨rfl, rfl⟩ ?_
        first | refine A_isubN d_N_envy_62 (by with_reducible rfl) (by with_reducible rfl) (by omega) ?_ | refine A_isub d_N_envy_62 ?_
        refine A_callSP d_N_envy_63 (c_JM_max_0 _ _ _) q_791 q_580 mk_JM_max_0 rfl (by decide) rfl (Nat.le_of_ble_eq_true rfl) ⟨Nat.le_of_ble_eq_true rfl, Nat.le_of_ble_eq_true rfl⟩ ⟨rfl, rfl⟩ ?_
        refine A_iret d_N_envy_66 rfl ⟨Nat.zero_le _, Nat.zero_le _⟩ ?_
        exact pu (congrArg Value.int (max0J _))
      · refine A_aload_n0 d_N_envy_0 ?_
        refine A_iconst (v := nI 0) d_N_envy_1 (by decide) ?_
        refine A_iload_n1 d_N_envy_2 ?_
        refine A_callVP d_N_envy_3 (c_N_isToldT hN (by decide) hl) hN.o rfl q_644 q_646 qs_2 mk_N_isTold rfl (by decide) rfl (Nat.le_of_ble_eq_true rfl) ⟨Nat.le_of_ble_eq_true rfl, Nat.le_of_ble_eq_true rfl⟩ ⟨rfl, rfl⟩ ?_
        refine A_if_eqB (tgt := 16) d_N_envy_6 (by decide) (fun c => absurd c (by decide)) (fun c_6 => ?_)
        refine A_iload_n2 d_N_envy_9 ?_
        refine A_callSP d_N_envy_10 (c_N_isCityT _ hcc) q_868 q_869 mk_N_isCity rfl (by decide) rfl (Nat.le_of_ble_eq_true rfl) ⟨Nat.le_of_ble_eq_true rfl, Nat.le_of_ble_eq_true rfl⟩ ⟨rfl, rfl⟩ ?_
        refine A_if_neB (tgt := 18) d_N_envy_13 (by decide) (fun c_13 => ?_) (fun c => absurd c (by decide))
        refine A_aload_n0 d_N_envy_18 ?_
        refine A_getf (kf := 0) d_N_envy_19 hN.o ok_7 (by decide) q_368 rfl ?_
        refine A_getf (kf := 5) d_N_envy_22 hN.a.o ok_6 (by decide) q_203 rfl ?_
        refine A_iload_n1 d_N_envy_25 ?_
        refine A_aaldN d_N_envy_26 hN.a.lands rfl rfl ⟨by omega, by decide⟩ (show va_rf (two (n + 1 + 12) (n + 1 + 29) l) = .ref (n + 1 + 12 + 17 * l) by rw [two_at rfl (by omega)]; rfl) ?_
        refine A_astore4 d_N_envy_27 trivial ?_
        refine A_iload_n2 d_N_envy_29 ?_
        refine A_iconst (v := nI 1) d_N_envy_30 (by decide) ?_
        refine A_icmp_ne (tgt := 38) d_N_envy_31 (by decide) (fun c => absurd rfl c) (fun c_31 => ?_)
        refine A_iload_n3 d_N_envy_34 ?_
        refine A_goto (tgt := 41) d_N_envy_35 (by decide) ?_
        refine A_istore5 d_N_envy_41 trivial ?_
        refine A_iconst (v := nI 0) d_N_envy_43 (by decide) ?_
        refine A_aload4 d_N_envy_44 ?_
        refine A_iload_n2 d_N_envy_46 ?_
        refine A_iload5 d_N_envy_47 ?_
        refine A_iconst (v := (-1)) d_N_envy_49 (by decide) ?_
        refine A_ixor d_N_envy_50 ?_
        refine A_callVP d_N_envy_51 (c_Ld_worthOf hA hV0 1 (by decide) (x ^^^ (-1))) hA.o rfl q_871 q_803 q_804 mk_Ld_worthOf rfl (by decide) rfl (Nat.le_of_ble_eq_true rfl) ⟨Nat.le_of_ble_eq_true rfl, Nat.le_of_ble_eq_true rfl⟩ ⟨rfl, rfl⟩ ?_
        refine A_aload4 d_N_envy_54 ?_
        refine A_iload_n2 d_N_envy_56 ?_
        refine A_iload5 d_N_envy_57 ?_
        refine A_callVP d_N_envy_59 (c_Ld_worthOf hA hV0 1 (by decide) x) hA.o rfl q_871 q_803 q_804 mk_Ld_worthOf rfl (by decide) rfl (Nat.le_of_ble_eq_true rfl) ⟨Nat.le_of_ble_eq_true rfl, Nat.le_of_ble_eq_true rfl⟩ ⟨rfl, rfl⟩ ?_
        first | refine A_isubN d_N_envy_62 (by with_reducible rfl) (by with_reducible rfl) (by omega) ?_ | refine A_isub d_N_envy_62 ?_
        refine A_callSP d_N_envy_63 (c_JM_max_0 _ _ _) q_791 q_580 mk_JM_max_0 rfl (by decide) rfl (Nat.le_of_ble_eq_true rfl) ⟨Nat.le_of_ble_eq_true rfl, Nat.le_of_ble_eq_true rfl⟩ ⟨rfl, rfl⟩ ?_
        refine A_iret d_N_envy_66 rfl ⟨Nat.zero_le _, Nat.zero_le _⟩ ?_
        exact pu (congrArg Value.int (max0J _))
    · rw [rg_out hro]
      refine A_aload_n0 d_N_envy_0 ?_
      refine A_iconst (v := nI 0) d_N_envy_1 (by decide) ?_
      refine A_iload_n1 d_N_envy_2 ?_
      refine A_callVP d_N_envy_3 (c_N_isToldT hN (by decide) hl) hN.o rfl q_644 q_646 qs_2 mk_N_isTold rfl (by decide) rfl (Nat.le_of_ble_eq_true rfl) ⟨Nat.le_of_ble_eq_true rfl, Nat.le_of_ble_eq_true rfl⟩ ⟨rfl, rfl⟩ ?_
      refine A_if_eqB (tgt := 16) d_N_envy_6 (by decide) (fun c => absurd c (by decide)) (fun c_6 => ?_)
      refine A_iload_n2 d_N_envy_9 ?_
      refine A_callSP d_N_envy_10 (c_N_isCityF _ hro) q_868 q_869 mk_N_isCity rfl (by decide) rfl (Nat.le_of_ble_eq_true rfl) ⟨Nat.le_of_ble_eq_true rfl, Nat.le_of_ble_eq_true rfl⟩ ⟨rfl, rfl⟩ ?_
      refine A_if_neB (tgt := 18) d_N_envy_13 (by decide) (fun c => absurd c (by decide)) (fun c_13 => ?_)
      refine A_iconst (v := (-1)) d_N_envy_16 (by decide) ?_
      refine A_iret d_N_envy_17 rfl ⟨Nat.zero_le _, Nat.zero_le _⟩ ?_
      exact pu rfl
  · rw [pick_out hno]
    refine A_aload_n0 d_N_envy_0 ?_
    refine A_iconst (v := nI 0) d_N_envy_1 (by decide) ?_
    refine A_iload_n1 d_N_envy_2 ?_
    refine A_callVP d_N_envy_3 (c_N_isToldF hN (by decide) hno) hN.o rfl q_644 q_646 qs_2 mk_N_isTold rfl (by decide) rfl (Nat.le_of_ble_eq_true rfl) ⟨Nat.le_of_ble_eq_true rfl, Nat.le_of_ble_eq_true rfl⟩ ⟨rfl, rfl⟩ ?_
    refine A_if_eqB (tgt := 16) d_N_envy_6 (by decide) (fun c_6 => ?_) (fun c => absurd c (by decide))
    refine A_iconst (v := (-1)) d_N_envy_16 (by decide) ?_
    refine A_iret d_N_envy_17 rfl ⟨Nat.zero_le _, Nat.zero_le _⟩ ?_
    exact pu rfl
