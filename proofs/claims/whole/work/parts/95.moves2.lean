set_option maxHeartbeats 4000000 in
set_option maxRecDepth 100000 in
theorem c_N_gain {G : GE} {h : AH} {n : Nat} {W : TD} {c : Nat → Nat} {VL WT BK SG GM : Nat → Nat → Nat} (hN : NT h n W c VL WT BK SG GM) (hn : 1000 ≤ n) (hs : SCR h n) (la ta pa ca : Int32) : Ctr G y_N_gain b_N_gain 6 (some .int) r_N_gain [.ref n, .int la, .int ta, .int pa, .int ca] h (SX h n (pick (c 0) la (fun l => pick (c 1) ta (fun t => pick (VL l 4) pa (fun p => rg ca 0 1 (fun cc => gainI (VL l) (WT t) p cc (toldI (VL l))) (-1000)) (-1000)) (-1000)) (-1000))) := by
  refine Ctr.of (by decide +kernel) (by simp) (Nat.le_of_ble_eq_true rfl) (L0 := [some (.ref n), some (.int la), some (.int ta), some (.int pa), some (.int ca), none]) rfl ?_
  have hc0 := (hN.r.n 0 (by decide)).2
  have hc1 := (hN.r.n 1 (by decide)).2
  rcases told_c (n := c 0) (by omega) la with ⟨l, hl, rfl⟩ | hnl
  · rw [pick_in hl (by omega)]
    rcases told_c (n := c 1) (by omega) ta with ⟨t, ht, rfl⟩ | hnt
    · rw [pick_in ht (by omega)]
      have hA := hN.a.l l (by omega)
      have hV := hN.r.l l hl
      have hV0 := hV
      obtain ⟨ok, ⟨f0, f1, f2, f3, f4, f9⟩, hP, hBe, hTo⟩ := hV
      have hH := ok.1
      have h4 := ok.2.2.2.2.1
      have h5 := ok.2.2.2.2.2.1
      obtain ⟨f0', hL⟩ := hs.1
      rcases told_c (n := VL l 4) (by omega) pa with ⟨p, hp, rfl⟩ | hnp
      · rw [pick_in hp (by omega)]
        rcases rg_c (lo := 0) (hi := 1) (by decide) (by decide) ca with ⟨cc, -, hcc, rfl⟩ | hro
        · rw [rg_in ⟨by omega, hcc⟩ (by decide)]
          refine A_aload_n0 d_N_gain_0 ?_
          refine A_iload_n1 d_N_gain_1 ?_
          refine A_iload_n2 d_N_gain_2 ?_
          refine A_callVP d_N_gain_3 (c_N_hasRowT hN hl ht) hN.o rfl q_672 q_674 qs_3 mk_N_hasRow rfl (by decide) rfl (Nat.le_of_ble_eq_true rfl) ⟨Nat.le_of_ble_eq_true rfl, Nat.le_of_ble_eq_true rfl⟩ ⟨rfl, rfl⟩ ?_
          refine A_if_eqB (tgt := 33) d_N_gain_6 (by decide) (fun c => absurd c (by decide)) (fun c_6 => ?_)
          refine A_aload_n0 d_N_gain_9 ?_
          refine A_getf (kf := 0) d_N_gain_10 hN.o ok_7 (by decide) q_368 rfl ?_
          refine A_getf (kf := 5) d_N_gain_13 hN.a.o ok_6 (by decide) q_203 rfl ?_
          refine A_iload_n1 d_N_gain_16 ?_
          refine A_aaldN d_N_gain_17 hN.a.lands rfl rfl ⟨by omega, by decide⟩ (show va_rf (two (n + 1 + 12) (n + 1 + 29) l) = .ref (n + 1 + 12 + 17 * l) by rw [two_at rfl (by omega)]; rfl) ?_
          refine A_iload_n3 d_N_gain_18 ?_
          refine A_callVP d_N_gain_19 (c_Ld_hasPersonT hA hV0 hp) hA.o rfl q_652 q_653 q_654 mk_Ld_hasPerson rfl (by decide) rfl (Nat.le_of_ble_eq_true rfl) ⟨Nat.le_of_ble_eq_true rfl, Nat.le_of_ble_eq_true rfl⟩ ⟨rfl, rfl⟩ ?_
          refine A_if_eqB (tgt := 33) d_N_gain_22 (by decide) (fun c => absurd c (by decide)) (fun c_22 => ?_)
          refine A_iload4 d_N_gain_25 ?_
          refine A_callSP d_N_gain_27 (c_N_isCityT _ hcc) q_868 q_869 mk_N_isCity rfl (by decide) rfl (Nat.le_of_ble_eq_true rfl) ⟨Nat.le_of_ble_eq_true rfl, Nat.le_of_ble_eq_true rfl⟩ ⟨rfl, rfl⟩ ?_
          refine A_if_neB (tgt := 37) d_N_gain_30 (by decide) (fun c_30 => ?_) (fun c => absurd c (by decide))
          refine A_aload_n0 d_N_gain_37 ?_
          refine A_getf (kf := 0) d_N_gain_38 hN.o ok_7 (by decide) q_368 rfl ?_
          refine A_getf (kf := 5) d_N_gain_41 hN.a.o ok_6 (by decide) q_203 rfl ?_
          refine A_iload_n1 d_N_gain_44 ?_
          refine A_aaldN d_N_gain_45 hN.a.lands rfl rfl ⟨by omega, by decide⟩ (show va_rf (two (n + 1 + 12) (n + 1 + 29) l) = .ref (n + 1 + 12 + 17 * l) by rw [two_at rfl (by omega)]; rfl) ?_
          refine A_astore5 d_N_gain_46 trivial ?_
          refine A_aload_n0 d_N_gain_48 ?_
          refine A_aload5 d_N_gain_49 ?_
          refine A_aload_n0 d_N_gain_51 ?_
          refine A_getf (kf := 0) d_N_gain_52 hN.o ok_7 (by decide) q_368 rfl ?_
          refine A_getf (kf := 6) d_N_gain_55 hN.a.o ok_6 (by decide) q_205 rfl ?_
          refine A_iload_n2 d_N_gain_58 ?_
          refine A_aaldN d_N_gain_59 hN.a.treaties rfl rfl ⟨by omega, by decide⟩ (show va_rf (if t < 2 then some (n + 1 + 5 + t) else none) = .ref (n + 1 + 5 + t) by rw [if_pos (by omega)]; rfl) ?_
          refine A_callV d_N_gain_60 (c_N_weighDark hN.o hn hA hV0 (by omega) (hN.r.row hN.a ht) (by omega) hL) hN.o rfl q_909 q_911 qs_6 mk_N_weighDark rfl (by decide) rfl (Nat.le_of_ble_eq_true rfl) ⟨Nat.le_of_ble_eq_true rfl, Nat.le_of_ble_eq_true rfl⟩ ?_
          rintro _ h1 ⟨rfl, f, rfl, hk1⟩
          replace hN := hN.hs (q := n + 78) (e := .inl (0, 20, .inl f)) (by omega)
          replace hA := hA.hs (q := n + 78) (e := .inl (0, 20, .inl f)) (by omega)
          have hk : LKd n (VL l) (WT t) (hset h (n + 78) (.inl (0, 20, .inl f))) := ⟨f, hset_eq _ _ _, hk1⟩
          refine A_aload_n0 d_N_gain_63 ?_
          refine A_aload5 d_N_gain_64 ?_
          refine A_aload5 d_N_gain_66 ?_
          refine A_callVP d_N_gain_68 (c_Ld_livingAsTold hA hV0) hA.o rfl q_914 q_915 q_916 mk_Ld_livingAsTold rfl (by decide) rfl (Nat.le_of_ble_eq_true rfl) ⟨Nat.le_of_ble_eq_true rfl, Nat.le_of_ble_eq_true rfl⟩ ⟨rfl, rfl⟩ ?_
          refine A_iload_n3 d_N_gain_71 ?_
          refine A_iload4 d_N_gain_72 ?_
          refine A_callVP d_N_gain_74 (c_N_gainIn hN.o hn hA hV0 (by omega) hk _ (BI.told4 h4) p hp cc hcc) hN.o rfl q_918 q_920 qs_7 mk_N_gainIn rfl (by decide) rfl (Nat.le_of_ble_eq_true rfl) ⟨Nat.le_of_ble_eq_true rfl, Nat.le_of_ble_eq_true rfl⟩ ⟨rfl, rfl⟩ ?_
          refine A_iret d_N_gain_77 rfl ⟨Nat.zero_le _, Nat.zero_le _⟩ ?_
          exact sx78 hs f rfl
        · rw [rg_out hro]
          refine A_aload_n0 d_N_gain_0 ?_
          refine A_iload_n1 d_N_gain_1 ?_
          refine A_iload_n2 d_N_gain_2 ?_
          refine A_callVP d_N_gain_3 (c_N_hasRowT hN hl ht) hN.o rfl q_672 q_674 qs_3 mk_N_hasRow rfl (by decide) rfl (Nat.le_of_ble_eq_true rfl) ⟨Nat.le_of_ble_eq_true rfl, Nat.le_of_ble_eq_true rfl⟩ ⟨rfl, rfl⟩ ?_
          refine A_if_eqB (tgt := 33) d_N_gain_6 (by decide) (fun c => absurd c (by decide)) (fun c_6 => ?_)
          refine A_aload_n0 d_N_gain_9 ?_
          refine A_getf (kf := 0) d_N_gain_10 hN.o ok_7 (by decide) q_368 rfl ?_
          refine A_getf (kf := 5) d_N_gain_13 hN.a.o ok_6 (by decide) q_203 rfl ?_
          refine A_iload_n1 d_N_gain_16 ?_
          refine A_aaldN d_N_gain_17 hN.a.lands rfl rfl ⟨by omega, by decide⟩ (show va_rf (two (n + 1 + 12) (n + 1 + 29) l) = .ref (n + 1 + 12 + 17 * l) by rw [two_at rfl (by omega)]; rfl) ?_
          refine A_iload_n3 d_N_gain_18 ?_
          refine A_callVP d_N_gain_19 (c_Ld_hasPersonT hA hV0 hp) hA.o rfl q_652 q_653 q_654 mk_Ld_hasPerson rfl (by decide) rfl (Nat.le_of_ble_eq_true rfl) ⟨Nat.le_of_ble_eq_true rfl, Nat.le_of_ble_eq_true rfl⟩ ⟨rfl, rfl⟩ ?_
          refine A_if_eqB (tgt := 33) d_N_gain_22 (by decide) (fun c => absurd c (by decide)) (fun c_22 => ?_)
          refine A_iload4 d_N_gain_25 ?_
          refine A_callSP d_N_gain_27 (c_N_isCityF _ hro) q_868 q_869 mk_N_isCity rfl (by decide) rfl (Nat.le_of_ble_eq_true rfl) ⟨Nat.le_of_ble_eq_true rfl, Nat.le_of_ble_eq_true rfl⟩ ⟨rfl, rfl⟩ ?_
          refine A_if_neB (tgt := 37) d_N_gain_30 (by decide) (fun c => absurd c (by decide)) (fun c_30 => ?_)
          refine A_sipush (v := (-1000)) d_N_gain_33 (by decide) ?_
          refine A_iret d_N_gain_36 rfl ⟨Nat.zero_le _, Nat.zero_le _⟩ ?_
          exact sx0 hs rfl
      · rw [pick_out hnp]
        refine A_aload_n0 d_N_gain_0 ?_
        refine A_iload_n1 d_N_gain_1 ?_
        refine A_iload_n2 d_N_gain_2 ?_
        refine A_callVP d_N_gain_3 (c_N_hasRowT hN hl ht) hN.o rfl q_672 q_674 qs_3 mk_N_hasRow rfl (by decide) rfl (Nat.le_of_ble_eq_true rfl) ⟨Nat.le_of_ble_eq_true rfl, Nat.le_of_ble_eq_true rfl⟩ ⟨rfl, rfl⟩ ?_
        refine A_if_eqB (tgt := 33) d_N_gain_6 (by decide) (fun c => absurd c (by decide)) (fun c_6 => ?_)
        refine A_aload_n0 d_N_gain_9 ?_
        refine A_getf (kf := 0) d_N_gain_10 hN.o ok_7 (by decide) q_368 rfl ?_
        refine A_getf (kf := 5) d_N_gain_13 hN.a.o ok_6 (by decide) q_203 rfl ?_
        refine A_iload_n1 d_N_gain_16 ?_
        refine A_aaldN d_N_gain_17 hN.a.lands rfl rfl ⟨by omega, by decide⟩ (show va_rf (two (n + 1 + 12) (n + 1 + 29) l) = .ref (n + 1 + 12 + 17 * l) by rw [two_at rfl (by omega)]; rfl) ?_
        refine A_iload_n3 d_N_gain_18 ?_
        refine A_callVP d_N_gain_19 (c_Ld_hasPersonF hA hV0 hnp) hA.o rfl q_652 q_653 q_654 mk_Ld_hasPerson rfl (by decide) rfl (Nat.le_of_ble_eq_true rfl) ⟨Nat.le_of_ble_eq_true rfl, Nat.le_of_ble_eq_true rfl⟩ ⟨rfl, rfl⟩ ?_
        refine A_if_eqB (tgt := 33) d_N_gain_22 (by decide) (fun c_22 => ?_) (fun c => absurd c (by decide))
        refine A_sipush (v := (-1000)) d_N_gain_33 (by decide) ?_
        refine A_iret d_N_gain_36 rfl ⟨Nat.zero_le _, Nat.zero_le _⟩ ?_
        exact sx0 hs rfl
    · rw [pick_out hnt]
      refine A_aload_n0 d_N_gain_0 ?_
      refine A_iload_n1 d_N_gain_1 ?_
      refine A_iload_n2 d_N_gain_2 ?_
      refine A_callVP d_N_gain_3 (c_N_hasRowF hN (.inr hnt)) hN.o rfl q_672 q_674 qs_3 mk_N_hasRow rfl (by decide) rfl (Nat.le_of_ble_eq_true rfl) ⟨Nat.le_of_ble_eq_true rfl, Nat.le_of_ble_eq_true rfl⟩ ⟨rfl, rfl⟩ ?_
      refine A_if_eqB (tgt := 33) d_N_gain_6 (by decide) (fun c_6 => ?_) (fun c => absurd c (by decide))
      refine A_sipush (v := (-1000)) d_N_gain_33 (by decide) ?_
      refine A_iret d_N_gain_36 rfl ⟨Nat.zero_le _, Nat.zero_le _⟩ ?_
      exact sx0 hs rfl
  · rw [pick_out hnl]
    refine A_aload_n0 d_N_gain_0 ?_
    refine A_iload_n1 d_N_gain_1 ?_
    refine A_iload_n2 d_N_gain_2 ?_
    refine A_callVP d_N_gain_3 (c_N_hasRowF hN (.inl hnl)) hN.o rfl q_672 q_674 qs_3 mk_N_hasRow rfl (by decide) rfl (Nat.le_of_ble_eq_true rfl) ⟨Nat.le_of_ble_eq_true rfl, Nat.le_of_ble_eq_true rfl⟩ ⟨rfl, rfl⟩ ?_
    refine A_if_eqB (tgt := 33) d_N_gain_6 (by decide) (fun c_6 => ?_) (fun c => absurd c (by decide))
    refine A_sipush (v := (-1000)) d_N_gain_33 (by decide) ?_
    refine A_iret d_N_gain_36 rfl ⟨Nat.zero_le _, Nat.zero_le _⟩ ?_
    exact sx0 hs rfl
set_option maxHeartbeats 4000000 in
set_option maxRecDepth 100000 in
theorem c_N_moves {G : GE} {h : AH} {n : Nat} {W : TD} {c : Nat → Nat} {VL WT BK SG GM : Nat → Nat → Nat} (hN : NT h n W c VL WT BK SG GM) (hn : 1000 ≤ n) (hs : SCR h n) (la ta k : Int32) : Ctr G y_N_moves b_N_moves 5 (some .int) r_N_moves [.ref n, .int la, .int ta, .int k] h (SX h n (pick (c 0) la (fun l => pick (c 1) ta (fun t => movesT (VL l) (WT t) k) (-2)) (-2))) := by
  refine Ctr.of (by decide +kernel) (by simp) (Nat.le_of_ble_eq_true rfl) (L0 := [some (.ref n), some (.int la), some (.int ta), some (.int k), none]) rfl ?_
  have hc0 := (hN.r.n 0 (by decide)).2
  have hc1 := (hN.r.n 1 (by decide)).2
  rcases told_c (n := c 0) (by omega) la with ⟨l, hl, rfl⟩ | hnl
  · rw [pick_in hl (by omega)]
    rcases told_c (n := c 1) (by omega) ta with ⟨t, ht, rfl⟩ | hnt
    · rw [pick_in ht (by omega)]
      have hA := hN.a.l l (by omega)
      have hV := hN.r.l l hl
      have hV0 := hV
      obtain ⟨ok, ⟨f0, f1, f2, f3, f4, f9⟩, hP, hBe, hTo⟩ := hV
      have hH := ok.1
      have h4 := ok.2.2.2.2.1
      have h5 := ok.2.2.2.2.2.1
      obtain ⟨f0', hL⟩ := hs.1
      unfold movesT movesV
      by_cases hk : k < 0
      · refine A_aload_n0 d_N_moves_0 ?_
        refine A_iload_n1 d_N_moves_1 ?_
        refine A_iload_n2 d_N_moves_2 ?_
        refine A_callVP d_N_moves_3 (c_N_hasRowT hN hl ht) hN.o rfl q_672 q_674 qs_3 mk_N_hasRow rfl (by decide) rfl (Nat.le_of_ble_eq_true rfl) ⟨Nat.le_of_ble_eq_true rfl, Nat.le_of_ble_eq_true rfl⟩ ⟨rfl, rfl⟩ ?_
        refine A_if_neB (tgt := 12) d_N_moves_6 (by decide) (fun c_6 => ?_) (fun c => absurd c (by decide))
        refine A_aload_n0 d_N_moves_12 ?_
        refine A_getf (kf := 0) d_N_moves_13 hN.o ok_7 (by decide) q_368 rfl ?_
        refine A_getf (kf := 5) d_N_moves_16 hN.a.o ok_6 (by decide) q_203 rfl ?_
        refine A_iload_n1 d_N_moves_19 ?_
        refine A_aaldN d_N_moves_20 hN.a.lands rfl rfl ⟨by omega, by decide⟩ (show va_rf (two (n + 1 + 12) (n + 1 + 29) l) = .ref (n + 1 + 12 + 17 * l) by rw [two_at rfl (by omega)]; rfl) ?_
        refine A_astore4 d_N_moves_21 trivial ?_
        refine A_aload_n0 d_N_moves_23 ?_
        refine A_aload4 d_N_moves_24 ?_
        refine A_aload_n0 d_N_moves_26 ?_
        refine A_getf (kf := 0) d_N_moves_27 hN.o ok_7 (by decide) q_368 rfl ?_
        refine A_getf (kf := 6) d_N_moves_30 hN.a.o ok_6 (by decide) q_205 rfl ?_
        refine A_iload_n2 d_N_moves_33 ?_
        refine A_aaldN d_N_moves_34 hN.a.treaties rfl rfl ⟨by omega, by decide⟩ (show va_rf (if t < 2 then some (n + 1 + 5 + t) else none) = .ref (n + 1 + 5 + t) by rw [if_pos (by omega)]; rfl) ?_
        refine A_callV d_N_moves_35 (c_N_weighDark hN.o hn hA hV0 (by omega) (hN.r.row hN.a ht) (by omega) hL) hN.o rfl q_909 q_911 qs_6 mk_N_weighDark rfl (by decide) rfl (Nat.le_of_ble_eq_true rfl) ⟨Nat.le_of_ble_eq_true rfl, Nat.le_of_ble_eq_true rfl⟩ ?_
        rintro _ h1 ⟨rfl, f, rfl, hk1⟩
        replace hN := hN.hs (q := n + 78) (e := .inl (0, 20, .inl f)) (by omega)
        replace hA := hA.hs (q := n + 78) (e := .inl (0, 20, .inl f)) (by omega)
        have hk' : LKd n (VL l) (WT t) (hset h (n + 78) (.inl (0, 20, .inl f))) := ⟨f, hset_eq _ _ _, hk1⟩
        refine A_iload_n3 d_N_moves_38 ?_
        refine A_if_eq (tgt := 47) d_N_moves_39 (by decide) (fun c => absurd hk (by rw [c]; decide)) (fun c_39 => ?_)
        refine A_iload_n3 d_N_moves_42 ?_
        refine A_iconst (v := nI 1) d_N_moves_43 (by decide) ?_
        refine A_icmp_ne (tgt := 63) d_N_moves_44 (by decide) (fun c_44 => ?_) (fun c => absurd hk (by rw [c]; decide))
        refine A_iload_n3 d_N_moves_63 ?_
        refine A_iconst (v := nI 2) d_N_moves_64 (by decide) ?_
        refine A_icmp_ne (tgt := 75) d_N_moves_65 (by decide) (fun c_65 => ?_) (fun c => absurd hk (by rw [c]; decide))
        refine A_iload_n3 d_N_moves_75 ?_
        refine A_bipush (v := nI 100) d_N_moves_76 (by decide) ?_
        refine A_icmp_lt (tgt := 94) d_N_moves_78 (by decide) (fun c_78 => ?_) (fun c => absurd (neg_lt hk (k := 100) (by decide)) c)
        refine A_bipush (v := (-2)) d_N_moves_94 (by decide) ?_
        refine A_iret d_N_moves_96 rfl ⟨Nat.zero_le _, Nat.zero_le _⟩ ?_
        exact sx78 hs f (by rw [if_neg (by unfold inB; rw [decide_eq_true (neg_lt hk (k := 0) (by decide)), Bool.not_true, Bool.false_and]; decide), if_neg (fun z => absurd (neg_lt hk (k := 100) (by decide)) (Int32.not_lt.mpr z))])
      · obtain ⟨j, hj, rfl⟩ := nI_of hk
        rcases (show j = 0 ∨ j = 1 ∨ j = 2 ∨ 100 ≤ j ∨ (3 ≤ j ∧ j < 100) by omega) with rfl | rfl | rfl | hjj | hjj
        · refine A_aload_n0 d_N_moves_0 ?_
          refine A_iload_n1 d_N_moves_1 ?_
          refine A_iload_n2 d_N_moves_2 ?_
          refine A_callVP d_N_moves_3 (c_N_hasRowT hN hl ht) hN.o rfl q_672 q_674 qs_3 mk_N_hasRow rfl (by decide) rfl (Nat.le_of_ble_eq_true rfl) ⟨Nat.le_of_ble_eq_true rfl, Nat.le_of_ble_eq_true rfl⟩ ⟨rfl, rfl⟩ ?_
          refine A_if_neB (tgt := 12) d_N_moves_6 (by decide) (fun c_6 => ?_) (fun c => absurd c (by decide))
          refine A_aload_n0 d_N_moves_12 ?_
          refine A_getf (kf := 0) d_N_moves_13 hN.o ok_7 (by decide) q_368 rfl ?_
          refine A_getf (kf := 5) d_N_moves_16 hN.a.o ok_6 (by decide) q_203 rfl ?_
          refine A_iload_n1 d_N_moves_19 ?_
          refine A_aaldN d_N_moves_20 hN.a.lands rfl rfl ⟨by omega, by decide⟩ (show va_rf (two (n + 1 + 12) (n + 1 + 29) l) = .ref (n + 1 + 12 + 17 * l) by rw [two_at rfl (by omega)]; rfl) ?_
          refine A_astore4 d_N_moves_21 trivial ?_
          refine A_aload_n0 d_N_moves_23 ?_
          refine A_aload4 d_N_moves_24 ?_
          refine A_aload_n0 d_N_moves_26 ?_
          refine A_getf (kf := 0) d_N_moves_27 hN.o ok_7 (by decide) q_368 rfl ?_
          refine A_getf (kf := 6) d_N_moves_30 hN.a.o ok_6 (by decide) q_205 rfl ?_
          refine A_iload_n2 d_N_moves_33 ?_
          refine A_aaldN d_N_moves_34 hN.a.treaties rfl rfl ⟨by omega, by decide⟩ (show va_rf (if t < 2 then some (n + 1 + 5 + t) else none) = .ref (n + 1 + 5 + t) by rw [if_pos (by omega)]; rfl) ?_
          refine A_callV d_N_moves_35 (c_N_weighDark hN.o hn hA hV0 (by omega) (hN.r.row hN.a ht) (by omega) hL) hN.o rfl q_909 q_911 qs_6 mk_N_weighDark rfl (by decide) rfl (Nat.le_of_ble_eq_true rfl) ⟨Nat.le_of_ble_eq_true rfl, Nat.le_of_ble_eq_true rfl⟩ ?_
          rintro _ h1 ⟨rfl, f, rfl, hk1⟩
          replace hN := hN.hs (q := n + 78) (e := .inl (0, 20, .inl f)) (by omega)
          replace hA := hA.hs (q := n + 78) (e := .inl (0, 20, .inl f)) (by omega)
          have hk : LKd n (VL l) (WT t) (hset h (n + 78) (.inl (0, 20, .inl f))) := ⟨f, hset_eq _ _ _, hk1⟩
          refine A_iload_n3 d_N_moves_38 ?_
          refine A_if_eq (tgt := 47) d_N_moves_39 (by decide) (fun c_39 => ?_) (fun c => absurd rfl c)
          refine A_aload_n0 d_N_moves_47 ?_
          refine A_aload4 d_N_moves_48 ?_
          refine A_iload_n3 d_N_moves_50 ?_
          refine A_if_ne (tgt := 58) d_N_moves_51 (by decide) (fun c => absurd rfl c) (fun c_51 => ?_)
          refine A_iconst (v := nI 1) d_N_moves_54 (by decide) ?_
          refine A_goto (tgt := 59) d_N_moves_55 (by decide) ?_
          refine A_callVP d_N_moves_59 (c_N_settled hN.o hn hA hV0 (by omega) hk true) hN.o rfl q_932 q_934 qs_8 mk_N_settled rfl (by decide) rfl (Nat.le_of_ble_eq_true rfl) ⟨Nat.le_of_ble_eq_true rfl, Nat.le_of_ble_eq_true rfl⟩ ⟨rfl, rfl⟩ ?_
          refine A_iret d_N_moves_62 rfl ⟨Nat.zero_le _, Nat.zero_le _⟩ ?_
          exact sx78 hs f (by rw [if_pos (by decide), if_pos (by decide)]; unfold sttV; cases roundsN (VL l) (WT t) 60 0 (toldI (VL l)) with | none => rfl | some q => rfl)
        · refine A_aload_n0 d_N_moves_0 ?_
          refine A_iload_n1 d_N_moves_1 ?_
          refine A_iload_n2 d_N_moves_2 ?_
          refine A_callVP d_N_moves_3 (c_N_hasRowT hN hl ht) hN.o rfl q_672 q_674 qs_3 mk_N_hasRow rfl (by decide) rfl (Nat.le_of_ble_eq_true rfl) ⟨Nat.le_of_ble_eq_true rfl, Nat.le_of_ble_eq_true rfl⟩ ⟨rfl, rfl⟩ ?_
          refine A_if_neB (tgt := 12) d_N_moves_6 (by decide) (fun c_6 => ?_) (fun c => absurd c (by decide))
          refine A_aload_n0 d_N_moves_12 ?_
          refine A_getf (kf := 0) d_N_moves_13 hN.o ok_7 (by decide) q_368 rfl ?_
          refine A_getf (kf := 5) d_N_moves_16 hN.a.o ok_6 (by decide) q_203 rfl ?_
          refine A_iload_n1 d_N_moves_19 ?_
          refine A_aaldN d_N_moves_20 hN.a.lands rfl rfl ⟨by omega, by decide⟩ (show va_rf (two (n + 1 + 12) (n + 1 + 29) l) = .ref (n + 1 + 12 + 17 * l) by rw [two_at rfl (by omega)]; rfl) ?_
          refine A_astore4 d_N_moves_21 trivial ?_
          refine A_aload_n0 d_N_moves_23 ?_
          refine A_aload4 d_N_moves_24 ?_
          refine A_aload_n0 d_N_moves_26 ?_
          refine A_getf (kf := 0) d_N_moves_27 hN.o ok_7 (by decide) q_368 rfl ?_
          refine A_getf (kf := 6) d_N_moves_30 hN.a.o ok_6 (by decide) q_205 rfl ?_
          refine A_iload_n2 d_N_moves_33 ?_
          refine A_aaldN d_N_moves_34 hN.a.treaties rfl rfl ⟨by omega, by decide⟩ (show va_rf (if t < 2 then some (n + 1 + 5 + t) else none) = .ref (n + 1 + 5 + t) by rw [if_pos (by omega)]; rfl) ?_
          refine A_callV d_N_moves_35 (c_N_weighDark hN.o hn hA hV0 (by omega) (hN.r.row hN.a ht) (by omega) hL) hN.o rfl q_909 q_911 qs_6 mk_N_weighDark rfl (by decide) rfl (Nat.le_of_ble_eq_true rfl) ⟨Nat.le_of_ble_eq_true rfl, Nat.le_of_ble_eq_true rfl⟩ ?_
          rintro _ h1 ⟨rfl, f, rfl, hk1⟩
          replace hN := hN.hs (q := n + 78) (e := .inl (0, 20, .inl f)) (by omega)
          replace hA := hA.hs (q := n + 78) (e := .inl (0, 20, .inl f)) (by omega)
          have hk : LKd n (VL l) (WT t) (hset h (n + 78) (.inl (0, 20, .inl f))) := ⟨f, hset_eq _ _ _, hk1⟩
          refine A_iload_n3 d_N_moves_38 ?_
          refine A_if_eq (tgt := 47) d_N_moves_39 (by decide) (fun c => absurd c (by decide)) (fun c_39 => ?_)
          refine A_iload_n3 d_N_moves_42 ?_
          refine A_iconst (v := nI 1) d_N_moves_43 (by decide) ?_
          refine A_icmp_ne (tgt := 63) d_N_moves_44 (by decide) (fun c => absurd rfl c) (fun c_44 => ?_)
          refine A_aload_n0 d_N_moves_47 ?_
          refine A_aload4 d_N_moves_48 ?_
          refine A_iload_n3 d_N_moves_50 ?_
          refine A_if_ne (tgt := 58) d_N_moves_51 (by decide) (fun c_51 => ?_) (fun c => absurd c (by decide))
          refine A_iconst (v := nI 0) d_N_moves_58 (by decide) ?_
          refine A_callVP d_N_moves_59 (c_N_settled hN.o hn hA hV0 (by omega) hk false) hN.o rfl q_932 q_934 qs_8 mk_N_settled rfl (by decide) rfl (Nat.le_of_ble_eq_true rfl) ⟨Nat.le_of_ble_eq_true rfl, Nat.le_of_ble_eq_true rfl⟩ ⟨rfl, rfl⟩ ?_
          refine A_iret d_N_moves_62 rfl ⟨Nat.zero_le _, Nat.zero_le _⟩ ?_
          exact sx78 hs f (by rw [if_pos (by decide), if_pos (by decide)]; unfold sttV; cases roundsN (VL l) (WT t) 60 0 (toldI (VL l)) with | none => rfl | some q => rfl)
        · refine A_aload_n0 d_N_moves_0 ?_
          refine A_iload_n1 d_N_moves_1 ?_
          refine A_iload_n2 d_N_moves_2 ?_
          refine A_callVP d_N_moves_3 (c_N_hasRowT hN hl ht) hN.o rfl q_672 q_674 qs_3 mk_N_hasRow rfl (by decide) rfl (Nat.le_of_ble_eq_true rfl) ⟨Nat.le_of_ble_eq_true rfl, Nat.le_of_ble_eq_true rfl⟩ ⟨rfl, rfl⟩ ?_
          refine A_if_neB (tgt := 12) d_N_moves_6 (by decide) (fun c_6 => ?_) (fun c => absurd c (by decide))
          refine A_aload_n0 d_N_moves_12 ?_
          refine A_getf (kf := 0) d_N_moves_13 hN.o ok_7 (by decide) q_368 rfl ?_
          refine A_getf (kf := 5) d_N_moves_16 hN.a.o ok_6 (by decide) q_203 rfl ?_
          refine A_iload_n1 d_N_moves_19 ?_
          refine A_aaldN d_N_moves_20 hN.a.lands rfl rfl ⟨by omega, by decide⟩ (show va_rf (two (n + 1 + 12) (n + 1 + 29) l) = .ref (n + 1 + 12 + 17 * l) by rw [two_at rfl (by omega)]; rfl) ?_
          refine A_astore4 d_N_moves_21 trivial ?_
          refine A_aload_n0 d_N_moves_23 ?_
          refine A_aload4 d_N_moves_24 ?_
          refine A_aload_n0 d_N_moves_26 ?_
          refine A_getf (kf := 0) d_N_moves_27 hN.o ok_7 (by decide) q_368 rfl ?_
          refine A_getf (kf := 6) d_N_moves_30 hN.a.o ok_6 (by decide) q_205 rfl ?_
          refine A_iload_n2 d_N_moves_33 ?_
          refine A_aaldN d_N_moves_34 hN.a.treaties rfl rfl ⟨by omega, by decide⟩ (show va_rf (if t < 2 then some (n + 1 + 5 + t) else none) = .ref (n + 1 + 5 + t) by rw [if_pos (by omega)]; rfl) ?_
          refine A_callV d_N_moves_35 (c_N_weighDark hN.o hn hA hV0 (by omega) (hN.r.row hN.a ht) (by omega) hL) hN.o rfl q_909 q_911 qs_6 mk_N_weighDark rfl (by decide) rfl (Nat.le_of_ble_eq_true rfl) ⟨Nat.le_of_ble_eq_true rfl, Nat.le_of_ble_eq_true rfl⟩ ?_
          rintro _ h1 ⟨rfl, f, rfl, hk1⟩
          replace hN := hN.hs (q := n + 78) (e := .inl (0, 20, .inl f)) (by omega)
          replace hA := hA.hs (q := n + 78) (e := .inl (0, 20, .inl f)) (by omega)
          have hk : LKd n (VL l) (WT t) (hset h (n + 78) (.inl (0, 20, .inl f))) := ⟨f, hset_eq _ _ _, hk1⟩
          refine A_iload_n3 d_N_moves_38 ?_
          refine A_if_eq (tgt := 47) d_N_moves_39 (by decide) (fun c => absurd c (by decide)) (fun c_39 => ?_)
          refine A_iload_n3 d_N_moves_42 ?_
          refine A_iconst (v := nI 1) d_N_moves_43 (by decide) ?_
          refine A_icmp_ne (tgt := 63) d_N_moves_44 (by decide) (fun c_44 => ?_) (fun c => absurd c (by decide))
          refine A_iload_n3 d_N_moves_63 ?_
          refine A_iconst (v := nI 2) d_N_moves_64 (by decide) ?_
          refine A_icmp_ne (tgt := 75) d_N_moves_65 (by decide) (fun c => absurd rfl c) (fun c_65 => ?_)
          refine A_aload_n0 d_N_moves_68 ?_
          refine A_aload4 d_N_moves_69 ?_
          refine A_callVP d_N_moves_71 (c_N_countRests hN.o hn hA hV0 (by omega) hk) hN.o rfl q_944 q_946 qs_11 mk_N_countRests rfl (by decide) rfl (Nat.le_of_ble_eq_true rfl) ⟨Nat.le_of_ble_eq_true rfl, Nat.le_of_ble_eq_true rfl⟩ ⟨rfl, rfl⟩ ?_
          refine A_iret d_N_moves_74 rfl ⟨Nat.zero_le _, Nat.zero_le _⟩ ?_
          exact sx78 hs f (by rw [if_pos (by decide), if_neg (by decide), if_pos rfl])
        · refine A_aload_n0 d_N_moves_0 ?_
          refine A_iload_n1 d_N_moves_1 ?_
          refine A_iload_n2 d_N_moves_2 ?_
          refine A_callVP d_N_moves_3 (c_N_hasRowT hN hl ht) hN.o rfl q_672 q_674 qs_3 mk_N_hasRow rfl (by decide) rfl (Nat.le_of_ble_eq_true rfl) ⟨Nat.le_of_ble_eq_true rfl, Nat.le_of_ble_eq_true rfl⟩ ⟨rfl, rfl⟩ ?_
          refine A_if_neB (tgt := 12) d_N_moves_6 (by decide) (fun c_6 => ?_) (fun c => absurd c (by decide))
          refine A_aload_n0 d_N_moves_12 ?_
          refine A_getf (kf := 0) d_N_moves_13 hN.o ok_7 (by decide) q_368 rfl ?_
          refine A_getf (kf := 5) d_N_moves_16 hN.a.o ok_6 (by decide) q_203 rfl ?_
          refine A_iload_n1 d_N_moves_19 ?_
          refine A_aaldN d_N_moves_20 hN.a.lands rfl rfl ⟨by omega, by decide⟩ (show va_rf (two (n + 1 + 12) (n + 1 + 29) l) = .ref (n + 1 + 12 + 17 * l) by rw [two_at rfl (by omega)]; rfl) ?_
          refine A_astore4 d_N_moves_21 trivial ?_
          refine A_aload_n0 d_N_moves_23 ?_
          refine A_aload4 d_N_moves_24 ?_
          refine A_aload_n0 d_N_moves_26 ?_
          refine A_getf (kf := 0) d_N_moves_27 hN.o ok_7 (by decide) q_368 rfl ?_
          refine A_getf (kf := 6) d_N_moves_30 hN.a.o ok_6 (by decide) q_205 rfl ?_
          refine A_iload_n2 d_N_moves_33 ?_
          refine A_aaldN d_N_moves_34 hN.a.treaties rfl rfl ⟨by omega, by decide⟩ (show va_rf (if t < 2 then some (n + 1 + 5 + t) else none) = .ref (n + 1 + 5 + t) by rw [if_pos (by omega)]; rfl) ?_
          refine A_callV d_N_moves_35 (c_N_weighDark hN.o hn hA hV0 (by omega) (hN.r.row hN.a ht) (by omega) hL) hN.o rfl q_909 q_911 qs_6 mk_N_weighDark rfl (by decide) rfl (Nat.le_of_ble_eq_true rfl) ⟨Nat.le_of_ble_eq_true rfl, Nat.le_of_ble_eq_true rfl⟩ ?_
          rintro _ h1 ⟨rfl, f, rfl, hk1⟩
          replace hN := hN.hs (q := n + 78) (e := .inl (0, 20, .inl f)) (by omega)
          replace hA := hA.hs (q := n + 78) (e := .inl (0, 20, .inl f)) (by omega)
          have hk : LKd n (VL l) (WT t) (hset h (n + 78) (.inl (0, 20, .inl f))) := ⟨f, hset_eq _ _ _, hk1⟩
          refine A_iload_n3 d_N_moves_38 ?_
          refine A_if_eq (tgt := 47) d_N_moves_39 (by decide) (fun c => absurd c (by rw [show (0 : Int32) = nI 0 from rfl, nI_eq (by omega) (by decide)]; omega)) (fun c_39 => ?_)
          refine A_iload_n3 d_N_moves_42 ?_
          refine A_iconst (v := nI 1) d_N_moves_43 (by decide) ?_
          refine A_icmp_ne (tgt := 63) d_N_moves_44 (by decide) (fun c_44 => ?_) (fun c => absurd c (by rw [nI_eq (by omega) (by decide)]; omega))
          refine A_iload_n3 d_N_moves_63 ?_
          refine A_iconst (v := nI 2) d_N_moves_64 (by decide) ?_
          refine A_icmp_ne (tgt := 75) d_N_moves_65 (by decide) (fun c_65 => ?_) (fun c => absurd c (by rw [nI_eq (by omega) (by decide)]; omega))
          refine A_iload_n3 d_N_moves_75 ?_
          refine A_bipush (v := nI 100) d_N_moves_76 (by decide) ?_
          refine A_icmp_lt (tgt := 94) d_N_moves_78 (by decide) (fun c => absurd c (by rw [nI_ltI (by omega) (by decide)]; omega)) (fun c_78 => ?_)
          refine A_aload_n0 d_N_moves_81 ?_
          refine A_aload4 d_N_moves_82 ?_
          refine A_iload_n3 d_N_moves_84 ?_
          refine A_bipush (v := nI 100) d_N_moves_85 (by decide) ?_
          first | refine A_isubN d_N_moves_87 (by with_reducible rfl) (by with_reducible rfl) (by omega) ?_ | refine A_isub d_N_moves_87 ?_
          refine A_callVP d_N_moves_88 (c_N_restNumber hN.o hn hA hV0 (by omega) hk (j - 100) (by omega)) hN.o rfl q_952 q_954 qs_13 mk_N_restNumber rfl (by decide) rfl (Nat.le_of_ble_eq_true rfl) ⟨Nat.le_of_ble_eq_true rfl, Nat.le_of_ble_eq_true rfl⟩ ⟨rfl, rfl⟩ ?_
          refine A_goto (tgt := 96) d_N_moves_91 (by decide) ?_
          refine A_iret d_N_moves_96 rfl ⟨Nat.zero_le _, Nat.zero_le _⟩ ?_
          exact sx78 hs f (by rw [if_neg (by rw [inB_N hj (by decide) (by decide), decide_eq_false (p := j ≤ 2) (by omega), Bool.and_false]; decide), if_pos ((nI_leI (by decide) hj).mpr hjj), if_neg (by rw [nI_ltI hj (by decide)]; omega), if_neg (by rw [nI_eq hj (by decide)]; omega), nI_sub hjj])
        · refine A_aload_n0 d_N_moves_0 ?_
          refine A_iload_n1 d_N_moves_1 ?_
          refine A_iload_n2 d_N_moves_2 ?_
          refine A_callVP d_N_moves_3 (c_N_hasRowT hN hl ht) hN.o rfl q_672 q_674 qs_3 mk_N_hasRow rfl (by decide) rfl (Nat.le_of_ble_eq_true rfl) ⟨Nat.le_of_ble_eq_true rfl, Nat.le_of_ble_eq_true rfl⟩ ⟨rfl, rfl⟩ ?_
          refine A_if_neB (tgt := 12) d_N_moves_6 (by decide) (fun c_6 => ?_) (fun c => absurd c (by decide))
          refine A_aload_n0 d_N_moves_12 ?_
          refine A_getf (kf := 0) d_N_moves_13 hN.o ok_7 (by decide) q_368 rfl ?_
          refine A_getf (kf := 5) d_N_moves_16 hN.a.o ok_6 (by decide) q_203 rfl ?_
          refine A_iload_n1 d_N_moves_19 ?_
          refine A_aaldN d_N_moves_20 hN.a.lands rfl rfl ⟨by omega, by decide⟩ (show va_rf (two (n + 1 + 12) (n + 1 + 29) l) = .ref (n + 1 + 12 + 17 * l) by rw [two_at rfl (by omega)]; rfl) ?_
          refine A_astore4 d_N_moves_21 trivial ?_
          refine A_aload_n0 d_N_moves_23 ?_
          refine A_aload4 d_N_moves_24 ?_
          refine A_aload_n0 d_N_moves_26 ?_
          refine A_getf (kf := 0) d_N_moves_27 hN.o ok_7 (by decide) q_368 rfl ?_
          refine A_getf (kf := 6) d_N_moves_30 hN.a.o ok_6 (by decide) q_205 rfl ?_
          refine A_iload_n2 d_N_moves_33 ?_
          refine A_aaldN d_N_moves_34 hN.a.treaties rfl rfl ⟨by omega, by decide⟩ (show va_rf (if t < 2 then some (n + 1 + 5 + t) else none) = .ref (n + 1 + 5 + t) by rw [if_pos (by omega)]; rfl) ?_
          refine A_callV d_N_moves_35 (c_N_weighDark hN.o hn hA hV0 (by omega) (hN.r.row hN.a ht) (by omega) hL) hN.o rfl q_909 q_911 qs_6 mk_N_weighDark rfl (by decide) rfl (Nat.le_of_ble_eq_true rfl) ⟨Nat.le_of_ble_eq_true rfl, Nat.le_of_ble_eq_true rfl⟩ ?_
          rintro _ h1 ⟨rfl, f, rfl, hk1⟩
          replace hN := hN.hs (q := n + 78) (e := .inl (0, 20, .inl f)) (by omega)
          replace hA := hA.hs (q := n + 78) (e := .inl (0, 20, .inl f)) (by omega)
          have hk : LKd n (VL l) (WT t) (hset h (n + 78) (.inl (0, 20, .inl f))) := ⟨f, hset_eq _ _ _, hk1⟩
          refine A_iload_n3 d_N_moves_38 ?_
          refine A_if_eq (tgt := 47) d_N_moves_39 (by decide) (fun c => absurd c (by rw [show (0 : Int32) = nI 0 from rfl, nI_eq (by omega) (by decide)]; omega)) (fun c_39 => ?_)
          refine A_iload_n3 d_N_moves_42 ?_
          refine A_iconst (v := nI 1) d_N_moves_43 (by decide) ?_
          refine A_icmp_ne (tgt := 63) d_N_moves_44 (by decide) (fun c_44 => ?_) (fun c => absurd c (by rw [nI_eq (by omega) (by decide)]; omega))
          refine A_iload_n3 d_N_moves_63 ?_
          refine A_iconst (v := nI 2) d_N_moves_64 (by decide) ?_
          refine A_icmp_ne (tgt := 75) d_N_moves_65 (by decide) (fun c_65 => ?_) (fun c => absurd c (by rw [nI_eq (by omega) (by decide)]; omega))
          refine A_iload_n3 d_N_moves_75 ?_
          refine A_bipush (v := nI 100) d_N_moves_76 (by decide) ?_
          refine A_icmp_lt (tgt := 94) d_N_moves_78 (by decide) (fun c_78 => ?_) (fun c => absurd ((nI_ltI hj (by decide)).mpr hjj.2) c)
          refine A_bipush (v := (-2)) d_N_moves_94 (by decide) ?_
          refine A_iret d_N_moves_96 rfl ⟨Nat.zero_le _, Nat.zero_le _⟩ ?_
          exact sx78 hs f (by rw [if_neg (by rw [inB_N hj (by decide) (by decide), decide_eq_false (p := j ≤ 2) (by omega), Bool.and_false]; decide), if_neg (by rw [nI_leI (by decide) hj]; omega)])
    · rw [pick_out hnt]
      refine A_aload_n0 d_N_moves_0 ?_
      refine A_iload_n1 d_N_moves_1 ?_
      refine A_iload_n2 d_N_moves_2 ?_
      refine A_callVP d_N_moves_3 (c_N_hasRowF hN (.inr hnt)) hN.o rfl q_672 q_674 qs_3 mk_N_hasRow rfl (by decide) rfl (Nat.le_of_ble_eq_true rfl) ⟨Nat.le_of_ble_eq_true rfl, Nat.le_of_ble_eq_true rfl⟩ ⟨rfl, rfl⟩ ?_
      refine A_if_neB (tgt := 12) d_N_moves_6 (by decide) (fun c => absurd c (by decide)) (fun c_6 => ?_)
      refine A_bipush (v := (-2)) d_N_moves_9 (by decide) ?_
      refine A_iret d_N_moves_11 rfl ⟨Nat.zero_le _, Nat.zero_le _⟩ ?_
      exact sx0 hs rfl
  · rw [pick_out hnl]
    refine A_aload_n0 d_N_moves_0 ?_
    refine A_iload_n1 d_N_moves_1 ?_
    refine A_iload_n2 d_N_moves_2 ?_
    refine A_callVP d_N_moves_3 (c_N_hasRowF hN (.inl hnl)) hN.o rfl q_672 q_674 qs_3 mk_N_hasRow rfl (by decide) rfl (Nat.le_of_ble_eq_true rfl) ⟨Nat.le_of_ble_eq_true rfl, Nat.le_of_ble_eq_true rfl⟩ ⟨rfl, rfl⟩ ?_
    refine A_if_neB (tgt := 12) d_N_moves_6 (by decide) (fun c => absurd c (by decide)) (fun c_6 => ?_)
    refine A_bipush (v := (-2)) d_N_moves_9 (by decide) ?_
    refine A_iret d_N_moves_11 rfl ⟨Nat.zero_le _, Nat.zero_le _⟩ ?_
    exact sx0 hs rfl
