set_option maxHeartbeats 4000000 in
set_option maxRecDepth 100000 in
theorem c_N_cut {G : GE} {h : AH} {n : Nat} {W : TD} {c : Nat → Nat} {VL WT BK SG GM : Nat → Nat → Nat} (hN : NT h n W c VL WT BK SG GM) (hn : 1000 ≤ n) (hs : SCR h n) (la ha ca : Int32) : Ctr G y_N_cut b_N_cut 5 (some .int) r_N_cut [.ref n, .int la, .int ha, .int ca] h (SX h n (pick (c 0) la (fun l => cutV (VL l) ha ca) (-1))) := by
  refine Ctr.of (by decide +kernel) (by simp) (Nat.le_of_ble_eq_true rfl) (L0 := [some (.ref n), some (.int la), some (.int ha), some (.int ca), none]) rfl ?_
  have hc0 := (hN.r.n 0 (by decide)).2
  rcases told_c (n := c 0) (by omega) la with ⟨l, hl, rfl⟩ | hno
  · rw [pick_in hl (by omega)]
    have hA := hN.a.l l (by omega)
    have hV := hN.r.l l hl
    have hV0 := hV
    obtain ⟨ok, ⟨f0, f1, f2, f3, f4, f9⟩, hP, hBe, hTo⟩ := hV
    have hH := ok.1
    have h4 := ok.2.2.2.2.1
    have h5 := ok.2.2.2.2.2.1
    unfold cutV
    rcases rg_c (lo := 0) (hi := 2) (by decide) (by decide) ha with ⟨k, -, hk2, rfl⟩ | hro
    · rw [rg_in ⟨by omega, hk2⟩ (by decide)]
      rcases (show k = 0 ∨ k = 1 ∨ k = 2 by omega) with rfl | rfl | rfl
      · rw [if_neg (by decide)]
        rcases rg_c (lo := 0) (hi := 1) (by decide) (by decide) ca with ⟨cc, -, hcc, rfl⟩ | hro
        · rw [rg_in ⟨by omega, hcc⟩ (by decide)]
          refine A_aload_n0 d_N_cut_0 ?_
          refine A_iconst (v := nI 0) d_N_cut_1 (by decide) ?_
          refine A_iload_n1 d_N_cut_2 ?_
          refine A_callVP d_N_cut_3 (c_N_isToldT hN (by decide) hl) hN.o rfl q_644 q_646 qs_2 mk_N_isTold rfl (by decide) rfl (Nat.le_of_ble_eq_true rfl) ⟨Nat.le_of_ble_eq_true rfl, Nat.le_of_ble_eq_true rfl⟩ ⟨rfl, rfl⟩ ?_
          refine A_if_neB (tgt := 11) d_N_cut_6 (by decide) (fun c_6 => ?_) (fun c => absurd c (by decide))
          refine A_aload_n0 d_N_cut_11 ?_
          refine A_getf (kf := 0) d_N_cut_12 hN.o ok_7 (by decide) q_368 rfl ?_
          refine A_getf (kf := 5) d_N_cut_15 hN.a.o ok_6 (by decide) q_203 rfl ?_
          refine A_iload_n1 d_N_cut_18 ?_
          refine A_aaldN d_N_cut_19 hN.a.lands rfl rfl ⟨by omega, by decide⟩ (show va_rf (two (n + 1 + 12) (n + 1 + 29) l) = .ref (n + 1 + 12 + 17 * l) by rw [two_at rfl (by omega)]; rfl) ?_
          refine A_astore4 d_N_cut_20 trivial ?_
          refine A_iload_n2 d_N_cut_22 ?_
          refine A_iconst (v := nI 2) d_N_cut_23 (by decide) ?_
          refine A_icmp_ne (tgt := 48) d_N_cut_24 (by decide) (fun c_24 => ?_) (fun c => absurd c (by decide))
          refine A_iload_n3 d_N_cut_48 ?_
          refine A_callSP d_N_cut_49 (c_N_isCityT _ hcc) q_868 q_869 mk_N_isCity rfl (by decide) rfl (Nat.le_of_ble_eq_true rfl) ⟨Nat.le_of_ble_eq_true rfl, Nat.le_of_ble_eq_true rfl⟩ ⟨rfl, rfl⟩ ?_
          refine A_if_neB (tgt := 57) d_N_cut_52 (by decide) (fun c_52 => ?_) (fun c => absurd c (by decide))
          refine A_iload_n2 d_N_cut_57 ?_
          refine A_if_ne (tgt := 68) d_N_cut_58 (by decide) (fun c => absurd rfl c) (fun c_58 => ?_)
          refine A_aload4 d_N_cut_61 ?_
          refine A_iload_n3 d_N_cut_63 ?_
          refine A_callSP d_N_cut_64 (c_N_cutByTurns hA hV0 cc hcc) q_893 q_894 mk_N_cutByTurns rfl (by decide) rfl (Nat.le_of_ble_eq_true rfl) ⟨Nat.le_of_ble_eq_true rfl, Nat.le_of_ble_eq_true rfl⟩ ⟨rfl, rfl⟩ ?_
          refine A_iret d_N_cut_67 rfl ⟨Nat.zero_le _, Nat.zero_le _⟩ ?_
          exact sx0 hs (by first | (rw [if_pos rfl]; done) | (rw [if_neg (by decide)]; done))
        · rw [rg_out hro]
          refine A_aload_n0 d_N_cut_0 ?_
          refine A_iconst (v := nI 0) d_N_cut_1 (by decide) ?_
          refine A_iload_n1 d_N_cut_2 ?_
          refine A_callVP d_N_cut_3 (c_N_isToldT hN (by decide) hl) hN.o rfl q_644 q_646 qs_2 mk_N_isTold rfl (by decide) rfl (Nat.le_of_ble_eq_true rfl) ⟨Nat.le_of_ble_eq_true rfl, Nat.le_of_ble_eq_true rfl⟩ ⟨rfl, rfl⟩ ?_
          refine A_if_neB (tgt := 11) d_N_cut_6 (by decide) (fun c_6 => ?_) (fun c => absurd c (by decide))
          refine A_aload_n0 d_N_cut_11 ?_
          refine A_getf (kf := 0) d_N_cut_12 hN.o ok_7 (by decide) q_368 rfl ?_
          refine A_getf (kf := 5) d_N_cut_15 hN.a.o ok_6 (by decide) q_203 rfl ?_
          refine A_iload_n1 d_N_cut_18 ?_
          refine A_aaldN d_N_cut_19 hN.a.lands rfl rfl ⟨by omega, by decide⟩ (show va_rf (two (n + 1 + 12) (n + 1 + 29) l) = .ref (n + 1 + 12 + 17 * l) by rw [two_at rfl (by omega)]; rfl) ?_
          refine A_astore4 d_N_cut_20 trivial ?_
          refine A_iload_n2 d_N_cut_22 ?_
          refine A_iconst (v := nI 2) d_N_cut_23 (by decide) ?_
          refine A_icmp_ne (tgt := 48) d_N_cut_24 (by decide) (fun c_24 => ?_) (fun c => absurd c (by decide))
          refine A_iload_n3 d_N_cut_48 ?_
          refine A_callSP d_N_cut_49 (c_N_isCityF _ hro) q_868 q_869 mk_N_isCity rfl (by decide) rfl (Nat.le_of_ble_eq_true rfl) ⟨Nat.le_of_ble_eq_true rfl, Nat.le_of_ble_eq_true rfl⟩ ⟨rfl, rfl⟩ ?_
          refine A_if_neB (tgt := 57) d_N_cut_52 (by decide) (fun c => absurd c (by decide)) (fun c_52 => ?_)
          refine A_iconst (v := (-1)) d_N_cut_55 (by decide) ?_
          refine A_iret d_N_cut_56 rfl ⟨Nat.zero_le _, Nat.zero_le _⟩ ?_
          exact sx0 hs rfl
      · rw [if_neg (by decide)]
        rcases rg_c (lo := 0) (hi := 1) (by decide) (by decide) ca with ⟨cc, -, hcc, rfl⟩ | hro
        · rw [rg_in ⟨by omega, hcc⟩ (by decide)]
          refine A_aload_n0 d_N_cut_0 ?_
          refine A_iconst (v := nI 0) d_N_cut_1 (by decide) ?_
          refine A_iload_n1 d_N_cut_2 ?_
          refine A_callVP d_N_cut_3 (c_N_isToldT hN (by decide) hl) hN.o rfl q_644 q_646 qs_2 mk_N_isTold rfl (by decide) rfl (Nat.le_of_ble_eq_true rfl) ⟨Nat.le_of_ble_eq_true rfl, Nat.le_of_ble_eq_true rfl⟩ ⟨rfl, rfl⟩ ?_
          refine A_if_neB (tgt := 11) d_N_cut_6 (by decide) (fun c_6 => ?_) (fun c => absurd c (by decide))
          refine A_aload_n0 d_N_cut_11 ?_
          refine A_getf (kf := 0) d_N_cut_12 hN.o ok_7 (by decide) q_368 rfl ?_
          refine A_getf (kf := 5) d_N_cut_15 hN.a.o ok_6 (by decide) q_203 rfl ?_
          refine A_iload_n1 d_N_cut_18 ?_
          refine A_aaldN d_N_cut_19 hN.a.lands rfl rfl ⟨by omega, by decide⟩ (show va_rf (two (n + 1 + 12) (n + 1 + 29) l) = .ref (n + 1 + 12 + 17 * l) by rw [two_at rfl (by omega)]; rfl) ?_
          refine A_astore4 d_N_cut_20 trivial ?_
          refine A_iload_n2 d_N_cut_22 ?_
          refine A_iconst (v := nI 2) d_N_cut_23 (by decide) ?_
          refine A_icmp_ne (tgt := 48) d_N_cut_24 (by decide) (fun c_24 => ?_) (fun c => absurd c (by decide))
          refine A_iload_n3 d_N_cut_48 ?_
          refine A_callSP d_N_cut_49 (c_N_isCityT _ hcc) q_868 q_869 mk_N_isCity rfl (by decide) rfl (Nat.le_of_ble_eq_true rfl) ⟨Nat.le_of_ble_eq_true rfl, Nat.le_of_ble_eq_true rfl⟩ ⟨rfl, rfl⟩ ?_
          refine A_if_neB (tgt := 57) d_N_cut_52 (by decide) (fun c_52 => ?_) (fun c => absurd c (by decide))
          refine A_iload_n2 d_N_cut_57 ?_
          refine A_if_ne (tgt := 68) d_N_cut_58 (by decide) (fun c_58 => ?_) (fun c => absurd c (by decide))
          refine A_iload_n2 d_N_cut_68 ?_
          refine A_iconst (v := nI 1) d_N_cut_69 (by decide) ?_
          refine A_icmp_ne (tgt := 82) d_N_cut_70 (by decide) (fun c => absurd rfl c) (fun c_70 => ?_)
          refine A_aload4 d_N_cut_73 ?_
          refine A_iload_n3 d_N_cut_75 ?_
          refine A_callSP d_N_cut_76 (c_N_cutByKnife hA hV0 cc hcc) q_899 q_900 mk_N_cutByKnife rfl (by decide) rfl (Nat.le_of_ble_eq_true rfl) ⟨Nat.le_of_ble_eq_true rfl, Nat.le_of_ble_eq_true rfl⟩ ⟨rfl, rfl⟩ ?_
          refine A_goto (tgt := 83) d_N_cut_79 (by decide) ?_
          refine A_iret d_N_cut_83 rfl ⟨Nat.zero_le _, Nat.zero_le _⟩ ?_
          exact sx0 hs (by first | (rw [if_pos rfl]; done) | (rw [if_neg (by decide)]; done))
        · rw [rg_out hro]
          refine A_aload_n0 d_N_cut_0 ?_
          refine A_iconst (v := nI 0) d_N_cut_1 (by decide) ?_
          refine A_iload_n1 d_N_cut_2 ?_
          refine A_callVP d_N_cut_3 (c_N_isToldT hN (by decide) hl) hN.o rfl q_644 q_646 qs_2 mk_N_isTold rfl (by decide) rfl (Nat.le_of_ble_eq_true rfl) ⟨Nat.le_of_ble_eq_true rfl, Nat.le_of_ble_eq_true rfl⟩ ⟨rfl, rfl⟩ ?_
          refine A_if_neB (tgt := 11) d_N_cut_6 (by decide) (fun c_6 => ?_) (fun c => absurd c (by decide))
          refine A_aload_n0 d_N_cut_11 ?_
          refine A_getf (kf := 0) d_N_cut_12 hN.o ok_7 (by decide) q_368 rfl ?_
          refine A_getf (kf := 5) d_N_cut_15 hN.a.o ok_6 (by decide) q_203 rfl ?_
          refine A_iload_n1 d_N_cut_18 ?_
          refine A_aaldN d_N_cut_19 hN.a.lands rfl rfl ⟨by omega, by decide⟩ (show va_rf (two (n + 1 + 12) (n + 1 + 29) l) = .ref (n + 1 + 12 + 17 * l) by rw [two_at rfl (by omega)]; rfl) ?_
          refine A_astore4 d_N_cut_20 trivial ?_
          refine A_iload_n2 d_N_cut_22 ?_
          refine A_iconst (v := nI 2) d_N_cut_23 (by decide) ?_
          refine A_icmp_ne (tgt := 48) d_N_cut_24 (by decide) (fun c_24 => ?_) (fun c => absurd c (by decide))
          refine A_iload_n3 d_N_cut_48 ?_
          refine A_callSP d_N_cut_49 (c_N_isCityF _ hro) q_868 q_869 mk_N_isCity rfl (by decide) rfl (Nat.le_of_ble_eq_true rfl) ⟨Nat.le_of_ble_eq_true rfl, Nat.le_of_ble_eq_true rfl⟩ ⟨rfl, rfl⟩ ?_
          refine A_if_neB (tgt := 57) d_N_cut_52 (by decide) (fun c => absurd c (by decide)) (fun c_52 => ?_)
          refine A_iconst (v := (-1)) d_N_cut_55 (by decide) ?_
          refine A_iret d_N_cut_56 rfl ⟨Nat.zero_le _, Nat.zero_le _⟩ ?_
          exact sx0 hs rfl
      · rw [if_pos rfl]
        obtain ⟨f0', hL⟩ := hs.2.1
        by_cases h14 : VL l 0 ≤ 14
        · rw [if_pos h14]
          refine A_aload_n0 d_N_cut_0 ?_
          refine A_iconst (v := nI 0) d_N_cut_1 (by decide) ?_
          refine A_iload_n1 d_N_cut_2 ?_
          refine A_callVP d_N_cut_3 (c_N_isToldT hN (by decide) hl) hN.o rfl q_644 q_646 qs_2 mk_N_isTold rfl (by decide) rfl (Nat.le_of_ble_eq_true rfl) ⟨Nat.le_of_ble_eq_true rfl, Nat.le_of_ble_eq_true rfl⟩ ⟨rfl, rfl⟩ ?_
          refine A_if_neB (tgt := 11) d_N_cut_6 (by decide) (fun c_6 => ?_) (fun c => absurd c (by decide))
          refine A_aload_n0 d_N_cut_11 ?_
          refine A_getf (kf := 0) d_N_cut_12 hN.o ok_7 (by decide) q_368 rfl ?_
          refine A_getf (kf := 5) d_N_cut_15 hN.a.o ok_6 (by decide) q_203 rfl ?_
          refine A_iload_n1 d_N_cut_18 ?_
          refine A_aaldN d_N_cut_19 hN.a.lands rfl rfl ⟨by omega, by decide⟩ (show va_rf (two (n + 1 + 12) (n + 1 + 29) l) = .ref (n + 1 + 12 + 17 * l) by rw [two_at rfl (by omega)]; rfl) ?_
          refine A_astore4 d_N_cut_20 trivial ?_
          refine A_iload_n2 d_N_cut_22 ?_
          refine A_iconst (v := nI 2) d_N_cut_23 (by decide) ?_
          refine A_icmp_ne (tgt := 48) d_N_cut_24 (by decide) (fun c => absurd rfl c) (fun c_24 => ?_)
          refine A_aload4 d_N_cut_27 ?_
          refine A_getf (kf := 0) d_N_cut_29 hA.o ok_1 (by decide) q_49 rfl ?_
          refine A_topI f0 ?_
          refine A_bipush (v := nI 14) d_N_cut_32 (by decide) ?_
          refine A_icmp_gt (tgt := 46) d_N_cut_34 (by decide) (fun c => absurd ((nI_ltI (by decide) (by omega)).mp c) (by omega)) (fun c_34 => ?_)
          refine A_aload_n0 d_N_cut_37 ?_
          refine A_aload4 d_N_cut_38 ?_
          refine A_callV d_N_cut_40 (c_N_evenCut hN.o hn hA hV0 (by omega) hL h14) hN.o rfl q_880 q_882 qs_4 mk_N_evenCut rfl (by decide) rfl (Nat.le_of_ble_eq_true rfl) ⟨Nat.le_of_ble_eq_true rfl, Nat.le_of_ble_eq_true rfl⟩ ?_
          rintro _ h1 ⟨rfl, f, rfl⟩
          refine A_goto (tgt := 47) d_N_cut_43 (by decide) ?_
          refine A_iret d_N_cut_47 rfl ⟨Nat.zero_le _, Nat.zero_le _⟩ ?_
          exact sx79 hs f rfl
        · rw [if_neg h14]
          refine A_aload_n0 d_N_cut_0 ?_
          refine A_iconst (v := nI 0) d_N_cut_1 (by decide) ?_
          refine A_iload_n1 d_N_cut_2 ?_
          refine A_callVP d_N_cut_3 (c_N_isToldT hN (by decide) hl) hN.o rfl q_644 q_646 qs_2 mk_N_isTold rfl (by decide) rfl (Nat.le_of_ble_eq_true rfl) ⟨Nat.le_of_ble_eq_true rfl, Nat.le_of_ble_eq_true rfl⟩ ⟨rfl, rfl⟩ ?_
          refine A_if_neB (tgt := 11) d_N_cut_6 (by decide) (fun c_6 => ?_) (fun c => absurd c (by decide))
          refine A_aload_n0 d_N_cut_11 ?_
          refine A_getf (kf := 0) d_N_cut_12 hN.o ok_7 (by decide) q_368 rfl ?_
          refine A_getf (kf := 5) d_N_cut_15 hN.a.o ok_6 (by decide) q_203 rfl ?_
          refine A_iload_n1 d_N_cut_18 ?_
          refine A_aaldN d_N_cut_19 hN.a.lands rfl rfl ⟨by omega, by decide⟩ (show va_rf (two (n + 1 + 12) (n + 1 + 29) l) = .ref (n + 1 + 12 + 17 * l) by rw [two_at rfl (by omega)]; rfl) ?_
          refine A_astore4 d_N_cut_20 trivial ?_
          refine A_iload_n2 d_N_cut_22 ?_
          refine A_iconst (v := nI 2) d_N_cut_23 (by decide) ?_
          refine A_icmp_ne (tgt := 48) d_N_cut_24 (by decide) (fun c => absurd rfl c) (fun c_24 => ?_)
          refine A_aload4 d_N_cut_27 ?_
          refine A_getf (kf := 0) d_N_cut_29 hA.o ok_1 (by decide) q_49 rfl ?_
          refine A_topI f0 ?_
          refine A_bipush (v := nI 14) d_N_cut_32 (by decide) ?_
          refine A_icmp_gt (tgt := 46) d_N_cut_34 (by decide) (fun c_34 => ?_) (fun c => absurd ((nI_ltI (by decide) (by omega)).mpr (by omega)) c)
          refine A_iconst (v := (-1)) d_N_cut_46 (by decide) ?_
          refine A_iret d_N_cut_47 rfl ⟨Nat.zero_le _, Nat.zero_le _⟩ ?_
          exact sx0 hs rfl
    · rw [rg_out hro]
      rcases rg_c (lo := 0) (hi := 1) (by decide) (by decide) ca with ⟨cc, -, hcc, rfl⟩ | hro2
      · refine A_aload_n0 d_N_cut_0 ?_
        refine A_iconst (v := nI 0) d_N_cut_1 (by decide) ?_
        refine A_iload_n1 d_N_cut_2 ?_
        refine A_callVP d_N_cut_3 (c_N_isToldT hN (by decide) hl) hN.o rfl q_644 q_646 qs_2 mk_N_isTold rfl (by decide) rfl (Nat.le_of_ble_eq_true rfl) ⟨Nat.le_of_ble_eq_true rfl, Nat.le_of_ble_eq_true rfl⟩ ⟨rfl, rfl⟩ ?_
        refine A_if_neB (tgt := 11) d_N_cut_6 (by decide) (fun c_6 => ?_) (fun c => absurd c (by decide))
        refine A_aload_n0 d_N_cut_11 ?_
        refine A_getf (kf := 0) d_N_cut_12 hN.o ok_7 (by decide) q_368 rfl ?_
        refine A_getf (kf := 5) d_N_cut_15 hN.a.o ok_6 (by decide) q_203 rfl ?_
        refine A_iload_n1 d_N_cut_18 ?_
        refine A_aaldN d_N_cut_19 hN.a.lands rfl rfl ⟨by omega, by decide⟩ (show va_rf (two (n + 1 + 12) (n + 1 + 29) l) = .ref (n + 1 + 12 + 17 * l) by rw [two_at rfl (by omega)]; rfl) ?_
        refine A_astore4 d_N_cut_20 trivial ?_
        refine A_iload_n2 d_N_cut_22 ?_
        refine A_iconst (v := nI 2) d_N_cut_23 (by decide) ?_
        refine A_icmp_ne (tgt := 48) d_N_cut_24 (by decide) (fun c_24 => ?_) (fun c => absurd c (rg_o (by decide) (by decide) hro (k := 2) (by decide) (by decide)))
        refine A_iload_n3 d_N_cut_48 ?_
        refine A_callSP d_N_cut_49 (c_N_isCityT _ hcc) q_868 q_869 mk_N_isCity rfl (by decide) rfl (Nat.le_of_ble_eq_true rfl) ⟨Nat.le_of_ble_eq_true rfl, Nat.le_of_ble_eq_true rfl⟩ ⟨rfl, rfl⟩ ?_
        refine A_if_neB (tgt := 57) d_N_cut_52 (by decide) (fun c_52 => ?_) (fun c => absurd c (by decide))
        refine A_iload_n2 d_N_cut_57 ?_
        refine A_if_ne (tgt := 68) d_N_cut_58 (by decide) (fun c_58 => ?_) (fun c => absurd c (rg_o (by decide) (by decide) hro (k := 0) (by decide) (by decide)))
        refine A_iload_n2 d_N_cut_68 ?_
        refine A_iconst (v := nI 1) d_N_cut_69 (by decide) ?_
        refine A_icmp_ne (tgt := 82) d_N_cut_70 (by decide) (fun c_70 => ?_) (fun c => absurd c (rg_o (by decide) (by decide) hro (k := 1) (by decide) (by decide)))
        refine A_iconst (v := (-1)) d_N_cut_82 (by decide) ?_
        refine A_iret d_N_cut_83 rfl ⟨Nat.zero_le _, Nat.zero_le _⟩ ?_
        exact sx0 hs rfl
      · refine A_aload_n0 d_N_cut_0 ?_
        refine A_iconst (v := nI 0) d_N_cut_1 (by decide) ?_
        refine A_iload_n1 d_N_cut_2 ?_
        refine A_callVP d_N_cut_3 (c_N_isToldT hN (by decide) hl) hN.o rfl q_644 q_646 qs_2 mk_N_isTold rfl (by decide) rfl (Nat.le_of_ble_eq_true rfl) ⟨Nat.le_of_ble_eq_true rfl, Nat.le_of_ble_eq_true rfl⟩ ⟨rfl, rfl⟩ ?_
        refine A_if_neB (tgt := 11) d_N_cut_6 (by decide) (fun c_6 => ?_) (fun c => absurd c (by decide))
        refine A_aload_n0 d_N_cut_11 ?_
        refine A_getf (kf := 0) d_N_cut_12 hN.o ok_7 (by decide) q_368 rfl ?_
        refine A_getf (kf := 5) d_N_cut_15 hN.a.o ok_6 (by decide) q_203 rfl ?_
        refine A_iload_n1 d_N_cut_18 ?_
        refine A_aaldN d_N_cut_19 hN.a.lands rfl rfl ⟨by omega, by decide⟩ (show va_rf (two (n + 1 + 12) (n + 1 + 29) l) = .ref (n + 1 + 12 + 17 * l) by rw [two_at rfl (by omega)]; rfl) ?_
        refine A_astore4 d_N_cut_20 trivial ?_
        refine A_iload_n2 d_N_cut_22 ?_
        refine A_iconst (v := nI 2) d_N_cut_23 (by decide) ?_
        refine A_icmp_ne (tgt := 48) d_N_cut_24 (by decide) (fun c_24 => ?_) (fun c => absurd c (rg_o (by decide) (by decide) hro (k := 2) (by decide) (by decide)))
        refine A_iload_n3 d_N_cut_48 ?_
        refine A_callSP d_N_cut_49 (c_N_isCityF _ hro2) q_868 q_869 mk_N_isCity rfl (by decide) rfl (Nat.le_of_ble_eq_true rfl) ⟨Nat.le_of_ble_eq_true rfl, Nat.le_of_ble_eq_true rfl⟩ ⟨rfl, rfl⟩ ?_
        refine A_if_neB (tgt := 57) d_N_cut_52 (by decide) (fun c => absurd c (by decide)) (fun c_52 => ?_)
        refine A_iconst (v := (-1)) d_N_cut_55 (by decide) ?_
        refine A_iret d_N_cut_56 rfl ⟨Nat.zero_le _, Nat.zero_le _⟩ ?_
        exact sx0 hs rfl
  · rw [pick_out hno]
    refine A_aload_n0 d_N_cut_0 ?_
    refine A_iconst (v := nI 0) d_N_cut_1 (by decide) ?_
    refine A_iload_n1 d_N_cut_2 ?_
    refine A_callVP d_N_cut_3 (c_N_isToldF hN (by decide) hno) hN.o rfl q_644 q_646 qs_2 mk_N_isTold rfl (by decide) rfl (Nat.le_of_ble_eq_true rfl) ⟨Nat.le_of_ble_eq_true rfl, Nat.le_of_ble_eq_true rfl⟩ ⟨rfl, rfl⟩ ?_
    refine A_if_neB (tgt := 11) d_N_cut_6 (by decide) (fun c => absurd c (by decide)) (fun c_6 => ?_)
    refine A_iconst (v := (-1)) d_N_cut_9 (by decide) ?_
    refine A_iret d_N_cut_10 rfl ⟨Nat.zero_le _, Nat.zero_le _⟩ ?_
    exact sx0 hs rfl
