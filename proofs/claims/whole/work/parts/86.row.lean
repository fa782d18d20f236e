set_option maxHeartbeats 4000000 in
set_option maxRecDepth 100000 in
theorem c_N_row {G : GE} {h : AH} {n : Nat} {W : TD} {c : Nat → Nat} {VL WT BK SG GM : Nat → Nat → Nat} (hN : NT h n W c VL WT BK SG GM) (la ta x : Int32) : Ctr G y_N_row b_N_row 6 (some .int) r_N_row [.ref n, .int la, .int ta, .int x] h (Pu (.int (pick (c 0) la (fun l => pick (c 1) ta (fun t => rowV (VL l) (WT t) x) (-1)) (-1))) h) := by
  refine Ctr.of (by decide +kernel) (by simp) (Nat.le_of_ble_eq_true rfl) (L0 := [some (.ref n), some (.int la), some (.int ta), some (.int x), none, none]) rfl ?_
  have hc0 := (hN.r.n 0 (by decide)).2
  have hc1 := (hN.r.n 1 (by decide)).2
  rcases told_c (n := c 0) (by omega) la with ⟨l, hl, rfl⟩ | hnl
  · rw [pick_in hl (by omega)]
    rcases told_c (n := c 1) (by omega) ta with ⟨t, ht, rfl⟩ | hnt
    · rw [pick_in ht (by omega)]
      have hA := hN.a.l l (by omega)
      have hV := hN.r.l l hl
      have hV0 := hV
      obtain ⟨ok, ⟨f0, f1, f2, f3, f4, f9⟩, hP, hBe, hTo⟩ := hV
      have hH := ok.1
      have h4 := ok.2.2.2.2.1
      have h5 := ok.2.2.2.2.2.1
      have hti : ∀ i, i < VL l 0 → WT t i ≤ 2 := fun i hi => (hN.r.t t ht i (by omega)).2
      have hci : ∀ p, p < VL l 4 → VL l (42 + 27 * p + 0) ≤ 1 := fun p hp => (ok.2.2.2.2.2.2.1 p (by omega)).1
      rcases tsw (x := x) (lo := 0) (hi := 7) (by decide) with ⟨kk, rfl, -, hkb⟩ | ⟨hro, swo⟩
      · rcases (show kk = 0 ∨ kk = 1 ∨ kk = 2 ∨ kk = 3 ∨ kk = 4 ∨ kk = 5 ∨ kk = 6 ∨ kk = 7 by omega) with rfl | rfl | rfl | rfl | rfl | rfl | rfl | rfl
        · refine A_aload_n0 d_N_row_0 ?_
          refine A_iload_n1 d_N_row_1 ?_
          refine A_iload_n2 d_N_row_2 ?_
          refine A_callVP d_N_row_3 (c_N_hasRowT hN hl ht) hN.o rfl q_672 q_674 qs_3 mk_N_hasRow rfl (by decide) rfl (Nat.le_of_ble_eq_true rfl) ⟨Nat.le_of_ble_eq_true rfl, Nat.le_of_ble_eq_true rfl⟩ ⟨rfl, rfl⟩ ?_
          refine A_if_neB (tgt := 11) d_N_row_6 (by decide) (fun c_6 => ?_) (fun c => absurd c (by decide))
          refine A_aload_n0 d_N_row_11 ?_
          refine A_getf (kf := 0) d_N_row_12 hN.o ok_7 (by decide) q_368 rfl ?_
          refine A_getf (kf := 5) d_N_row_15 hN.a.o ok_6 (by decide) q_203 rfl ?_
          refine A_iload_n1 d_N_row_18 ?_
          refine A_aaldN d_N_row_19 hN.a.lands rfl rfl ⟨by omega, by decide⟩ (show va_rf (two (n + 1 + 12) (n + 1 + 29) l) = .ref (n + 1 + 12 + 17 * l) by rw [two_at rfl (by omega)]; rfl) ?_
          refine A_astore4 d_N_row_20 trivial ?_
          refine A_aload_n0 d_N_row_22 ?_
          refine A_getf (kf := 0) d_N_row_23 hN.o ok_7 (by decide) q_368 rfl ?_
          refine A_getf (kf := 6) d_N_row_26 hN.a.o ok_6 (by decide) q_205 rfl ?_
          refine A_iload_n2 d_N_row_29 ?_
          refine A_aaldN d_N_row_30 hN.a.treaties rfl rfl ⟨by omega, by decide⟩ (show va_rf (if t < 2 then some (n + 1 + 5 + t) else none) = .ref (n + 1 + 5 + t) by rw [if_pos (by omega)]; rfl) ?_
          refine A_astore5 d_N_row_31 trivial ?_
          refine A_iload_n3 d_N_row_33 ?_
          refine A_tableIn (tgt := 80) d_N_row_34 (by decide) (by decide) rfl (by decide) ?_
          refine A_aload4 d_N_row_80 ?_
          refine A_aload5 d_N_row_82 ?_
          refine A_callVP d_N_row_84 (c_Ld_isLegal hA hV0 (hN.r.row hN.a ht)) hA.o rfl q_676 q_677 q_678 mk_Ld_isLegal rfl (by decide) rfl (Nat.le_of_ble_eq_true rfl) ⟨Nat.le_of_ble_eq_true rfl, Nat.le_of_ble_eq_true rfl⟩ ⟨rfl, rfl⟩ ?_
          refine A_callSP d_N_row_87 (c_N_oneB _ _) q_692 q_591 mk_N_oneIf rfl (by decide) rfl (Nat.le_of_ble_eq_true rfl) ⟨Nat.le_of_ble_eq_true rfl, Nat.le_of_ble_eq_true rfl⟩ ⟨rfl, rfl⟩ ?_
          refine A_iret d_N_row_90 rfl ⟨Nat.zero_le _, Nat.zero_le _⟩ ?_
          exact pu (by unfold rowV; rw [rg_in ⟨by decide, by decide⟩ (by decide)]; rw [if_pos rfl, legC_eq hH.1 hti])
        · refine A_aload_n0 d_N_row_0 ?_
          refine A_iload_n1 d_N_row_1 ?_
          refine A_iload_n2 d_N_row_2 ?_
          refine A_callVP d_N_row_3 (c_N_hasRowT hN hl ht) hN.o rfl q_672 q_674 qs_3 mk_N_hasRow rfl (by decide) rfl (Nat.le_of_ble_eq_true rfl) ⟨Nat.le_of_ble_eq_true rfl, Nat.le_of_ble_eq_true rfl⟩ ⟨rfl, rfl⟩ ?_
          refine A_if_neB (tgt := 11) d_N_row_6 (by decide) (fun c_6 => ?_) (fun c => absurd c (by decide))
          refine A_aload_n0 d_N_row_11 ?_
          refine A_getf (kf := 0) d_N_row_12 hN.o ok_7 (by decide) q_368 rfl ?_
          refine A_getf (kf := 5) d_N_row_15 hN.a.o ok_6 (by decide) q_203 rfl ?_
          refine A_iload_n1 d_N_row_18 ?_
          refine A_aaldN d_N_row_19 hN.a.lands rfl rfl ⟨by omega, by decide⟩ (show va_rf (two (n + 1 + 12) (n + 1 + 29) l) = .ref (n + 1 + 12 + 17 * l) by rw [two_at rfl (by omega)]; rfl) ?_
          refine A_astore4 d_N_row_20 trivial ?_
          refine A_aload_n0 d_N_row_22 ?_
          refine A_getf (kf := 0) d_N_row_23 hN.o ok_7 (by decide) q_368 rfl ?_
          refine A_getf (kf := 6) d_N_row_26 hN.a.o ok_6 (by decide) q_205 rfl ?_
          refine A_iload_n2 d_N_row_29 ?_
          refine A_aaldN d_N_row_30 hN.a.treaties rfl rfl ⟨by omega, by decide⟩ (show va_rf (if t < 2 then some (n + 1 + 5 + t) else none) = .ref (n + 1 + 5 + t) by rw [if_pos (by omega)]; rfl) ?_
          refine A_astore5 d_N_row_31 trivial ?_
          refine A_iload_n3 d_N_row_33 ?_
          refine A_tableIn (tgt := 91) d_N_row_34 (by decide) (by decide) rfl (by decide) ?_
          refine A_aload4 d_N_row_91 ?_
          refine A_aload5 d_N_row_93 ?_
          refine A_callVP d_N_row_95 (c_Ld_carryings hA hV0 (hN.r.row hN.a ht)) hA.o rfl q_693 q_694 q_695 mk_Ld_carryings rfl (by decide) rfl (Nat.le_of_ble_eq_true rfl) ⟨Nat.le_of_ble_eq_true rfl, Nat.le_of_ble_eq_true rfl⟩ ⟨rfl, rfl⟩ ?_
          refine A_iret d_N_row_98 rfl ⟨Nat.zero_le _, Nat.zero_le _⟩ ?_
          exact pu (by unfold rowV; rw [rg_in ⟨by decide, by decide⟩ (by decide)]; rfl)
        · refine A_aload_n0 d_N_row_0 ?_
          refine A_iload_n1 d_N_row_1 ?_
          refine A_iload_n2 d_N_row_2 ?_
          refine A_callVP d_N_row_3 (c_N_hasRowT hN hl ht) hN.o rfl q_672 q_674 qs_3 mk_N_hasRow rfl (by decide) rfl (Nat.le_of_ble_eq_true rfl) ⟨Nat.le_of_ble_eq_true rfl, Nat.le_of_ble_eq_true rfl⟩ ⟨rfl, rfl⟩ ?_
          refine A_if_neB (tgt := 11) d_N_row_6 (by decide) (fun c_6 => ?_) (fun c => absurd c (by decide))
          refine A_aload_n0 d_N_row_11 ?_
          refine A_getf (kf := 0) d_N_row_12 hN.o ok_7 (by decide) q_368 rfl ?_
          refine A_getf (kf := 5) d_N_row_15 hN.a.o ok_6 (by decide) q_203 rfl ?_
          refine A_iload_n1 d_N_row_18 ?_
          refine A_aaldN d_N_row_19 hN.a.lands rfl rfl ⟨by omega, by decide⟩ (show va_rf (two (n + 1 + 12) (n + 1 + 29) l) = .ref (n + 1 + 12 + 17 * l) by rw [two_at rfl (by omega)]; rfl) ?_
          refine A_astore4 d_N_row_20 trivial ?_
          refine A_aload_n0 d_N_row_22 ?_
          refine A_getf (kf := 0) d_N_row_23 hN.o ok_7 (by decide) q_368 rfl ?_
          refine A_getf (kf := 6) d_N_row_26 hN.a.o ok_6 (by decide) q_205 rfl ?_
          refine A_iload_n2 d_N_row_29 ?_
          refine A_aaldN d_N_row_30 hN.a.treaties rfl rfl ⟨by omega, by decide⟩ (show va_rf (if t < 2 then some (n + 1 + 5 + t) else none) = .ref (n + 1 + 5 + t) by rw [if_pos (by omega)]; rfl) ?_
          refine A_astore5 d_N_row_31 trivial ?_
          refine A_iload_n3 d_N_row_33 ?_
          refine A_tableIn (tgt := 99) d_N_row_34 (by decide) (by decide) rfl (by decide) ?_
          refine A_aload4 d_N_row_99 ?_
          refine A_aload5 d_N_row_101 ?_
          refine A_iconst (v := nI 0) d_N_row_103 (by decide) ?_
          refine A_callVP d_N_row_104 (c_Ld_dark hA hV0 (hN.r.row hN.a ht) 0 (by decide)) hA.o rfl q_702 q_703 q_704 mk_Ld_dark rfl (by decide) rfl (Nat.le_of_ble_eq_true rfl) ⟨Nat.le_of_ble_eq_true rfl, Nat.le_of_ble_eq_true rfl⟩ ⟨rfl, rfl⟩ ?_
          refine A_iret d_N_row_107 rfl ⟨Nat.zero_le _, Nat.zero_le _⟩ ?_
          exact pu (by unfold rowV; rw [rg_in ⟨by decide, by decide⟩ (by decide)]; rfl)
        · refine A_aload_n0 d_N_row_0 ?_
          refine A_iload_n1 d_N_row_1 ?_
          refine A_iload_n2 d_N_row_2 ?_
          refine A_callVP d_N_row_3 (c_N_hasRowT hN hl ht) hN.o rfl q_672 q_674 qs_3 mk_N_hasRow rfl (by decide) rfl (Nat.le_of_ble_eq_true rfl) ⟨Nat.le_of_ble_eq_true rfl, Nat.le_of_ble_eq_true rfl⟩ ⟨rfl, rfl⟩ ?_
          refine A_if_neB (tgt := 11) d_N_row_6 (by decide) (fun c_6 => ?_) (fun c => absurd c (by decide))
          refine A_aload_n0 d_N_row_11 ?_
          refine A_getf (kf := 0) d_N_row_12 hN.o ok_7 (by decide) q_368 rfl ?_
          refine A_getf (kf := 5) d_N_row_15 hN.a.o ok_6 (by decide) q_203 rfl ?_
          refine A_iload_n1 d_N_row_18 ?_
          refine A_aaldN d_N_row_19 hN.a.lands rfl rfl ⟨by omega, by decide⟩ (show va_rf (two (n + 1 + 12) (n + 1 + 29) l) = .ref (n + 1 + 12 + 17 * l) by rw [two_at rfl (by omega)]; rfl) ?_
          refine A_astore4 d_N_row_20 trivial ?_
          refine A_aload_n0 d_N_row_22 ?_
          refine A_getf (kf := 0) d_N_row_23 hN.o ok_7 (by decide) q_368 rfl ?_
          refine A_getf (kf := 6) d_N_row_26 hN.a.o ok_6 (by decide) q_205 rfl ?_
          refine A_iload_n2 d_N_row_29 ?_
          refine A_aaldN d_N_row_30 hN.a.treaties rfl rfl ⟨by omega, by decide⟩ (show va_rf (if t < 2 then some (n + 1 + 5 + t) else none) = .ref (n + 1 + 5 + t) by rw [if_pos (by omega)]; rfl) ?_
          refine A_astore5 d_N_row_31 trivial ?_
          refine A_iload_n3 d_N_row_33 ?_
          refine A_tableIn (tgt := 108) d_N_row_34 (by decide) (by decide) rfl (by decide) ?_
          refine A_aload4 d_N_row_108 ?_
          refine A_aload5 d_N_row_110 ?_
          refine A_iconst (v := nI 1) d_N_row_112 (by decide) ?_
          refine A_callVP d_N_row_113 (c_Ld_dark hA hV0 (hN.r.row hN.a ht) 1 (by decide)) hA.o rfl q_702 q_703 q_704 mk_Ld_dark rfl (by decide) rfl (Nat.le_of_ble_eq_true rfl) ⟨Nat.le_of_ble_eq_true rfl, Nat.le_of_ble_eq_true rfl⟩ ⟨rfl, rfl⟩ ?_
          refine A_iret d_N_row_116 rfl ⟨Nat.zero_le _, Nat.zero_le _⟩ ?_
          exact pu (by unfold rowV; rw [rg_in ⟨by decide, by decide⟩ (by decide)]; rfl)
        · refine A_aload_n0 d_N_row_0 ?_
          refine A_iload_n1 d_N_row_1 ?_
          refine A_iload_n2 d_N_row_2 ?_
          refine A_callVP d_N_row_3 (c_N_hasRowT hN hl ht) hN.o rfl q_672 q_674 qs_3 mk_N_hasRow rfl (by decide) rfl (Nat.le_of_ble_eq_true rfl) ⟨Nat.le_of_ble_eq_true rfl, Nat.le_of_ble_eq_true rfl⟩ ⟨rfl, rfl⟩ ?_
          refine A_if_neB (tgt := 11) d_N_row_6 (by decide) (fun c_6 => ?_) (fun c => absurd c (by decide))
          refine A_aload_n0 d_N_row_11 ?_
          refine A_getf (kf := 0) d_N_row_12 hN.o ok_7 (by decide) q_368 rfl ?_
          refine A_getf (kf := 5) d_N_row_15 hN.a.o ok_6 (by decide) q_203 rfl ?_
          refine A_iload_n1 d_N_row_18 ?_
          refine A_aaldN d_N_row_19 hN.a.lands rfl rfl ⟨by omega, by decide⟩ (show va_rf (two (n + 1 + 12) (n + 1 + 29) l) = .ref (n + 1 + 12 + 17 * l) by rw [two_at rfl (by omega)]; rfl) ?_
          refine A_astore4 d_N_row_20 trivial ?_
          refine A_aload_n0 d_N_row_22 ?_
          refine A_getf (kf := 0) d_N_row_23 hN.o ok_7 (by decide) q_368 rfl ?_
          refine A_getf (kf := 6) d_N_row_26 hN.a.o ok_6 (by decide) q_205 rfl ?_
          refine A_iload_n2 d_N_row_29 ?_
          refine A_aaldN d_N_row_30 hN.a.treaties rfl rfl ⟨by omega, by decide⟩ (show va_rf (if t < 2 then some (n + 1 + 5 + t) else none) = .ref (n + 1 + 5 + t) by rw [if_pos (by omega)]; rfl) ?_
          refine A_astore5 d_N_row_31 trivial ?_
          refine A_iload_n3 d_N_row_33 ?_
          refine A_tableIn (tgt := 117) d_N_row_34 (by decide) (by decide) rfl (by decide) ?_
          refine A_aload4 d_N_row_117 ?_
          refine A_aload4 d_N_row_119 ?_
          refine A_aload5 d_N_row_121 ?_
          refine A_iconst (v := nI 0) d_N_row_123 (by decide) ?_
          refine A_callVP d_N_row_124 (c_Ld_dark hA hV0 (hN.r.row hN.a ht) 0 (by decide)) hA.o rfl q_702 q_703 q_704 mk_Ld_dark rfl (by decide) rfl (Nat.le_of_ble_eq_true rfl) ⟨Nat.le_of_ble_eq_true rfl, Nat.le_of_ble_eq_true rfl⟩ ⟨rfl, rfl⟩ ?_
          refine A_aload4 d_N_row_127 ?_
          refine A_aload5 d_N_row_129 ?_
          refine A_iconst (v := nI 1) d_N_row_131 (by decide) ?_
          refine A_callVP d_N_row_132 (c_Ld_dark hA hV0 (hN.r.row hN.a ht) 1 (by decide)) hA.o rfl q_702 q_703 q_704 mk_Ld_dark rfl (by decide) rfl (Nat.le_of_ble_eq_true rfl) ⟨Nat.le_of_ble_eq_true rfl, Nat.le_of_ble_eq_true rfl⟩ ⟨rfl, rfl⟩ ?_
          refine A_callVP d_N_row_135 (c_Ld_sleepless hA hV0 (darkN (WT t) 0 (VL l 0)) (darkN (WT t) 1 (VL l 0)) (darkN_le _ _ _) (darkN_le _ _ _)) hA.o rfl q_706 q_707 q_708 mk_Ld_sleepless rfl (by decide) rfl (Nat.le_of_ble_eq_true rfl) ⟨Nat.le_of_ble_eq_true rfl, Nat.le_of_ble_eq_true rfl⟩ ⟨rfl, rfl⟩ ?_
          first | refine A_if_neN (tgt := 145) d_N_row_138 (by decide) (by with_reducible rfl) (by omega) (fun c_138 => ?_) (fun c_138 => ?_) | refine A_if_ne (tgt := 145) d_N_row_138 (by decide) (fun c_138 => ?_) (fun c_138 => ?_)
          · refine A_iconst (v := nI 0) d_N_row_145 (by decide) ?_
            refine A_callSP d_N_row_146 (c_N_one0 _) q_692 q_591 mk_N_oneIf rfl (by decide) rfl (Nat.le_of_ble_eq_true rfl) ⟨Nat.le_of_ble_eq_true rfl, Nat.le_of_ble_eq_true rfl⟩ ⟨rfl, rfl⟩ ?_
            refine A_iret d_N_row_149 rfl ⟨Nat.zero_le _, Nat.zero_le _⟩ ?_
            exact pu (by unfold rowV; rw [rg_in ⟨by decide, by decide⟩ (by decide)]; first | (rw [c_138]; rfl) | (rw [if_neg (by decide), if_neg (by decide), if_neg (by decide), if_neg (by decide), if_pos rfl, decide_eq_true c_138]; rfl) | (rw [if_neg (by decide), if_neg (by decide), if_neg (by decide), if_neg (by decide), if_pos rfl, decide_eq_false c_138]; rfl))
          · refine A_iconst (v := nI 1) d_N_row_141 (by decide) ?_
            refine A_goto (tgt := 146) d_N_row_142 (by decide) ?_
            refine A_callSP d_N_row_146 (c_N_one1 _) q_692 q_591 mk_N_oneIf rfl (by decide) rfl (Nat.le_of_ble_eq_true rfl) ⟨Nat.le_of_ble_eq_true rfl, Nat.le_of_ble_eq_true rfl⟩ ⟨rfl, rfl⟩ ?_
            refine A_iret d_N_row_149 rfl ⟨Nat.zero_le _, Nat.zero_le _⟩ ?_
            exact pu (by unfold rowV; rw [rg_in ⟨by decide, by decide⟩ (by decide)]; first | (rw [c_138]; rfl) | (rw [if_neg (by decide), if_neg (by decide), if_neg (by decide), if_neg (by decide), if_pos rfl, decide_eq_true c_138]; rfl) | (rw [if_neg (by decide), if_neg (by decide), if_neg (by decide), if_neg (by decide), if_pos rfl, decide_eq_false c_138]; rfl))
        · refine A_aload_n0 d_N_row_0 ?_
          refine A_iload_n1 d_N_row_1 ?_
          refine A_iload_n2 d_N_row_2 ?_
          refine A_callVP d_N_row_3 (c_N_hasRowT hN hl ht) hN.o rfl q_672 q_674 qs_3 mk_N_hasRow rfl (by decide) rfl (Nat.le_of_ble_eq_true rfl) ⟨Nat.le_of_ble_eq_true rfl, Nat.le_of_ble_eq_true rfl⟩ ⟨rfl, rfl⟩ ?_
          refine A_if_neB (tgt := 11) d_N_row_6 (by decide) (fun c_6 => ?_) (fun c => absurd c (by decide))
          refine A_aload_n0 d_N_row_11 ?_
          refine A_getf (kf := 0) d_N_row_12 hN.o ok_7 (by decide) q_368 rfl ?_
          refine A_getf (kf := 5) d_N_row_15 hN.a.o ok_6 (by decide) q_203 rfl ?_
          refine A_iload_n1 d_N_row_18 ?_
          refine A_aaldN d_N_row_19 hN.a.lands rfl rfl ⟨by omega, by decide⟩ (show va_rf (two (n + 1 + 12) (n + 1 + 29) l) = .ref (n + 1 + 12 + 17 * l) by rw [two_at rfl (by omega)]; rfl) ?_
          refine A_astore4 d_N_row_20 trivial ?_
          refine A_aload_n0 d_N_row_22 ?_
          refine A_getf (kf := 0) d_N_row_23 hN.o ok_7 (by decide) q_368 rfl ?_
          refine A_getf (kf := 6) d_N_row_26 hN.a.o ok_6 (by decide) q_205 rfl ?_
          refine A_iload_n2 d_N_row_29 ?_
          refine A_aaldN d_N_row_30 hN.a.treaties rfl rfl ⟨by omega, by decide⟩ (show va_rf (if t < 2 then some (n + 1 + 5 + t) else none) = .ref (n + 1 + 5 + t) by rw [if_pos (by omega)]; rfl) ?_
          refine A_astore5 d_N_row_31 trivial ?_
          refine A_iload_n3 d_N_row_33 ?_
          refine A_tableIn (tgt := 150) d_N_row_34 (by decide) (by decide) rfl (by decide) ?_
          refine A_aload4 d_N_row_150 ?_
          refine A_aload5 d_N_row_152 ?_
          refine A_callVP d_N_row_154 (c_Ld_valueOf hA hV0 (hN.r.row hN.a ht)) hA.o rfl q_710 q_711 q_712 mk_Ld_valueOf rfl (by decide) rfl (Nat.le_of_ble_eq_true rfl) ⟨Nat.le_of_ble_eq_true rfl, Nat.le_of_ble_eq_true rfl⟩ ⟨rfl, rfl⟩ ?_
          refine A_iret d_N_row_157 rfl ⟨Nat.zero_le _, Nat.zero_le _⟩ ?_
          exact pu (by unfold rowV; rw [rg_in ⟨by decide, by decide⟩ (by decide)]; rw [if_neg (by decide), if_neg (by decide), if_neg (by decide), if_neg (by decide), if_neg (by decide), if_pos rfl, valC_eq hci])
        · refine A_aload_n0 d_N_row_0 ?_
          refine A_iload_n1 d_N_row_1 ?_
          refine A_iload_n2 d_N_row_2 ?_
          refine A_callVP d_N_row_3 (c_N_hasRowT hN hl ht) hN.o rfl q_672 q_674 qs_3 mk_N_hasRow rfl (by decide) rfl (Nat.le_of_ble_eq_true rfl) ⟨Nat.le_of_ble_eq_true rfl, Nat.le_of_ble_eq_true rfl⟩ ⟨rfl, rfl⟩ ?_
          refine A_if_neB (tgt := 11) d_N_row_6 (by decide) (fun c_6 => ?_) (fun c => absurd c (by decide))
          refine A_aload_n0 d_N_row_11 ?_
          refine A_getf (kf := 0) d_N_row_12 hN.o ok_7 (by decide) q_368 rfl ?_
          refine A_getf (kf := 5) d_N_row_15 hN.a.o ok_6 (by decide) q_203 rfl ?_
          refine A_iload_n1 d_N_row_18 ?_
          refine A_aaldN d_N_row_19 hN.a.lands rfl rfl ⟨by omega, by decide⟩ (show va_rf (two (n + 1 + 12) (n + 1 + 29) l) = .ref (n + 1 + 12 + 17 * l) by rw [two_at rfl (by omega)]; rfl) ?_
          refine A_astore4 d_N_row_20 trivial ?_
          refine A_aload_n0 d_N_row_22 ?_
          refine A_getf (kf := 0) d_N_row_23 hN.o ok_7 (by decide) q_368 rfl ?_
          refine A_getf (kf := 6) d_N_row_26 hN.a.o ok_6 (by decide) q_205 rfl ?_
          refine A_iload_n2 d_N_row_29 ?_
          refine A_aaldN d_N_row_30 hN.a.treaties rfl rfl ⟨by omega, by decide⟩ (show va_rf (if t < 2 then some (n + 1 + 5 + t) else none) = .ref (n + 1 + 5 + t) by rw [if_pos (by omega)]; rfl) ?_
          refine A_astore5 d_N_row_31 trivial ?_
          refine A_iload_n3 d_N_row_33 ?_
          refine A_tableIn (tgt := 158) d_N_row_34 (by decide) (by decide) rfl (by decide) ?_
          refine A_aload4 d_N_row_158 ?_
          refine A_aload5 d_N_row_160 ?_
          refine A_callVP d_N_row_162 (c_Ld_priceOf hA hV0 (hN.r.row hN.a ht)) hA.o rfl q_718 q_719 q_720 mk_Ld_priceOf rfl (by decide) rfl (Nat.le_of_ble_eq_true rfl) ⟨Nat.le_of_ble_eq_true rfl, Nat.le_of_ble_eq_true rfl⟩ ⟨rfl, rfl⟩ ?_
          refine A_iret d_N_row_165 rfl ⟨Nat.zero_le _, Nat.zero_le _⟩ ?_
          exact pu (by unfold rowV; rw [rg_in ⟨by decide, by decide⟩ (by decide)]; rfl)
        · refine A_aload_n0 d_N_row_0 ?_
          refine A_iload_n1 d_N_row_1 ?_
          refine A_iload_n2 d_N_row_2 ?_
          refine A_callVP d_N_row_3 (c_N_hasRowT hN hl ht) hN.o rfl q_672 q_674 qs_3 mk_N_hasRow rfl (by decide) rfl (Nat.le_of_ble_eq_true rfl) ⟨Nat.le_of_ble_eq_true rfl, Nat.le_of_ble_eq_true rfl⟩ ⟨rfl, rfl⟩ ?_
          refine A_if_neB (tgt := 11) d_N_row_6 (by decide) (fun c_6 => ?_) (fun c => absurd c (by decide))
          refine A_aload_n0 d_N_row_11 ?_
          refine A_getf (kf := 0) d_N_row_12 hN.o ok_7 (by decide) q_368 rfl ?_
          refine A_getf (kf := 5) d_N_row_15 hN.a.o ok_6 (by decide) q_203 rfl ?_
          refine A_iload_n1 d_N_row_18 ?_
          refine A_aaldN d_N_row_19 hN.a.lands rfl rfl ⟨by omega, by decide⟩ (show va_rf (two (n + 1 + 12) (n + 1 + 29) l) = .ref (n + 1 + 12 + 17 * l) by rw [two_at rfl (by omega)]; rfl) ?_
          refine A_astore4 d_N_row_20 trivial ?_
          refine A_aload_n0 d_N_row_22 ?_
          refine A_getf (kf := 0) d_N_row_23 hN.o ok_7 (by decide) q_368 rfl ?_
          refine A_getf (kf := 6) d_N_row_26 hN.a.o ok_6 (by decide) q_205 rfl ?_
          refine A_iload_n2 d_N_row_29 ?_
          refine A_aaldN d_N_row_30 hN.a.treaties rfl rfl ⟨by omega, by decide⟩ (show va_rf (if t < 2 then some (n + 1 + 5 + t) else none) = .ref (n + 1 + 5 + t) by rw [if_pos (by omega)]; rfl) ?_
          refine A_astore5 d_N_row_31 trivial ?_
          refine A_iload_n3 d_N_row_33 ?_
          refine A_tableIn (tgt := 166) d_N_row_34 (by decide) (by decide) rfl (by decide) ?_
          refine A_aload4 d_N_row_166 ?_
          refine A_aload4 d_N_row_168 ?_
          refine A_aload5 d_N_row_170 ?_
          refine A_iconst (v := nI 0) d_N_row_172 (by decide) ?_
          refine A_callVP d_N_row_173 (c_Ld_dark hA hV0 (hN.r.row hN.a ht) 0 (by decide)) hA.o rfl q_702 q_703 q_704 mk_Ld_dark rfl (by decide) rfl (Nat.le_of_ble_eq_true rfl) ⟨Nat.le_of_ble_eq_true rfl, Nat.le_of_ble_eq_true rfl⟩ ⟨rfl, rfl⟩ ?_
          refine A_aload4 d_N_row_176 ?_
          refine A_aload5 d_N_row_178 ?_
          refine A_iconst (v := nI 1) d_N_row_180 (by decide) ?_
          refine A_callVP d_N_row_181 (c_Ld_dark hA hV0 (hN.r.row hN.a ht) 1 (by decide)) hA.o rfl q_702 q_703 q_704 mk_Ld_dark rfl (by decide) rfl (Nat.le_of_ble_eq_true rfl) ⟨Nat.le_of_ble_eq_true rfl, Nat.le_of_ble_eq_true rfl⟩ ⟨rfl, rfl⟩ ?_
          refine A_callVP d_N_row_184 (c_Ld_sleepless hA hV0 (darkN (WT t) 0 (VL l 0)) (darkN (WT t) 1 (VL l 0)) (darkN_le _ _ _) (darkN_le _ _ _)) hA.o rfl q_706 q_707 q_708 mk_Ld_sleepless rfl (by decide) rfl (Nat.le_of_ble_eq_true rfl) ⟨Nat.le_of_ble_eq_true rfl, Nat.le_of_ble_eq_true rfl⟩ ⟨rfl, rfl⟩ ?_
          refine A_iret d_N_row_187 rfl ⟨Nat.zero_le _, Nat.zero_le _⟩ ?_
          exact pu (by unfold rowV; rw [rg_in ⟨by decide, by decide⟩ (by decide)]; rfl)
      · refine A_aload_n0 d_N_row_0 ?_
        refine A_iload_n1 d_N_row_1 ?_
        refine A_iload_n2 d_N_row_2 ?_
        refine A_callVP d_N_row_3 (c_N_hasRowT hN hl ht) hN.o rfl q_672 q_674 qs_3 mk_N_hasRow rfl (by decide) rfl (Nat.le_of_ble_eq_true rfl) ⟨Nat.le_of_ble_eq_true rfl, Nat.le_of_ble_eq_true rfl⟩ ⟨rfl, rfl⟩ ?_
        refine A_if_neB (tgt := 11) d_N_row_6 (by decide) (fun c_6 => ?_) (fun c => absurd c (by decide))
        refine A_aload_n0 d_N_row_11 ?_
        refine A_getf (kf := 0) d_N_row_12 hN.o ok_7 (by decide) q_368 rfl ?_
        refine A_getf (kf := 5) d_N_row_15 hN.a.o ok_6 (by decide) q_203 rfl ?_
        refine A_iload_n1 d_N_row_18 ?_
        refine A_aaldN d_N_row_19 hN.a.lands rfl rfl ⟨by omega, by decide⟩ (show va_rf (two (n + 1 + 12) (n + 1 + 29) l) = .ref (n + 1 + 12 + 17 * l) by rw [two_at rfl (by omega)]; rfl) ?_
        refine A_astore4 d_N_row_20 trivial ?_
        refine A_aload_n0 d_N_row_22 ?_
        refine A_getf (kf := 0) d_N_row_23 hN.o ok_7 (by decide) q_368 rfl ?_
        refine A_getf (kf := 6) d_N_row_26 hN.a.o ok_6 (by decide) q_205 rfl ?_
        refine A_iload_n2 d_N_row_29 ?_
        refine A_aaldN d_N_row_30 hN.a.treaties rfl rfl ⟨by omega, by decide⟩ (show va_rf (if t < 2 then some (n + 1 + 5 + t) else none) = .ref (n + 1 + 5 + t) by rw [if_pos (by omega)]; rfl) ?_
        refine A_astore5 d_N_row_31 trivial ?_
        refine A_iload_n3 d_N_row_33 ?_
        refine A_tableOut (tgt := 188) d_N_row_34 swo (by decide) ?_
        refine A_iconst (v := (-1)) d_N_row_188 (by decide) ?_
        refine A_iret d_N_row_189 rfl ⟨Nat.zero_le _, Nat.zero_le _⟩ ?_
        exact pu (by unfold rowV; rw [rg_out hro])
    · rw [pick_out hnt]
      refine A_aload_n0 d_N_row_0 ?_
      refine A_iload_n1 d_N_row_1 ?_
      refine A_iload_n2 d_N_row_2 ?_
      refine A_callVP d_N_row_3 (c_N_hasRowF hN (.inr hnt)) hN.o rfl q_672 q_674 qs_3 mk_N_hasRow rfl (by decide) rfl (Nat.le_of_ble_eq_true rfl) ⟨Nat.le_of_ble_eq_true rfl, Nat.le_of_ble_eq_true rfl⟩ ⟨rfl, rfl⟩ ?_
      refine A_if_neB (tgt := 11) d_N_row_6 (by decide) (fun c => absurd c (by decide)) (fun c_6 => ?_)
      refine A_iconst (v := (-1)) d_N_row_9 (by decide) ?_
      refine A_iret d_N_row_10 rfl ⟨Nat.zero_le _, Nat.zero_le _⟩ ?_
      exact pu rfl
  · rw [pick_out hnl]
    refine A_aload_n0 d_N_row_0 ?_
    refine A_iload_n1 d_N_row_1 ?_
    refine A_iload_n2 d_N_row_2 ?_
    refine A_callVP d_N_row_3 (c_N_hasRowF hN (.inl hnl)) hN.o rfl q_672 q_674 qs_3 mk_N_hasRow rfl (by decide) rfl (Nat.le_of_ble_eq_true rfl) ⟨Nat.le_of_ble_eq_true rfl, Nat.le_of_ble_eq_true rfl⟩ ⟨rfl, rfl⟩ ?_
    refine A_if_neB (tgt := 11) d_N_row_6 (by decide) (fun c => absurd c (by decide)) (fun c_6 => ?_)
    refine A_iconst (v := (-1)) d_N_row_9 (by decide) ?_
    refine A_iret d_N_row_10 rfl ⟨Nat.zero_le _, Nat.zero_le _⟩ ?_
    exact pu rfl
