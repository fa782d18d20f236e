set_option maxHeartbeats 4000000 in
set_option maxRecDepth 100000 in
theorem c_N_drawn {G : GE} {h : AH} {n : Nat} {W : TD} {c : Nat → Nat} {VL WT BK SG GM : Nat → Nat → Nat} (hN : NT h n W c VL WT BK SG GM) (la ta x da k : Int32) : Ctr G y_N_drawn b_N_drawn 8 (some .int) r_N_drawn [.ref n, .int la, .int ta, .int x, .int da, .int k] h (Pu (.int (rg da 1 60 (fun d => pick (c 0) la (fun l => pick (c 1) ta (fun t => drawnV (VL l) (WT t) x d k) (-2)) (-2)) (-2))) h) := by
  refine Ctr.of (by decide +kernel) (by simp) (Nat.le_of_ble_eq_true rfl) (L0 := [some (.ref n), some (.int la), some (.int ta), some (.int x), some (.int da), some (.int k), none, none]) rfl ?_
  have hc0 := (hN.r.n 0 (by decide)).2
  have hc1 := (hN.r.n 1 (by decide)).2
  rcases rg_c (lo := 1) (hi := 60) (by decide) (by decide) da with ⟨d, hd1, hd2, rfl⟩ | hro
  · rw [rg_in ⟨hd1, hd2⟩ (by decide)]
    rcases told_c (n := c 0) (by omega) la with ⟨l, hl, rfl⟩ | hnl
    · rw [pick_in hl (by omega)]
      rcases told_c (n := c 1) (by omega) ta with ⟨t, ht, rfl⟩ | hnt
      · rw [pick_in ht (by omega)]
        have hA := hN.a.l l (by omega)
        have hV := hN.r.l l hl
        have hV0 := hV
        obtain ⟨ok, ⟨f0, f1, f2, f3, f4, f9⟩, hP, hBe, hTo⟩ := hV
        have hH := ok.1
        have h4 := ok.2.2.2.2.1
        have h5 := ok.2.2.2.2.2.1
        unfold drawnV
        by_cases hk : k < 0
        · refine A_aload_n0 d_N_drawn_0 ?_
          refine A_iload_n1 d_N_drawn_1 ?_
          refine A_iload_n2 d_N_drawn_2 ?_
          refine A_callVP d_N_drawn_3 (c_N_hasRowT hN hl ht) hN.o rfl q_672 q_674 qs_3 mk_N_hasRow rfl (by decide) rfl (Nat.le_of_ble_eq_true rfl) ⟨Nat.le_of_ble_eq_true rfl, Nat.le_of_ble_eq_true rfl⟩ ⟨rfl, rfl⟩ ?_
          refine A_if_eqB (tgt := 27) d_N_drawn_6 (by decide) (fun c => absurd c (by decide)) (fun c_6 => ?_)
          refine A_iload4 d_N_drawn_9 ?_
          refine A_iconst (v := nI 1) d_N_drawn_11 (by decide) ?_
          first | refine A_icmp_ltN (tgt := 27) d_N_drawn_12 (by decide) (by with_reducible rfl) (by with_reducible rfl) (by omega) (by omega) (fun c_12 => ?_) (fun c_12 => ?_) | refine A_icmp_lt (tgt := 27) d_N_drawn_12 (by decide) (fun c_12 => ?_) (fun c_12 => ?_)
          · refine A_bipush (v := (-2)) d_N_drawn_27 (by decide) ?_
            refine A_iret d_N_drawn_29 rfl ⟨Nat.zero_le _, Nat.zero_le _⟩ ?_
            first | (exfalso; omega) | exact pu (by rw [rg_neg hk (by decide), rg_neg hk (by decide)])
          · refine A_iload4 d_N_drawn_15 ?_
            refine A_bipush (v := nI 60) d_N_drawn_17 (by decide) ?_
            first | refine A_icmp_gtN (tgt := 27) d_N_drawn_19 (by decide) (by with_reducible rfl) (by with_reducible rfl) (by omega) (by omega) (fun c_19 => ?_) (fun c_19 => ?_) | refine A_icmp_gt (tgt := 27) d_N_drawn_19 (by decide) (fun c_19 => ?_) (fun c_19 => ?_)
            · refine A_bipush (v := (-2)) d_N_drawn_27 (by decide) ?_
              refine A_iret d_N_drawn_29 rfl ⟨Nat.zero_le _, Nat.zero_le _⟩ ?_
              first | (exfalso; omega) | exact pu (by rw [rg_neg hk (by decide), rg_neg hk (by decide)])
            · refine A_iload5 d_N_drawn_22 ?_
              refine A_if_ge (tgt := 30) d_N_drawn_24 (by decide) (fun c => absurd hk (Int32.not_lt.mpr c)) (fun c_24 => ?_)
              refine A_bipush (v := (-2)) d_N_drawn_27 (by decide) ?_
              refine A_iret d_N_drawn_29 rfl ⟨Nat.zero_le _, Nat.zero_le _⟩ ?_
              first | (exfalso; omega) | exact pu (by rw [rg_neg hk (by decide), rg_neg hk (by decide)])
        · obtain ⟨j, hj, rfl⟩ := nI_of hk
          rw [rgN hj (by decide) (by decide), rgN hj (by decide) (by omega)]
          rcases (show j = 0 ∨ j = 1 ∨ (10 ≤ j ∧ j ≤ 9 + VL l 4) ∨ (2 ≤ j ∧ j < 10) ∨ 9 + VL l 4 < j by omega) with rfl | rfl | hjj | hjj | hjj
          · refine A_aload_n0 d_N_drawn_0 ?_
            refine A_iload_n1 d_N_drawn_1 ?_
            refine A_iload_n2 d_N_drawn_2 ?_
            refine A_callVP d_N_drawn_3 (c_N_hasRowT hN hl ht) hN.o rfl q_672 q_674 qs_3 mk_N_hasRow rfl (by decide) rfl (Nat.le_of_ble_eq_true rfl) ⟨Nat.le_of_ble_eq_true rfl, Nat.le_of_ble_eq_true rfl⟩ ⟨rfl, rfl⟩ ?_
            refine A_if_eqB (tgt := 27) d_N_drawn_6 (by decide) (fun c => absurd c (by decide)) (fun c_6 => ?_)
            refine A_iload4 d_N_drawn_9 ?_
            refine A_iconst (v := nI 1) d_N_drawn_11 (by decide) ?_
            first | refine A_icmp_ltN (tgt := 27) d_N_drawn_12 (by decide) (by with_reducible rfl) (by with_reducible rfl) (by omega) (by omega) (fun c_12 => ?_) (fun c_12 => ?_) | refine A_icmp_lt (tgt := 27) d_N_drawn_12 (by decide) (fun c_12 => ?_) (fun c_12 => ?_)
            · refine A_bipush (v := (-2)) d_N_drawn_27 (by decide) ?_
              refine A_iret d_N_drawn_29 rfl ⟨Nat.zero_le _, Nat.zero_le _⟩ ?_
              first | (exfalso; omega) | exact pu (by rw [if_pos (by omega), if_pos rfl])
            · refine A_iload4 d_N_drawn_15 ?_
              refine A_bipush (v := nI 60) d_N_drawn_17 (by decide) ?_
              first | refine A_icmp_gtN (tgt := 27) d_N_drawn_19 (by decide) (by with_reducible rfl) (by with_reducible rfl) (by omega) (by omega) (fun c_19 => ?_) (fun c_19 => ?_) | refine A_icmp_gt (tgt := 27) d_N_drawn_19 (by decide) (fun c_19 => ?_) (fun c_19 => ?_)
              · refine A_bipush (v := (-2)) d_N_drawn_27 (by decide) ?_
                refine A_iret d_N_drawn_29 rfl ⟨Nat.zero_le _, Nat.zero_le _⟩ ?_
                first | (exfalso; omega) | exact pu (by rw [if_pos (by omega), if_pos rfl])
              · refine A_iload5 d_N_drawn_22 ?_
                refine A_if_ge (tgt := 30) d_N_drawn_24 (by decide) (fun c_24 => ?_) (fun c => absurd (by decide) c)
                refine A_aload_n0 d_N_drawn_30 ?_
                refine A_getf (kf := 0) d_N_drawn_31 hN.o ok_7 (by decide) q_368 rfl ?_
                refine A_getf (kf := 5) d_N_drawn_34 hN.a.o ok_6 (by decide) q_203 rfl ?_
                refine A_iload_n1 d_N_drawn_37 ?_
                refine A_aaldN d_N_drawn_38 hN.a.lands rfl rfl ⟨by omega, by decide⟩ (show va_rf (two (n + 1 + 12) (n + 1 + 29) l) = .ref (n + 1 + 12 + 17 * l) by rw [two_at rfl (by omega)]; rfl) ?_
                refine A_astore6 d_N_drawn_39 trivial ?_
                refine A_iload5 d_N_drawn_41 ?_
                refine A_iconst (v := nI 1) d_N_drawn_43 (by decide) ?_
                refine A_icmp_le (tgt := 63) d_N_drawn_44 (by decide) (fun c_44 => ?_) (fun c => absurd c (by decide))
                refine A_aload_n0 d_N_drawn_63 ?_
                refine A_getf (kf := 0) d_N_drawn_64 hN.o ok_7 (by decide) q_368 rfl ?_
                refine A_getf (kf := 6) d_N_drawn_67 hN.a.o ok_6 (by decide) q_205 rfl ?_
                refine A_iload_n2 d_N_drawn_70 ?_
                refine A_aaldN d_N_drawn_71 hN.a.treaties rfl rfl ⟨by omega, by decide⟩ (show va_rf (if t < 2 then some (n + 1 + 5 + t) else none) = .ref (n + 1 + 5 + t) by rw [if_pos (by omega)]; rfl) ?_
                refine A_astore7 d_N_drawn_72 trivial ?_
                refine A_iload5 d_N_drawn_74 ?_
                refine A_iconst (v := nI 1) d_N_drawn_76 (by decide) ?_
                refine A_icmp_ne (tgt := 91) d_N_drawn_77 (by decide) (fun c_77 => ?_) (fun c => absurd c (by decide))
                refine A_iload5 d_N_drawn_91 ?_
                refine A_if_ne (tgt := 109) d_N_drawn_93 (by decide) (fun c => absurd rfl c) (fun c_93 => ?_)
                refine A_aload6 d_N_drawn_96 ?_
                refine A_aload7 d_N_drawn_98 ?_
                refine A_iload_n3 d_N_drawn_100 ?_
                refine A_iload4 d_N_drawn_101 ?_
                refine A_callSP d_N_drawn_103 (c_N_drawnVillages hA hV0 (hN.r.row hN.a ht) x d hd2) q_1028 q_1029 mk_N_drawnVillages rfl (by decide) rfl (Nat.le_of_ble_eq_true rfl) ⟨Nat.le_of_ble_eq_true rfl, Nat.le_of_ble_eq_true rfl⟩ ⟨rfl, rfl⟩ ?_
                refine A_goto (tgt := 124) d_N_drawn_106 (by decide) ?_
                refine A_iret d_N_drawn_124 rfl ⟨Nat.zero_le _, Nat.zero_le _⟩ ?_
                first | (exfalso; omega) | exact pu (by rw [if_pos (by omega), if_pos rfl])
          · refine A_aload_n0 d_N_drawn_0 ?_
            refine A_iload_n1 d_N_drawn_1 ?_
            refine A_iload_n2 d_N_drawn_2 ?_
            refine A_callVP d_N_drawn_3 (c_N_hasRowT hN hl ht) hN.o rfl q_672 q_674 qs_3 mk_N_hasRow rfl (by decide) rfl (Nat.le_of_ble_eq_true rfl) ⟨Nat.le_of_ble_eq_true rfl, Nat.le_of_ble_eq_true rfl⟩ ⟨rfl, rfl⟩ ?_
            refine A_if_eqB (tgt := 27) d_N_drawn_6 (by decide) (fun c => absurd c (by decide)) (fun c_6 => ?_)
            refine A_iload4 d_N_drawn_9 ?_
            refine A_iconst (v := nI 1) d_N_drawn_11 (by decide) ?_
            first | refine A_icmp_ltN (tgt := 27) d_N_drawn_12 (by decide) (by with_reducible rfl) (by with_reducible rfl) (by omega) (by omega) (fun c_12 => ?_) (fun c_12 => ?_) | refine A_icmp_lt (tgt := 27) d_N_drawn_12 (by decide) (fun c_12 => ?_) (fun c_12 => ?_)
            · refine A_bipush (v := (-2)) d_N_drawn_27 (by decide) ?_
              refine A_iret d_N_drawn_29 rfl ⟨Nat.zero_le _, Nat.zero_le _⟩ ?_
              first | (exfalso; omega) | exact pu (by rw [if_pos (by omega), if_neg (by decide), yearQ_it, itQ_n]; exact congrArg (fun z => Value.int (nI z)) (Nat.zero_add _).symm)
            · refine A_iload4 d_N_drawn_15 ?_
              refine A_bipush (v := nI 60) d_N_drawn_17 (by decide) ?_
              first | refine A_icmp_gtN (tgt := 27) d_N_drawn_19 (by decide) (by with_reducible rfl) (by with_reducible rfl) (by omega) (by omega) (fun c_19 => ?_) (fun c_19 => ?_) | refine A_icmp_gt (tgt := 27) d_N_drawn_19 (by decide) (fun c_19 => ?_) (fun c_19 => ?_)
              · refine A_bipush (v := (-2)) d_N_drawn_27 (by decide) ?_
                refine A_iret d_N_drawn_29 rfl ⟨Nat.zero_le _, Nat.zero_le _⟩ ?_
                first | (exfalso; omega) | exact pu (by rw [if_pos (by omega), if_neg (by decide), yearQ_it, itQ_n]; exact congrArg (fun z => Value.int (nI z)) (Nat.zero_add _).symm)
              · refine A_iload5 d_N_drawn_22 ?_
                refine A_if_ge (tgt := 30) d_N_drawn_24 (by decide) (fun c_24 => ?_) (fun c => absurd (by decide) c)
                refine A_aload_n0 d_N_drawn_30 ?_
                refine A_getf (kf := 0) d_N_drawn_31 hN.o ok_7 (by decide) q_368 rfl ?_
                refine A_getf (kf := 5) d_N_drawn_34 hN.a.o ok_6 (by decide) q_203 rfl ?_
                refine A_iload_n1 d_N_drawn_37 ?_
                refine A_aaldN d_N_drawn_38 hN.a.lands rfl rfl ⟨by omega, by decide⟩ (show va_rf (two (n + 1 + 12) (n + 1 + 29) l) = .ref (n + 1 + 12 + 17 * l) by rw [two_at rfl (by omega)]; rfl) ?_
                refine A_astore6 d_N_drawn_39 trivial ?_
                refine A_iload5 d_N_drawn_41 ?_
                refine A_iconst (v := nI 1) d_N_drawn_43 (by decide) ?_
                refine A_icmp_le (tgt := 63) d_N_drawn_44 (by decide) (fun c_44 => ?_) (fun c => absurd c (by decide))
                refine A_aload_n0 d_N_drawn_63 ?_
                refine A_getf (kf := 0) d_N_drawn_64 hN.o ok_7 (by decide) q_368 rfl ?_
                refine A_getf (kf := 6) d_N_drawn_67 hN.a.o ok_6 (by decide) q_205 rfl ?_
                refine A_iload_n2 d_N_drawn_70 ?_
                refine A_aaldN d_N_drawn_71 hN.a.treaties rfl rfl ⟨by omega, by decide⟩ (show va_rf (if t < 2 then some (n + 1 + 5 + t) else none) = .ref (n + 1 + 5 + t) by rw [if_pos (by omega)]; rfl) ?_
                refine A_astore7 d_N_drawn_72 trivial ?_
                refine A_iload5 d_N_drawn_74 ?_
                refine A_iconst (v := nI 1) d_N_drawn_76 (by decide) ?_
                refine A_icmp_ne (tgt := 91) d_N_drawn_77 (by decide) (fun c => absurd rfl c) (fun c_77 => ?_)
                refine A_iload4 d_N_drawn_80 ?_
                refine A_aload6 d_N_drawn_82 ?_
                refine A_aload7 d_N_drawn_84 ?_
                refine A_callVP d_N_drawn_86 (c_Ld_carryings hA hV0 (hN.r.row hN.a ht)) hA.o rfl q_693 q_694 q_695 mk_Ld_carryings rfl (by decide) rfl (Nat.le_of_ble_eq_true rfl) ⟨Nat.le_of_ble_eq_true rfl, Nat.le_of_ble_eq_true rfl⟩ ⟨rfl, rfl⟩ ?_
                first | refine A_imulN d_N_drawn_89 (by with_reducible rfl) (by with_reducible rfl) ?_ | refine A_imul d_N_drawn_89 ?_
                refine A_iret d_N_drawn_90 rfl ⟨Nat.zero_le _, Nat.zero_le _⟩ ?_
                first | (exfalso; omega) | exact pu (by rw [if_pos (by omega), if_neg (by decide), yearQ_it, itQ_n]; exact congrArg (fun z => Value.int (nI z)) (Nat.zero_add _).symm)
          · rw [if_neg (by omega), if_pos (by omega)]
            refine A_aload_n0 d_N_drawn_0 ?_
            refine A_iload_n1 d_N_drawn_1 ?_
            refine A_iload_n2 d_N_drawn_2 ?_
            refine A_callVP d_N_drawn_3 (c_N_hasRowT hN hl ht) hN.o rfl q_672 q_674 qs_3 mk_N_hasRow rfl (by decide) rfl (Nat.le_of_ble_eq_true rfl) ⟨Nat.le_of_ble_eq_true rfl, Nat.le_of_ble_eq_true rfl⟩ ⟨rfl, rfl⟩ ?_
            refine A_if_eqB (tgt := 27) d_N_drawn_6 (by decide) (fun c => absurd c (by decide)) (fun c_6 => ?_)
            refine A_iload4 d_N_drawn_9 ?_
            refine A_iconst (v := nI 1) d_N_drawn_11 (by decide) ?_
            first | refine A_icmp_ltN (tgt := 27) d_N_drawn_12 (by decide) (by with_reducible rfl) (by with_reducible rfl) (by omega) (by omega) (fun c_12 => ?_) (fun c_12 => ?_) | refine A_icmp_lt (tgt := 27) d_N_drawn_12 (by decide) (fun c_12 => ?_) (fun c_12 => ?_)
            · refine A_bipush (v := (-2)) d_N_drawn_27 (by decide) ?_
              refine A_iret d_N_drawn_29 rfl ⟨Nat.zero_le _, Nat.zero_le _⟩ ?_
              first | (exfalso; omega) | exact pu rfl
            · refine A_iload4 d_N_drawn_15 ?_
              refine A_bipush (v := nI 60) d_N_drawn_17 (by decide) ?_
              first | refine A_icmp_gtN (tgt := 27) d_N_drawn_19 (by decide) (by with_reducible rfl) (by with_reducible rfl) (by omega) (by omega) (fun c_19 => ?_) (fun c_19 => ?_) | refine A_icmp_gt (tgt := 27) d_N_drawn_19 (by decide) (fun c_19 => ?_) (fun c_19 => ?_)
              · refine A_bipush (v := (-2)) d_N_drawn_27 (by decide) ?_
                refine A_iret d_N_drawn_29 rfl ⟨Nat.zero_le _, Nat.zero_le _⟩ ?_
                first | (exfalso; omega) | exact pu rfl
              · refine A_iload5 d_N_drawn_22 ?_
                refine A_if_ge (tgt := 30) d_N_drawn_24 (by decide) (fun c_24 => ?_) (fun c => absurd (Int32.not_lt.mp hk) c)
                refine A_aload_n0 d_N_drawn_30 ?_
                refine A_getf (kf := 0) d_N_drawn_31 hN.o ok_7 (by decide) q_368 rfl ?_
                refine A_getf (kf := 5) d_N_drawn_34 hN.a.o ok_6 (by decide) q_203 rfl ?_
                refine A_iload_n1 d_N_drawn_37 ?_
                refine A_aaldN d_N_drawn_38 hN.a.lands rfl rfl ⟨by omega, by decide⟩ (show va_rf (two (n + 1 + 12) (n + 1 + 29) l) = .ref (n + 1 + 12 + 17 * l) by rw [two_at rfl (by omega)]; rfl) ?_
                refine A_astore6 d_N_drawn_39 trivial ?_
                refine A_iload5 d_N_drawn_41 ?_
                refine A_iconst (v := nI 1) d_N_drawn_43 (by decide) ?_
                refine A_icmp_le (tgt := 63) d_N_drawn_44 (by decide) (fun c => absurd c (by rw [nI_leI (by omega) (by decide)]; omega)) (fun c_44 => ?_)
                refine A_aload6 d_N_drawn_47 ?_
                refine A_iload5 d_N_drawn_49 ?_
                refine A_bipush (v := nI 10) d_N_drawn_51 (by decide) ?_
                first | refine A_isubN d_N_drawn_53 (by with_reducible rfl) (by with_reducible rfl) (by omega) ?_ | refine A_isub d_N_drawn_53 ?_
                refine A_callVP d_N_drawn_54 (c_Ld_hasPersonT hA hV0 (p := j - 10) (by omega)) hA.o rfl q_652 q_653 q_654 mk_Ld_hasPerson rfl (by decide) rfl (Nat.le_of_ble_eq_true rfl) ⟨Nat.le_of_ble_eq_true rfl, Nat.le_of_ble_eq_true rfl⟩ ⟨rfl, rfl⟩ ?_
                refine A_if_neB (tgt := 63) d_N_drawn_57 (by decide) (fun c_57 => ?_) (fun c => absurd c (by decide))
                refine A_aload_n0 d_N_drawn_63 ?_
                refine A_getf (kf := 0) d_N_drawn_64 hN.o ok_7 (by decide) q_368 rfl ?_
                refine A_getf (kf := 6) d_N_drawn_67 hN.a.o ok_6 (by decide) q_205 rfl ?_
                refine A_iload_n2 d_N_drawn_70 ?_
                refine A_aaldN d_N_drawn_71 hN.a.treaties rfl rfl ⟨by omega, by decide⟩ (show va_rf (if t < 2 then some (n + 1 + 5 + t) else none) = .ref (n + 1 + 5 + t) by rw [if_pos (by omega)]; rfl) ?_
                refine A_astore7 d_N_drawn_72 trivial ?_
                refine A_iload5 d_N_drawn_74 ?_
                refine A_iconst (v := nI 1) d_N_drawn_76 (by decide) ?_
                refine A_icmp_ne (tgt := 91) d_N_drawn_77 (by decide) (fun c_77 => ?_) (fun c => absurd c (by rw [nI_eq (by omega) (by decide)]; omega))
                refine A_iload5 d_N_drawn_91 ?_
                refine A_if_ne (tgt := 109) d_N_drawn_93 (by decide) (fun c_93 => ?_) (fun c => absurd c (by rw [show (0 : Int32) = nI 0 from rfl, nI_eq (by omega) (by decide)]; omega))
                refine A_aload6 d_N_drawn_109 ?_
                refine A_aload7 d_N_drawn_111 ?_
                refine A_iload_n3 d_N_drawn_113 ?_
                refine A_iload4 d_N_drawn_114 ?_
                refine A_iload5 d_N_drawn_116 ?_
                refine A_bipush (v := nI 10) d_N_drawn_118 (by decide) ?_
                first | refine A_isubN d_N_drawn_120 (by with_reducible rfl) (by with_reducible rfl) (by omega) ?_ | refine A_isub d_N_drawn_120 ?_
                refine A_callSP d_N_drawn_121 (c_N_drawnSleep hA hV0 (hN.r.row hN.a ht) x d (j - 10) hd2 (by omega)) q_1038 q_1039 mk_N_drawnSleep rfl (by decide) rfl (Nat.le_of_ble_eq_true rfl) ⟨Nat.le_of_ble_eq_true rfl, Nat.le_of_ble_eq_true rfl⟩ ⟨rfl, rfl⟩ ?_
                refine A_iret d_N_drawn_124 rfl ⟨Nat.zero_le _, Nat.zero_le _⟩ ?_
                first | (exfalso; omega) | exact pu rfl
          · rw [if_neg (by omega), if_neg (by omega)]
            have hf : inB (nI j - nI 10) (nI 0) (nI (VL l 4) - nI 1) = false := by rw [inB_dl (by omega), decide_eq_true (pk_sneg (a := j) (b := 10) (by omega) (by omega))]; rfl
            refine A_aload_n0 d_N_drawn_0 ?_
            refine A_iload_n1 d_N_drawn_1 ?_
            refine A_iload_n2 d_N_drawn_2 ?_
            refine A_callVP d_N_drawn_3 (c_N_hasRowT hN hl ht) hN.o rfl q_672 q_674 qs_3 mk_N_hasRow rfl (by decide) rfl (Nat.le_of_ble_eq_true rfl) ⟨Nat.le_of_ble_eq_true rfl, Nat.le_of_ble_eq_true rfl⟩ ⟨rfl, rfl⟩ ?_
            refine A_if_eqB (tgt := 27) d_N_drawn_6 (by decide) (fun c => absurd c (by decide)) (fun c_6 => ?_)
            refine A_iload4 d_N_drawn_9 ?_
            refine A_iconst (v := nI 1) d_N_drawn_11 (by decide) ?_
            first | refine A_icmp_ltN (tgt := 27) d_N_drawn_12 (by decide) (by with_reducible rfl) (by with_reducible rfl) (by omega) (by omega) (fun c_12 => ?_) (fun c_12 => ?_) | refine A_icmp_lt (tgt := 27) d_N_drawn_12 (by decide) (fun c_12 => ?_) (fun c_12 => ?_)
            · refine A_bipush (v := (-2)) d_N_drawn_27 (by decide) ?_
              refine A_iret d_N_drawn_29 rfl ⟨Nat.zero_le _, Nat.zero_le _⟩ ?_
              first | (exfalso; omega) | exact pu rfl
            · refine A_iload4 d_N_drawn_15 ?_
              refine A_bipush (v := nI 60) d_N_drawn_17 (by decide) ?_
              first | refine A_icmp_gtN (tgt := 27) d_N_drawn_19 (by decide) (by with_reducible rfl) (by with_reducible rfl) (by omega) (by omega) (fun c_19 => ?_) (fun c_19 => ?_) | refine A_icmp_gt (tgt := 27) d_N_drawn_19 (by decide) (fun c_19 => ?_) (fun c_19 => ?_)
              · refine A_bipush (v := (-2)) d_N_drawn_27 (by decide) ?_
                refine A_iret d_N_drawn_29 rfl ⟨Nat.zero_le _, Nat.zero_le _⟩ ?_
                first | (exfalso; omega) | exact pu rfl
              · refine A_iload5 d_N_drawn_22 ?_
                refine A_if_ge (tgt := 30) d_N_drawn_24 (by decide) (fun c_24 => ?_) (fun c => absurd (Int32.not_lt.mp hk) c)
                refine A_aload_n0 d_N_drawn_30 ?_
                refine A_getf (kf := 0) d_N_drawn_31 hN.o ok_7 (by decide) q_368 rfl ?_
                refine A_getf (kf := 5) d_N_drawn_34 hN.a.o ok_6 (by decide) q_203 rfl ?_
                refine A_iload_n1 d_N_drawn_37 ?_
                refine A_aaldN d_N_drawn_38 hN.a.lands rfl rfl ⟨by omega, by decide⟩ (show va_rf (two (n + 1 + 12) (n + 1 + 29) l) = .ref (n + 1 + 12 + 17 * l) by rw [two_at rfl (by omega)]; rfl) ?_
                refine A_astore6 d_N_drawn_39 trivial ?_
                refine A_iload5 d_N_drawn_41 ?_
                refine A_iconst (v := nI 1) d_N_drawn_43 (by decide) ?_
                refine A_icmp_le (tgt := 63) d_N_drawn_44 (by decide) (fun c => absurd c (by rw [nI_leI (by omega) (by decide)]; omega)) (fun c_44 => ?_)
                refine A_aload6 d_N_drawn_47 ?_
                refine A_iload5 d_N_drawn_49 ?_
                refine A_bipush (v := nI 10) d_N_drawn_51 (by decide) ?_
                first | refine A_isubN d_N_drawn_53 (by with_reducible rfl) (by with_reducible rfl) (by omega) ?_ | refine A_isub d_N_drawn_53 ?_
                refine A_callVP d_N_drawn_54 (c_Ld_hasPersonF hA hV0 hf) hA.o rfl q_652 q_653 q_654 mk_Ld_hasPerson rfl (by decide) rfl (Nat.le_of_ble_eq_true rfl) ⟨Nat.le_of_ble_eq_true rfl, Nat.le_of_ble_eq_true rfl⟩ ⟨rfl, rfl⟩ ?_
                refine A_if_neB (tgt := 63) d_N_drawn_57 (by decide) (fun c => absurd c (by decide)) (fun c_57 => ?_)
                refine A_bipush (v := (-2)) d_N_drawn_60 (by decide) ?_
                refine A_iret d_N_drawn_62 rfl ⟨Nat.zero_le _, Nat.zero_le _⟩ ?_
                first | (exfalso; omega) | exact pu rfl
          · rw [if_neg (by omega), if_neg (by omega)]
            have hf : inB (nI (j - 10)) (nI 0) (nI (VL l 4) - nI 1) = false := by rw [inB_lt (by omega) (by omega), decide_eq_false (by omega)]
            refine A_aload_n0 d_N_drawn_0 ?_
            refine A_iload_n1 d_N_drawn_1 ?_
            refine A_iload_n2 d_N_drawn_2 ?_
            refine A_callVP d_N_drawn_3 (c_N_hasRowT hN hl ht) hN.o rfl q_672 q_674 qs_3 mk_N_hasRow rfl (by decide) rfl (Nat.le_of_ble_eq_true rfl) ⟨Nat.le_of_ble_eq_true rfl, Nat.le_of_ble_eq_true rfl⟩ ⟨rfl, rfl⟩ ?_
            refine A_if_eqB (tgt := 27) d_N_drawn_6 (by decide) (fun c => absurd c (by decide)) (fun c_6 => ?_)
            refine A_iload4 d_N_drawn_9 ?_
            refine A_iconst (v := nI 1) d_N_drawn_11 (by decide) ?_
            first | refine A_icmp_ltN (tgt := 27) d_N_drawn_12 (by decide) (by with_reducible rfl) (by with_reducible rfl) (by omega) (by omega) (fun c_12 => ?_) (fun c_12 => ?_) | refine A_icmp_lt (tgt := 27) d_N_drawn_12 (by decide) (fun c_12 => ?_) (fun c_12 => ?_)
            · refine A_bipush (v := (-2)) d_N_drawn_27 (by decide) ?_
              refine A_iret d_N_drawn_29 rfl ⟨Nat.zero_le _, Nat.zero_le _⟩ ?_
              first | (exfalso; omega) | exact pu rfl
            · refine A_iload4 d_N_drawn_15 ?_
              refine A_bipush (v := nI 60) d_N_drawn_17 (by decide) ?_
              first | refine A_icmp_gtN (tgt := 27) d_N_drawn_19 (by decide) (by with_reducible rfl) (by with_reducible rfl) (by omega) (by omega) (fun c_19 => ?_) (fun c_19 => ?_) | refine A_icmp_gt (tgt := 27) d_N_drawn_19 (by decide) (fun c_19 => ?_) (fun c_19 => ?_)
              · refine A_bipush (v := (-2)) d_N_drawn_27 (by decide) ?_
                refine A_iret d_N_drawn_29 rfl ⟨Nat.zero_le _, Nat.zero_le _⟩ ?_
                first | (exfalso; omega) | exact pu rfl
              · refine A_iload5 d_N_drawn_22 ?_
                refine A_if_ge (tgt := 30) d_N_drawn_24 (by decide) (fun c_24 => ?_) (fun c => absurd (Int32.not_lt.mp hk) c)
                refine A_aload_n0 d_N_drawn_30 ?_
                refine A_getf (kf := 0) d_N_drawn_31 hN.o ok_7 (by decide) q_368 rfl ?_
                refine A_getf (kf := 5) d_N_drawn_34 hN.a.o ok_6 (by decide) q_203 rfl ?_
                refine A_iload_n1 d_N_drawn_37 ?_
                refine A_aaldN d_N_drawn_38 hN.a.lands rfl rfl ⟨by omega, by decide⟩ (show va_rf (two (n + 1 + 12) (n + 1 + 29) l) = .ref (n + 1 + 12 + 17 * l) by rw [two_at rfl (by omega)]; rfl) ?_
                refine A_astore6 d_N_drawn_39 trivial ?_
                refine A_iload5 d_N_drawn_41 ?_
                refine A_iconst (v := nI 1) d_N_drawn_43 (by decide) ?_
                refine A_icmp_le (tgt := 63) d_N_drawn_44 (by decide) (fun c => absurd c (by rw [nI_leI (by omega) (by decide)]; omega)) (fun c_44 => ?_)
                refine A_aload6 d_N_drawn_47 ?_
                refine A_iload5 d_N_drawn_49 ?_
                refine A_bipush (v := nI 10) d_N_drawn_51 (by decide) ?_
                first | refine A_isubN d_N_drawn_53 (by with_reducible rfl) (by with_reducible rfl) (by omega) ?_ | refine A_isub d_N_drawn_53 ?_
                refine A_callVP d_N_drawn_54 (c_Ld_hasPersonF hA hV0 hf) hA.o rfl q_652 q_653 q_654 mk_Ld_hasPerson rfl (by decide) rfl (Nat.le_of_ble_eq_true rfl) ⟨Nat.le_of_ble_eq_true rfl, Nat.le_of_ble_eq_true rfl⟩ ⟨rfl, rfl⟩ ?_
                refine A_if_neB (tgt := 63) d_N_drawn_57 (by decide) (fun c => absurd c (by decide)) (fun c_57 => ?_)
                refine A_bipush (v := (-2)) d_N_drawn_60 (by decide) ?_
                refine A_iret d_N_drawn_62 rfl ⟨Nat.zero_le _, Nat.zero_le _⟩ ?_
                first | (exfalso; omega) | exact pu rfl
      · rw [pick_out hnt]
        refine A_aload_n0 d_N_drawn_0 ?_
        refine A_iload_n1 d_N_drawn_1 ?_
        refine A_iload_n2 d_N_drawn_2 ?_
        refine A_callVP d_N_drawn_3 (c_N_hasRowF hN (.inr hnt)) hN.o rfl q_672 q_674 qs_3 mk_N_hasRow rfl (by decide) rfl (Nat.le_of_ble_eq_true rfl) ⟨Nat.le_of_ble_eq_true rfl, Nat.le_of_ble_eq_true rfl⟩ ⟨rfl, rfl⟩ ?_
        refine A_if_eqB (tgt := 27) d_N_drawn_6 (by decide) (fun c_6 => ?_) (fun c => absurd c (by decide))
        refine A_bipush (v := (-2)) d_N_drawn_27 (by decide) ?_
        refine A_iret d_N_drawn_29 rfl ⟨Nat.zero_le _, Nat.zero_le _⟩ ?_
        exact pu rfl
    · rw [pick_out hnl]
      refine A_aload_n0 d_N_drawn_0 ?_
      refine A_iload_n1 d_N_drawn_1 ?_
      refine A_iload_n2 d_N_drawn_2 ?_
      refine A_callVP d_N_drawn_3 (c_N_hasRowF hN (.inl hnl)) hN.o rfl q_672 q_674 qs_3 mk_N_hasRow rfl (by decide) rfl (Nat.le_of_ble_eq_true rfl) ⟨Nat.le_of_ble_eq_true rfl, Nat.le_of_ble_eq_true rfl⟩ ⟨rfl, rfl⟩ ?_
      refine A_if_eqB (tgt := 27) d_N_drawn_6 (by decide) (fun c_6 => ?_) (fun c => absurd c (by decide))
      refine A_bipush (v := (-2)) d_N_drawn_27 (by decide) ?_
      refine A_iret d_N_drawn_29 rfl ⟨Nat.zero_le _, Nat.zero_le _⟩ ?_
      exact pu rfl
  · rw [rg_out hro]
    have e := c_N_hasRow (G := G) hN la ta
    generalize (inB la (nI 0) (nI (c 0) - nI 1) && inB ta (nI 0) (nI (c 1) - nI 1)) = br at e
    by_cases hx : da < 0
    · refine A_aload_n0 d_N_drawn_0 ?_
      refine A_iload_n1 d_N_drawn_1 ?_
      refine A_iload_n2 d_N_drawn_2 ?_
      refine A_callVP d_N_drawn_3 (e) hN.o rfl q_672 q_674 qs_3 mk_N_hasRow rfl (by decide) rfl (Nat.le_of_ble_eq_true rfl) ⟨Nat.le_of_ble_eq_true rfl, Nat.le_of_ble_eq_true rfl⟩ ⟨rfl, rfl⟩ ?_
      refine A_if_eqB (tgt := 27) d_N_drawn_6 (by decide) (fun c_6 => ?_) (fun c_6 => ?_)
      · refine A_bipush (v := (-2)) d_N_drawn_27 (by decide) ?_
        refine A_iret d_N_drawn_29 rfl ⟨Nat.zero_le _, Nat.zero_le _⟩ ?_
        exact pu rfl
      · refine A_iload4 d_N_drawn_9 ?_
        refine A_iconst (v := nI 1) d_N_drawn_11 (by decide) ?_
        refine A_icmp_lt (tgt := 27) d_N_drawn_12 (by decide) (fun c_12 => ?_) (fun c => absurd (neg_lt hx (k := 1) (by decide)) c)
        refine A_bipush (v := (-2)) d_N_drawn_27 (by decide) ?_
        refine A_iret d_N_drawn_29 rfl ⟨Nat.zero_le _, Nat.zero_le _⟩ ?_
        exact pu rfl
    · obtain ⟨j, hj, rfl⟩ := nI_of hx
      rw [inB_N hj (by decide) (by decide)] at hro
      refine A_aload_n0 d_N_drawn_0 ?_
      refine A_iload_n1 d_N_drawn_1 ?_
      refine A_iload_n2 d_N_drawn_2 ?_
      refine A_callVP d_N_drawn_3 (e) hN.o rfl q_672 q_674 qs_3 mk_N_hasRow rfl (by decide) rfl (Nat.le_of_ble_eq_true rfl) ⟨Nat.le_of_ble_eq_true rfl, Nat.le_of_ble_eq_true rfl⟩ ⟨rfl, rfl⟩ ?_
      refine A_if_eqB (tgt := 27) d_N_drawn_6 (by decide) (fun c_6 => ?_) (fun c_6 => ?_)
      · refine A_bipush (v := (-2)) d_N_drawn_27 (by decide) ?_
        refine A_iret d_N_drawn_29 rfl ⟨Nat.zero_le _, Nat.zero_le _⟩ ?_
        exact pu rfl
      · refine A_iload4 d_N_drawn_9 ?_
        refine A_iconst (v := nI 1) d_N_drawn_11 (by decide) ?_
        first | refine A_icmp_ltN (tgt := 27) d_N_drawn_12 (by decide) (by with_reducible rfl) (by with_reducible rfl) (by omega) (by omega) (fun c_12 => ?_) (fun c_12 => ?_) | refine A_icmp_lt (tgt := 27) d_N_drawn_12 (by decide) (fun c_12 => ?_) (fun c_12 => ?_)
        · refine A_bipush (v := (-2)) d_N_drawn_27 (by decide) ?_
          refine A_iret d_N_drawn_29 rfl ⟨Nat.zero_le _, Nat.zero_le _⟩ ?_
          exact pu rfl
        · refine A_iload4 d_N_drawn_15 ?_
          refine A_bipush (v := nI 60) d_N_drawn_17 (by decide) ?_
          first | refine A_icmp_gtN (tgt := 27) d_N_drawn_19 (by decide) (by with_reducible rfl) (by with_reducible rfl) (by omega) (by omega) (fun c_19 => ?_) (fun c_19 => ?_) | refine A_icmp_gt (tgt := 27) d_N_drawn_19 (by decide) (fun c_19 => ?_) (fun c_19 => ?_)
          · refine A_bipush (v := (-2)) d_N_drawn_27 (by decide) ?_
            refine A_iret d_N_drawn_29 rfl ⟨Nat.zero_le _, Nat.zero_le _⟩ ?_
            exact pu rfl
          · exact absurd hro (by rw [decide_eq_true (p := 1 ≤ j) (by omega), decide_eq_true (p := j ≤ 60) (by omega)]; decide)
