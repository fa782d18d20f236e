set_option maxHeartbeats 4000000 in
set_option maxRecDepth 100000 in
theorem c_N_errand {G : GE} {h : AH} {n : Nat} {W : TD} {c : Nat → Nat} {VL WT BK SG GM : Nat → Nat → Nat} (hN : NT h n W c VL WT BK SG GM) (la ta pa ha na w : Int32) : Ctr G y_N_errand b_N_errand 9 (some .int) r_N_errand [.ref n, .int la, .int ta, .int pa, .int ha, .int na, .int w] h (Pu (.int (rg na 1 12 (fun nn => pick (c 0) la (fun l => pick (c 1) ta (fun t => pick (VL l 4) pa (fun p => pick (VL l 0) ha (fun x => errV (VL l) (WT t) p x nn w) (-1)) (-1)) (-1)) (-1)) (-1))) h) := by
  refine Ctr.of (by decide +kernel) (by simp) (Nat.le_of_ble_eq_true rfl) (L0 := [some (.ref n), some (.int la), some (.int ta), some (.int pa), some (.int ha), some (.int na), some (.int w), none, none]) rfl ?_
  have hc0 := (hN.r.n 0 (by decide)).2
  have hc1 := (hN.r.n 1 (by decide)).2
  rcases rg_c (lo := 1) (hi := 12) (by decide) (by decide) na with ⟨nn, hn1, hn2, rfl⟩ | hro
  · rw [rg_in ⟨hn1, hn2⟩ (by decide)]
    rcases told_c (n := c 0) (by omega) la with ⟨l, hl, rfl⟩ | hnl
    · rw [pick_in hl (by omega)]
      rcases told_c (n := c 1) (by omega) ta with ⟨t, ht, rfl⟩ | hnt
      · rw [pick_in ht (by omega)]
        have hA := hN.a.l l (by omega)
        have hV := hN.r.l l hl
        have hV0 := hV
        obtain ⟨ok, ⟨f0, f1, f2, f3, f4, f9⟩, hP, hBe, hTo⟩ := hV
        have hH := ok.1
        have h4 := ok.2.2.2.2.1
        have h5 := ok.2.2.2.2.2.1
        rcases told_c (n := VL l 4) (by omega) pa with ⟨p, hp, rfl⟩ | hnp
        · rw [pick_in hp (by omega)]
          rcases told_c (n := VL l 0) (by omega) ha with ⟨x, hx, rfl⟩ | hnh
          · rw [pick_in hx (by omega)]
            have hw4 := ok.2.2.2.1
            have key : ∀ i, i ≤ VL l 0 → WA G y_N_errand b_N_errand 9 (some .int) r_N_errand 0 0 (Pu (.int (firstU (fun k => goB (VL l) (WT t) (VL l (42 + 27 * p + 0)) (x + k) nn) (fun k => if w = 0 then nI (k + nn + 2 * VL l 3) else nI k) (-1) (VL l 0) i)) h) 0 0 64 [some (.ref n), some (.int (nI l)), some (.int (nI t)), some (.int (nI p)), some (.int (nI x)), some (.int (nI nn)), some (.int w), some (.ref (n + 1 + 12 + 17 * l)), some (.int (nI i))] [] h := by
              refine down ?_ (fun i hi ih => ?_)
              · refine A_iload8 d_N_errand_64 ?_
                refine A_aload7 d_N_errand_66 ?_
                skip
                refine A_getf (kf := 0) d_N_errand_68 hA.o ok_1 (by decide) q_49 rfl ?_
                refine A_topI f0 ?_
                first | refine A_icmp_geN (tgt := 135) d_N_errand_71 (by decide) (by with_reducible rfl) (by with_reducible rfl) (by omega) (by omega) (fun c_71 => ?_) (fun c_71 => ?_) | refine A_icmp_ge (tgt := 135) d_N_errand_71 (by decide) (fun c_71 => ?_) (fun c_71 => ?_)
                · refine A_iconst (v := (-1)) d_N_errand_135 (by decide) ?_
                  refine A_iret d_N_errand_136 rfl ⟨Nat.zero_le _, Nat.zero_le _⟩ ?_
                  exact pu (by rw [firstU_end])
                · exact absurd c_71 (by omega)
              · refine A_iload8 d_N_errand_64 ?_
                refine A_aload7 d_N_errand_66 ?_
                refine A_getf (kf := 0) d_N_errand_68 hA.o ok_1 (by decide) q_49 rfl ?_
                refine A_topI f0 ?_
                first | refine A_icmp_geN (tgt := 135) d_N_errand_71 (by decide) (by with_reducible rfl) (by with_reducible rfl) (by omega) (by omega) (fun c_71 => ?_) (fun c_71 => ?_) | refine A_icmp_ge (tgt := 135) d_N_errand_71 (by decide) (fun c_71 => ?_) (fun c_71 => ?_)
                · exact absurd c_71 (by omega)
                · refine A_aload7 d_N_errand_74 ?_
                  refine A_aload_n0 d_N_errand_76 ?_
                  refine A_getf (kf := 0) d_N_errand_77 hN.o ok_7 (by decide) q_368 rfl ?_
                  refine A_getf (kf := 6) d_N_errand_80 hN.a.o ok_6 (by decide) q_205 rfl ?_
                  refine A_iload_n2 d_N_errand_83 ?_
                  refine A_aaldN d_N_errand_84 hN.a.treaties rfl rfl ⟨by omega, by decide⟩ (show va_rf (if t < 2 then some (n + 1 + 5 + t) else none) = .ref (n + 1 + 5 + t) by rw [if_pos (by omega)]; rfl) ?_
                  refine A_aload7 d_N_errand_85 ?_
                  refine A_getf (kf := 5) d_N_errand_87 hA.o ok_1 (by decide) q_66 rfl ?_
                  refine A_iload_n3 d_N_errand_90 ?_
                  refine A_ialdN d_N_errand_91 hA.a5 ⟨by omega, by decide⟩ ?_
                  refine A_topI (hP p (by omega)).1 ?_
                  have hcip := (ok.2.2.2.2.2.2.1 p (by omega)).1
                  refine A_iload4 d_N_errand_92 ?_
                  refine A_iload8 d_N_errand_94 ?_
                  first | refine A_iaddN d_N_errand_96 (by with_reducible rfl) (by with_reducible rfl) ?_ | refine A_iadd d_N_errand_96 ?_
                  refine A_iload5 d_N_errand_97 ?_
                  refine A_callSP d_N_errand_99 (c_N_canGo hA hV0 (hN.r.row hN.a ht) _ (x + i) nn hcip (by omega) (by omega)) q_1017 q_1018 mk_N_canGo rfl (by decide) rfl (Nat.le_of_ble_eq_true rfl) ⟨Nat.le_of_ble_eq_true rfl, Nat.le_of_ble_eq_true rfl⟩ ⟨rfl, rfl⟩ ?_
                  refine A_if_eqB (tgt := 129) d_N_errand_102 (by decide) (fun c_102 => ?_) (fun c_102 => ?_)
                  · first | refine A_iinc8 d_N_errand_129 (nI_1 _) trivial ?_ | refine A_iinc8 d_N_errand_129 rfl trivial ?_
                    refine A_goto (tgt := 64) d_N_errand_132 (by decide) ?_
                    rw [firstU_step _ _ _ hi, if_neg (by rw [c_102]; decide)]
                    exact ih
                  · refine A_iload6 d_N_errand_105 ?_
                    first | refine A_if_eqN (tgt := 115) d_N_errand_107 (by decide) (by with_reducible rfl) (by omega) (fun c_107 => ?_) (fun c_107 => ?_) | refine A_if_eq (tgt := 115) d_N_errand_107 (by decide) (fun c_107 => ?_) (fun c_107 => ?_)
                    · refine A_iload8 d_N_errand_115 ?_
                      refine A_iconst (v := nI 2) d_N_errand_117 (by decide) ?_
                      refine A_aload7 d_N_errand_118 ?_
                      refine A_getf (kf := 3) d_N_errand_120 hA.o ok_1 (by decide) q_59 rfl ?_
                      refine A_topI f3 ?_
                      first | refine A_imulN d_N_errand_123 (by with_reducible rfl) (by with_reducible rfl) ?_ | refine A_imul d_N_errand_123 ?_
                      first | refine A_iaddN d_N_errand_124 (by with_reducible rfl) (by with_reducible rfl) ?_ | refine A_iadd d_N_errand_124 ?_
                      refine A_iload5 d_N_errand_125 ?_
                      first | refine A_iaddN d_N_errand_127 (by with_reducible rfl) (by with_reducible rfl) ?_ | refine A_iadd d_N_errand_127 ?_
                      refine A_iret d_N_errand_128 rfl ⟨Nat.zero_le _, Nat.zero_le _⟩ ?_
                      exact pu (by rw [firstU_step _ _ _ hi, if_pos c_102]; first | (rw [if_pos c_107]; exact congrArg (fun z => Value.int (nI z)) (by omega)) | (rw [if_neg c_107]; done))
                    · refine A_iload8 d_N_errand_110 ?_
                      refine A_goto (tgt := 128) d_N_errand_112 (by decide) ?_
                      refine A_iret d_N_errand_128 rfl ⟨Nat.zero_le _, Nat.zero_le _⟩ ?_
                      exact pu (by rw [firstU_step _ _ _ hi, if_pos c_102]; first | (rw [if_pos c_107]; exact congrArg (fun z => Value.int (nI z)) (by omega)) | (rw [if_neg c_107]; done))
            refine A_aload_n0 d_N_errand_0 ?_
            refine A_iload_n1 d_N_errand_1 ?_
            refine A_iload_n2 d_N_errand_2 ?_
            refine A_callVP d_N_errand_3 (c_N_hasRowT hN hl ht) hN.o rfl q_672 q_674 qs_3 mk_N_hasRow rfl (by decide) rfl (Nat.le_of_ble_eq_true rfl) ⟨Nat.le_of_ble_eq_true rfl, Nat.le_of_ble_eq_true rfl⟩ ⟨rfl, rfl⟩ ?_
            refine A_if_eqB (tgt := 22) d_N_errand_6 (by decide) (fun c => absurd c (by decide)) (fun c_6 => ?_)
            refine A_iload5 d_N_errand_9 ?_
            refine A_iconst (v := nI 1) d_N_errand_11 (by decide) ?_
            first | refine A_icmp_ltN (tgt := 22) d_N_errand_12 (by decide) (by with_reducible rfl) (by with_reducible rfl) (by omega) (by omega) (fun c_12 => ?_) (fun c_12 => ?_) | refine A_icmp_lt (tgt := 22) d_N_errand_12 (by decide) (fun c_12 => ?_) (fun c_12 => ?_)
            · refine A_iconst (v := (-1)) d_N_errand_22 (by decide) ?_
              refine A_iret d_N_errand_23 rfl ⟨Nat.zero_le _, Nat.zero_le _⟩ ?_
              first | (exfalso; omega) | exact pu rfl
            · refine A_iload5 d_N_errand_15 ?_
              refine A_bipush (v := nI 12) d_N_errand_17 (by decide) ?_
              first | refine A_icmp_leN (tgt := 24) d_N_errand_19 (by decide) (by with_reducible rfl) (by with_reducible rfl) (by omega) (by omega) (fun c_19 => ?_) (fun c_19 => ?_) | refine A_icmp_le (tgt := 24) d_N_errand_19 (by decide) (fun c_19 => ?_) (fun c_19 => ?_)
              · refine A_aload_n0 d_N_errand_24 ?_
                refine A_getf (kf := 0) d_N_errand_25 hN.o ok_7 (by decide) q_368 rfl ?_
                refine A_getf (kf := 5) d_N_errand_28 hN.a.o ok_6 (by decide) q_203 rfl ?_
                refine A_iload_n1 d_N_errand_31 ?_
                refine A_aaldN d_N_errand_32 hN.a.lands rfl rfl ⟨by omega, by decide⟩ (show va_rf (two (n + 1 + 12) (n + 1 + 29) l) = .ref (n + 1 + 12 + 17 * l) by rw [two_at rfl (by omega)]; rfl) ?_
                refine A_astore7 d_N_errand_33 trivial ?_
                refine A_aload7 d_N_errand_35 ?_
                refine A_iload_n3 d_N_errand_37 ?_
                refine A_callVP d_N_errand_38 (c_Ld_hasPersonT hA hV0 hp) hA.o rfl q_652 q_653 q_654 mk_Ld_hasPerson rfl (by decide) rfl (Nat.le_of_ble_eq_true rfl) ⟨Nat.le_of_ble_eq_true rfl, Nat.le_of_ble_eq_true rfl⟩ ⟨rfl, rfl⟩ ?_
                refine A_if_eqB (tgt := 59) d_N_errand_41 (by decide) (fun c => absurd c (by decide)) (fun c_41 => ?_)
                refine A_iload4 d_N_errand_44 ?_
                refine A_if_lt (tgt := 59) d_N_errand_46 (by decide) (fun c => absurd c (nI_pos (by omega))) (fun c_46 => ?_)
                refine A_iload4 d_N_errand_49 ?_
                refine A_aload7 d_N_errand_51 ?_
                refine A_getf (kf := 0) d_N_errand_53 hA.o ok_1 (by decide) q_49 rfl ?_
                refine A_topI f0 ?_
                first | refine A_icmp_ltN (tgt := 61) d_N_errand_56 (by decide) (by with_reducible rfl) (by with_reducible rfl) (by omega) (by omega) (fun c_56 => ?_) (fun c_56 => ?_) | refine A_icmp_lt (tgt := 61) d_N_errand_56 (by decide) (fun c_56 => ?_) (fun c_56 => ?_)
                · refine A_iconst (v := nI 0) d_N_errand_61 (by decide) ?_
                  refine A_istore8 d_N_errand_62 trivial ?_
                  exact key 0 (Nat.zero_le _)
                · refine A_iconst (v := (-1)) d_N_errand_59 (by decide) ?_
                  refine A_iret d_N_errand_60 rfl ⟨Nat.zero_le _, Nat.zero_le _⟩ ?_
                  first | (exfalso; omega) | exact pu rfl
              · refine A_iconst (v := (-1)) d_N_errand_22 (by decide) ?_
                refine A_iret d_N_errand_23 rfl ⟨Nat.zero_le _, Nat.zero_le _⟩ ?_
                first | (exfalso; omega) | exact pu rfl
          · rw [pick_out hnh]
            by_cases hx : ha < 0
            · refine A_aload_n0 d_N_errand_0 ?_
              refine A_iload_n1 d_N_errand_1 ?_
              refine A_iload_n2 d_N_errand_2 ?_
              refine A_callVP d_N_errand_3 (c_N_hasRowT hN hl ht) hN.o rfl q_672 q_674 qs_3 mk_N_hasRow rfl (by decide) rfl (Nat.le_of_ble_eq_true rfl) ⟨Nat.le_of_ble_eq_true rfl, Nat.le_of_ble_eq_true rfl⟩ ⟨rfl, rfl⟩ ?_
              refine A_if_eqB (tgt := 22) d_N_errand_6 (by decide) (fun c => absurd c (by decide)) (fun c_6 => ?_)
              refine A_iload5 d_N_errand_9 ?_
              refine A_iconst (v := nI 1) d_N_errand_11 (by decide) ?_
              first | refine A_icmp_ltN (tgt := 22) d_N_errand_12 (by decide) (by with_reducible rfl) (by with_reducible rfl) (by omega) (by omega) (fun c_12 => ?_) (fun c_12 => ?_) | refine A_icmp_lt (tgt := 22) d_N_errand_12 (by decide) (fun c_12 => ?_) (fun c_12 => ?_)
              · refine A_iconst (v := (-1)) d_N_errand_22 (by decide) ?_
                refine A_iret d_N_errand_23 rfl ⟨Nat.zero_le _, Nat.zero_le _⟩ ?_
                first | (exfalso; omega) | exact pu rfl
              · refine A_iload5 d_N_errand_15 ?_
                refine A_bipush (v := nI 12) d_N_errand_17 (by decide) ?_
                first | refine A_icmp_leN (tgt := 24) d_N_errand_19 (by decide) (by with_reducible rfl) (by with_reducible rfl) (by omega) (by omega) (fun c_19 => ?_) (fun c_19 => ?_) | refine A_icmp_le (tgt := 24) d_N_errand_19 (by decide) (fun c_19 => ?_) (fun c_19 => ?_)
                · refine A_aload_n0 d_N_errand_24 ?_
                  refine A_getf (kf := 0) d_N_errand_25 hN.o ok_7 (by decide) q_368 rfl ?_
                  refine A_getf (kf := 5) d_N_errand_28 hN.a.o ok_6 (by decide) q_203 rfl ?_
                  refine A_iload_n1 d_N_errand_31 ?_
                  refine A_aaldN d_N_errand_32 hN.a.lands rfl rfl ⟨by omega, by decide⟩ (show va_rf (two (n + 1 + 12) (n + 1 + 29) l) = .ref (n + 1 + 12 + 17 * l) by rw [two_at rfl (by omega)]; rfl) ?_
                  refine A_astore7 d_N_errand_33 trivial ?_
                  refine A_aload7 d_N_errand_35 ?_
                  refine A_iload_n3 d_N_errand_37 ?_
                  refine A_callVP d_N_errand_38 (c_Ld_hasPersonT hA hV0 hp) hA.o rfl q_652 q_653 q_654 mk_Ld_hasPerson rfl (by decide) rfl (Nat.le_of_ble_eq_true rfl) ⟨Nat.le_of_ble_eq_true rfl, Nat.le_of_ble_eq_true rfl⟩ ⟨rfl, rfl⟩ ?_
                  refine A_if_eqB (tgt := 59) d_N_errand_41 (by decide) (fun c => absurd c (by decide)) (fun c_41 => ?_)
                  refine A_iload4 d_N_errand_44 ?_
                  refine A_if_lt (tgt := 59) d_N_errand_46 (by decide) (fun c_46 => ?_) (fun c => absurd hx c)
                  refine A_iconst (v := (-1)) d_N_errand_59 (by decide) ?_
                  refine A_iret d_N_errand_60 rfl ⟨Nat.zero_le _, Nat.zero_le _⟩ ?_
                  first | (exfalso; omega) | exact pu rfl
                · refine A_iconst (v := (-1)) d_N_errand_22 (by decide) ?_
                  refine A_iret d_N_errand_23 rfl ⟨Nat.zero_le _, Nat.zero_le _⟩ ?_
                  first | (exfalso; omega) | exact pu rfl
            · obtain ⟨j, hj, rfl, hle⟩ := inB_tdF (by omega) hnh hx
              refine A_aload_n0 d_N_errand_0 ?_
              refine A_iload_n1 d_N_errand_1 ?_
              refine A_iload_n2 d_N_errand_2 ?_
              refine A_callVP d_N_errand_3 (c_N_hasRowT hN hl ht) hN.o rfl q_672 q_674 qs_3 mk_N_hasRow rfl (by decide) rfl (Nat.le_of_ble_eq_true rfl) ⟨Nat.le_of_ble_eq_true rfl, Nat.le_of_ble_eq_true rfl⟩ ⟨rfl, rfl⟩ ?_
              refine A_if_eqB (tgt := 22) d_N_errand_6 (by decide) (fun c => absurd c (by decide)) (fun c_6 => ?_)
              refine A_iload5 d_N_errand_9 ?_
              refine A_iconst (v := nI 1) d_N_errand_11 (by decide) ?_
              first | refine A_icmp_ltN (tgt := 22) d_N_errand_12 (by decide) (by with_reducible rfl) (by with_reducible rfl) (by omega) (by omega) (fun c_12 => ?_) (fun c_12 => ?_) | refine A_icmp_lt (tgt := 22) d_N_errand_12 (by decide) (fun c_12 => ?_) (fun c_12 => ?_)
              · refine A_iconst (v := (-1)) d_N_errand_22 (by decide) ?_
                refine A_iret d_N_errand_23 rfl ⟨Nat.zero_le _, Nat.zero_le _⟩ ?_
                first | (exfalso; omega) | exact pu rfl
              · refine A_iload5 d_N_errand_15 ?_
                refine A_bipush (v := nI 12) d_N_errand_17 (by decide) ?_
                first | refine A_icmp_leN (tgt := 24) d_N_errand_19 (by decide) (by with_reducible rfl) (by with_reducible rfl) (by omega) (by omega) (fun c_19 => ?_) (fun c_19 => ?_) | refine A_icmp_le (tgt := 24) d_N_errand_19 (by decide) (fun c_19 => ?_) (fun c_19 => ?_)
                · refine A_aload_n0 d_N_errand_24 ?_
                  refine A_getf (kf := 0) d_N_errand_25 hN.o ok_7 (by decide) q_368 rfl ?_
                  refine A_getf (kf := 5) d_N_errand_28 hN.a.o ok_6 (by decide) q_203 rfl ?_
                  refine A_iload_n1 d_N_errand_31 ?_
                  refine A_aaldN d_N_errand_32 hN.a.lands rfl rfl ⟨by omega, by decide⟩ (show va_rf (two (n + 1 + 12) (n + 1 + 29) l) = .ref (n + 1 + 12 + 17 * l) by rw [two_at rfl (by omega)]; rfl) ?_
                  refine A_astore7 d_N_errand_33 trivial ?_
                  refine A_aload7 d_N_errand_35 ?_
                  refine A_iload_n3 d_N_errand_37 ?_
                  refine A_callVP d_N_errand_38 (c_Ld_hasPersonT hA hV0 hp) hA.o rfl q_652 q_653 q_654 mk_Ld_hasPerson rfl (by decide) rfl (Nat.le_of_ble_eq_true rfl) ⟨Nat.le_of_ble_eq_true rfl, Nat.le_of_ble_eq_true rfl⟩ ⟨rfl, rfl⟩ ?_
                  refine A_if_eqB (tgt := 59) d_N_errand_41 (by decide) (fun c => absurd c (by decide)) (fun c_41 => ?_)
                  refine A_iload4 d_N_errand_44 ?_
                  refine A_if_lt (tgt := 59) d_N_errand_46 (by decide) (fun c => absurd c hx) (fun c_46 => ?_)
                  refine A_iload4 d_N_errand_49 ?_
                  refine A_aload7 d_N_errand_51 ?_
                  refine A_getf (kf := 0) d_N_errand_53 hA.o ok_1 (by decide) q_49 rfl ?_
                  refine A_topI f0 ?_
                  first | refine A_icmp_ltN (tgt := 61) d_N_errand_56 (by decide) (by with_reducible rfl) (by with_reducible rfl) (by omega) (by omega) (fun c_56 => ?_) (fun c_56 => ?_) | refine A_icmp_lt (tgt := 61) d_N_errand_56 (by decide) (fun c_56 => ?_) (fun c_56 => ?_)
                  · exfalso; omega
                  · refine A_iconst (v := (-1)) d_N_errand_59 (by decide) ?_
                    refine A_iret d_N_errand_60 rfl ⟨Nat.zero_le _, Nat.zero_le _⟩ ?_
                    first | (exfalso; omega) | exact pu rfl
                · refine A_iconst (v := (-1)) d_N_errand_22 (by decide) ?_
                  refine A_iret d_N_errand_23 rfl ⟨Nat.zero_le _, Nat.zero_le _⟩ ?_
                  first | (exfalso; omega) | exact pu rfl
        · rw [pick_out hnp]
          refine A_aload_n0 d_N_errand_0 ?_
          refine A_iload_n1 d_N_errand_1 ?_
          refine A_iload_n2 d_N_errand_2 ?_
          refine A_callVP d_N_errand_3 (c_N_hasRowT hN hl ht) hN.o rfl q_672 q_674 qs_3 mk_N_hasRow rfl (by decide) rfl (Nat.le_of_ble_eq_true rfl) ⟨Nat.le_of_ble_eq_true rfl, Nat.le_of_ble_eq_true rfl⟩ ⟨rfl, rfl⟩ ?_
          refine A_if_eqB (tgt := 22) d_N_errand_6 (by decide) (fun c => absurd c (by decide)) (fun c_6 => ?_)
          refine A_iload5 d_N_errand_9 ?_
          refine A_iconst (v := nI 1) d_N_errand_11 (by decide) ?_
          first | refine A_icmp_ltN (tgt := 22) d_N_errand_12 (by decide) (by with_reducible rfl) (by with_reducible rfl) (by omega) (by omega) (fun c_12 => ?_) (fun c_12 => ?_) | refine A_icmp_lt (tgt := 22) d_N_errand_12 (by decide) (fun c_12 => ?_) (fun c_12 => ?_)
          · refine A_iconst (v := (-1)) d_N_errand_22 (by decide) ?_
            refine A_iret d_N_errand_23 rfl ⟨Nat.zero_le _, Nat.zero_le _⟩ ?_
            first | (exfalso; omega) | exact pu rfl
          · refine A_iload5 d_N_errand_15 ?_
            refine A_bipush (v := nI 12) d_N_errand_17 (by decide) ?_
            first | refine A_icmp_leN (tgt := 24) d_N_errand_19 (by decide) (by with_reducible rfl) (by with_reducible rfl) (by omega) (by omega) (fun c_19 => ?_) (fun c_19 => ?_) | refine A_icmp_le (tgt := 24) d_N_errand_19 (by decide) (fun c_19 => ?_) (fun c_19 => ?_)
            · refine A_aload_n0 d_N_errand_24 ?_
              refine A_getf (kf := 0) d_N_errand_25 hN.o ok_7 (by decide) q_368 rfl ?_
              refine A_getf (kf := 5) d_N_errand_28 hN.a.o ok_6 (by decide) q_203 rfl ?_
              refine A_iload_n1 d_N_errand_31 ?_
              refine A_aaldN d_N_errand_32 hN.a.lands rfl rfl ⟨by omega, by decide⟩ (show va_rf (two (n + 1 + 12) (n + 1 + 29) l) = .ref (n + 1 + 12 + 17 * l) by rw [two_at rfl (by omega)]; rfl) ?_
              refine A_astore7 d_N_errand_33 trivial ?_
              refine A_aload7 d_N_errand_35 ?_
              refine A_iload_n3 d_N_errand_37 ?_
              refine A_callVP d_N_errand_38 (c_Ld_hasPersonF hA hV0 hnp) hA.o rfl q_652 q_653 q_654 mk_Ld_hasPerson rfl (by decide) rfl (Nat.le_of_ble_eq_true rfl) ⟨Nat.le_of_ble_eq_true rfl, Nat.le_of_ble_eq_true rfl⟩ ⟨rfl, rfl⟩ ?_
              refine A_if_eqB (tgt := 59) d_N_errand_41 (by decide) (fun c_41 => ?_) (fun c => absurd c (by decide))
              refine A_iconst (v := (-1)) d_N_errand_59 (by decide) ?_
              refine A_iret d_N_errand_60 rfl ⟨Nat.zero_le _, Nat.zero_le _⟩ ?_
              first | (exfalso; omega) | exact pu rfl
            · refine A_iconst (v := (-1)) d_N_errand_22 (by decide) ?_
              refine A_iret d_N_errand_23 rfl ⟨Nat.zero_le _, Nat.zero_le _⟩ ?_
              first | (exfalso; omega) | exact pu rfl
      · rw [pick_out hnt]
        refine A_aload_n0 d_N_errand_0 ?_
        refine A_iload_n1 d_N_errand_1 ?_
        refine A_iload_n2 d_N_errand_2 ?_
        refine A_callVP d_N_errand_3 (c_N_hasRowF hN (.inr hnt)) hN.o rfl q_672 q_674 qs_3 mk_N_hasRow rfl (by decide) rfl (Nat.le_of_ble_eq_true rfl) ⟨Nat.le_of_ble_eq_true rfl, Nat.le_of_ble_eq_true rfl⟩ ⟨rfl, rfl⟩ ?_
        refine A_if_eqB (tgt := 22) d_N_errand_6 (by decide) (fun c_6 => ?_) (fun c => absurd c (by decide))
        refine A_iconst (v := (-1)) d_N_errand_22 (by decide) ?_
        refine A_iret d_N_errand_23 rfl ⟨Nat.zero_le _, Nat.zero_le _⟩ ?_
        exact pu rfl
    · rw [pick_out hnl]
      refine A_aload_n0 d_N_errand_0 ?_
      refine A_iload_n1 d_N_errand_1 ?_
      refine A_iload_n2 d_N_errand_2 ?_
      refine A_callVP d_N_errand_3 (c_N_hasRowF hN (.inl hnl)) hN.o rfl q_672 q_674 qs_3 mk_N_hasRow rfl (by decide) rfl (Nat.le_of_ble_eq_true rfl) ⟨Nat.le_of_ble_eq_true rfl, Nat.le_of_ble_eq_true rfl⟩ ⟨rfl, rfl⟩ ?_
      refine A_if_eqB (tgt := 22) d_N_errand_6 (by decide) (fun c_6 => ?_) (fun c => absurd c (by decide))
      refine A_iconst (v := (-1)) d_N_errand_22 (by decide) ?_
      refine A_iret d_N_errand_23 rfl ⟨Nat.zero_le _, Nat.zero_le _⟩ ?_
      exact pu rfl
  · rw [rg_out hro]
    have e := c_N_hasRow (G := G) hN la ta
    generalize (inB la (nI 0) (nI (c 0) - nI 1) && inB ta (nI 0) (nI (c 1) - nI 1)) = br at e
    by_cases hx : na < 0
    · refine A_aload_n0 d_N_errand_0 ?_
      refine A_iload_n1 d_N_errand_1 ?_
      refine A_iload_n2 d_N_errand_2 ?_
      refine A_callVP d_N_errand_3 (e) hN.o rfl q_672 q_674 qs_3 mk_N_hasRow rfl (by decide) rfl (Nat.le_of_ble_eq_true rfl) ⟨Nat.le_of_ble_eq_true rfl, Nat.le_of_ble_eq_true rfl⟩ ⟨rfl, rfl⟩ ?_
      refine A_if_eqB (tgt := 22) d_N_errand_6 (by decide) (fun c_6 => ?_) (fun c_6 => ?_)
      · refine A_iconst (v := (-1)) d_N_errand_22 (by decide) ?_
        refine A_iret d_N_errand_23 rfl ⟨Nat.zero_le _, Nat.zero_le _⟩ ?_
        exact pu rfl
      · refine A_iload5 d_N_errand_9 ?_
        refine A_iconst (v := nI 1) d_N_errand_11 (by decide) ?_
        refine A_icmp_lt (tgt := 22) d_N_errand_12 (by decide) (fun c_12 => ?_) (fun c => absurd (neg_lt hx (k := 1) (by decide)) c)
        refine A_iconst (v := (-1)) d_N_errand_22 (by decide) ?_
        refine A_iret d_N_errand_23 rfl ⟨Nat.zero_le _, Nat.zero_le _⟩ ?_
        exact pu rfl
    · obtain ⟨j, hj, rfl⟩ := nI_of hx
      rw [inB_N hj (by decide) (by decide)] at hro
      refine A_aload_n0 d_N_errand_0 ?_
      refine A_iload_n1 d_N_errand_1 ?_
      refine A_iload_n2 d_N_errand_2 ?_
      refine A_callVP d_N_errand_3 (e) hN.o rfl q_672 q_674 qs_3 mk_N_hasRow rfl (by decide) rfl (Nat.le_of_ble_eq_true rfl) ⟨Nat.le_of_ble_eq_true rfl, Nat.le_of_ble_eq_true rfl⟩ ⟨rfl, rfl⟩ ?_
      refine A_if_eqB (tgt := 22) d_N_errand_6 (by decide) (fun c_6 => ?_) (fun c_6 => ?_)
      · refine A_iconst (v := (-1)) d_N_errand_22 (by decide) ?_
        refine A_iret d_N_errand_23 rfl ⟨Nat.zero_le _, Nat.zero_le _⟩ ?_
        exact pu rfl
      · refine A_iload5 d_N_errand_9 ?_
        refine A_iconst (v := nI 1) d_N_errand_11 (by decide) ?_
        first | refine A_icmp_ltN (tgt := 22) d_N_errand_12 (by decide) (by with_reducible rfl) (by with_reducible rfl) (by omega) (by omega) (fun c_12 => ?_) (fun c_12 => ?_) | refine A_icmp_lt (tgt := 22) d_N_errand_12 (by decide) (fun c_12 => ?_) (fun c_12 => ?_)
        · refine A_iconst (v := (-1)) d_N_errand_22 (by decide) ?_
          refine A_iret d_N_errand_23 rfl ⟨Nat.zero_le _, Nat.zero_le _⟩ ?_
          exact pu rfl
        · refine A_iload5 d_N_errand_15 ?_
          refine A_bipush (v := nI 12) d_N_errand_17 (by decide) ?_
          first | refine A_icmp_leN (tgt := 24) d_N_errand_19 (by decide) (by with_reducible rfl) (by with_reducible rfl) (by omega) (by omega) (fun c_19 => ?_) (fun c_19 => ?_) | refine A_icmp_le (tgt := 24) d_N_errand_19 (by decide) (fun c_19 => ?_) (fun c_19 => ?_)
          · exact absurd hro (by rw [decide_eq_true (p := 1 ≤ j) (by omega), decide_eq_true (p := j ≤ 12) (by omega)]; decide)
          · refine A_iconst (v := (-1)) d_N_errand_22 (by decide) ?_
            refine A_iret d_N_errand_23 rfl ⟨Nat.zero_le _, Nat.zero_le _⟩ ?_
            exact pu rfl
set_option maxHeartbeats 4000000 in
set_option maxRecDepth 100000 in
theorem c_N_meet {G : GE} {h : AH} {n : Nat} {W : TD} {c : Nat → Nat} {VL WT BK SG GM : Nat → Nat → Nat} (hN : NT h n W c VL WT BK SG GM) (la ta pa qa ha : Int32) : Ctr G y_N_meet b_N_meet 9 (some .int) r_N_meet [.ref n, .int la, .int ta, .int pa, .int qa, .int ha] h (Pu (.int (pick (c 0) la (fun l => pick (c 1) ta (fun t => pick (VL l 4) pa (fun p => pick (VL l 4) qa (fun p2 => pick (VL l 0) ha (fun x => meetV (VL l) (WT t) p p2 x) (-1)) (-1)) (-1)) (-1)) (-1))) h) := by
  refine Ctr.of (by decide +kernel) (by simp) (Nat.le_of_ble_eq_true rfl) (L0 := [some (.ref n), some (.int la), some (.int ta), some (.int pa), some (.int qa), some (.int ha), none, none, none]) rfl ?_
  have hc0 := (hN.r.n 0 (by decide)).2
  have hc1 := (hN.r.n 1 (by decide)).2
  rcases told_c (n := c 0) (by omega) la with ⟨l, hl, rfl⟩ | hnl
  · rw [pick_in hl (by omega)]
    rcases told_c (n := c 1) (by omega) ta with ⟨t, ht, rfl⟩ | hnt
    · rw [pick_in ht (by omega)]
      have hA := hN.a.l l (by omega)
      have hV := hN.r.l l hl
      have hV0 := hV
      obtain ⟨ok, ⟨f0, f1, f2, f3, f4, f9⟩, hP, hBe, hTo⟩ := hV
      have hH := ok.1
      have h4 := ok.2.2.2.2.1
      have h5 := ok.2.2.2.2.2.1
      rcases told_c (n := VL l 4) (by omega) pa with ⟨p, hp, rfl⟩ | hnp
      · rw [pick_in hp (by omega)]
        rcases told_c (n := VL l 4) (by omega) qa with ⟨p2, hp2, rfl⟩ | hnq
        · rw [pick_in hp2 (by omega)]
          rcases told_c (n := VL l 0) (by omega) ha with ⟨x, hx, rfl⟩ | hnh
          · rw [pick_in hx (by omega)]
            have key : ∀ i, i ≤ VL l 0 → WA G y_N_meet b_N_meet 9 (some .int) r_N_meet 0 0 (Pu (.int (firstU (fun k => ltB (WT t) (VL l 0) (VL l (42 + 27 * p + 0)) (x + k) && ltB (WT t) (VL l 0) (VL l (42 + 27 * p2 + 0)) (x + k)) (fun k => nI k) (-1) (VL l 0) i)) h) 0 0 61 [some (.ref n), some (.int (nI l)), some (.int (nI t)), some (.int (nI p)), some (.int (nI p2)), some (.int (nI x)), some (.ref (n + 1 + 12 + 17 * l)), some (.int (nI i)), none] [] h := by
              refine down ?_ (fun i hi ih => ?_)
              · refine A_iload7 d_N_meet_61 ?_
                refine A_aload6 d_N_meet_63 ?_
                refine A_getf (kf := 0) d_N_meet_65 hA.o ok_1 (by decide) q_49 rfl ?_
                refine A_topI f0 ?_
                first | refine A_icmp_geN (tgt := 126) d_N_meet_68 (by decide) (by with_reducible rfl) (by with_reducible rfl) (by omega) (by omega) (fun c_68 => ?_) (fun c_68 => ?_) | refine A_icmp_ge (tgt := 126) d_N_meet_68 (by decide) (fun c_68 => ?_) (fun c_68 => ?_)
                · refine A_iconst (v := (-1)) d_N_meet_126 (by decide) ?_
                  refine A_iret d_N_meet_127 rfl ⟨Nat.zero_le _, Nat.zero_le _⟩ ?_
                  exact pu (by rw [firstU_end])
                · exact absurd c_68 (by omega)
              · refine A_iload7 d_N_meet_61 ?_
                refine A_aload6 d_N_meet_63 ?_
                refine A_getf (kf := 0) d_N_meet_65 hA.o ok_1 (by decide) q_49 rfl ?_
                refine A_topI f0 ?_
                first | refine A_icmp_geN (tgt := 126) d_N_meet_68 (by decide) (by with_reducible rfl) (by with_reducible rfl) (by omega) (by omega) (fun c_68 => ?_) (fun c_68 => ?_) | refine A_icmp_ge (tgt := 126) d_N_meet_68 (by decide) (fun c_68 => ?_) (fun c_68 => ?_)
                · exact absurd c_68 (by omega)
                · refine A_aload6 d_N_meet_71 ?_
                  refine A_aload_n0 d_N_meet_73 ?_
                  refine A_getf (kf := 0) d_N_meet_74 hN.o ok_7 (by decide) q_368 rfl ?_
                  refine A_getf (kf := 6) d_N_meet_77 hN.a.o ok_6 (by decide) q_205 rfl ?_
                  refine A_iload_n2 d_N_meet_80 ?_
                  refine A_aaldN d_N_meet_81 hN.a.treaties rfl rfl ⟨by omega, by decide⟩ (show va_rf (if t < 2 then some (n + 1 + 5 + t) else none) = .ref (n + 1 + 5 + t) by rw [if_pos (by omega)]; rfl) ?_
                  refine A_iload5 d_N_meet_82 ?_
                  refine A_iload7 d_N_meet_84 ?_
                  first | refine A_iaddN d_N_meet_86 (by with_reducible rfl) (by with_reducible rfl) ?_ | refine A_iadd d_N_meet_86 ?_
                  refine A_callVP d_N_meet_87 (c_Ld_at hA hV0 (hN.r.row hN.a ht) (x + i) (by omega)) hA.o rfl q_761 q_685 q_686 mk_Ld_at rfl (by decide) rfl (Nat.le_of_ble_eq_true rfl) ⟨Nat.le_of_ble_eq_true rfl, Nat.le_of_ble_eq_true rfl⟩ ⟨rfl, rfl⟩ ?_
                  have hb := (hN.r.row hN.a ht).le (md24 ok (x + i))
                  refine A_istore8 d_N_meet_90 trivial ?_
                  refine A_iload8 d_N_meet_92 ?_
                  refine A_aload6 d_N_meet_94 ?_
                  refine A_getf (kf := 5) d_N_meet_96 hA.o ok_1 (by decide) q_66 rfl ?_
                  refine A_iload_n3 d_N_meet_99 ?_
                  refine A_ialdN d_N_meet_100 hA.a5 ⟨by omega, by decide⟩ ?_
                  refine A_topI (hP p (by omega)).1 ?_
                  have hcip := (ok.2.2.2.2.2.2.1 p (by omega)).1
                  first | refine A_icmp_eqN (tgt := 120) d_N_meet_101 (by decide) (by with_reducible rfl) (by with_reducible rfl) (by omega) (by omega) (fun c_101 => ?_) (fun c_101 => ?_) | refine A_icmp_eq (tgt := 120) d_N_meet_101 (by decide) (fun c_101 => ?_) (fun c_101 => ?_)
                  · first | refine A_iinc7 d_N_meet_120 (nI_1 _) trivial ?_ | refine A_iinc7 d_N_meet_120 rfl trivial ?_
                    refine A_goto (tgt := 61) d_N_meet_123 (by decide) ?_
                    rw [firstU_step _ _ _ hi, if_neg (by unfold ltB; first | (rw [decide_eq_true c_101]; simp; done) | (rw [decide_eq_true c_114]; simp; done))]
                    exact A_drop8 ih
                  · refine A_iload8 d_N_meet_104 ?_
                    refine A_aload6 d_N_meet_106 ?_
                    refine A_getf (kf := 5) d_N_meet_108 hA.o ok_1 (by decide) q_66 rfl ?_
                    refine A_iload4 d_N_meet_111 ?_
                    refine A_ialdN d_N_meet_113 hA.a5 ⟨by omega, by decide⟩ ?_
                    refine A_topI (hP p2 (by omega)).1 ?_
                    have hcip2 := (ok.2.2.2.2.2.2.1 p2 (by omega)).1
                    first | refine A_icmp_eqN (tgt := 120) d_N_meet_114 (by decide) (by with_reducible rfl) (by with_reducible rfl) (by omega) (by omega) (fun c_114 => ?_) (fun c_114 => ?_) | refine A_icmp_eq (tgt := 120) d_N_meet_114 (by decide) (fun c_114 => ?_) (fun c_114 => ?_)
                    · first | refine A_iinc7 d_N_meet_120 (nI_1 _) trivial ?_ | refine A_iinc7 d_N_meet_120 rfl trivial ?_
                      refine A_goto (tgt := 61) d_N_meet_123 (by decide) ?_
                      rw [firstU_step _ _ _ hi, if_neg (by unfold ltB; first | (rw [decide_eq_true c_101]; simp; done) | (rw [decide_eq_true c_114]; simp; done))]
                      exact A_drop8 ih
                    · refine A_iload7 d_N_meet_117 ?_
                      refine A_iret d_N_meet_119 rfl ⟨Nat.zero_le _, Nat.zero_le _⟩ ?_
                      exact pu (by rw [firstU_step _ _ _ hi, if_pos (by unfold ltB; rw [decide_eq_false c_101, decide_eq_false c_114]; rfl)])
            refine A_aload_n0 d_N_meet_0 ?_
            refine A_iload_n1 d_N_meet_1 ?_
            refine A_iload_n2 d_N_meet_2 ?_
            refine A_callVP d_N_meet_3 (c_N_hasRowT hN hl ht) hN.o rfl q_672 q_674 qs_3 mk_N_hasRow rfl (by decide) rfl (Nat.le_of_ble_eq_true rfl) ⟨Nat.le_of_ble_eq_true rfl, Nat.le_of_ble_eq_true rfl⟩ ⟨rfl, rfl⟩ ?_
            refine A_if_neB (tgt := 11) d_N_meet_6 (by decide) (fun c_6 => ?_) (fun c => absurd c (by decide))
            refine A_aload_n0 d_N_meet_11 ?_
            refine A_getf (kf := 0) d_N_meet_12 hN.o ok_7 (by decide) q_368 rfl ?_
            refine A_getf (kf := 5) d_N_meet_15 hN.a.o ok_6 (by decide) q_203 rfl ?_
            refine A_iload_n1 d_N_meet_18 ?_
            refine A_aaldN d_N_meet_19 hN.a.lands rfl rfl ⟨by omega, by decide⟩ (show va_rf (two (n + 1 + 12) (n + 1 + 29) l) = .ref (n + 1 + 12 + 17 * l) by rw [two_at rfl (by omega)]; rfl) ?_
            refine A_astore6 d_N_meet_20 trivial ?_
            refine A_aload6 d_N_meet_22 ?_
            refine A_iload_n3 d_N_meet_24 ?_
            refine A_callVP d_N_meet_25 (c_Ld_hasPersonT hA hV0 hp) hA.o rfl q_652 q_653 q_654 mk_Ld_hasPerson rfl (by decide) rfl (Nat.le_of_ble_eq_true rfl) ⟨Nat.le_of_ble_eq_true rfl, Nat.le_of_ble_eq_true rfl⟩ ⟨rfl, rfl⟩ ?_
            refine A_if_eqB (tgt := 56) d_N_meet_28 (by decide) (fun c => absurd c (by decide)) (fun c_28 => ?_)
            refine A_aload6 d_N_meet_31 ?_
            refine A_iload4 d_N_meet_33 ?_
            refine A_callVP d_N_meet_35 (c_Ld_hasPersonT hA hV0 hp2) hA.o rfl q_652 q_653 q_654 mk_Ld_hasPerson rfl (by decide) rfl (Nat.le_of_ble_eq_true rfl) ⟨Nat.le_of_ble_eq_true rfl, Nat.le_of_ble_eq_true rfl⟩ ⟨rfl, rfl⟩ ?_
            refine A_if_eqB (tgt := 56) d_N_meet_38 (by decide) (fun c => absurd c (by decide)) (fun c_38 => ?_)
            refine A_iload5 d_N_meet_41 ?_
            refine A_if_lt (tgt := 56) d_N_meet_43 (by decide) (fun c => absurd c (nI_pos (by omega))) (fun c_43 => ?_)
            refine A_iload5 d_N_meet_46 ?_
            refine A_aload6 d_N_meet_48 ?_
            refine A_getf (kf := 0) d_N_meet_50 hA.o ok_1 (by decide) q_49 rfl ?_
            refine A_topI f0 ?_
            first | refine A_icmp_ltN (tgt := 58) d_N_meet_53 (by decide) (by with_reducible rfl) (by with_reducible rfl) (by omega) (by omega) (fun c_53 => ?_) (fun c_53 => ?_) | refine A_icmp_lt (tgt := 58) d_N_meet_53 (by decide) (fun c_53 => ?_) (fun c_53 => ?_)
            · refine A_iconst (v := nI 0) d_N_meet_58 (by decide) ?_
              refine A_istore7 d_N_meet_59 trivial ?_
              exact key 0 (Nat.zero_le _)
            · refine A_iconst (v := (-1)) d_N_meet_56 (by decide) ?_
              refine A_iret d_N_meet_57 rfl ⟨Nat.zero_le _, Nat.zero_le _⟩ ?_
              first | (exfalso; omega) | exact pu rfl
          · rw [pick_out hnh]
            by_cases hx : ha < 0
            · refine A_aload_n0 d_N_meet_0 ?_
              refine A_iload_n1 d_N_meet_1 ?_
              refine A_iload_n2 d_N_meet_2 ?_
              refine A_callVP d_N_meet_3 (c_N_hasRowT hN hl ht) hN.o rfl q_672 q_674 qs_3 mk_N_hasRow rfl (by decide) rfl (Nat.le_of_ble_eq_true rfl) ⟨Nat.le_of_ble_eq_true rfl, Nat.le_of_ble_eq_true rfl⟩ ⟨rfl, rfl⟩ ?_
              refine A_if_neB (tgt := 11) d_N_meet_6 (by decide) (fun c_6 => ?_) (fun c => absurd c (by decide))
              refine A_aload_n0 d_N_meet_11 ?_
              refine A_getf (kf := 0) d_N_meet_12 hN.o ok_7 (by decide) q_368 rfl ?_
              refine A_getf (kf := 5) d_N_meet_15 hN.a.o ok_6 (by decide) q_203 rfl ?_
              refine A_iload_n1 d_N_meet_18 ?_
              refine A_aaldN d_N_meet_19 hN.a.lands rfl rfl ⟨by omega, by decide⟩ (show va_rf (two (n + 1 + 12) (n + 1 + 29) l) = .ref (n + 1 + 12 + 17 * l) by rw [two_at rfl (by omega)]; rfl) ?_
              refine A_astore6 d_N_meet_20 trivial ?_
              refine A_aload6 d_N_meet_22 ?_
              refine A_iload_n3 d_N_meet_24 ?_
              refine A_callVP d_N_meet_25 (c_Ld_hasPersonT hA hV0 hp) hA.o rfl q_652 q_653 q_654 mk_Ld_hasPerson rfl (by decide) rfl (Nat.le_of_ble_eq_true rfl) ⟨Nat.le_of_ble_eq_true rfl, Nat.le_of_ble_eq_true rfl⟩ ⟨rfl, rfl⟩ ?_
              refine A_if_eqB (tgt := 56) d_N_meet_28 (by decide) (fun c => absurd c (by decide)) (fun c_28 => ?_)
              refine A_aload6 d_N_meet_31 ?_
              refine A_iload4 d_N_meet_33 ?_
              refine A_callVP d_N_meet_35 (c_Ld_hasPersonT hA hV0 hp2) hA.o rfl q_652 q_653 q_654 mk_Ld_hasPerson rfl (by decide) rfl (Nat.le_of_ble_eq_true rfl) ⟨Nat.le_of_ble_eq_true rfl, Nat.le_of_ble_eq_true rfl⟩ ⟨rfl, rfl⟩ ?_
              refine A_if_eqB (tgt := 56) d_N_meet_38 (by decide) (fun c => absurd c (by decide)) (fun c_38 => ?_)
              refine A_iload5 d_N_meet_41 ?_
              refine A_if_lt (tgt := 56) d_N_meet_43 (by decide) (fun c_43 => ?_) (fun c => absurd hx c)
              refine A_iconst (v := (-1)) d_N_meet_56 (by decide) ?_
              refine A_iret d_N_meet_57 rfl ⟨Nat.zero_le _, Nat.zero_le _⟩ ?_
              first | (exfalso; omega) | exact pu rfl
            · obtain ⟨j, hj, rfl, hle⟩ := inB_tdF (by omega) hnh hx
              refine A_aload_n0 d_N_meet_0 ?_
              refine A_iload_n1 d_N_meet_1 ?_
              refine A_iload_n2 d_N_meet_2 ?_
              refine A_callVP d_N_meet_3 (c_N_hasRowT hN hl ht) hN.o rfl q_672 q_674 qs_3 mk_N_hasRow rfl (by decide) rfl (Nat.le_of_ble_eq_true rfl) ⟨Nat.le_of_ble_eq_true rfl, Nat.le_of_ble_eq_true rfl⟩ ⟨rfl, rfl⟩ ?_
              refine A_if_neB (tgt := 11) d_N_meet_6 (by decide) (fun c_6 => ?_) (fun c => absurd c (by decide))
              refine A_aload_n0 d_N_meet_11 ?_
              refine A_getf (kf := 0) d_N_meet_12 hN.o ok_7 (by decide) q_368 rfl ?_
              refine A_getf (kf := 5) d_N_meet_15 hN.a.o ok_6 (by decide) q_203 rfl ?_
              refine A_iload_n1 d_N_meet_18 ?_
              refine A_aaldN d_N_meet_19 hN.a.lands rfl rfl ⟨by omega, by decide⟩ (show va_rf (two (n + 1 + 12) (n + 1 + 29) l) = .ref (n + 1 + 12 + 17 * l) by rw [two_at rfl (by omega)]; rfl) ?_
              refine A_astore6 d_N_meet_20 trivial ?_
              refine A_aload6 d_N_meet_22 ?_
              refine A_iload_n3 d_N_meet_24 ?_
              refine A_callVP d_N_meet_25 (c_Ld_hasPersonT hA hV0 hp) hA.o rfl q_652 q_653 q_654 mk_Ld_hasPerson rfl (by decide) rfl (Nat.le_of_ble_eq_true rfl) ⟨Nat.le_of_ble_eq_true rfl, Nat.le_of_ble_eq_true rfl⟩ ⟨rfl, rfl⟩ ?_
              refine A_if_eqB (tgt := 56) d_N_meet_28 (by decide) (fun c => absurd c (by decide)) (fun c_28 => ?_)
              refine A_aload6 d_N_meet_31 ?_
              refine A_iload4 d_N_meet_33 ?_
              refine A_callVP d_N_meet_35 (c_Ld_hasPersonT hA hV0 hp2) hA.o rfl q_652 q_653 q_654 mk_Ld_hasPerson rfl (by decide) rfl (Nat.le_of_ble_eq_true rfl) ⟨Nat.le_of_ble_eq_true rfl, Nat.le_of_ble_eq_true rfl⟩ ⟨rfl, rfl⟩ ?_
              refine A_if_eqB (tgt := 56) d_N_meet_38 (by decide) (fun c => absurd c (by decide)) (fun c_38 => ?_)
              refine A_iload5 d_N_meet_41 ?_
              refine A_if_lt (tgt := 56) d_N_meet_43 (by decide) (fun c => absurd c hx) (fun c_43 => ?_)
              refine A_iload5 d_N_meet_46 ?_
              refine A_aload6 d_N_meet_48 ?_
              refine A_getf (kf := 0) d_N_meet_50 hA.o ok_1 (by decide) q_49 rfl ?_
              refine A_topI f0 ?_
              first | refine A_icmp_ltN (tgt := 58) d_N_meet_53 (by decide) (by with_reducible rfl) (by with_reducible rfl) (by omega) (by omega) (fun c_53 => ?_) (fun c_53 => ?_) | refine A_icmp_lt (tgt := 58) d_N_meet_53 (by decide) (fun c_53 => ?_) (fun c_53 => ?_)
              · exfalso; omega
              · refine A_iconst (v := (-1)) d_N_meet_56 (by decide) ?_
                refine A_iret d_N_meet_57 rfl ⟨Nat.zero_le _, Nat.zero_le _⟩ ?_
                first | (exfalso; omega) | exact pu rfl
        · rw [pick_out hnq]
          refine A_aload_n0 d_N_meet_0 ?_
          refine A_iload_n1 d_N_meet_1 ?_
          refine A_iload_n2 d_N_meet_2 ?_
          refine A_callVP d_N_meet_3 (c_N_hasRowT hN hl ht) hN.o rfl q_672 q_674 qs_3 mk_N_hasRow rfl (by decide) rfl (Nat.le_of_ble_eq_true rfl) ⟨Nat.le_of_ble_eq_true rfl, Nat.le_of_ble_eq_true rfl⟩ ⟨rfl, rfl⟩ ?_
          refine A_if_neB (tgt := 11) d_N_meet_6 (by decide) (fun c_6 => ?_) (fun c => absurd c (by decide))
          refine A_aload_n0 d_N_meet_11 ?_
          refine A_getf (kf := 0) d_N_meet_12 hN.o ok_7 (by decide) q_368 rfl ?_
          refine A_getf (kf := 5) d_N_meet_15 hN.a.o ok_6 (by decide) q_203 rfl ?_
          refine A_iload_n1 d_N_meet_18 ?_
          refine A_aaldN d_N_meet_19 hN.a.lands rfl rfl ⟨by omega, by decide⟩ (show va_rf (two (n + 1 + 12) (n + 1 + 29) l) = .ref (n + 1 + 12 + 17 * l) by rw [two_at rfl (by omega)]; rfl) ?_
          refine A_astore6 d_N_meet_20 trivial ?_
          refine A_aload6 d_N_meet_22 ?_
          refine A_iload_n3 d_N_meet_24 ?_
          refine A_callVP d_N_meet_25 (c_Ld_hasPersonT hA hV0 hp) hA.o rfl q_652 q_653 q_654 mk_Ld_hasPerson rfl (by decide) rfl (Nat.le_of_ble_eq_true rfl) ⟨Nat.le_of_ble_eq_true rfl, Nat.le_of_ble_eq_true rfl⟩ ⟨rfl, rfl⟩ ?_
          refine A_if_eqB (tgt := 56) d_N_meet_28 (by decide) (fun c => absurd c (by decide)) (fun c_28 => ?_)
          refine A_aload6 d_N_meet_31 ?_
          refine A_iload4 d_N_meet_33 ?_
          refine A_callVP d_N_meet_35 (c_Ld_hasPersonF hA hV0 hnq) hA.o rfl q_652 q_653 q_654 mk_Ld_hasPerson rfl (by decide) rfl (Nat.le_of_ble_eq_true rfl) ⟨Nat.le_of_ble_eq_true rfl, Nat.le_of_ble_eq_true rfl⟩ ⟨rfl, rfl⟩ ?_
          refine A_if_eqB (tgt := 56) d_N_meet_38 (by decide) (fun c_38 => ?_) (fun c => absurd c (by decide))
          refine A_iconst (v := (-1)) d_N_meet_56 (by decide) ?_
          refine A_iret d_N_meet_57 rfl ⟨Nat.zero_le _, Nat.zero_le _⟩ ?_
          first | (exfalso; omega) | exact pu rfl
      · rw [pick_out hnp]
        refine A_aload_n0 d_N_meet_0 ?_
        refine A_iload_n1 d_N_meet_1 ?_
        refine A_iload_n2 d_N_meet_2 ?_
        refine A_callVP d_N_meet_3 (c_N_hasRowT hN hl ht) hN.o rfl q_672 q_674 qs_3 mk_N_hasRow rfl (by decide) rfl (Nat.le_of_ble_eq_true rfl) ⟨Nat.le_of_ble_eq_true rfl, Nat.le_of_ble_eq_true rfl⟩ ⟨rfl, rfl⟩ ?_
        refine A_if_neB (tgt := 11) d_N_meet_6 (by decide) (fun c_6 => ?_) (fun c => absurd c (by decide))
        refine A_aload_n0 d_N_meet_11 ?_
        refine A_getf (kf := 0) d_N_meet_12 hN.o ok_7 (by decide) q_368 rfl ?_
        refine A_getf (kf := 5) d_N_meet_15 hN.a.o ok_6 (by decide) q_203 rfl ?_
        refine A_iload_n1 d_N_meet_18 ?_
        refine A_aaldN d_N_meet_19 hN.a.lands rfl rfl ⟨by omega, by decide⟩ (show va_rf (two (n + 1 + 12) (n + 1 + 29) l) = .ref (n + 1 + 12 + 17 * l) by rw [two_at rfl (by omega)]; rfl) ?_
        refine A_astore6 d_N_meet_20 trivial ?_
        refine A_aload6 d_N_meet_22 ?_
        refine A_iload_n3 d_N_meet_24 ?_
        refine A_callVP d_N_meet_25 (c_Ld_hasPersonF hA hV0 hnp) hA.o rfl q_652 q_653 q_654 mk_Ld_hasPerson rfl (by decide) rfl (Nat.le_of_ble_eq_true rfl) ⟨Nat.le_of_ble_eq_true rfl, Nat.le_of_ble_eq_true rfl⟩ ⟨rfl, rfl⟩ ?_
        refine A_if_eqB (tgt := 56) d_N_meet_28 (by decide) (fun c_28 => ?_) (fun c => absurd c (by decide))
        refine A_iconst (v := (-1)) d_N_meet_56 (by decide) ?_
        refine A_iret d_N_meet_57 rfl ⟨Nat.zero_le _, Nat.zero_le _⟩ ?_
        first | (exfalso; omega) | exact pu rfl
    · rw [pick_out hnt]
      refine A_aload_n0 d_N_meet_0 ?_
      refine A_iload_n1 d_N_meet_1 ?_
      refine A_iload_n2 d_N_meet_2 ?_
      refine A_callVP d_N_meet_3 (c_N_hasRowF hN (.inr hnt)) hN.o rfl q_672 q_674 qs_3 mk_N_hasRow rfl (by decide) rfl (Nat.le_of_ble_eq_true rfl) ⟨Nat.le_of_ble_eq_true rfl, Nat.le_of_ble_eq_true rfl⟩ ⟨rfl, rfl⟩ ?_
      refine A_if_neB (tgt := 11) d_N_meet_6 (by decide) (fun c => absurd c (by decide)) (fun c_6 => ?_)
      refine A_iconst (v := (-1)) d_N_meet_9 (by decide) ?_
      refine A_iret d_N_meet_10 rfl ⟨Nat.zero_le _, Nat.zero_le _⟩ ?_
      exact pu rfl
  · rw [pick_out hnl]
    refine A_aload_n0 d_N_meet_0 ?_
    refine A_iload_n1 d_N_meet_1 ?_
    refine A_iload_n2 d_N_meet_2 ?_
    refine A_callVP d_N_meet_3 (c_N_hasRowF hN (.inl hnl)) hN.o rfl q_672 q_674 qs_3 mk_N_hasRow rfl (by decide) rfl (Nat.le_of_ble_eq_true rfl) ⟨Nat.le_of_ble_eq_true rfl, Nat.le_of_ble_eq_true rfl⟩ ⟨rfl, rfl⟩ ?_
    refine A_if_neB (tgt := 11) d_N_meet_6 (by decide) (fun c => absurd c (by decide)) (fun c_6 => ?_)
    refine A_iconst (v := (-1)) d_N_meet_9 (by decide) ?_
    refine A_iret d_N_meet_10 rfl ⟨Nat.zero_le _, Nat.zero_le _⟩ ?_
    exact pu rfl
