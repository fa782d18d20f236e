set_option maxHeartbeats 4000000 in
set_option maxRecDepth 100000 in
theorem c_N_stolen {G : GE} {h : AH} {n : Nat} {W : TD} {c : Nat → Nat} {VL WT BK SG GM : Nat → Nat → Nat} (hN : NT h n W c VL WT BK SG GM) (la ta sa ka : Int32) : Ctr G y_N_stolen b_N_stolen 15 (some .int) r_N_stolen [.ref n, .int la, .int ta, .int sa, .int ka] h (Pu (.int (rg ka 0 3 (fun kk => pick (c 3) sa (fun b => pick (c 0) la (fun l => pick (c 1) ta (fun t => if thereB (VL l) (SG b) = true then stolenV (VL l) (WT t) (SG b) kk else -2) (-2)) (-2)) (-2)) (-2))) h) := by
  refine Ctr.of (by decide +kernel) (by simp) (Nat.le_of_ble_eq_true rfl) (L0 := [some (.ref n), some (.int la), some (.int ta), some (.int sa), some (.int ka), none, none, none, none, none, none, none, none, none, none]) rfl ?_
  have hc0 := (hN.r.n 0 (by decide)).2
  have hc1 := (hN.r.n 1 (by decide)).2
  have hc3 := (hN.r.n 3 (by decide)).2
  rcases rg_c (lo := 0) (hi := 3) (by decide) (by decide) ka with ⟨kk, hk1, hk2, rfl⟩ | hro
  · rw [rg_in ⟨hk1, hk2⟩ (by decide)]
    rcases told_c (n := c 3) (by omega) sa with ⟨b, hb, rfl⟩ | hnb
    · rw [pick_in hb (by omega)]
      rcases told_c (n := c 0) (by omega) la with ⟨l, hl, rfl⟩ | hnl
      · rw [pick_in hl (by omega)]
        rcases told_c (n := c 1) (by omega) ta with ⟨t, ht, rfl⟩ | hnt
        · rw [pick_in ht (by omega)]
          have hA := hN.a.l l (by omega)
          have hV := hN.r.l l hl
          have hV0 := hV
          obtain ⟨ok, ⟨f0, f1, f2, f3, f4, f9⟩, hP, hBe, hTo⟩ := hV
          have hH := ok.1
          have h4 := ok.2.2.2.2.1
          have h5 := ok.2.2.2.2.2.1
          have hS := hN.a.s b (by omega)
          have hK0 := hN.r.s b hb
          have hmul : ∀ i, i ≤ (VL l) 0 → i * (VL l) 0 ≤ 576 := fun i hi => Nat.le_trans (Nat.mul_le_mul hi (Nat.le_refl _)) (Nat.mul_le_mul (show (VL l) 0 ≤ 24 by omega) (show (VL l) 0 ≤ 24 by omega))
          have hso := stOut_le (VL l) (WT t) (SG b) hH.1
          cases hth0 : thereB (VL l) (SG b)
          · refine A_aload_n0 d_N_stolen_0 ?_
            refine A_iload_n1 d_N_stolen_1 ?_
            refine A_iload_n2 d_N_stolen_2 ?_
            refine A_callVP d_N_stolen_3 (c_N_hasRowT hN hl ht) hN.o rfl q_672 q_674 qs_3 mk_N_hasRow rfl (by decide) rfl (Nat.le_of_ble_eq_true rfl) ⟨Nat.le_of_ble_eq_true rfl, Nat.le_of_ble_eq_true rfl⟩ ⟨rfl, rfl⟩ ?_
            refine A_if_eqB (tgt := 29) d_N_stolen_6 (by decide) (fun c => absurd c (by decide)) (fun c_6 => ?_)
            refine A_aload_n0 d_N_stolen_9 ?_
            refine A_iconst (v := nI 3) d_N_stolen_10 (by decide) ?_
            refine A_iload_n3 d_N_stolen_11 ?_
            refine A_callVP d_N_stolen_12 (c_N_isToldT hN (by decide) hb) hN.o rfl q_644 q_646 qs_2 mk_N_isTold rfl (by decide) rfl (Nat.le_of_ble_eq_true rfl) ⟨Nat.le_of_ble_eq_true rfl, Nat.le_of_ble_eq_true rfl⟩ ⟨rfl, rfl⟩ ?_
            refine A_if_eqB (tgt := 29) d_N_stolen_15 (by decide) (fun c => absurd c (by decide)) (fun c_15 => ?_)
            refine A_iload4 d_N_stolen_18 ?_
            refine A_if_lt (tgt := 29) d_N_stolen_20 (by decide) (fun c => absurd c (nI_pos (by omega))) (fun c_20 => ?_)
            refine A_iload4 d_N_stolen_23 ?_
            refine A_iconst (v := nI 3) d_N_stolen_25 (by decide) ?_
            first | refine A_icmp_leN (tgt := 32) d_N_stolen_26 (by decide) (by with_reducible rfl) (by with_reducible rfl) (by omega) (by omega) (fun c_26 => ?_) (fun c_26 => ?_) | refine A_icmp_le (tgt := 32) d_N_stolen_26 (by decide) (fun c_26 => ?_) (fun c_26 => ?_)
            · refine A_aload_n0 d_N_stolen_32 ?_
              refine A_getf (kf := 0) d_N_stolen_33 hN.o ok_7 (by decide) q_368 rfl ?_
              refine A_getf (kf := 5) d_N_stolen_36 hN.a.o ok_6 (by decide) q_203 rfl ?_
              refine A_iload_n1 d_N_stolen_39 ?_
              refine A_aaldN d_N_stolen_40 hN.a.lands rfl rfl ⟨by omega, by decide⟩ (show va_rf (two (n + 1 + 12) (n + 1 + 29) l) = .ref (n + 1 + 12 + 17 * l) by rw [two_at rfl (by omega)]; rfl) ?_
              refine A_astore5 d_N_stolen_41 trivial ?_
              refine A_aload_n0 d_N_stolen_43 ?_
              refine A_getf (kf := 0) d_N_stolen_44 hN.o ok_7 (by decide) q_368 rfl ?_
              refine A_getf (kf := 8) d_N_stolen_47 hN.a.o ok_6 (by decide) q_209 rfl ?_
              refine A_iload_n3 d_N_stolen_50 ?_
              refine A_aaldN d_N_stolen_51 hN.a.sights rfl rfl ⟨by omega, by decide⟩ (show va_rf (two (n + 1 + 25) (n + 1 + 42) b) = .ref (n + 1 + 25 + 17 * b) by rw [two_at rfl (by omega)]; rfl) ?_
              refine A_astore6 d_N_stolen_52 trivial ?_
              refine A_aload6 d_N_stolen_54 ?_
              refine A_aload5 d_N_stolen_56 ?_
              refine A_callVP d_N_stolen_58 (c_Si_isOf hA hV0 hS hK0) hS.o rfl q_987 q_988 q_989 mk_Si_isOf rfl (by decide) rfl (Nat.le_of_ble_eq_true rfl) ⟨Nat.le_of_ble_eq_true rfl, Nat.le_of_ble_eq_true rfl⟩ ⟨rfl, rfl⟩ ?_
              refine A_if_neB (tgt := 67) d_N_stolen_61 (by decide) (fun c => absurd (hth0.symm.trans c) (by decide)) (fun c_61 => ?_)
              refine A_bipush (v := (-2)) d_N_stolen_64 (by decide) ?_
              refine A_iret d_N_stolen_66 rfl ⟨Nat.zero_le _, Nat.zero_le _⟩ ?_
              exact pu (by first | rw [if_neg (by decide)] | rw [if_neg (by rw [hth0]; decide)])
            · exact absurd c_26 (by omega)
          · rw [if_pos rfl]
            have hth : ∀ k, k < (SG b) 0 → (SG b) (1 + 3 * k + 0) < (VL l) 4 ∧ (SG b) (1 + 3 * k + 1) < (VL l) 0 := fun k hk => by
              have := firstU_all (Nat.zero_le _) hth0 k (Nat.zero_le _) hk
              simpa [offB] using this
            have key : ∀ i, i ≤ (VL l) 0 + 1 → WA G y_N_stolen b_N_stolen 15 (some .int) r_N_stolen 0 0 (Pu (.int (stolenV (VL l) (WT t) (SG b) kk)) h) 0 0 86 [some (.ref n), some (.int (nI l)), some (.int (nI t)), some (.int (nI b)), some (.int (nI kk)), some (.ref (n + 1 + 12 + 17 * l)), some (.ref (n + 1 + 25 + 17 * b)), some (.int (nI (stOut (VL l) (WT t) (SG b) i).1)), some (.int (stOut (VL l) (WT t) (SG b) i).2.1), some (.int (stOut (VL l) (WT t) (SG b) i).2.2.1), some (.int (stOut (VL l) (WT t) (SG b) i).2.2.2), some (.int (nI i)), none, none, none] [] h := by
              refine down ?_ (fun i hi ih => ?_)
              · have hsv := hso ((VL l) 0 + 1)
                have hmv := hmul ((VL l) 0) (Nat.le_refl _)
                rw [Nat.succ_mul] at hsv
                rcases (show kk = 0 ∨ kk = 1 ∨ kk = 2 ∨ kk = 3 by omega) with rfl | rfl | rfl | rfl
                · refine A_iload11 d_N_stolen_86 ?_
                  refine A_aload5 d_N_stolen_88 ?_
                  refine A_getf (kf := 0) d_N_stolen_90 hA.o ok_1 (by decide) q_49 rfl ?_
                  refine A_topI f0 ?_
                  first | refine A_icmp_gtN (tgt := 214) d_N_stolen_93 (by decide) (by with_reducible rfl) (by with_reducible rfl) (by omega) (by omega) (fun c_93 => ?_) (fun c_93 => ?_) | refine A_icmp_gt (tgt := 214) d_N_stolen_93 (by decide) (fun c_93 => ?_) (fun c_93 => ?_)
                  · refine A_iload4 d_N_stolen_214 ?_
                    refine A_tableIn (tgt := 244) d_N_stolen_216 (by decide) (by decide) rfl (by decide) ?_
                    refine A_iload7 d_N_stolen_244 ?_
                    refine A_iret d_N_stolen_246 rfl ⟨Nat.zero_le _, Nat.zero_le _⟩ ?_
                    exact pu (by unfold stolenV; first | (rw [if_pos rfl]; done) | (rw [if_neg (by decide), if_pos rfl, if_pos c_249]; done) | (rw [if_neg (by decide), if_pos rfl, if_neg c_249]; done) | (rw [if_neg (by decide), if_neg (by decide), if_pos rfl]; done) | (rw [if_neg (by decide), if_neg (by decide), if_neg (by decide)]; done))
                  · exact absurd c_93 (by omega)
                · refine A_iload11 d_N_stolen_86 ?_
                  refine A_aload5 d_N_stolen_88 ?_
                  refine A_getf (kf := 0) d_N_stolen_90 hA.o ok_1 (by decide) q_49 rfl ?_
                  refine A_topI f0 ?_
                  first | refine A_icmp_gtN (tgt := 214) d_N_stolen_93 (by decide) (by with_reducible rfl) (by with_reducible rfl) (by omega) (by omega) (fun c_93 => ?_) (fun c_93 => ?_) | refine A_icmp_gt (tgt := 214) d_N_stolen_93 (by decide) (fun c_93 => ?_) (fun c_93 => ?_)
                  · refine A_iload4 d_N_stolen_214 ?_
                    refine A_tableIn (tgt := 247) d_N_stolen_216 (by decide) (by decide) rfl (by decide) ?_
                    refine A_iload7 d_N_stolen_247 ?_
                    first | refine A_if_neN (tgt := 256) d_N_stolen_249 (by decide) (by with_reducible rfl) (by omega) (fun c_249 => ?_) (fun c_249 => ?_) | refine A_if_ne (tgt := 256) d_N_stolen_249 (by decide) (fun c_249 => ?_) (fun c_249 => ?_)
                    · refine A_iload8 d_N_stolen_256 ?_
                      refine A_iret d_N_stolen_258 rfl ⟨Nat.zero_le _, Nat.zero_le _⟩ ?_
                      exact pu (by unfold stolenV; first | (rw [if_pos rfl]; done) | (rw [if_neg (by decide), if_pos rfl, if_pos c_249]; done) | (rw [if_neg (by decide), if_pos rfl, if_neg c_249]; done) | (rw [if_neg (by decide), if_neg (by decide), if_pos rfl]; done) | (rw [if_neg (by decide), if_neg (by decide), if_neg (by decide)]; done))
                    · refine A_iconst (v := nI 0) d_N_stolen_252 (by decide) ?_
                      refine A_goto (tgt := 258) d_N_stolen_253 (by decide) ?_
                      refine A_iret d_N_stolen_258 rfl ⟨Nat.zero_le _, Nat.zero_le _⟩ ?_
                      exact pu (by unfold stolenV; first | (rw [if_pos rfl]; done) | (rw [if_neg (by decide), if_pos rfl, if_pos c_249]; done) | (rw [if_neg (by decide), if_pos rfl, if_neg c_249]; done) | (rw [if_neg (by decide), if_neg (by decide), if_pos rfl]; done) | (rw [if_neg (by decide), if_neg (by decide), if_neg (by decide)]; done))
                  · exact absurd c_93 (by omega)
                · refine A_iload11 d_N_stolen_86 ?_
                  refine A_aload5 d_N_stolen_88 ?_
                  refine A_getf (kf := 0) d_N_stolen_90 hA.o ok_1 (by decide) q_49 rfl ?_
                  refine A_topI f0 ?_
                  first | refine A_icmp_gtN (tgt := 214) d_N_stolen_93 (by decide) (by with_reducible rfl) (by with_reducible rfl) (by omega) (by omega) (fun c_93 => ?_) (fun c_93 => ?_) | refine A_icmp_gt (tgt := 214) d_N_stolen_93 (by decide) (fun c_93 => ?_) (fun c_93 => ?_)
                  · refine A_iload4 d_N_stolen_214 ?_
                    refine A_tableIn (tgt := 259) d_N_stolen_216 (by decide) (by decide) rfl (by decide) ?_
                    refine A_iload9 d_N_stolen_259 ?_
                    refine A_iret d_N_stolen_261 rfl ⟨Nat.zero_le _, Nat.zero_le _⟩ ?_
                    exact pu (by unfold stolenV; first | (rw [if_pos rfl]; done) | (rw [if_neg (by decide), if_pos rfl, if_pos c_249]; done) | (rw [if_neg (by decide), if_pos rfl, if_neg c_249]; done) | (rw [if_neg (by decide), if_neg (by decide), if_pos rfl]; done) | (rw [if_neg (by decide), if_neg (by decide), if_neg (by decide)]; done))
                  · exact absurd c_93 (by omega)
                · refine A_iload11 d_N_stolen_86 ?_
                  refine A_aload5 d_N_stolen_88 ?_
                  refine A_getf (kf := 0) d_N_stolen_90 hA.o ok_1 (by decide) q_49 rfl ?_
                  refine A_topI f0 ?_
                  first | refine A_icmp_gtN (tgt := 214) d_N_stolen_93 (by decide) (by with_reducible rfl) (by with_reducible rfl) (by omega) (by omega) (fun c_93 => ?_) (fun c_93 => ?_) | refine A_icmp_gt (tgt := 214) d_N_stolen_93 (by decide) (fun c_93 => ?_) (fun c_93 => ?_)
                  · refine A_iload4 d_N_stolen_214 ?_
                    refine A_tableOut (tgt := 262) d_N_stolen_216 (by decide) (by decide) ?_
                    refine A_iload10 d_N_stolen_262 ?_
                    refine A_iret d_N_stolen_264 rfl ⟨Nat.zero_le _, Nat.zero_le _⟩ ?_
                    exact pu (by unfold stolenV; first | (rw [if_pos rfl]; done) | (rw [if_neg (by decide), if_pos rfl, if_pos c_249]; done) | (rw [if_neg (by decide), if_pos rfl, if_neg c_249]; done) | (rw [if_neg (by decide), if_neg (by decide), if_pos rfl]; done) | (rw [if_neg (by decide), if_neg (by decide), if_neg (by decide)]; done))
                  · exact absurd c_93 (by omega)
              · have hfr := fromsN_le (H := (VL l) 0) (n := i) hH.1
                have hsi := hso i
                have hmi := hmul i (by omega)
                generalize hSTd : (fun j => stIn (VL l) (WT t) (SG b) i (stOut (VL l) (WT t) (SG b) i) j) = ST at *
                have hST0 : ST 0 = stOut (VL l) (WT t) (SG b) i := by rw [← hSTd]; rfl
                have hST : ∀ j, ST (j + 1) = stStep (VL l) (WT t) (SG b) i j (ST j) := by intro j; rw [← hSTd]; rfl
                have hSTe : stOut (VL l) (WT t) (SG b) (i + 1) = ST (fromsN ((VL l) 0) i) := by rw [← hSTd]; rfl
                have hSTl : ∀ j, (ST j).1 ≤ (stOut (VL l) (WT t) (SG b) i).1 + j := by intro j; rw [← hSTd]; exact stIn_le _ _ _ _ _ j
                rw [hSTe] at ih
                have key2 : ∀ j, j ≤ fromsN ((VL l) 0) i → WA G y_N_stolen b_N_stolen 15 (some .int) r_N_stolen 0 0 (Pu (.int (stolenV (VL l) (WT t) (SG b) kk)) h) 0 0 125 [some (.ref n), some (.int (nI l)), some (.int (nI t)), some (.int (nI b)), some (.int (nI kk)), some (.ref (n + 1 + 12 + 17 * l)), some (.ref (n + 1 + 25 + 17 * b)), some (.int (nI (ST j).1)), some (.int (ST j).2.1), some (.int (ST j).2.2.1), some (.int (ST j).2.2.2), some (.int (nI i)), some (.int (nI (fromsN ((VL l) 0) i))), some (.int (nI j)), none] [] h := by
                  refine down ?_ (fun j hj ih2 => ?_)
                  · refine A_iload13 d_N_stolen_125 ?_
                    refine A_iload12 d_N_stolen_127 ?_
                    first | refine A_icmp_geN (tgt := 208) d_N_stolen_129 (by decide) (by with_reducible rfl) (by with_reducible rfl) (by omega) (by omega) (fun c_129 => ?_) (fun c_129 => ?_) | refine A_icmp_ge (tgt := 208) d_N_stolen_129 (by decide) (fun c_129 => ?_) (fun c_129 => ?_)
                    · first | refine A_iinc11 d_N_stolen_208 (nI_1 _) trivial ?_ | refine A_iinc11 d_N_stolen_208 rfl trivial ?_
                      refine A_goto (tgt := 86) d_N_stolen_211 (by decide) ?_
                      refine A_drop13 ?_
                      refine A_drop12 ?_
                      exact ih
                    · exact absurd c_129 (by omega)
                  · have hsj := hSTl j
                    refine A_iload13 d_N_stolen_125 ?_
                    refine A_iload12 d_N_stolen_127 ?_
                    first | refine A_icmp_geN (tgt := 208) d_N_stolen_129 (by decide) (by with_reducible rfl) (by with_reducible rfl) (by omega) (by omega) (fun c_129 => ?_) (fun c_129 => ?_) | refine A_icmp_ge (tgt := 208) d_N_stolen_129 (by decide) (fun c_129 => ?_) (fun c_129 => ?_)
                    · exact absurd c_129 (by omega)
                    · refine A_aload5 d_N_stolen_132 ?_
                      refine A_iload13 d_N_stolen_134 ?_
                      refine A_iload11 d_N_stolen_136 ?_
                      refine A_callVP d_N_stolen_138 (c_Ld_hoursFrom hA hV0 j i (by omega) (by omega)) hA.o rfl q_992 q_993 q_994 mk_Ld_hoursFrom rfl (by decide) rfl (Nat.le_of_ble_eq_true rfl) ⟨Nat.le_of_ble_eq_true rfl, Nat.le_of_ble_eq_true rfl⟩ ⟨rfl, rfl⟩ ?_
                      refine A_istore14 d_N_stolen_141 trivial ?_
                      refine A_aload6 d_N_stolen_143 ?_
                      refine A_aload5 d_N_stolen_145 ?_
                      refine A_aload_n0 d_N_stolen_147 ?_
                      refine A_getf (kf := 0) d_N_stolen_148 hN.o ok_7 (by decide) q_368 rfl ?_
                      refine A_getf (kf := 6) d_N_stolen_151 hN.a.o ok_6 (by decide) q_205 rfl ?_
                      refine A_iload_n2 d_N_stolen_154 ?_
                      refine A_aaldN d_N_stolen_155 hN.a.treaties rfl rfl ⟨by omega, by decide⟩ (show va_rf (if t < 2 then some (n + 1 + 5 + t) else none) = .ref (n + 1 + 5 + t) by rw [if_pos (by omega)]; rfl) ?_
                      refine A_iload14 d_N_stolen_156 ?_
                      refine A_callVP d_N_stolen_158 (c_Si_fits hA hV0 (hN.r.row hN.a ht) hS hK0 hth _) hS.o rfl q_996 q_997 q_998 mk_Si_fits rfl (by decide) rfl (Nat.le_of_ble_eq_true rfl) ⟨Nat.le_of_ble_eq_true rfl, Nat.le_of_ble_eq_true rfl⟩ ⟨rfl, rfl⟩ ?_
                      refine A_if_eqB (tgt := 202) d_N_stolen_161 (by decide) (fun c_161 => ?_) (fun c_161 => ?_)
                      · first | refine A_iinc13 d_N_stolen_202 (nI_1 _) trivial ?_ | refine A_iinc13 d_N_stolen_202 rfl trivial ?_
                        refine A_goto (tgt := 125) d_N_stolen_205 (by decide) ?_
                        refine A_drop14 ?_
                        refine A_loc ?_ ih2
                        first | (simp only [hST, stStep, c_129, c_161, reduceIte, Bool.false_eq_true]; done) | (exfalso; omega)
                      · refine A_iload7 d_N_stolen_164 ?_
                        first | refine A_if_neN (tgt := 174) d_N_stolen_166 (by decide) (by with_reducible rfl) (by omega) (fun c_166 => ?_) (fun c_166 => ?_) | refine A_if_ne (tgt := 174) d_N_stolen_166 (by decide) (fun c_166 => ?_) (fun c_166 => ?_)
                        · refine A_iload9 d_N_stolen_174 ?_
                          refine A_istore9 d_N_stolen_176 trivial ?_
                          refine A_iload7 d_N_stolen_178 ?_
                          first | refine A_if_neN (tgt := 188) d_N_stolen_180 (by decide) (by with_reducible rfl) (by omega) (fun c_180 => ?_) (fun c_180 => ?_) | refine A_if_ne (tgt := 188) d_N_stolen_180 (by decide) (fun c_180 => ?_) (fun c_180 => ?_)
                          · refine A_iload10 d_N_stolen_188 ?_
                            refine A_istore10 d_N_stolen_190 trivial ?_
                            first | refine A_iinc7 d_N_stolen_192 (nI_1 _) trivial ?_ | refine A_iinc7 d_N_stolen_192 rfl trivial ?_
                            refine A_iload8 d_N_stolen_195 ?_
                            refine A_iload14 d_N_stolen_197 ?_
                            refine A_iand d_N_stolen_199 ?_
                            refine A_istore8 d_N_stolen_200 trivial ?_
                            first | refine A_iinc13 d_N_stolen_202 (nI_1 _) trivial ?_ | refine A_iinc13 d_N_stolen_202 rfl trivial ?_
                            refine A_goto (tgt := 125) d_N_stolen_205 (by decide) ?_
                            refine A_drop14 ?_
                            refine A_loc ?_ ih2
                            first | (simp only [hST, stStep, c_129, c_161, c_166, c_180, reduceIte, Bool.false_eq_true]; done) | (exfalso; omega)
                          · refine A_iload13 d_N_stolen_183 ?_
                            refine A_goto (tgt := 190) d_N_stolen_185 (by decide) ?_
                            refine A_istore10 d_N_stolen_190 trivial ?_
                            first | refine A_iinc7 d_N_stolen_192 (nI_1 _) trivial ?_ | refine A_iinc7 d_N_stolen_192 rfl trivial ?_
                            refine A_iload8 d_N_stolen_195 ?_
                            refine A_iload14 d_N_stolen_197 ?_
                            refine A_iand d_N_stolen_199 ?_
                            refine A_istore8 d_N_stolen_200 trivial ?_
                            first | refine A_iinc13 d_N_stolen_202 (nI_1 _) trivial ?_ | refine A_iinc13 d_N_stolen_202 rfl trivial ?_
                            refine A_goto (tgt := 125) d_N_stolen_205 (by decide) ?_
                            refine A_drop14 ?_
                            refine A_loc ?_ ih2
                            first | (simp only [hST, stStep, c_129, c_161, c_166, c_180, reduceIte, Bool.false_eq_true]; done) | (exfalso; omega)
                        · refine A_iload11 d_N_stolen_169 ?_
                          refine A_goto (tgt := 176) d_N_stolen_171 (by decide) ?_
                          refine A_istore9 d_N_stolen_176 trivial ?_
                          refine A_iload7 d_N_stolen_178 ?_
                          first | refine A_if_neN (tgt := 188) d_N_stolen_180 (by decide) (by with_reducible rfl) (by omega) (fun c_180 => ?_) (fun c_180 => ?_) | refine A_if_ne (tgt := 188) d_N_stolen_180 (by decide) (fun c_180 => ?_) (fun c_180 => ?_)
                          · refine A_iload10 d_N_stolen_188 ?_
                            refine A_istore10 d_N_stolen_190 trivial ?_
                            first | refine A_iinc7 d_N_stolen_192 (nI_1 _) trivial ?_ | refine A_iinc7 d_N_stolen_192 rfl trivial ?_
                            refine A_iload8 d_N_stolen_195 ?_
                            refine A_iload14 d_N_stolen_197 ?_
                            refine A_iand d_N_stolen_199 ?_
                            refine A_istore8 d_N_stolen_200 trivial ?_
                            first | refine A_iinc13 d_N_stolen_202 (nI_1 _) trivial ?_ | refine A_iinc13 d_N_stolen_202 rfl trivial ?_
                            refine A_goto (tgt := 125) d_N_stolen_205 (by decide) ?_
                            refine A_drop14 ?_
                            refine A_loc ?_ ih2
                            first | (simp only [hST, stStep, c_129, c_161, c_166, c_180, reduceIte, Bool.false_eq_true]; done) | (exfalso; omega)
                          · refine A_iload13 d_N_stolen_183 ?_
                            refine A_goto (tgt := 190) d_N_stolen_185 (by decide) ?_
                            refine A_istore10 d_N_stolen_190 trivial ?_
                            first | refine A_iinc7 d_N_stolen_192 (nI_1 _) trivial ?_ | refine A_iinc7 d_N_stolen_192 rfl trivial ?_
                            refine A_iload8 d_N_stolen_195 ?_
                            refine A_iload14 d_N_stolen_197 ?_
                            refine A_iand d_N_stolen_199 ?_
                            refine A_istore8 d_N_stolen_200 trivial ?_
                            first | refine A_iinc13 d_N_stolen_202 (nI_1 _) trivial ?_ | refine A_iinc13 d_N_stolen_202 rfl trivial ?_
                            refine A_goto (tgt := 125) d_N_stolen_205 (by decide) ?_
                            refine A_drop14 ?_
                            refine A_loc ?_ ih2
                            first | (simp only [hST, stStep, c_129, c_161, c_166, c_180, reduceIte, Bool.false_eq_true]; done) | (exfalso; omega)
                refine A_iload11 d_N_stolen_86 ?_
                refine A_aload5 d_N_stolen_88 ?_
                refine A_getf (kf := 0) d_N_stolen_90 hA.o ok_1 (by decide) q_49 rfl ?_
                refine A_topI f0 ?_
                first | refine A_icmp_gtN (tgt := 214) d_N_stolen_93 (by decide) (by with_reducible rfl) (by with_reducible rfl) (by omega) (by omega) (fun c_93 => ?_) (fun c_93 => ?_) | refine A_icmp_gt (tgt := 214) d_N_stolen_93 (by decide) (fun c_93 => ?_) (fun c_93 => ?_)
                · exact absurd c_93 (by omega)
                · refine A_iload11 d_N_stolen_96 ?_
                  first | refine A_if_eqN (tgt := 111) d_N_stolen_98 (by decide) (by with_reducible rfl) (by omega) (fun c_98 => ?_) (fun c_98 => ?_) | refine A_if_eq (tgt := 111) d_N_stolen_98 (by decide) (fun c_98 => ?_) (fun c_98 => ?_)
                  · refine A_iconst (v := nI 1) d_N_stolen_111 (by decide) ?_
                    refine A_goto (tgt := 120) d_N_stolen_112 (by decide) ?_
                    first | refine A_topN (k := fromsN ((VL l) 0) i) (by unfold fromsN; rw [if_pos c_98]) ?_ | refine A_topN (k := fromsN ((VL l) 0) i) (by unfold fromsN; rw [if_neg c_98, if_pos c_108]) ?_ | refine A_topN (k := fromsN ((VL l) 0) i) (f0.trans (by unfold fromsN; rw [if_neg c_98, if_neg c_108])) ?_
                    refine A_istore12 d_N_stolen_120 trivial ?_
                    refine A_iconst (v := nI 0) d_N_stolen_122 (by decide) ?_
                    refine A_istore13 d_N_stolen_123 trivial ?_
                    exact A_loc (by rw [hST0]) (key2 0 (Nat.zero_le _))
                  · refine A_iload11 d_N_stolen_101 ?_
                    refine A_aload5 d_N_stolen_103 ?_
                    refine A_getf (kf := 0) d_N_stolen_105 hA.o ok_1 (by decide) q_49 rfl ?_
                    refine A_topI f0 ?_
                    first | refine A_icmp_neN (tgt := 115) d_N_stolen_108 (by decide) (by with_reducible rfl) (by with_reducible rfl) (by omega) (by omega) (fun c_108 => ?_) (fun c_108 => ?_) | refine A_icmp_ne (tgt := 115) d_N_stolen_108 (by decide) (fun c_108 => ?_) (fun c_108 => ?_)
                    · refine A_aload5 d_N_stolen_115 ?_
                      refine A_getf (kf := 0) d_N_stolen_117 hA.o ok_1 (by decide) q_49 rfl ?_
                      first | refine A_topN (k := fromsN ((VL l) 0) i) (by unfold fromsN; rw [if_pos c_98]) ?_ | refine A_topN (k := fromsN ((VL l) 0) i) (by unfold fromsN; rw [if_neg c_98, if_pos c_108]) ?_ | refine A_topN (k := fromsN ((VL l) 0) i) (f0.trans (by unfold fromsN; rw [if_neg c_98, if_neg c_108])) ?_
                      refine A_istore12 d_N_stolen_120 trivial ?_
                      refine A_iconst (v := nI 0) d_N_stolen_122 (by decide) ?_
                      refine A_istore13 d_N_stolen_123 trivial ?_
                      exact A_loc (by rw [hST0]) (key2 0 (Nat.zero_le _))
                    · refine A_iconst (v := nI 1) d_N_stolen_111 (by decide) ?_
                      refine A_goto (tgt := 120) d_N_stolen_112 (by decide) ?_
                      first | refine A_topN (k := fromsN ((VL l) 0) i) (by unfold fromsN; rw [if_pos c_98]) ?_ | refine A_topN (k := fromsN ((VL l) 0) i) (by unfold fromsN; rw [if_neg c_98, if_pos c_108]) ?_ | refine A_topN (k := fromsN ((VL l) 0) i) (f0.trans (by unfold fromsN; rw [if_neg c_98, if_neg c_108])) ?_
                      refine A_istore12 d_N_stolen_120 trivial ?_
                      refine A_iconst (v := nI 0) d_N_stolen_122 (by decide) ?_
                      refine A_istore13 d_N_stolen_123 trivial ?_
                      exact A_loc (by rw [hST0]) (key2 0 (Nat.zero_le _))
            refine A_aload_n0 d_N_stolen_0 ?_
            refine A_iload_n1 d_N_stolen_1 ?_
            refine A_iload_n2 d_N_stolen_2 ?_
            refine A_callVP d_N_stolen_3 (c_N_hasRowT hN hl ht) hN.o rfl q_672 q_674 qs_3 mk_N_hasRow rfl (by decide) rfl (Nat.le_of_ble_eq_true rfl) ⟨Nat.le_of_ble_eq_true rfl, Nat.le_of_ble_eq_true rfl⟩ ⟨rfl, rfl⟩ ?_
            refine A_if_eqB (tgt := 29) d_N_stolen_6 (by decide) (fun c => absurd c (by decide)) (fun c_6 => ?_)
            refine A_aload_n0 d_N_stolen_9 ?_
            refine A_iconst (v := nI 3) d_N_stolen_10 (by decide) ?_
            refine A_iload_n3 d_N_stolen_11 ?_
            refine A_callVP d_N_stolen_12 (c_N_isToldT hN (by decide) hb) hN.o rfl q_644 q_646 qs_2 mk_N_isTold rfl (by decide) rfl (Nat.le_of_ble_eq_true rfl) ⟨Nat.le_of_ble_eq_true rfl, Nat.le_of_ble_eq_true rfl⟩ ⟨rfl, rfl⟩ ?_
            refine A_if_eqB (tgt := 29) d_N_stolen_15 (by decide) (fun c => absurd c (by decide)) (fun c_15 => ?_)
            refine A_iload4 d_N_stolen_18 ?_
            refine A_if_lt (tgt := 29) d_N_stolen_20 (by decide) (fun c => absurd c (nI_pos (by omega))) (fun c_20 => ?_)
            refine A_iload4 d_N_stolen_23 ?_
            refine A_iconst (v := nI 3) d_N_stolen_25 (by decide) ?_
            first | refine A_icmp_leN (tgt := 32) d_N_stolen_26 (by decide) (by with_reducible rfl) (by with_reducible rfl) (by omega) (by omega) (fun c_26 => ?_) (fun c_26 => ?_) | refine A_icmp_le (tgt := 32) d_N_stolen_26 (by decide) (fun c_26 => ?_) (fun c_26 => ?_)
            · refine A_aload_n0 d_N_stolen_32 ?_
              refine A_getf (kf := 0) d_N_stolen_33 hN.o ok_7 (by decide) q_368 rfl ?_
              refine A_getf (kf := 5) d_N_stolen_36 hN.a.o ok_6 (by decide) q_203 rfl ?_
              refine A_iload_n1 d_N_stolen_39 ?_
              refine A_aaldN d_N_stolen_40 hN.a.lands rfl rfl ⟨by omega, by decide⟩ (show va_rf (two (n + 1 + 12) (n + 1 + 29) l) = .ref (n + 1 + 12 + 17 * l) by rw [two_at rfl (by omega)]; rfl) ?_
              refine A_astore5 d_N_stolen_41 trivial ?_
              refine A_aload_n0 d_N_stolen_43 ?_
              refine A_getf (kf := 0) d_N_stolen_44 hN.o ok_7 (by decide) q_368 rfl ?_
              refine A_getf (kf := 8) d_N_stolen_47 hN.a.o ok_6 (by decide) q_209 rfl ?_
              refine A_iload_n3 d_N_stolen_50 ?_
              refine A_aaldN d_N_stolen_51 hN.a.sights rfl rfl ⟨by omega, by decide⟩ (show va_rf (two (n + 1 + 25) (n + 1 + 42) b) = .ref (n + 1 + 25 + 17 * b) by rw [two_at rfl (by omega)]; rfl) ?_
              refine A_astore6 d_N_stolen_52 trivial ?_
              refine A_aload6 d_N_stolen_54 ?_
              refine A_aload5 d_N_stolen_56 ?_
              refine A_callVP d_N_stolen_58 (c_Si_isOf hA hV0 hS hK0) hS.o rfl q_987 q_988 q_989 mk_Si_isOf rfl (by decide) rfl (Nat.le_of_ble_eq_true rfl) ⟨Nat.le_of_ble_eq_true rfl, Nat.le_of_ble_eq_true rfl⟩ ⟨rfl, rfl⟩ ?_
              refine A_if_neB (tgt := 67) d_N_stolen_61 (by decide) (fun c_61 => ?_) (fun c => absurd (hth0.symm.trans c) (by decide))
              refine A_iconst (v := nI 0) d_N_stolen_67 (by decide) ?_
              refine A_istore7 d_N_stolen_68 trivial ?_
              refine A_aload5 d_N_stolen_70 ?_
              refine A_callVP d_N_stolen_72 (c_Ld_allHours hA hV0) hA.o rfl q_888 q_889 q_890 mk_Ld_allHours rfl (by decide) rfl (Nat.le_of_ble_eq_true rfl) ⟨Nat.le_of_ble_eq_true rfl, Nat.le_of_ble_eq_true rfl⟩ ⟨rfl, rfl⟩ ?_
              refine A_topN (k := 2 ^ (VL l) 0 - 1) (by show nI 1 <<< (nI ((VL l) 0) &&& 31) - nI 1 = _; rw [shl1 _ (by omega), nI_sub Nat.one_le_two_pow]) ?_
              refine A_istore8 d_N_stolen_75 trivial ?_
              refine A_iconst (v := (-1)) d_N_stolen_77 (by decide) ?_
              refine A_istore9 d_N_stolen_78 trivial ?_
              refine A_iconst (v := (-1)) d_N_stolen_80 (by decide) ?_
              refine A_istore10 d_N_stolen_81 trivial ?_
              refine A_iconst (v := nI 0) d_N_stolen_83 (by decide) ?_
              refine A_istore11 d_N_stolen_84 trivial ?_
              exact key 0 (Nat.zero_le _)
            · exact absurd c_26 (by omega)
        · rw [pick_out hnt]
          refine A_aload_n0 d_N_stolen_0 ?_
          refine A_iload_n1 d_N_stolen_1 ?_
          refine A_iload_n2 d_N_stolen_2 ?_
          refine A_callVP d_N_stolen_3 (c_N_hasRowF hN (.inr hnt)) hN.o rfl q_672 q_674 qs_3 mk_N_hasRow rfl (by decide) rfl (Nat.le_of_ble_eq_true rfl) ⟨Nat.le_of_ble_eq_true rfl, Nat.le_of_ble_eq_true rfl⟩ ⟨rfl, rfl⟩ ?_
          refine A_if_eqB (tgt := 29) d_N_stolen_6 (by decide) (fun c_6 => ?_) (fun c => absurd c (by decide))
          refine A_bipush (v := (-2)) d_N_stolen_29 (by decide) ?_
          refine A_iret d_N_stolen_31 rfl ⟨Nat.zero_le _, Nat.zero_le _⟩ ?_
          exact pu rfl
      · rw [pick_out hnl]
        refine A_aload_n0 d_N_stolen_0 ?_
        refine A_iload_n1 d_N_stolen_1 ?_
        refine A_iload_n2 d_N_stolen_2 ?_
        refine A_callVP d_N_stolen_3 (c_N_hasRowF hN (.inl hnl)) hN.o rfl q_672 q_674 qs_3 mk_N_hasRow rfl (by decide) rfl (Nat.le_of_ble_eq_true rfl) ⟨Nat.le_of_ble_eq_true rfl, Nat.le_of_ble_eq_true rfl⟩ ⟨rfl, rfl⟩ ?_
        refine A_if_eqB (tgt := 29) d_N_stolen_6 (by decide) (fun c_6 => ?_) (fun c => absurd c (by decide))
        refine A_bipush (v := (-2)) d_N_stolen_29 (by decide) ?_
        refine A_iret d_N_stolen_31 rfl ⟨Nat.zero_le _, Nat.zero_le _⟩ ?_
        exact pu rfl
    · rw [pick_out hnb]
      rcases hr : (inB la (nI 0) (nI (c 0) - nI 1) && inB ta (nI 0) (nI (c 1) - nI 1)) with _ | _
      · refine A_aload_n0 d_N_stolen_0 ?_
        refine A_iload_n1 d_N_stolen_1 ?_
        refine A_iload_n2 d_N_stolen_2 ?_
        refine A_callVP d_N_stolen_3 (c_N_hasRowF hN (and_f hr)) hN.o rfl q_672 q_674 qs_3 mk_N_hasRow rfl (by decide) rfl (Nat.le_of_ble_eq_true rfl) ⟨Nat.le_of_ble_eq_true rfl, Nat.le_of_ble_eq_true rfl⟩ ⟨rfl, rfl⟩ ?_
        refine A_if_eqB (tgt := 29) d_N_stolen_6 (by decide) (fun c_6 => ?_) (fun c => absurd c (by decide))
        refine A_bipush (v := (-2)) d_N_stolen_29 (by decide) ?_
        refine A_iret d_N_stolen_31 rfl ⟨Nat.zero_le _, Nat.zero_le _⟩ ?_
        exact pu rfl
      · have e := c_N_hasRow (G := G) hN la ta
        rw [hr] at e
        refine A_aload_n0 d_N_stolen_0 ?_
        refine A_iload_n1 d_N_stolen_1 ?_
        refine A_iload_n2 d_N_stolen_2 ?_
        refine A_callVP d_N_stolen_3 (e) hN.o rfl q_672 q_674 qs_3 mk_N_hasRow rfl (by decide) rfl (Nat.le_of_ble_eq_true rfl) ⟨Nat.le_of_ble_eq_true rfl, Nat.le_of_ble_eq_true rfl⟩ ⟨rfl, rfl⟩ ?_
        refine A_if_eqB (tgt := 29) d_N_stolen_6 (by decide) (fun c => absurd c (by decide)) (fun c_6 => ?_)
        refine A_aload_n0 d_N_stolen_9 ?_
        refine A_iconst (v := nI 3) d_N_stolen_10 (by decide) ?_
        refine A_iload_n3 d_N_stolen_11 ?_
        refine A_callVP d_N_stolen_12 (c_N_isToldF hN (by decide) hnb) hN.o rfl q_644 q_646 qs_2 mk_N_isTold rfl (by decide) rfl (Nat.le_of_ble_eq_true rfl) ⟨Nat.le_of_ble_eq_true rfl, Nat.le_of_ble_eq_true rfl⟩ ⟨rfl, rfl⟩ ?_
        refine A_if_eqB (tgt := 29) d_N_stolen_15 (by decide) (fun c_15 => ?_) (fun c => absurd c (by decide))
        refine A_bipush (v := (-2)) d_N_stolen_29 (by decide) ?_
        refine A_iret d_N_stolen_31 rfl ⟨Nat.zero_le _, Nat.zero_le _⟩ ?_
        exact pu rfl
  · rw [rg_out hro]
    have e := c_N_hasRow (G := G) hN la ta
    have e3 := c_N_isTold (G := G) hN 3 (by decide) sa
    generalize (inB la (nI 0) (nI (c 0) - nI 1) && inB ta (nI 0) (nI (c 1) - nI 1)) = br at e
    generalize inB sa (nI 0) (nI (c 3) - nI 1) = bs at e3
    by_cases hx : ka < 0
    · refine A_aload_n0 d_N_stolen_0 ?_
      refine A_iload_n1 d_N_stolen_1 ?_
      refine A_iload_n2 d_N_stolen_2 ?_
      refine A_callVP d_N_stolen_3 (e) hN.o rfl q_672 q_674 qs_3 mk_N_hasRow rfl (by decide) rfl (Nat.le_of_ble_eq_true rfl) ⟨Nat.le_of_ble_eq_true rfl, Nat.le_of_ble_eq_true rfl⟩ ⟨rfl, rfl⟩ ?_
      refine A_if_eqB (tgt := 29) d_N_stolen_6 (by decide) (fun c_6 => ?_) (fun c_6 => ?_)
      · refine A_bipush (v := (-2)) d_N_stolen_29 (by decide) ?_
        refine A_iret d_N_stolen_31 rfl ⟨Nat.zero_le _, Nat.zero_le _⟩ ?_
        exact pu rfl
      · refine A_aload_n0 d_N_stolen_9 ?_
        refine A_iconst (v := nI 3) d_N_stolen_10 (by decide) ?_
        refine A_iload_n3 d_N_stolen_11 ?_
        refine A_callVP d_N_stolen_12 (e3) hN.o rfl q_644 q_646 qs_2 mk_N_isTold rfl (by decide) rfl (Nat.le_of_ble_eq_true rfl) ⟨Nat.le_of_ble_eq_true rfl, Nat.le_of_ble_eq_true rfl⟩ ⟨rfl, rfl⟩ ?_
        refine A_if_eqB (tgt := 29) d_N_stolen_15 (by decide) (fun c_15 => ?_) (fun c_15 => ?_)
        · refine A_bipush (v := (-2)) d_N_stolen_29 (by decide) ?_
          refine A_iret d_N_stolen_31 rfl ⟨Nat.zero_le _, Nat.zero_le _⟩ ?_
          exact pu rfl
        · refine A_iload4 d_N_stolen_18 ?_
          refine A_if_lt (tgt := 29) d_N_stolen_20 (by decide) (fun c_20 => ?_) (fun c => absurd hx c)
          refine A_bipush (v := (-2)) d_N_stolen_29 (by decide) ?_
          refine A_iret d_N_stolen_31 rfl ⟨Nat.zero_le _, Nat.zero_le _⟩ ?_
          exact pu rfl
    · obtain ⟨j, hj, rfl⟩ := nI_of hx
      rw [inB_N hj (by decide) (by decide)] at hro
      refine A_aload_n0 d_N_stolen_0 ?_
      refine A_iload_n1 d_N_stolen_1 ?_
      refine A_iload_n2 d_N_stolen_2 ?_
      refine A_callVP d_N_stolen_3 (e) hN.o rfl q_672 q_674 qs_3 mk_N_hasRow rfl (by decide) rfl (Nat.le_of_ble_eq_true rfl) ⟨Nat.le_of_ble_eq_true rfl, Nat.le_of_ble_eq_true rfl⟩ ⟨rfl, rfl⟩ ?_
      refine A_if_eqB (tgt := 29) d_N_stolen_6 (by decide) (fun c_6 => ?_) (fun c_6 => ?_)
      · refine A_bipush (v := (-2)) d_N_stolen_29 (by decide) ?_
        refine A_iret d_N_stolen_31 rfl ⟨Nat.zero_le _, Nat.zero_le _⟩ ?_
        exact pu rfl
      · refine A_aload_n0 d_N_stolen_9 ?_
        refine A_iconst (v := nI 3) d_N_stolen_10 (by decide) ?_
        refine A_iload_n3 d_N_stolen_11 ?_
        refine A_callVP d_N_stolen_12 (e3) hN.o rfl q_644 q_646 qs_2 mk_N_isTold rfl (by decide) rfl (Nat.le_of_ble_eq_true rfl) ⟨Nat.le_of_ble_eq_true rfl, Nat.le_of_ble_eq_true rfl⟩ ⟨rfl, rfl⟩ ?_
        refine A_if_eqB (tgt := 29) d_N_stolen_15 (by decide) (fun c_15 => ?_) (fun c_15 => ?_)
        · refine A_bipush (v := (-2)) d_N_stolen_29 (by decide) ?_
          refine A_iret d_N_stolen_31 rfl ⟨Nat.zero_le _, Nat.zero_le _⟩ ?_
          exact pu rfl
        · refine A_iload4 d_N_stolen_18 ?_
          refine A_if_lt (tgt := 29) d_N_stolen_20 (by decide) (fun c => absurd c hx) (fun c_20 => ?_)
          refine A_iload4 d_N_stolen_23 ?_
          refine A_iconst (v := nI 3) d_N_stolen_25 (by decide) ?_
          first | refine A_icmp_leN (tgt := 32) d_N_stolen_26 (by decide) (by with_reducible rfl) (by with_reducible rfl) (by omega) (by omega) (fun c_26 => ?_) (fun c_26 => ?_) | refine A_icmp_le (tgt := 32) d_N_stolen_26 (by decide) (fun c_26 => ?_) (fun c_26 => ?_)
          · exact absurd hro (by rw [decide_eq_true (p := 0 ≤ j) (by omega), decide_eq_true (p := j ≤ 3) (by omega)]; decide)
          · refine A_bipush (v := (-2)) d_N_stolen_29 (by decide) ?_
            refine A_iret d_N_stolen_31 rfl ⟨Nat.zero_le _, Nat.zero_le _⟩ ?_
            exact pu rfl
