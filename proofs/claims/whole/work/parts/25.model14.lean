set_option maxHeartbeats 4000000 in
set_option maxRecDepth 100000 in
theorem c_M_stolen {G : GE} {h0 h : AH} {m : Nat} {S : MS} (hM : MW h0 h m S) {c : Nat → Nat} {VL WT BK SG GM : Nat → Nat → Nat} (hp : MP S c VL WT BK SG GM) (la ta sa ka : Int32) : Ctr G y_M_stolen b_M_stolen 13 (some .int) r_M_stolen [.ref m, .int la, .int ta, .int sa, .int ka] h (TK h0 m S (.int (rg ka 0 3 (fun kk => pick (c 3) sa (fun b => pick (c 0) la (fun l => pick (c 1) ta (fun t => if thereB (VL l) (SG b) = true then stolenV (VL l) (WT t) (SG b) kk else -2) (-2)) (-2)) (-2)) (-2)))) := by
  have hc0 := (hp.1 0 (by decide)).2
  have hc1 := (hp.1 1 (by decide)).2
  have hc3 := (hp.1 3 (by decide)).2
  refine Ctr.of (by decide +kernel) (by simp) (Nat.le_of_ble_eq_true rfl) (L0 := [some (.ref m), some (.int la), some (.int ta), some (.int sa), some (.int ka), none, none, none, none, none, none, none, none]) rfl ?_
  refine A_aload_n0 d_M_stolen_0 ?_
  refine A_iconst (v := nI 0) d_M_stolen_1 (by decide) ?_
  refine A_putM hM (kf := 0) (ty := .int) d_M_stolen_2 (by decide) q_1049 rfl (by decide +kernel) (by first | rfl | exact bI_nar _) rfl (Nat.le_of_ble_eq_true rfl) rfl (fun h hM => ?_)
  have hp := hp.keep (Keep.sf _ 0 (nI 0))
  refine A_iload4 d_M_stolen_5 ?_
  refine A_iconst (v := nI 0) d_M_stolen_7 (by decide) ?_
  refine A_iconst (v := nI 3) d_M_stolen_8 (by decide) ?_
  refine A_callSP d_M_stolen_9 (c_M_in _ _ _ _) q_1231 q_1232 mk_M_in rfl (by decide) rfl (Nat.le_of_ble_eq_true rfl) ⟨Nat.le_of_ble_eq_true rfl, Nat.le_of_ble_eq_true rfl⟩ ⟨rfl, rfl⟩ ?_
  refine A_if_eqB (tgt := 39) d_M_stolen_12 (by decide) (fun c_12 => ?_) (fun c_12 => ?_)
  · refine A_bipush (v := (-2)) d_M_stolen_39 (by decide) ?_
    refine A_iret d_M_stolen_41 rfl ⟨Nat.zero_le _, Nat.zero_le _⟩ ?_
    first | exact tk hM (fun _ _ => rfl) (by rw [rg_out c_12]) | exact tk hM (fun _ _ => rfl) (by rw [rg_in ⟨hk1, hk2⟩ (by decide), pick_out c_20]) | exact tk hM (fun k hk2 => hk k hk2) (by rw [rg_in ⟨hk1, hk2⟩ (by decide), pick_in hb (by omega)]; exact pick2_out q) | exact tk hM (fun k hk2 => hk k hk2) (by rw [rg_in ⟨hk1, hk2⟩ (by decide), pick_in hb (by omega), pick_in hl (by omega), pick_in ht (by omega), if_neg (by rw [c_36]; decide)])
  · obtain ⟨kk, rfl, hk1, hk2⟩ := inB_ex (by decide) c_12
    refine A_aload_n0 d_M_stolen_15 ?_
    refine A_iload_n3 d_M_stolen_16 ?_
    refine A_callV d_M_stolen_17 (c_M_hasSight hM hp sa) hM.o rfl q_1641 q_1643 qs_90 mk_M_hasSight rfl (by decide) rfl (Nat.le_of_ble_eq_true rfl) ⟨Nat.le_of_ble_eq_true rfl, Nat.le_of_ble_eq_true rfl⟩ (fun v h1 hv => ?_)
    obtain ⟨rfl, hM⟩ := hv
    have hp := hp.keep (Keep.sf _ 48 sa)
    dsimp only [Option.toList, List.cons_append, List.nil_append]
    refine A_if_eqB (tgt := 39) d_M_stolen_20 (by decide) (fun c_20 => ?_) (fun c_20 => ?_)
    · refine A_bipush (v := (-2)) d_M_stolen_39 (by decide) ?_
      refine A_iret d_M_stolen_41 rfl ⟨Nat.zero_le _, Nat.zero_le _⟩ ?_
      first | exact tk hM (fun _ _ => rfl) (by rw [rg_out c_12]) | exact tk hM (fun _ _ => rfl) (by rw [rg_in ⟨hk1, hk2⟩ (by decide), pick_out c_20]) | exact tk hM (fun k hk2 => hk k hk2) (by rw [rg_in ⟨hk1, hk2⟩ (by decide), pick_in hb (by omega)]; exact pick2_out q) | exact tk hM (fun k hk2 => hk k hk2) (by rw [rg_in ⟨hk1, hk2⟩ (by decide), pick_in hb (by omega), pick_in hl (by omega), pick_in ht (by omega), if_neg (by rw [c_36]; decide)])
    · obtain ⟨b, rfl, hb⟩ := inB_nat (by omega) c_20
      refine A_aload_n0 d_M_stolen_23 ?_
      refine A_iload_n1 d_M_stolen_24 ?_
      refine A_iload_n2 d_M_stolen_25 ?_
      refine A_callV d_M_stolen_26 (c_M_layRow hM hp la ta) hM.o rfl q_1371 q_1373 qs_40 mk_M_layRow rfl (by decide) rfl (Nat.le_of_ble_eq_true rfl) ⟨Nat.le_of_ble_eq_true rfl, Nat.le_of_ble_eq_true rfl⟩ (fun v h1 hv => ?_)
      rcases hv with ⟨l', t', rfl, rfl, hl, ht, rfl, S2, hM, hL, hk, hkf⟩ | ⟨q, rfl, S2, hM, hk⟩
      · obtain ⟨hS, hw, e0, e1⟩ := hL
        obtain ⟨b0, b1, b2, b3, b4, b5, bp, bb, bt⟩ := hS.ok
        have hp := hp.keep hk
        have hB : HI S2 b (SG b) := HI.mk2 hp hb ((hkf 48 (by decide)).trans rfl)
        refine A_if_eqB (tgt := 39) d_M_stolen_29 (by decide) (fun c => absurd c (by decide)) (fun c_29 => ?_)
        refine A_aload_n0 d_M_stolen_32 ?_
        refine A_callVP d_M_stolen_33 (c_M_areThere hM hS hB) hM.o rfl q_1657 q_1659 qs_93 mk_M_areThere rfl (by decide) rfl (Nat.le_of_ble_eq_true rfl) ⟨Nat.le_of_ble_eq_true rfl, Nat.le_of_ble_eq_true rfl⟩ ⟨rfl, rfl⟩ ?_
        refine A_if_neB (tgt := 42) d_M_stolen_36 (by decide) (fun c_36 => ?_) (fun c_36 => ?_)
        · have hth : ∀ k, k < SG b 0 → SG b (1 + 3 * k + 0) < VL l' 4 ∧ SG b (1 + 3 * k + 1) < VL l' 0 := fun k hk => by
            have := firstU_all (Nat.zero_le _) c_36 k (Nat.zero_le _) hk
            simpa [offB] using this
          refine A_iconst (v := nI 0) d_M_stolen_42 (by decide) ?_
          refine A_istore5 d_M_stolen_43 trivial ?_
          refine A_aload_n0 d_M_stolen_45 ?_
          refine A_callVP d_M_stolen_46 (c_M_allHours hM) hM.o rfl q_1564 q_1566 qs_79 mk_M_allHours rfl (by decide) rfl (Nat.le_of_ble_eq_true rfl) ⟨Nat.le_of_ble_eq_true rfl, Nat.le_of_ble_eq_true rfl⟩ ⟨rfl, rfl⟩ ?_
          refine A_topN (k := 2 ^ VL l' 0 - 1) (by rw [hS.hours, sh1 (by omega), nI_sub Nat.one_le_two_pow]) ?_
          refine A_istore6 d_M_stolen_49 trivial ?_
          refine A_iconst (v := (-1)) d_M_stolen_51 (by decide) ?_
          refine A_istore7 d_M_stolen_52 trivial ?_
          refine A_iconst (v := (-1)) d_M_stolen_54 (by decide) ?_
          refine A_istore8 d_M_stolen_55 trivial ?_
          refine A_iconst (v := nI 0) d_M_stolen_57 (by decide) ?_
          refine A_istore9 d_M_stolen_58 trivial ?_
          rw [rg_in ⟨hk1, hk2⟩ (by decide), pick_in hb (by omega), pick_in hl (by omega), pick_in ht (by omega), if_pos c_36]
          have hmul : ∀ i, i ≤ (VL l') 0 → i * (VL l') 0 ≤ 576 := fun i hi => Nat.le_trans (Nat.mul_le_mul hi (Nat.le_refl _)) (Nat.mul_le_mul (show (VL l') 0 ≤ 24 by omega) (show (VL l') 0 ≤ 24 by omega))
          have hso := stOut_le (VL l') (WT t') (SG b) b0.1
          have key : ∀ i, i ≤ (VL l') 0 + 1 → WA G y_M_stolen b_M_stolen 13 (some .int) r_M_stolen 0 0 (TK h0 m S (.int (stolenV (VL l') (WT t') (SG b) kk))) 0 0 60 [some (.ref m), some (.int (nI l')), some (.int (nI t')), some (.int (nI b)), some (.int (nI kk)), some (.int (nI (stOut (VL l') (WT t') (SG b) i).1)), some (.int (stOut (VL l') (WT t') (SG b) i).2.1), some (.int (stOut (VL l') (WT t') (SG b) i).2.2.1), some (.int (stOut (VL l') (WT t') (SG b) i).2.2.2), some (.int (nI i)), none, none, none] [] h1 := by
            refine down ?_ (fun i hi ih => ?_)
            · have hsv := hso ((VL l') 0 + 1)
              have hmv := hmul ((VL l') 0) (Nat.le_refl _)
              rw [Nat.succ_mul] at hsv
              refine A_iload9 d_M_stolen_60 ?_
              refine A_aload_n0 d_M_stolen_62 ?_
              refine A_getf (kf := 27) d_M_stolen_63 hM.o ok_8 (by decide) q_1076 rfl ?_
              refine A_topI hS.hours ?_
              first | refine A_icmp_gtN (tgt := 172) d_M_stolen_66 (by decide) (by with_reducible rfl) (by with_reducible rfl) (by omega) (by omega) (fun c_66 => ?_) (fun c_66 => ?_) | refine A_icmp_gt (tgt := 172) d_M_stolen_66 (by decide) (fun c_66 => ?_) (fun c_66 => ?_)
              · refine A_iload4 d_M_stolen_172 ?_
                first | refine A_if_neN (tgt := 182) d_M_stolen_174 (by decide) (by with_reducible rfl) (by omega) (fun c_174 => ?_) (fun c_174 => ?_) | refine A_if_ne (tgt := 182) d_M_stolen_174 (by decide) (fun c_174 => ?_) (fun c_174 => ?_)
                · refine A_iload4 d_M_stolen_182 ?_
                  refine A_iconst (v := nI 1) d_M_stolen_184 (by decide) ?_
                  first | refine A_icmp_neN (tgt := 202) d_M_stolen_185 (by decide) (by with_reducible rfl) (by with_reducible rfl) (by omega) (by omega) (fun c_185 => ?_) (fun c_185 => ?_) | refine A_icmp_ne (tgt := 202) d_M_stolen_185 (by decide) (fun c_185 => ?_) (fun c_185 => ?_)
                  · refine A_iload4 d_M_stolen_202 ?_
                    refine A_iconst (v := nI 2) d_M_stolen_204 (by decide) ?_
                    first | refine A_icmp_neN (tgt := 213) d_M_stolen_205 (by decide) (by with_reducible rfl) (by with_reducible rfl) (by omega) (by omega) (fun c_205 => ?_) (fun c_205 => ?_) | refine A_icmp_ne (tgt := 213) d_M_stolen_205 (by decide) (fun c_205 => ?_) (fun c_205 => ?_)
                    · refine A_iload8 d_M_stolen_213 ?_
                      refine A_iret d_M_stolen_215 rfl ⟨Nat.zero_le _, Nat.zero_le _⟩ ?_
                      exact tk hM (fun k hk2 => hk k hk2) (by unfold stolenV; first | rw [if_pos c_174] | rw [if_neg c_174, if_pos c_185, if_pos c_190] | rw [if_neg c_174, if_pos c_185, if_neg c_190] | rw [if_neg c_174, if_neg c_185, if_pos c_205] | rw [if_neg c_174, if_neg c_185, if_neg c_205])
                    · refine A_iload7 d_M_stolen_208 ?_
                      refine A_goto (tgt := 215) d_M_stolen_210 (by decide) ?_
                      refine A_iret d_M_stolen_215 rfl ⟨Nat.zero_le _, Nat.zero_le _⟩ ?_
                      exact tk hM (fun k hk2 => hk k hk2) (by unfold stolenV; first | rw [if_pos c_174] | rw [if_neg c_174, if_pos c_185, if_pos c_190] | rw [if_neg c_174, if_pos c_185, if_neg c_190] | rw [if_neg c_174, if_neg c_185, if_pos c_205] | rw [if_neg c_174, if_neg c_185, if_neg c_205])
                  · refine A_iload5 d_M_stolen_188 ?_
                    first | refine A_if_neN (tgt := 197) d_M_stolen_190 (by decide) (by with_reducible rfl) (by omega) (fun c_190 => ?_) (fun c_190 => ?_) | refine A_if_ne (tgt := 197) d_M_stolen_190 (by decide) (fun c_190 => ?_) (fun c_190 => ?_)
                    · refine A_iload6 d_M_stolen_197 ?_
                      refine A_goto (tgt := 215) d_M_stolen_199 (by decide) ?_
                      refine A_iret d_M_stolen_215 rfl ⟨Nat.zero_le _, Nat.zero_le _⟩ ?_
                      exact tk hM (fun k hk2 => hk k hk2) (by unfold stolenV; first | rw [if_pos c_174] | rw [if_neg c_174, if_pos c_185, if_pos c_190] | rw [if_neg c_174, if_pos c_185, if_neg c_190] | rw [if_neg c_174, if_neg c_185, if_pos c_205] | rw [if_neg c_174, if_neg c_185, if_neg c_205])
                    · refine A_iconst (v := nI 0) d_M_stolen_193 (by decide) ?_
                      refine A_goto (tgt := 215) d_M_stolen_194 (by decide) ?_
                      refine A_iret d_M_stolen_215 rfl ⟨Nat.zero_le _, Nat.zero_le _⟩ ?_
                      exact tk hM (fun k hk2 => hk k hk2) (by unfold stolenV; first | rw [if_pos c_174] | rw [if_neg c_174, if_pos c_185, if_pos c_190] | rw [if_neg c_174, if_pos c_185, if_neg c_190] | rw [if_neg c_174, if_neg c_185, if_pos c_205] | rw [if_neg c_174, if_neg c_185, if_neg c_205])
                · refine A_iload5 d_M_stolen_177 ?_
                  refine A_goto (tgt := 215) d_M_stolen_179 (by decide) ?_
                  refine A_iret d_M_stolen_215 rfl ⟨Nat.zero_le _, Nat.zero_le _⟩ ?_
                  exact tk hM (fun k hk2 => hk k hk2) (by unfold stolenV; first | rw [if_pos c_174] | rw [if_neg c_174, if_pos c_185, if_pos c_190] | rw [if_neg c_174, if_pos c_185, if_neg c_190] | rw [if_neg c_174, if_neg c_185, if_pos c_205] | rw [if_neg c_174, if_neg c_185, if_neg c_205])
              · exact absurd c_66 (by omega)
            · have hfr := fromsN_le (H := (VL l') 0) (n := i) b0.1
              have hsi := hso i
              have hmi := hmul i (by omega)
              generalize hSTd : (fun j => stIn (VL l') (WT t') (SG b) i (stOut (VL l') (WT t') (SG b) i) j) = ST at *
              have hST0 : ST 0 = stOut (VL l') (WT t') (SG b) i := by rw [← hSTd]; rfl
              have hST : ∀ j, ST (j + 1) = stStep (VL l') (WT t') (SG b) i j (ST j) := by intro j; rw [← hSTd]; rfl
              have hSTe : stOut (VL l') (WT t') (SG b) (i + 1) = ST (fromsN ((VL l') 0) i) := by rw [← hSTd]; rfl
              have hSTl : ∀ j, (ST j).1 ≤ (stOut (VL l') (WT t') (SG b) i).1 + j := by intro j; rw [← hSTd]; exact stIn_le _ _ _ _ _ j
              rw [hSTe] at ih
              have key2 : ∀ j, j ≤ fromsN ((VL l') 0) i → WA G y_M_stolen b_M_stolen 13 (some .int) r_M_stolen 0 0 (TK h0 m S (.int (stolenV (VL l') (WT t') (SG b) kk))) 0 0 96 [some (.ref m), some (.int (nI l')), some (.int (nI t')), some (.int (nI b)), some (.int (nI kk)), some (.int (nI (ST j).1)), some (.int (ST j).2.1), some (.int (ST j).2.2.1), some (.int (ST j).2.2.2), some (.int (nI i)), some (.int (nI (fromsN ((VL l') 0) i))), some (.int (nI j)), none] [] h1 := by
                refine down ?_ (fun j hj ih2 => ?_)
                · refine A_iload11 d_M_stolen_96 ?_
                  refine A_iload10 d_M_stolen_98 ?_
                  first | refine A_icmp_geN (tgt := 166) d_M_stolen_100 (by decide) (by with_reducible rfl) (by with_reducible rfl) (by omega) (by omega) (fun c_100 => ?_) (fun c_100 => ?_) | refine A_icmp_ge (tgt := 166) d_M_stolen_100 (by decide) (fun c_100 => ?_) (fun c_100 => ?_)
                  · first | refine A_iinc9 d_M_stolen_166 (nI_1 _) trivial ?_ | refine A_iinc9 d_M_stolen_166 rfl trivial ?_
                    refine A_goto (tgt := 60) d_M_stolen_169 (by decide) ?_
                    refine A_drop11 ?_
                    refine A_drop10 ?_
                    exact ih
                  · exact absurd c_100 (by omega)
                · have hsj := hSTl j
                  refine A_iload11 d_M_stolen_96 ?_
                  refine A_iload10 d_M_stolen_98 ?_
                  first | refine A_icmp_geN (tgt := 166) d_M_stolen_100 (by decide) (by with_reducible rfl) (by with_reducible rfl) (by omega) (by omega) (fun c_100 => ?_) (fun c_100 => ?_) | refine A_icmp_ge (tgt := 166) d_M_stolen_100 (by decide) (fun c_100 => ?_) (fun c_100 => ?_)
                  · exact absurd c_100 (by omega)
                  · refine A_aload_n0 d_M_stolen_103 ?_
                    refine A_iload11 d_M_stolen_104 ?_
                    refine A_iload9 d_M_stolen_106 ?_
                    refine A_callVP d_M_stolen_108 (c_M_awayFor hM hS j i (by omega) (by omega)) hM.o rfl q_1665 q_1667 qs_95 mk_M_awayFor rfl (by decide) rfl (Nat.le_of_ble_eq_true rfl) ⟨Nat.le_of_ble_eq_true rfl, Nat.le_of_ble_eq_true rfl⟩ ⟨rfl, rfl⟩ ?_
                    refine A_istore12 d_M_stolen_111 trivial ?_
                    refine A_aload_n0 d_M_stolen_113 ?_
                    refine A_iload12 d_M_stolen_114 ?_
                    refine A_callVP d_M_stolen_116 (c_M_fits hM hS hw hB hth _) hM.o rfl q_1669 q_1671 qs_96 mk_M_fits rfl (by decide) rfl (Nat.le_of_ble_eq_true rfl) ⟨Nat.le_of_ble_eq_true rfl, Nat.le_of_ble_eq_true rfl⟩ ⟨rfl, rfl⟩ ?_
                    refine A_if_eqB (tgt := 160) d_M_stolen_119 (by decide) (fun c_119 => ?_) (fun c_119 => ?_)
                    · first | refine A_iinc11 d_M_stolen_160 (nI_1 _) trivial ?_ | refine A_iinc11 d_M_stolen_160 rfl trivial ?_
                      refine A_goto (tgt := 96) d_M_stolen_163 (by decide) ?_
                      refine A_drop12 ?_
                      refine A_loc ?_ ih2
                      first | (simp only [hST, stStep, c_100, c_119, reduceIte, Bool.false_eq_true]; done) | (exfalso; omega)
                    · refine A_iload5 d_M_stolen_122 ?_
                      first | refine A_if_neN (tgt := 132) d_M_stolen_124 (by decide) (by with_reducible rfl) (by omega) (fun c_124 => ?_) (fun c_124 => ?_) | refine A_if_ne (tgt := 132) d_M_stolen_124 (by decide) (fun c_124 => ?_) (fun c_124 => ?_)
                      · refine A_iload8 d_M_stolen_132 ?_
                        refine A_istore8 d_M_stolen_134 trivial ?_
                        refine A_iload5 d_M_stolen_136 ?_
                        first | refine A_if_neN (tgt := 146) d_M_stolen_138 (by decide) (by with_reducible rfl) (by omega) (fun c_138 => ?_) (fun c_138 => ?_) | refine A_if_ne (tgt := 146) d_M_stolen_138 (by decide) (fun c_138 => ?_) (fun c_138 => ?_)
                        · refine A_iload7 d_M_stolen_146 ?_
                          refine A_istore7 d_M_stolen_148 trivial ?_
                          refine A_iload6 d_M_stolen_150 ?_
                          refine A_iload12 d_M_stolen_152 ?_
                          refine A_iand d_M_stolen_154 ?_
                          refine A_istore6 d_M_stolen_155 trivial ?_
                          first | refine A_iinc5 d_M_stolen_157 (nI_1 _) trivial ?_ | refine A_iinc5 d_M_stolen_157 rfl trivial ?_
                          first | refine A_iinc11 d_M_stolen_160 (nI_1 _) trivial ?_ | refine A_iinc11 d_M_stolen_160 rfl trivial ?_
                          refine A_goto (tgt := 96) d_M_stolen_163 (by decide) ?_
                          refine A_drop12 ?_
                          refine A_loc ?_ ih2
                          first | (simp only [hST, stStep, c_100, c_119, c_124, c_138, reduceIte, Bool.false_eq_true]; done) | (exfalso; omega)
                        · refine A_iload9 d_M_stolen_141 ?_
                          refine A_goto (tgt := 148) d_M_stolen_143 (by decide) ?_
                          refine A_istore7 d_M_stolen_148 trivial ?_
                          refine A_iload6 d_M_stolen_150 ?_
                          refine A_iload12 d_M_stolen_152 ?_
                          refine A_iand d_M_stolen_154 ?_
                          refine A_istore6 d_M_stolen_155 trivial ?_
                          first | refine A_iinc5 d_M_stolen_157 (nI_1 _) trivial ?_ | refine A_iinc5 d_M_stolen_157 rfl trivial ?_
                          first | refine A_iinc11 d_M_stolen_160 (nI_1 _) trivial ?_ | refine A_iinc11 d_M_stolen_160 rfl trivial ?_
                          refine A_goto (tgt := 96) d_M_stolen_163 (by decide) ?_
                          refine A_drop12 ?_
                          refine A_loc ?_ ih2
                          first | (simp only [hST, stStep, c_100, c_119, c_124, c_138, reduceIte, Bool.false_eq_true]; done) | (exfalso; omega)
                      · refine A_iload11 d_M_stolen_127 ?_
                        refine A_goto (tgt := 134) d_M_stolen_129 (by decide) ?_
                        refine A_istore8 d_M_stolen_134 trivial ?_
                        refine A_iload5 d_M_stolen_136 ?_
                        first | refine A_if_neN (tgt := 146) d_M_stolen_138 (by decide) (by with_reducible rfl) (by omega) (fun c_138 => ?_) (fun c_138 => ?_) | refine A_if_ne (tgt := 146) d_M_stolen_138 (by decide) (fun c_138 => ?_) (fun c_138 => ?_)
                        · refine A_iload7 d_M_stolen_146 ?_
                          refine A_istore7 d_M_stolen_148 trivial ?_
                          refine A_iload6 d_M_stolen_150 ?_
                          refine A_iload12 d_M_stolen_152 ?_
                          refine A_iand d_M_stolen_154 ?_
                          refine A_istore6 d_M_stolen_155 trivial ?_
                          first | refine A_iinc5 d_M_stolen_157 (nI_1 _) trivial ?_ | refine A_iinc5 d_M_stolen_157 rfl trivial ?_
                          first | refine A_iinc11 d_M_stolen_160 (nI_1 _) trivial ?_ | refine A_iinc11 d_M_stolen_160 rfl trivial ?_
                          refine A_goto (tgt := 96) d_M_stolen_163 (by decide) ?_
                          refine A_drop12 ?_
                          refine A_loc ?_ ih2
                          first | (simp only [hST, stStep, c_100, c_119, c_124, c_138, reduceIte, Bool.false_eq_true]; done) | (exfalso; omega)
                        · refine A_iload9 d_M_stolen_141 ?_
                          refine A_goto (tgt := 148) d_M_stolen_143 (by decide) ?_
                          refine A_istore7 d_M_stolen_148 trivial ?_
                          refine A_iload6 d_M_stolen_150 ?_
                          refine A_iload12 d_M_stolen_152 ?_
                          refine A_iand d_M_stolen_154 ?_
                          refine A_istore6 d_M_stolen_155 trivial ?_
                          first | refine A_iinc5 d_M_stolen_157 (nI_1 _) trivial ?_ | refine A_iinc5 d_M_stolen_157 rfl trivial ?_
                          first | refine A_iinc11 d_M_stolen_160 (nI_1 _) trivial ?_ | refine A_iinc11 d_M_stolen_160 rfl trivial ?_
                          refine A_goto (tgt := 96) d_M_stolen_163 (by decide) ?_
                          refine A_drop12 ?_
                          refine A_loc ?_ ih2
                          first | (simp only [hST, stStep, c_100, c_119, c_124, c_138, reduceIte, Bool.false_eq_true]; done) | (exfalso; omega)
              refine A_iload9 d_M_stolen_60 ?_
              refine A_aload_n0 d_M_stolen_62 ?_
              refine A_getf (kf := 27) d_M_stolen_63 hM.o ok_8 (by decide) q_1076 rfl ?_
              refine A_topI hS.hours ?_
              first | refine A_icmp_gtN (tgt := 172) d_M_stolen_66 (by decide) (by with_reducible rfl) (by with_reducible rfl) (by omega) (by omega) (fun c_66 => ?_) (fun c_66 => ?_) | refine A_icmp_gt (tgt := 172) d_M_stolen_66 (by decide) (fun c_66 => ?_) (fun c_66 => ?_)
              · exact absurd c_66 (by omega)
              · refine A_iload9 d_M_stolen_69 ?_
                first | refine A_if_eqN (tgt := 83) d_M_stolen_71 (by decide) (by with_reducible rfl) (by omega) (fun c_71 => ?_) (fun c_71 => ?_) | refine A_if_eq (tgt := 83) d_M_stolen_71 (by decide) (fun c_71 => ?_) (fun c_71 => ?_)
                · refine A_iconst (v := nI 1) d_M_stolen_83 (by decide) ?_
                  refine A_goto (tgt := 91) d_M_stolen_84 (by decide) ?_
                  first | refine A_topN (k := fromsN ((VL l') 0) i) (by unfold fromsN; rw [if_pos c_71]) ?_ | refine A_topN (k := fromsN ((VL l') 0) i) (by unfold fromsN; rw [if_neg c_71, if_pos c_80]) ?_ | refine A_topN (k := fromsN ((VL l') 0) i) (hS.hours.trans (by unfold fromsN; rw [if_neg c_71, if_neg c_80])) ?_
                  refine A_istore10 d_M_stolen_91 trivial ?_
                  refine A_iconst (v := nI 0) d_M_stolen_93 (by decide) ?_
                  refine A_istore11 d_M_stolen_94 trivial ?_
                  exact A_loc (by rw [hST0]) (key2 0 (Nat.zero_le _))
                · refine A_iload9 d_M_stolen_74 ?_
                  refine A_aload_n0 d_M_stolen_76 ?_
                  refine A_getf (kf := 27) d_M_stolen_77 hM.o ok_8 (by decide) q_1076 rfl ?_
                  refine A_topI hS.hours ?_
                  first | refine A_icmp_neN (tgt := 87) d_M_stolen_80 (by decide) (by with_reducible rfl) (by with_reducible rfl) (by omega) (by omega) (fun c_80 => ?_) (fun c_80 => ?_) | refine A_icmp_ne (tgt := 87) d_M_stolen_80 (by decide) (fun c_80 => ?_) (fun c_80 => ?_)
                  · refine A_aload_n0 d_M_stolen_87 ?_
                    skip
                    refine A_getf (kf := 27) d_M_stolen_88 hM.o ok_8 (by decide) q_1076 rfl ?_
                    first | refine A_topN (k := fromsN ((VL l') 0) i) (by unfold fromsN; rw [if_pos c_71]) ?_ | refine A_topN (k := fromsN ((VL l') 0) i) (by unfold fromsN; rw [if_neg c_71, if_pos c_80]) ?_ | refine A_topN (k := fromsN ((VL l') 0) i) (hS.hours.trans (by unfold fromsN; rw [if_neg c_71, if_neg c_80])) ?_
                    refine A_istore10 d_M_stolen_91 trivial ?_
                    refine A_iconst (v := nI 0) d_M_stolen_93 (by decide) ?_
                    refine A_istore11 d_M_stolen_94 trivial ?_
                    exact A_loc (by rw [hST0]) (key2 0 (Nat.zero_le _))
                  · refine A_iconst (v := nI 1) d_M_stolen_83 (by decide) ?_
                    refine A_goto (tgt := 91) d_M_stolen_84 (by decide) ?_
                    first | refine A_topN (k := fromsN ((VL l') 0) i) (by unfold fromsN; rw [if_pos c_71]) ?_ | refine A_topN (k := fromsN ((VL l') 0) i) (by unfold fromsN; rw [if_neg c_71, if_pos c_80]) ?_ | refine A_topN (k := fromsN ((VL l') 0) i) (hS.hours.trans (by unfold fromsN; rw [if_neg c_71, if_neg c_80])) ?_
                    refine A_istore10 d_M_stolen_91 trivial ?_
                    refine A_iconst (v := nI 0) d_M_stolen_93 (by decide) ?_
                    refine A_istore11 d_M_stolen_94 trivial ?_
                    exact A_loc (by rw [hST0]) (key2 0 (Nat.zero_le _))
          exact key 0 (Nat.zero_le _)
        · refine A_bipush (v := (-2)) d_M_stolen_39 (by decide) ?_
          refine A_iret d_M_stolen_41 rfl ⟨Nat.zero_le _, Nat.zero_le _⟩ ?_
          first | exact tk hM (fun _ _ => rfl) (by rw [rg_out c_12]) | exact tk hM (fun _ _ => rfl) (by rw [rg_in ⟨hk1, hk2⟩ (by decide), pick_out c_20]) | exact tk hM (fun k hk2 => hk k hk2) (by rw [rg_in ⟨hk1, hk2⟩ (by decide), pick_in hb (by omega)]; exact pick2_out q) | exact tk hM (fun k hk2 => hk k hk2) (by rw [rg_in ⟨hk1, hk2⟩ (by decide), pick_in hb (by omega), pick_in hl (by omega), pick_in ht (by omega), if_neg (by rw [c_36]; decide)])
      · have hp := hp.keep hk
        refine A_if_eqB (tgt := 39) d_M_stolen_29 (by decide) (fun c_29 => ?_) (fun c => absurd c (by decide))
        refine A_bipush (v := (-2)) d_M_stolen_39 (by decide) ?_
        refine A_iret d_M_stolen_41 rfl ⟨Nat.zero_le _, Nat.zero_le _⟩ ?_
        first | exact tk hM (fun _ _ => rfl) (by rw [rg_out c_12]) | exact tk hM (fun _ _ => rfl) (by rw [rg_in ⟨hk1, hk2⟩ (by decide), pick_out c_20]) | exact tk hM (fun k hk2 => hk k hk2) (by rw [rg_in ⟨hk1, hk2⟩ (by decide), pick_in hb (by omega)]; exact pick2_out q) | exact tk hM (fun k hk2 => hk k hk2) (by rw [rg_in ⟨hk1, hk2⟩ (by decide), pick_in hb (by omega), pick_in hl (by omega), pick_in ht (by omega), if_neg (by rw [c_36]; decide)])
