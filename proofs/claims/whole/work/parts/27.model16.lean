set_option maxHeartbeats 4000000 in
set_option maxRecDepth 100000 in
theorem c_M_game {G : GE} {h0 h : AH} {m : Nat} {S : MS} (hM : MW h0 h m S) {c : Nat → Nat} {VL WT BK SG GM : Nat → Nat → Nat} (hp : MP S c VL WT BK SG GM) (ga sa x : Int32) : Ctr G y_M_game b_M_game 9 (some .int) r_M_game [.ref m, .int ga, .int sa, .int x] h (TK h0 m S (.int (pick (c 4) ga (fun b => rg sa 0 7 (fun s => gameV (GM b) s x) (-1000)) (-1000)))) := by
  have hc4 := (hp.1 4 (by decide)).2
  refine Ctr.of (by decide +kernel) (by simp) (Nat.le_of_ble_eq_true rfl) (L0 := [some (.ref m), some (.int ga), some (.int sa), some (.int x), none, none, none, none, none]) rfl ?_
  refine A_aload_n0 d_M_game_0 ?_
  refine A_iconst (v := nI 0) d_M_game_1 (by decide) ?_
  refine A_putM hM (kf := 0) (ty := .int) d_M_game_2 (by decide) q_1049 rfl (by decide +kernel) (by first | rfl | exact bI_nar _) rfl (Nat.le_of_ble_eq_true rfl) rfl (fun h hM => ?_)
  have hp := hp.keep (Keep.sf _ 0 (nI 0))
  refine A_aload_n0 d_M_game_5 ?_
  refine A_iload_n1 d_M_game_6 ?_
  refine A_putM hM (kf := 49) (ty := .int) d_M_game_7 (by decide) q_1098 rfl (by decide +kernel) (by first | rfl | exact bI_nar _) rfl (Nat.le_of_ble_eq_true rfl) rfl (fun h hM => ?_)
  have hp := hp.keep (Keep.sf _ 49 ga)
  refine A_aload_n0 d_M_game_10 ?_
  refine A_iconst (v := nI 4) d_M_game_11 (by decide) ?_
  refine A_iload_n1 d_M_game_12 ?_
  refine A_callVP d_M_game_13 (c_M_is hM 4 (by decide) ga) hM.o rfl q_1238 q_1240 qs_16 mk_M_is rfl (by decide) rfl (Nat.le_of_ble_eq_true rfl) ⟨Nat.le_of_ble_eq_true rfl, Nat.le_of_ble_eq_true rfl⟩ ⟨rfl, rfl⟩ ?_
  refine A_topI (by rw [(hp.1 4 (by decide)).1]) ?_
  refine A_if_eqB (tgt := 47) d_M_game_16 (by decide) (fun c_16 => ?_) (fun c_16 => ?_)
  · refine A_sipush (v := (-1000)) d_M_game_47 (by decide) ?_
    refine A_iret d_M_game_50 rfl ⟨Nat.zero_le _, Nat.zero_le _⟩ ?_
    first | exact tk hM (fun _ _ => rfl) (by rw [pick_out c_16]) | exact tk hM (fun _ _ => rfl) (by rw [pick_in hb (by omega), rg_out c_26]) | exact tk hM (fun _ _ => rfl) (by rw [pick_in hb (by omega), rg_in ⟨hs1, hs2⟩ (by decide), gameV, if_neg (by omega), rg_out c_44]) | exact tk hM (fun _ _ => rfl) (by rw [pick_in hb (by omega), rg_in ⟨hs1, hs2⟩ (by decide), gameV, if_pos (by omega), rg_out c_44])
  · obtain ⟨b, rfl, hb⟩ := inB_nat (by omega) c_16
    have hG : HG _ b (GM b) := ⟨hp.2.2.2.2.2 b hb, rfl⟩
    refine A_iload_n2 d_M_game_19 ?_
    refine A_iconst (v := nI 0) d_M_game_20 (by decide) ?_
    refine A_bipush (v := nI 7) d_M_game_21 (by decide) ?_
    refine A_callSP d_M_game_23 (c_M_in _ _ _ _) q_1231 q_1232 mk_M_in rfl (by decide) rfl (Nat.le_of_ble_eq_true rfl) ⟨Nat.le_of_ble_eq_true rfl, Nat.le_of_ble_eq_true rfl⟩ ⟨rfl, rfl⟩ ?_
    refine A_if_eqB (tgt := 47) d_M_game_26 (by decide) (fun c_26 => ?_) (fun c_26 => ?_)
    · refine A_sipush (v := (-1000)) d_M_game_47 (by decide) ?_
      refine A_iret d_M_game_50 rfl ⟨Nat.zero_le _, Nat.zero_le _⟩ ?_
      first | exact tk hM (fun _ _ => rfl) (by rw [pick_out c_16]) | exact tk hM (fun _ _ => rfl) (by rw [pick_in hb (by omega), rg_out c_26]) | exact tk hM (fun _ _ => rfl) (by rw [pick_in hb (by omega), rg_in ⟨hs1, hs2⟩ (by decide), gameV, if_neg (by omega), rg_out c_44]) | exact tk hM (fun _ _ => rfl) (by rw [pick_in hb (by omega), rg_in ⟨hs1, hs2⟩ (by decide), gameV, if_pos (by omega), rg_out c_44])
    · obtain ⟨s, rfl, hs1, hs2⟩ := inB_ex (by decide) c_26
      refine A_iload_n3 d_M_game_29 ?_
      refine A_iconst (v := nI 0) d_M_game_30 (by decide) ?_
      refine A_iload_n2 d_M_game_31 ?_
      first | refine A_if_leN (tgt := 39) d_M_game_32 (by decide) (by with_reducible rfl) (by omega) (fun c_32 => ?_) (fun c_32 => ?_) | refine A_if_le (tgt := 39) d_M_game_32 (by decide) (fun c_32 => ?_) (fun c_32 => ?_)
      · refine A_bipush (v := nI 6) d_M_game_39 (by decide) ?_
        refine A_callSP d_M_game_41 (c_M_in _ _ _ _) q_1231 q_1232 mk_M_in rfl (by decide) rfl (Nat.le_of_ble_eq_true rfl) ⟨Nat.le_of_ble_eq_true rfl, Nat.le_of_ble_eq_true rfl⟩ ⟨rfl, rfl⟩ ?_
        refine A_if_neB (tgt := 51) d_M_game_44 (by decide) (fun c_44 => ?_) (fun c_44 => ?_)
        · obtain ⟨k, rfl, hk1, hk2⟩ := inB_ex (by decide) c_44
          refine A_iload_n2 d_M_game_51 ?_
          first | refine A_if_leN (tgt := 61) d_M_game_52 (by decide) (by with_reducible rfl) (by omega) (fun c_52 => ?_) (fun c_52 => ?_) | refine A_if_le (tgt := 61) d_M_game_52 (by decide) (fun c_52 => ?_) (fun c_52 => ?_)
          · refine A_iload_n3 d_M_game_61 ?_
            refine A_iconst (v := nI 3) d_M_game_62 (by decide) ?_
            first | refine A_icmp_leN (tgt := 74) d_M_game_63 (by decide) (by with_reducible rfl) (by with_reducible rfl) (by omega) (by omega) (fun c_63 => ?_) (fun c_63 => ?_) | refine A_icmp_le (tgt := 74) d_M_game_63 (by decide) (fun c_63 => ?_) (fun c_63 => ?_)
            · refine A_aload_n0 d_M_game_74 ?_
              refine A_bipush (v := nI 7) d_M_game_75 (by decide) ?_
              refine A_callVP d_M_game_77 (c_M_worthIn hM hG 7 (by decide)) hM.o rfl q_1677 q_1679 qs_97 mk_M_worthIn rfl (by decide) rfl (Nat.le_of_ble_eq_true rfl) ⟨Nat.le_of_ble_eq_true rfl, Nat.le_of_ble_eq_true rfl⟩ ⟨rfl, rfl⟩ ?_
              have hW7 := wI_le hG (s := 7) (by decide)
              generalize hW : wI (GM b) 7 = W7 at *
              refine A_istore4 d_M_game_80 trivial ?_
              refine A_iconst (v := nI 0) d_M_game_82 (by decide) ?_
              refine A_istore5 d_M_game_83 trivial ?_
              refine A_iconst (v := nI 0) d_M_game_85 (by decide) ?_
              refine A_istore6 d_M_game_86 trivial ?_
              refine A_iconst (v := nI 0) d_M_game_88 (by decide) ?_
              refine A_istore7 d_M_game_89 trivial ?_
              obtain rfl : s = 0 := by omega
              rw [pick_in hb (by omega), rg_in ⟨hs1, hs2⟩ (by decide), gameV, if_neg (by decide), rg_in (lo := 0) (hi := 6) (by omega) (by decide), if_pos c_63]
              have hco := crOut_le (GM b) (by omega)
              have key : ∀ i, i ≤ W7 + 1 → WA G y_M_game b_M_game 9 (some .int) r_M_game 0 0 (TK h0 m S (.int (coreV (GM b) k))) 0 0 91 [some (.ref m), some (.int (nI b)), some (.int (nI 0)), some (.int (nI k)), some (.int (nI W7)), some (.int (nI (crOut (GM b) i).1)), some (.int (nI (crOut (GM b) i).2)), some (.int (nI i)), none] [] h := by
                refine down ?_ (fun i hi ih => ?_)
                · obtain ⟨hc1, hc2⟩ := hco (W7 + 1) (by omega)
                  refine A_iload7 d_M_game_91 ?_
                  refine A_iload4 d_M_game_93 ?_
                  first | refine A_icmp_gtN (tgt := 165) d_M_game_95 (by decide) (by with_reducible rfl) (by with_reducible rfl) (by omega) (by omega) (fun c_95 => ?_) (fun c_95 => ?_) | refine A_icmp_gt (tgt := 165) d_M_game_95 (by decide) (fun c_95 => ?_) (fun c_95 => ?_)
                  · refine A_iload_n3 d_M_game_165 ?_
                    first | refine A_if_neN (tgt := 172) d_M_game_166 (by decide) (by with_reducible rfl) (by omega) (fun c_166 => ?_) (fun c_166 => ?_) | refine A_if_ne (tgt := 172) d_M_game_166 (by decide) (fun c_166 => ?_) (fun c_166 => ?_)
                    · refine A_iload5 d_M_game_172 ?_
                      first | refine A_if_neN (tgt := 181) d_M_game_174 (by decide) (by with_reducible rfl) (by omega) (fun c_174 => ?_) (fun c_174 => ?_) | refine A_if_ne (tgt := 181) d_M_game_174 (by decide) (fun c_174 => ?_) (fun c_174 => ?_)
                      · refine A_iload_n3 d_M_game_181 ?_
                        refine A_iconst (v := nI 1) d_M_game_182 (by decide) ?_
                        first | refine A_icmp_neN (tgt := 194) d_M_game_183 (by decide) (by with_reducible rfl) (by with_reducible rfl) (by omega) (by omega) (fun c_183 => ?_) (fun c_183 => ?_) | refine A_icmp_ne (tgt := 194) d_M_game_183 (by decide) (fun c_183 => ?_) (fun c_183 => ?_)
                        · refine A_iload_n3 d_M_game_194 ?_
                          refine A_iconst (v := nI 2) d_M_game_195 (by decide) ?_
                          first | refine A_icmp_neN (tgt := 207) d_M_game_196 (by decide) (by with_reducible rfl) (by with_reducible rfl) (by omega) (by omega) (fun c_196 => ?_) (fun c_196 => ?_) | refine A_icmp_ne (tgt := 207) d_M_game_196 (by decide) (fun c_196 => ?_) (fun c_196 => ?_)
                          · refine A_iload4 d_M_game_207 ?_
                            refine A_iload6 d_M_game_209 ?_
                            refine A_bipush (v := nI 100) d_M_game_211 (by decide) ?_
                            refine A_idivN d_M_game_213 (by with_reducible rfl) (by with_reducible rfl) (by omega) ?_
                            skip
                            first | refine A_isubN d_M_game_214 (by with_reducible rfl) (by with_reducible rfl) (by omega) ?_ | refine A_isub d_M_game_214 ?_
                            refine A_iload6 d_M_game_215 ?_
                            refine A_bipush (v := nI 100) d_M_game_217 (by decide) ?_
                            refine A_iremN d_M_game_219 (by with_reducible rfl) (by with_reducible rfl) (by omega) ?_
                            first | refine A_isubN d_M_game_220 (by with_reducible rfl) (by with_reducible rfl) (by omega) ?_ | refine A_isub d_M_game_220 ?_
                            refine A_iret d_M_game_221 rfl ⟨Nat.zero_le _, Nat.zero_le _⟩ ?_
                            first | (exfalso; omega) | exact tk hM (fun _ _ => rfl) (by unfold coreV; rw [hW]; first | rw [if_pos c_166] | rw [if_neg c_166, if_pos c_174] | rw [if_neg c_166, if_neg c_174, if_pos c_183] | rw [if_neg c_166, if_neg c_174, if_neg c_183, if_pos c_196] | rw [if_neg c_166, if_neg c_174, if_neg c_183, if_neg c_196])
                          · refine A_iload6 d_M_game_199 ?_
                            refine A_bipush (v := nI 100) d_M_game_201 (by decide) ?_
                            refine A_iremN d_M_game_203 (by with_reducible rfl) (by with_reducible rfl) (by omega) ?_
                            refine A_goto (tgt := 221) d_M_game_204 (by decide) ?_
                            refine A_iret d_M_game_221 rfl ⟨Nat.zero_le _, Nat.zero_le _⟩ ?_
                            first | (exfalso; omega) | exact tk hM (fun _ _ => rfl) (by unfold coreV; rw [hW]; first | rw [if_pos c_166] | rw [if_neg c_166, if_pos c_174] | rw [if_neg c_166, if_neg c_174, if_pos c_183] | rw [if_neg c_166, if_neg c_174, if_neg c_183, if_pos c_196] | rw [if_neg c_166, if_neg c_174, if_neg c_183, if_neg c_196])
                        · refine A_iload6 d_M_game_186 ?_
                          refine A_bipush (v := nI 100) d_M_game_188 (by decide) ?_
                          refine A_idivN d_M_game_190 (by with_reducible rfl) (by with_reducible rfl) (by omega) ?_
                          refine A_goto (tgt := 221) d_M_game_191 (by decide) ?_
                          refine A_iret d_M_game_221 rfl ⟨Nat.zero_le _, Nat.zero_le _⟩ ?_
                          first | (exfalso; omega) | exact tk hM (fun _ _ => rfl) (by unfold coreV; rw [hW]; first | rw [if_pos c_166] | rw [if_neg c_166, if_pos c_174] | rw [if_neg c_166, if_neg c_174, if_pos c_183] | rw [if_neg c_166, if_neg c_174, if_neg c_183, if_pos c_196] | rw [if_neg c_166, if_neg c_174, if_neg c_183, if_neg c_196])
                      · refine A_iconst (v := (-1)) d_M_game_177 (by decide) ?_
                        refine A_goto (tgt := 221) d_M_game_178 (by decide) ?_
                        refine A_iret d_M_game_221 rfl ⟨Nat.zero_le _, Nat.zero_le _⟩ ?_
                        first | (exfalso; omega) | exact tk hM (fun _ _ => rfl) (by unfold coreV; rw [hW]; first | rw [if_pos c_166] | rw [if_neg c_166, if_pos c_174] | rw [if_neg c_166, if_neg c_174, if_pos c_183] | rw [if_neg c_166, if_neg c_174, if_neg c_183, if_pos c_196] | rw [if_neg c_166, if_neg c_174, if_neg c_183, if_neg c_196])
                    · refine A_iload5 d_M_game_169 ?_
                      refine A_iret d_M_game_171 rfl ⟨Nat.zero_le _, Nat.zero_le _⟩ ?_
                      first | (exfalso; omega) | exact tk hM (fun _ _ => rfl) (by unfold coreV; rw [hW]; first | rw [if_pos c_166] | rw [if_neg c_166, if_pos c_174] | rw [if_neg c_166, if_neg c_174, if_pos c_183] | rw [if_neg c_166, if_neg c_174, if_neg c_183, if_pos c_196] | rw [if_neg c_166, if_neg c_174, if_neg c_183, if_neg c_196])
                  · exact absurd c_95 (by omega)
                · obtain ⟨hc1, hc2⟩ := hco i (by omega)
                  generalize hSTd : (fun j => crIn (GM b) i (crOut (GM b) i) j) = ST at *
                  have hST0 : ST 0 = crOut (GM b) i := by rw [← hSTd]; rfl
                  have hST : ∀ j, ST (j + 1) = if coreB (GM b) i j (W7 - i - j) = true then ((ST j).1 + 1, if (ST j).1 = 0 then 100 * i + j else (ST j).2) else ST j := by intro j; rw [← hSTd, ← hW]; rfl
                  have hSTe : crOut (GM b) (i + 1) = ST (W7 - i + 1) := by rw [← hSTd, ← hW]; rfl
                  have hSTl : ∀ j, (ST j).1 ≤ (crOut (GM b) i).1 + j := by intro j; rw [← hSTd]; exact (crIn_le (GM b) i _ j).1
                  rw [hSTe] at ih
                  have key2 : ∀ j, j ≤ W7 - i + 1 → WA G y_M_game b_M_game 9 (some .int) r_M_game 0 0 (TK h0 m S (.int (coreV (GM b) k))) 0 0 101 [some (.ref m), some (.int (nI b)), some (.int (nI 0)), some (.int (nI k)), some (.int (nI W7)), some (.int (nI (ST j).1)), some (.int (nI (ST j).2)), some (.int (nI i)), some (.int (nI j))] [] h := by
                    refine down ?_ (fun j hj ih2 => ?_)
                    · refine A_iload8 d_M_game_101 ?_
                      refine A_iload4 d_M_game_103 ?_
                      refine A_iload7 d_M_game_105 ?_
                      first | refine A_isubN d_M_game_107 (by with_reducible rfl) (by with_reducible rfl) (by omega) ?_ | refine A_isub d_M_game_107 ?_
                      first | refine A_icmp_gtN (tgt := 159) d_M_game_108 (by decide) (by with_reducible rfl) (by with_reducible rfl) (by omega) (by omega) (fun c_108 => ?_) (fun c_108 => ?_) | refine A_icmp_gt (tgt := 159) d_M_game_108 (by decide) (fun c_108 => ?_) (fun c_108 => ?_)
                      · first | refine A_iinc7 d_M_game_159 (nI_1 _) trivial ?_ | refine A_iinc7 d_M_game_159 rfl trivial ?_
                        refine A_goto (tgt := 91) d_M_game_162 (by decide) ?_
                        refine A_drop8 ?_
                        exact ih
                      · exact absurd c_108 (by omega)
                    · have hsj := hSTl j
                      refine A_iload8 d_M_game_101 ?_
                      refine A_iload4 d_M_game_103 ?_
                      refine A_iload7 d_M_game_105 ?_
                      first | refine A_isubN d_M_game_107 (by with_reducible rfl) (by with_reducible rfl) (by omega) ?_ | refine A_isub d_M_game_107 ?_
                      first | refine A_icmp_gtN (tgt := 159) d_M_game_108 (by decide) (by with_reducible rfl) (by with_reducible rfl) (by omega) (by omega) (fun c_108 => ?_) (fun c_108 => ?_) | refine A_icmp_gt (tgt := 159) d_M_game_108 (by decide) (fun c_108 => ?_) (fun c_108 => ?_)
                      · exact absurd c_108 (by omega)
                      · refine A_aload_n0 d_M_game_111 ?_
                        refine A_iload7 d_M_game_112 ?_
                        refine A_iload8 d_M_game_114 ?_
                        refine A_iload4 d_M_game_116 ?_
                        refine A_iload7 d_M_game_118 ?_
                        first | refine A_isubN d_M_game_120 (by with_reducible rfl) (by with_reducible rfl) (by omega) ?_ | refine A_isub d_M_game_120 ?_
                        refine A_iload8 d_M_game_121 ?_
                        first | refine A_isubN d_M_game_123 (by with_reducible rfl) (by with_reducible rfl) (by omega) ?_ | refine A_isub d_M_game_123 ?_
                        refine A_callVP d_M_game_124 (c_M_isCore hM hG i j (W7 - i - j) (by omega) (by omega) (by omega)) hM.o rfl q_1685 q_1687 qs_99 mk_M_isCore rfl (by decide) rfl (Nat.le_of_ble_eq_true rfl) ⟨Nat.le_of_ble_eq_true rfl, Nat.le_of_ble_eq_true rfl⟩ ⟨rfl, rfl⟩ ?_
                        refine A_if_eqB (tgt := 153) d_M_game_127 (by decide) (fun c_127 => ?_) (fun c_127 => ?_)
                        · first | refine A_iinc8 d_M_game_153 (nI_1 _) trivial ?_ | refine A_iinc8 d_M_game_153 rfl trivial ?_
                          refine A_goto (tgt := 101) d_M_game_156 (by decide) ?_
                          refine A_loc ?_ ih2
                          first | (simp only [hST, c_108, c_127, reduceIte, Bool.false_eq_true]; done) | (exfalso; omega)
                        · refine A_iload5 d_M_game_130 ?_
                          skip
                          first | refine A_if_neN (tgt := 146) d_M_game_132 (by decide) (by with_reducible rfl) (by omega) (fun c_132 => ?_) (fun c_132 => ?_) | refine A_if_ne (tgt := 146) d_M_game_132 (by decide) (fun c_132 => ?_) (fun c_132 => ?_)
                          · refine A_iload6 d_M_game_146 ?_
                            refine A_istore6 d_M_game_148 trivial ?_
                            first | refine A_iinc5 d_M_game_150 (nI_1 _) trivial ?_ | refine A_iinc5 d_M_game_150 rfl trivial ?_
                            first | refine A_iinc8 d_M_game_153 (nI_1 _) trivial ?_ | refine A_iinc8 d_M_game_153 rfl trivial ?_
                            refine A_goto (tgt := 101) d_M_game_156 (by decide) ?_
                            refine A_loc ?_ ih2
                            first | (simp only [hST, c_108, c_127, c_132, reduceIte, Bool.false_eq_true]; done) | (exfalso; omega)
                          · refine A_bipush (v := nI 100) d_M_game_135 (by decide) ?_
                            refine A_iload7 d_M_game_137 ?_
                            first | refine A_imulN d_M_game_139 (by with_reducible rfl) (by with_reducible rfl) ?_ | refine A_imul d_M_game_139 ?_
                            refine A_iload8 d_M_game_140 ?_
                            first | refine A_iaddN d_M_game_142 (by with_reducible rfl) (by with_reducible rfl) ?_ | refine A_iadd d_M_game_142 ?_
                            refine A_goto (tgt := 148) d_M_game_143 (by decide) ?_
                            refine A_istore6 d_M_game_148 trivial ?_
                            first | refine A_iinc5 d_M_game_150 (nI_1 _) trivial ?_ | refine A_iinc5 d_M_game_150 rfl trivial ?_
                            first | refine A_iinc8 d_M_game_153 (nI_1 _) trivial ?_ | refine A_iinc8 d_M_game_153 rfl trivial ?_
                            refine A_goto (tgt := 101) d_M_game_156 (by decide) ?_
                            refine A_loc ?_ ih2
                            first | (simp only [hST, c_108, c_127, c_132, reduceIte, Bool.false_eq_true]; done) | (exfalso; omega)
                  refine A_iload7 d_M_game_91 ?_
                  refine A_iload4 d_M_game_93 ?_
                  first | refine A_icmp_gtN (tgt := 165) d_M_game_95 (by decide) (by with_reducible rfl) (by with_reducible rfl) (by omega) (by omega) (fun c_95 => ?_) (fun c_95 => ?_) | refine A_icmp_gt (tgt := 165) d_M_game_95 (by decide) (fun c_95 => ?_) (fun c_95 => ?_)
                  · exact absurd c_95 (by omega)
                  · refine A_iconst (v := nI 0) d_M_game_98 (by decide) ?_
                    refine A_istore8 d_M_game_99 trivial ?_
                    exact A_loc (by rw [hST0]) (key2 0 (Nat.zero_le _))
              exact key 0 (Nat.zero_le _)
            · refine A_aload_n0 d_M_game_66 ?_
              refine A_iload_n3 d_M_game_67 ?_
              refine A_iconst (v := nI 4) d_M_game_68 (by decide) ?_
              first | refine A_isubN d_M_game_69 (by with_reducible rfl) (by with_reducible rfl) (by omega) ?_ | refine A_isub d_M_game_69 ?_
              refine A_callVP d_M_game_70 (c_M_addedBy hM hG (k - 4) (by omega)) hM.o rfl q_1681 q_1683 qs_98 mk_M_addedBy rfl (by decide) rfl (Nat.le_of_ble_eq_true rfl) ⟨Nat.le_of_ble_eq_true rfl, Nat.le_of_ble_eq_true rfl⟩ ⟨rfl, rfl⟩ ?_
              refine A_iret d_M_game_73 rfl ⟨Nat.zero_le _, Nat.zero_le _⟩ ?_
              first | (exfalso; omega) | exact tk hM (fun _ _ => rfl) (by rw [pick_in hb (by omega), rg_in ⟨hs1, hs2⟩ (by decide), gameV, if_neg (by omega), rg_in ⟨hk1, hk2⟩ (by decide), if_neg (by omega)])
          · refine A_aload_n0 d_M_game_55 ?_
            refine A_iload_n2 d_M_game_56 ?_
            refine A_callVP d_M_game_57 (c_M_worthIn hM hG s (by omega)) hM.o rfl q_1677 q_1679 qs_97 mk_M_worthIn rfl (by decide) rfl (Nat.le_of_ble_eq_true rfl) ⟨Nat.le_of_ble_eq_true rfl, Nat.le_of_ble_eq_true rfl⟩ ⟨rfl, rfl⟩ ?_
            refine A_iret d_M_game_60 rfl ⟨Nat.zero_le _, Nat.zero_le _⟩ ?_
            first | exact tk hM (fun _ _ => rfl) (by rw [pick_in hb (by omega), rg_in ⟨hs1, hs2⟩ (by decide), gameV, if_pos (by omega), rg_in (by omega) (by decide)]) | (exfalso; omega)
        · refine A_sipush (v := (-1000)) d_M_game_47 (by decide) ?_
          refine A_iret d_M_game_50 rfl ⟨Nat.zero_le _, Nat.zero_le _⟩ ?_
          first | exact tk hM (fun _ _ => rfl) (by rw [pick_out c_16]) | exact tk hM (fun _ _ => rfl) (by rw [pick_in hb (by omega), rg_out c_26]) | exact tk hM (fun _ _ => rfl) (by rw [pick_in hb (by omega), rg_in ⟨hs1, hs2⟩ (by decide), gameV, if_neg (by omega), rg_out c_44]) | exact tk hM (fun _ _ => rfl) (by rw [pick_in hb (by omega), rg_in ⟨hs1, hs2⟩ (by decide), gameV, if_pos (by omega), rg_out c_44])
      · refine A_iconst (v := nI 0) d_M_game_35 (by decide) ?_
        refine A_goto (tgt := 41) d_M_game_36 (by decide) ?_
        refine A_callSP d_M_game_41 (c_M_in _ _ _ _) q_1231 q_1232 mk_M_in rfl (by decide) rfl (Nat.le_of_ble_eq_true rfl) ⟨Nat.le_of_ble_eq_true rfl, Nat.le_of_ble_eq_true rfl⟩ ⟨rfl, rfl⟩ ?_
        refine A_if_neB (tgt := 51) d_M_game_44 (by decide) (fun c_44 => ?_) (fun c_44 => ?_)
        · obtain ⟨k, rfl, hk1, hk2⟩ := inB_ex (by decide) c_44
          refine A_iload_n2 d_M_game_51 ?_
          first | refine A_if_leN (tgt := 61) d_M_game_52 (by decide) (by with_reducible rfl) (by omega) (fun c_52 => ?_) (fun c_52 => ?_) | refine A_if_le (tgt := 61) d_M_game_52 (by decide) (fun c_52 => ?_) (fun c_52 => ?_)
          · refine A_iload_n3 d_M_game_61 ?_
            refine A_iconst (v := nI 3) d_M_game_62 (by decide) ?_
            first | refine A_icmp_leN (tgt := 74) d_M_game_63 (by decide) (by with_reducible rfl) (by with_reducible rfl) (by omega) (by omega) (fun c_63 => ?_) (fun c_63 => ?_) | refine A_icmp_le (tgt := 74) d_M_game_63 (by decide) (fun c_63 => ?_) (fun c_63 => ?_)
            · refine A_aload_n0 d_M_game_74 ?_
              refine A_bipush (v := nI 7) d_M_game_75 (by decide) ?_
              refine A_callVP d_M_game_77 (c_M_worthIn hM hG 7 (by decide)) hM.o rfl q_1677 q_1679 qs_97 mk_M_worthIn rfl (by decide) rfl (Nat.le_of_ble_eq_true rfl) ⟨Nat.le_of_ble_eq_true rfl, Nat.le_of_ble_eq_true rfl⟩ ⟨rfl, rfl⟩ ?_
              have hW7 := wI_le hG (s := 7) (by decide)
              generalize hW : wI (GM b) 7 = W7 at *
              refine A_istore4 d_M_game_80 trivial ?_
              refine A_iconst (v := nI 0) d_M_game_82 (by decide) ?_
              refine A_istore5 d_M_game_83 trivial ?_
              refine A_iconst (v := nI 0) d_M_game_85 (by decide) ?_
              refine A_istore6 d_M_game_86 trivial ?_
              refine A_iconst (v := nI 0) d_M_game_88 (by decide) ?_
              refine A_istore7 d_M_game_89 trivial ?_
              obtain rfl : s = 0 := by omega
              rw [pick_in hb (by omega), rg_in ⟨hs1, hs2⟩ (by decide), gameV, if_neg (by decide), rg_in (lo := 0) (hi := 6) (by omega) (by decide), if_pos c_63]
              have hco := crOut_le (GM b) (by omega)
              have key : ∀ i, i ≤ W7 + 1 → WA G y_M_game b_M_game 9 (some .int) r_M_game 0 0 (TK h0 m S (.int (coreV (GM b) k))) 0 0 91 [some (.ref m), some (.int (nI b)), some (.int (nI 0)), some (.int (nI k)), some (.int (nI W7)), some (.int (nI (crOut (GM b) i).1)), some (.int (nI (crOut (GM b) i).2)), some (.int (nI i)), none] [] h := by
                refine down ?_ (fun i hi ih => ?_)
                · obtain ⟨hc1, hc2⟩ := hco (W7 + 1) (by omega)
                  refine A_iload7 d_M_game_91 ?_
                  refine A_iload4 d_M_game_93 ?_
                  first | refine A_icmp_gtN (tgt := 165) d_M_game_95 (by decide) (by with_reducible rfl) (by with_reducible rfl) (by omega) (by omega) (fun c_95 => ?_) (fun c_95 => ?_) | refine A_icmp_gt (tgt := 165) d_M_game_95 (by decide) (fun c_95 => ?_) (fun c_95 => ?_)
                  · refine A_iload_n3 d_M_game_165 ?_
                    first | refine A_if_neN (tgt := 172) d_M_game_166 (by decide) (by with_reducible rfl) (by omega) (fun c_166 => ?_) (fun c_166 => ?_) | refine A_if_ne (tgt := 172) d_M_game_166 (by decide) (fun c_166 => ?_) (fun c_166 => ?_)
                    · refine A_iload5 d_M_game_172 ?_
                      first | refine A_if_neN (tgt := 181) d_M_game_174 (by decide) (by with_reducible rfl) (by omega) (fun c_174 => ?_) (fun c_174 => ?_) | refine A_if_ne (tgt := 181) d_M_game_174 (by decide) (fun c_174 => ?_) (fun c_174 => ?_)
                      · refine A_iload_n3 d_M_game_181 ?_
                        refine A_iconst (v := nI 1) d_M_game_182 (by decide) ?_
                        first | refine A_icmp_neN (tgt := 194) d_M_game_183 (by decide) (by with_reducible rfl) (by with_reducible rfl) (by omega) (by omega) (fun c_183 => ?_) (fun c_183 => ?_) | refine A_icmp_ne (tgt := 194) d_M_game_183 (by decide) (fun c_183 => ?_) (fun c_183 => ?_)
                        · refine A_iload_n3 d_M_game_194 ?_
                          refine A_iconst (v := nI 2) d_M_game_195 (by decide) ?_
                          first | refine A_icmp_neN (tgt := 207) d_M_game_196 (by decide) (by with_reducible rfl) (by with_reducible rfl) (by omega) (by omega) (fun c_196 => ?_) (fun c_196 => ?_) | refine A_icmp_ne (tgt := 207) d_M_game_196 (by decide) (fun c_196 => ?_) (fun c_196 => ?_)
                          · refine A_iload4 d_M_game_207 ?_
                            refine A_iload6 d_M_game_209 ?_
                            refine A_bipush (v := nI 100) d_M_game_211 (by decide) ?_
                            refine A_idivN d_M_game_213 (by with_reducible rfl) (by with_reducible rfl) (by omega) ?_
                            skip
                            first | refine A_isubN d_M_game_214 (by with_reducible rfl) (by with_reducible rfl) (by omega) ?_ | refine A_isub d_M_game_214 ?_
                            refine A_iload6 d_M_game_215 ?_
                            refine A_bipush (v := nI 100) d_M_game_217 (by decide) ?_
                            refine A_iremN d_M_game_219 (by with_reducible rfl) (by with_reducible rfl) (by omega) ?_
                            first | refine A_isubN d_M_game_220 (by with_reducible rfl) (by with_reducible rfl) (by omega) ?_ | refine A_isub d_M_game_220 ?_
                            refine A_iret d_M_game_221 rfl ⟨Nat.zero_le _, Nat.zero_le _⟩ ?_
                            first | (exfalso; omega) | exact tk hM (fun _ _ => rfl) (by unfold coreV; rw [hW]; first | rw [if_pos c_166] | rw [if_neg c_166, if_pos c_174] | rw [if_neg c_166, if_neg c_174, if_pos c_183] | rw [if_neg c_166, if_neg c_174, if_neg c_183, if_pos c_196] | rw [if_neg c_166, if_neg c_174, if_neg c_183, if_neg c_196])
                          · refine A_iload6 d_M_game_199 ?_
                            refine A_bipush (v := nI 100) d_M_game_201 (by decide) ?_
                            refine A_iremN d_M_game_203 (by with_reducible rfl) (by with_reducible rfl) (by omega) ?_
                            refine A_goto (tgt := 221) d_M_game_204 (by decide) ?_
                            refine A_iret d_M_game_221 rfl ⟨Nat.zero_le _, Nat.zero_le _⟩ ?_
                            first | (exfalso; omega) | exact tk hM (fun _ _ => rfl) (by unfold coreV; rw [hW]; first | rw [if_pos c_166] | rw [if_neg c_166, if_pos c_174] | rw [if_neg c_166, if_neg c_174, if_pos c_183] | rw [if_neg c_166, if_neg c_174, if_neg c_183, if_pos c_196] | rw [if_neg c_166, if_neg c_174, if_neg c_183, if_neg c_196])
                        · refine A_iload6 d_M_game_186 ?_
                          refine A_bipush (v := nI 100) d_M_game_188 (by decide) ?_
                          refine A_idivN d_M_game_190 (by with_reducible rfl) (by with_reducible rfl) (by omega) ?_
                          refine A_goto (tgt := 221) d_M_game_191 (by decide) ?_
                          refine A_iret d_M_game_221 rfl ⟨Nat.zero_le _, Nat.zero_le _⟩ ?_
                          first | (exfalso; omega) | exact tk hM (fun _ _ => rfl) (by unfold coreV; rw [hW]; first | rw [if_pos c_166] | rw [if_neg c_166, if_pos c_174] | rw [if_neg c_166, if_neg c_174, if_pos c_183] | rw [if_neg c_166, if_neg c_174, if_neg c_183, if_pos c_196] | rw [if_neg c_166, if_neg c_174, if_neg c_183, if_neg c_196])
                      · refine A_iconst (v := (-1)) d_M_game_177 (by decide) ?_
                        refine A_goto (tgt := 221) d_M_game_178 (by decide) ?_
                        refine A_iret d_M_game_221 rfl ⟨Nat.zero_le _, Nat.zero_le _⟩ ?_
                        first | (exfalso; omega) | exact tk hM (fun _ _ => rfl) (by unfold coreV; rw [hW]; first | rw [if_pos c_166] | rw [if_neg c_166, if_pos c_174] | rw [if_neg c_166, if_neg c_174, if_pos c_183] | rw [if_neg c_166, if_neg c_174, if_neg c_183, if_pos c_196] | rw [if_neg c_166, if_neg c_174, if_neg c_183, if_neg c_196])
                    · refine A_iload5 d_M_game_169 ?_
                      refine A_iret d_M_game_171 rfl ⟨Nat.zero_le _, Nat.zero_le _⟩ ?_
                      first | (exfalso; omega) | exact tk hM (fun _ _ => rfl) (by unfold coreV; rw [hW]; first | rw [if_pos c_166] | rw [if_neg c_166, if_pos c_174] | rw [if_neg c_166, if_neg c_174, if_pos c_183] | rw [if_neg c_166, if_neg c_174, if_neg c_183, if_pos c_196] | rw [if_neg c_166, if_neg c_174, if_neg c_183, if_neg c_196])
                  · exact absurd c_95 (by omega)
                · obtain ⟨hc1, hc2⟩ := hco i (by omega)
                  generalize hSTd : (fun j => crIn (GM b) i (crOut (GM b) i) j) = ST at *
                  have hST0 : ST 0 = crOut (GM b) i := by rw [← hSTd]; rfl
                  have hST : ∀ j, ST (j + 1) = if coreB (GM b) i j (W7 - i - j) = true then ((ST j).1 + 1, if (ST j).1 = 0 then 100 * i + j else (ST j).2) else ST j := by intro j; rw [← hSTd, ← hW]; rfl
                  have hSTe : crOut (GM b) (i + 1) = ST (W7 - i + 1) := by rw [← hSTd, ← hW]; rfl
                  have hSTl : ∀ j, (ST j).1 ≤ (crOut (GM b) i).1 + j := by intro j; rw [← hSTd]; exact (crIn_le (GM b) i _ j).1
                  rw [hSTe] at ih
                  have key2 : ∀ j, j ≤ W7 - i + 1 → WA G y_M_game b_M_game 9 (some .int) r_M_game 0 0 (TK h0 m S (.int (coreV (GM b) k))) 0 0 101 [some (.ref m), some (.int (nI b)), some (.int (nI 0)), some (.int (nI k)), some (.int (nI W7)), some (.int (nI (ST j).1)), some (.int (nI (ST j).2)), some (.int (nI i)), some (.int (nI j))] [] h := by
                    refine down ?_ (fun j hj ih2 => ?_)
                    · refine A_iload8 d_M_game_101 ?_
                      refine A_iload4 d_M_game_103 ?_
                      refine A_iload7 d_M_game_105 ?_
                      first | refine A_isubN d_M_game_107 (by with_reducible rfl) (by with_reducible rfl) (by omega) ?_ | refine A_isub d_M_game_107 ?_
                      first | refine A_icmp_gtN (tgt := 159) d_M_game_108 (by decide) (by with_reducible rfl) (by with_reducible rfl) (by omega) (by omega) (fun c_108 => ?_) (fun c_108 => ?_) | refine A_icmp_gt (tgt := 159) d_M_game_108 (by decide) (fun c_108 => ?_) (fun c_108 => ?_)
                      · first | refine A_iinc7 d_M_game_159 (nI_1 _) trivial ?_ | refine A_iinc7 d_M_game_159 rfl trivial ?_
                        refine A_goto (tgt := 91) d_M_game_162 (by decide) ?_
                        refine A_drop8 ?_
                        exact ih
                      · exact absurd c_108 (by omega)
                    · have hsj := hSTl j
                      refine A_iload8 d_M_game_101 ?_
                      refine A_iload4 d_M_game_103 ?_
                      refine A_iload7 d_M_game_105 ?_
                      first | refine A_isubN d_M_game_107 (by with_reducible rfl) (by with_reducible rfl) (by omega) ?_ | refine A_isub d_M_game_107 ?_
                      first | refine A_icmp_gtN (tgt := 159) d_M_game_108 (by decide) (by with_reducible rfl) (by with_reducible rfl) (by omega) (by omega) (fun c_108 => ?_) (fun c_108 => ?_) | refine A_icmp_gt (tgt := 159) d_M_game_108 (by decide) (fun c_108 => ?_) (fun c_108 => ?_)
                      · exact absurd c_108 (by omega)
                      · refine A_aload_n0 d_M_game_111 ?_
                        refine A_iload7 d_M_game_112 ?_
                        refine A_iload8 d_M_game_114 ?_
                        refine A_iload4 d_M_game_116 ?_
                        refine A_iload7 d_M_game_118 ?_
                        first | refine A_isubN d_M_game_120 (by with_reducible rfl) (by with_reducible rfl) (by omega) ?_ | refine A_isub d_M_game_120 ?_
                        refine A_iload8 d_M_game_121 ?_
                        first | refine A_isubN d_M_game_123 (by with_reducible rfl) (by with_reducible rfl) (by omega) ?_ | refine A_isub d_M_game_123 ?_
                        refine A_callVP d_M_game_124 (c_M_isCore hM hG i j (W7 - i - j) (by omega) (by omega) (by omega)) hM.o rfl q_1685 q_1687 qs_99 mk_M_isCore rfl (by decide) rfl (Nat.le_of_ble_eq_true rfl) ⟨Nat.le_of_ble_eq_true rfl, Nat.le_of_ble_eq_true rfl⟩ ⟨rfl, rfl⟩ ?_
                        refine A_if_eqB (tgt := 153) d_M_game_127 (by decide) (fun c_127 => ?_) (fun c_127 => ?_)
                        · first | refine A_iinc8 d_M_game_153 (nI_1 _) trivial ?_ | refine A_iinc8 d_M_game_153 rfl trivial ?_
                          refine A_goto (tgt := 101) d_M_game_156 (by decide) ?_
                          refine A_loc ?_ ih2
                          first | (simp only [hST, c_108, c_127, reduceIte, Bool.false_eq_true]; done) | (exfalso; omega)
                        · refine A_iload5 d_M_game_130 ?_
                          skip
                          first | refine A_if_neN (tgt := 146) d_M_game_132 (by decide) (by with_reducible rfl) (by omega) (fun c_132 => ?_) (fun c_132 => ?_) | refine A_if_ne (tgt := 146) d_M_game_132 (by decide) (fun c_132 => ?_) (fun c_132 => ?_)
                          · refine A_iload6 d_M_game_146 ?_
                            refine A_istore6 d_M_game_148 trivial ?_
                            first | refine A_iinc5 d_M_game_150 (nI_1 _) trivial ?_ | refine A_iinc5 d_M_game_150 rfl trivial ?_
                            first | refine A_iinc8 d_M_game_153 (nI_1 _) trivial ?_ | refine A_iinc8 d_M_game_153 rfl trivial ?_
                            refine A_goto (tgt := 101) d_M_game_156 (by decide) ?_
                            refine A_loc ?_ ih2
                            first | (simp only [hST, c_108, c_127, c_132, reduceIte, Bool.false_eq_true]; done) | (exfalso; omega)
                          · refine A_bipush (v := nI 100) d_M_game_135 (by decide) ?_
                            refine A_iload7 d_M_game_137 ?_
                            first | refine A_imulN d_M_game_139 (by with_reducible rfl) (by with_reducible rfl) ?_ | refine A_imul d_M_game_139 ?_
                            refine A_iload8 d_M_game_140 ?_
                            first | refine A_iaddN d_M_game_142 (by with_reducible rfl) (by with_reducible rfl) ?_ | refine A_iadd d_M_game_142 ?_
                            refine A_goto (tgt := 148) d_M_game_143 (by decide) ?_
                            refine A_istore6 d_M_game_148 trivial ?_
                            first | refine A_iinc5 d_M_game_150 (nI_1 _) trivial ?_ | refine A_iinc5 d_M_game_150 rfl trivial ?_
                            first | refine A_iinc8 d_M_game_153 (nI_1 _) trivial ?_ | refine A_iinc8 d_M_game_153 rfl trivial ?_
                            refine A_goto (tgt := 101) d_M_game_156 (by decide) ?_
                            refine A_loc ?_ ih2
                            first | (simp only [hST, c_108, c_127, c_132, reduceIte, Bool.false_eq_true]; done) | (exfalso; omega)
                  refine A_iload7 d_M_game_91 ?_
                  refine A_iload4 d_M_game_93 ?_
                  first | refine A_icmp_gtN (tgt := 165) d_M_game_95 (by decide) (by with_reducible rfl) (by with_reducible rfl) (by omega) (by omega) (fun c_95 => ?_) (fun c_95 => ?_) | refine A_icmp_gt (tgt := 165) d_M_game_95 (by decide) (fun c_95 => ?_) (fun c_95 => ?_)
                  · exact absurd c_95 (by omega)
                  · refine A_iconst (v := nI 0) d_M_game_98 (by decide) ?_
                    refine A_istore8 d_M_game_99 trivial ?_
                    exact A_loc (by rw [hST0]) (key2 0 (Nat.zero_le _))
              exact key 0 (Nat.zero_le _)
            · refine A_aload_n0 d_M_game_66 ?_
              refine A_iload_n3 d_M_game_67 ?_
              refine A_iconst (v := nI 4) d_M_game_68 (by decide) ?_
              first | refine A_isubN d_M_game_69 (by with_reducible rfl) (by with_reducible rfl) (by omega) ?_ | refine A_isub d_M_game_69 ?_
              refine A_callVP d_M_game_70 (c_M_addedBy hM hG (k - 4) (by omega)) hM.o rfl q_1681 q_1683 qs_98 mk_M_addedBy rfl (by decide) rfl (Nat.le_of_ble_eq_true rfl) ⟨Nat.le_of_ble_eq_true rfl, Nat.le_of_ble_eq_true rfl⟩ ⟨rfl, rfl⟩ ?_
              refine A_iret d_M_game_73 rfl ⟨Nat.zero_le _, Nat.zero_le _⟩ ?_
              first | (exfalso; omega) | exact tk hM (fun _ _ => rfl) (by rw [pick_in hb (by omega), rg_in ⟨hs1, hs2⟩ (by decide), gameV, if_neg (by omega), rg_in ⟨hk1, hk2⟩ (by decide), if_neg (by omega)])
          · refine A_aload_n0 d_M_game_55 ?_
            refine A_iload_n2 d_M_game_56 ?_
            refine A_callVP d_M_game_57 (c_M_worthIn hM hG s (by omega)) hM.o rfl q_1677 q_1679 qs_97 mk_M_worthIn rfl (by decide) rfl (Nat.le_of_ble_eq_true rfl) ⟨Nat.le_of_ble_eq_true rfl, Nat.le_of_ble_eq_true rfl⟩ ⟨rfl, rfl⟩ ?_
            refine A_iret d_M_game_60 rfl ⟨Nat.zero_le _, Nat.zero_le _⟩ ?_
            first | exact tk hM (fun _ _ => rfl) (by rw [pick_in hb (by omega), rg_in ⟨hs1, hs2⟩ (by decide), gameV, if_pos (by omega), rg_in (by omega) (by decide)]) | (exfalso; omega)
        · refine A_sipush (v := (-1000)) d_M_game_47 (by decide) ?_
          refine A_iret d_M_game_50 rfl ⟨Nat.zero_le _, Nat.zero_le _⟩ ?_
          first | exact tk hM (fun _ _ => rfl) (by rw [pick_out c_16]) | exact tk hM (fun _ _ => rfl) (by rw [pick_in hb (by omega), rg_out c_26]) | exact tk hM (fun _ _ => rfl) (by rw [pick_in hb (by omega), rg_in ⟨hs1, hs2⟩ (by decide), gameV, if_neg (by omega), rg_out c_44]) | exact tk hM (fun _ _ => rfl) (by rw [pick_in hb (by omega), rg_in ⟨hs1, hs2⟩ (by decide), gameV, if_pos (by omega), rg_out c_44])
/-- a number drawn below 10, behind x -/
def nxt (x : Int32) : Int32 := x * 1103515245 + nI 12345
def drw (x : Int32) : Int32 := (x.toUInt32 >>> ((nI 16).toUInt32 &&& Int32.toUInt32 31)).toInt32 % nI 10
def downB (V : Nat → Nat) (x : Int32) (t : Nat) : Bool := !decide (nI (V (30 + 2 * t + 1)) ≤ drw x)
/-- seed, villages, carryings, whose turn; hours lost to city 0, to city 1 -/
abbrev DS : Type := (Int32 × Nat × Nat × Nat) × (Nat × Nat)
def dayF (V w : Nat → Nat) (h : Nat) (d : DS) : DS :=
  if comesB w (V 0) h = true then
    (if 0 < V 5 then ((nxt d.1.1, d.1.2.1 + bN (downB V (nxt d.1.1) d.1.2.2.2), d.1.2.2.1 + 1, (d.1.2.2.2 + 1) % V 5), (d.2.1 + (if downB V (nxt d.1.1) d.1.2.2.2 = true ∧ w h = 0 then 1 else 0), d.2.2 + (if downB V (nxt d.1.1) d.1.2.2.2 = true ∧ w h = 1 then 1 else 0)))
     else ((d.1.1, d.1.2.1, d.1.2.2.1 + 1, d.1.2.2.2), d.2))
  else d
def dayD (V w : Nat → Nat) (q : Int32 × Nat × Nat × Nat) : Nat → DS := foldN (dayF V w) (q, (0, 0))
theorem dayD_succ (V w : Nat → Nat) (q : Int32 × Nat × Nat × Nat) (h : Nat) : dayD V w q (h + 1) = dayF V w h (dayD V w q h) := rfl
