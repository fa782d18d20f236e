def pickL (n : Nat) (x : Int32) (f : Nat → Int64) (d : Int64) : Int64 := if inB x (nI 0) (nI n - nI 1) = true then f x.toNatClampNeg else d
theorem pickL_in {k n : Nat} {f : Nat → Int64} {d : Int64} (h : k < n) (h2 : n < 2 ^ 31) : pickL n (nI k) f d = f k := by
  rw [pickL, if_pos (inB_nI h h2), nI_clamp (by omega)]
theorem pickL_out {x : Int32} {n : Nat} {f : Nat → Int64} {d : Int64} (h : inB x (nI 0) (nI n - nI 1) = false) : pickL n x f d = d := by
  rw [pickL, if_neg (by rw [h]; decide)]
theorem sumN_succ (f : Nat → Nat) (n : Nat) : sumN f (n + 1) = sumN f n + f n := rfl
theorem moN_eq {a : Nat} : 625 * a + 25 * moN a 0 + moN a 1 = offN a := by unfold offN; omega
set_option maxHeartbeats 4000000 in
set_option maxRecDepth 100000 in
theorem c_M_waysSum {G : GE} {h0 : AH} {m : Nat} {S : MS} {cr : Nat} (hcr : cr ≤ 3) {l : Nat} {V : Nat → Nat} (hS : HS S l V) (hC : V 1 = cr) (hN : ND S V) {first : Nat} (hfi : first < 2 + 2 * cr) {f : Nat → Nat} {G37 : Nat → Int64} (hG : ∀ k, k < 5000 → G37 k = lN (f k)) (hfr : fromN cr first V = sumN (fun s => lastN cr first V f s 625) (2 + 2 * cr)) : ∀ s, s ≤ 2 + 2 * cr → ∀ (h : AH) (S1 : MS), MW h0 h m S1 → SB S S1 → S1.2.2.2 37 = G37 → WA G y_M_waysFrom b_M_waysFrom 6 (some .long) r_M_waysFrom 0 0 (fun v h' => v = some (.long (lN (fromN cr first V))) ∧ ∃ S1, MW h0 h' m S1 ∧ SB S S1) 0 0 137 [some (.ref m), some (.int (nI first)), some (.long (lN (sumN (fun s => lastN cr first V f s 625) s))), none, some (.int (nI s)), none] [] h := by
  have hH := hS.ok.1
  refine down ?_ (fun s hs ih => ?_)
  · intro h S1 hM hb h37
    refine A_iload4 d_M_waysFrom_137 ?_
    refine A_aload_n0 d_M_waysFrom_139 ?_
    refine A_callVP d_M_waysFrom_140 (c_M_stateMany hM) hM.o rfl q_1468 q_1470 qs_59 mk_M_stateMany rfl (by decide) rfl (Nat.le_of_ble_eq_true rfl) ⟨Nat.le_of_ble_eq_true rfl, Nat.le_of_ble_eq_true rfl⟩ ⟨rfl, rfl⟩ ?_
    refine A_topI (show nI 2 + nI 2 * S1.1 28 = nI (2 + 2 * cr) by rw [hb.1, hS.cross, hC, nI_mul, nI_add]) ?_
    first | refine A_icmp_geN (tgt := 217) d_M_waysFrom_143 (by decide) (by with_reducible rfl) (by with_reducible rfl) (by omega) (by omega) (fun c_143 => ?_) (fun c_143 => ?_) | refine A_icmp_ge (tgt := 217) d_M_waysFrom_143 (by decide) (fun c_143 => ?_) (fun c_143 => ?_)
    · refine A_lload_n2 d_M_waysFrom_217 ?_
      refine A_lret d_M_waysFrom_218 rfl ⟨Nat.zero_le _, Nat.zero_le _⟩ ?_
      exact ⟨by rw [hfr], S1, hM, hb⟩
    · exact absurd c_143 (by omega)
  · intro h S1 hM hb h37
    refine A_iload4 d_M_waysFrom_137 ?_
    refine A_aload_n0 d_M_waysFrom_139 ?_
    refine A_callVP d_M_waysFrom_140 (c_M_stateMany hM) hM.o rfl q_1468 q_1470 qs_59 mk_M_stateMany rfl (by decide) rfl (Nat.le_of_ble_eq_true rfl) ⟨Nat.le_of_ble_eq_true rfl, Nat.le_of_ble_eq_true rfl⟩ ⟨rfl, rfl⟩ ?_
    refine A_topI (show nI 2 + nI 2 * S1.1 28 = nI (2 + 2 * cr) by rw [hb.1, hS.cross, hC, nI_mul, nI_add]) ?_
    first | refine A_icmp_geN (tgt := 217) d_M_waysFrom_143 (by decide) (by with_reducible rfl) (by with_reducible rfl) (by omega) (by omega) (fun c_143 => ?_) (fun c_143 => ?_) | refine A_icmp_ge (tgt := 217) d_M_waysFrom_143 (by decide) (fun c_143 => ?_) (fun c_143 => ?_)
    · exact absurd c_143 (by omega)
    · refine A_iconst (v := nI 0) d_M_waysFrom_146 (by decide) ?_
      refine A_istore5 d_M_waysFrom_147 trivial ?_
      cases hg : goesB cr s first
      · refine A_iload5 d_M_waysFrom_149 ?_
        refine A_sipush (v := nI 625) d_M_waysFrom_151 (by decide) ?_
        refine A_icmp_ge (tgt := 211) d_M_waysFrom_154 (by decide) (fun c => absurd c (by decide)) (fun c_154 => ?_)
        refine A_aload_n0 d_M_waysFrom_157 ?_
        refine A_iload4 d_M_waysFrom_158 ?_
        refine A_iload_n1 d_M_waysFrom_160 ?_
        refine A_callVP d_M_waysFrom_161 (c_M_goesTo hM (by rw [hb.1, hS.cross, hC]) hcr s first (by omega) hfi) hM.o rfl q_1492 q_1494 qs_65 mk_M_goesTo rfl (by decide) rfl (Nat.le_of_ble_eq_true rfl) ⟨Nat.le_of_ble_eq_true rfl, Nat.le_of_ble_eq_true rfl⟩ ⟨rfl, rfl⟩ ?_
        rw [hg]
        refine A_if_eqB (tgt := 211) d_M_waysFrom_164 (by decide) (fun c_164 => ?_) (fun c => absurd c (by decide))
        first | refine A_iinc4 d_M_waysFrom_211 (nI_1 _) trivial ?_ | refine A_iinc4 d_M_waysFrom_211 rfl trivial ?_
        refine A_goto (tgt := 137) d_M_waysFrom_214 (by decide) ?_
        refine A_drop5 (A_loc ?_ (ih _ _ hM hb h37))
        rw [sumN_succ (fun s => lastN cr first V f s 625) s, show lastN cr first V f s 625 = 0 from if_neg (by rw [hg]; decide)]
        rfl
      · have keyd : ∀ d, d ≤ 625 → ∀ (h : AH) (S1 : MS), MW h0 h m S1 → SB S S1 → S1.2.2.2 37 = G37 → WA G y_M_waysFrom b_M_waysFrom 6 (some .long) r_M_waysFrom 0 0 (fun v h' => v = some (.long (lN (fromN cr first V))) ∧ ∃ S1, MW h0 h' m S1 ∧ SB S S1) 0 0 149 [some (.ref m), some (.int (nI first)), some (.long (lN (sumN (fun s => lastN cr first V f s 625) s + sumN (fun d => if fitsB V (d / 25) (d % 25) = true then f (625 * s + d) else 0) d))), none, some (.int (nI s)), some (.int (nI d))] [] h := by
          refine down ?_ (fun d hd ihd => ?_)
          · intro h S1 hM hb h37
            refine A_iload5 d_M_waysFrom_149 ?_
            refine A_sipush (v := nI 625) d_M_waysFrom_151 (by decide) ?_
            first | refine A_icmp_geN (tgt := 211) d_M_waysFrom_154 (by decide) (by with_reducible rfl) (by with_reducible rfl) (by omega) (by omega) (fun c_154 => ?_) (fun c_154 => ?_) | refine A_icmp_ge (tgt := 211) d_M_waysFrom_154 (by decide) (fun c_154 => ?_) (fun c_154 => ?_)
            · first | refine A_iinc4 d_M_waysFrom_211 (nI_1 _) trivial ?_ | refine A_iinc4 d_M_waysFrom_211 rfl trivial ?_
              refine A_goto (tgt := 137) d_M_waysFrom_214 (by decide) ?_
              refine A_drop5 (A_loc ?_ (ih _ _ hM hb h37))
              rw [sumN_succ (fun s => lastN cr first V f s 625) s]
              rw [show lastN cr first V f s 625 = sumN (fun d => if fitsB V (d / 25) (d % 25) = true then f (625 * s + d) else 0) 625 from if_pos hg]
            · exact absurd c_154 (by omega)
          · intro h S1 hM hb h37
            refine A_iload5 d_M_waysFrom_149 ?_
            refine A_sipush (v := nI 625) d_M_waysFrom_151 (by decide) ?_
            first | refine A_icmp_geN (tgt := 211) d_M_waysFrom_154 (by decide) (by with_reducible rfl) (by with_reducible rfl) (by omega) (by omega) (fun c_154 => ?_) (fun c_154 => ?_) | refine A_icmp_ge (tgt := 211) d_M_waysFrom_154 (by decide) (fun c_154 => ?_) (fun c_154 => ?_)
            · exact absurd c_154 (by omega)
            · refine A_aload_n0 d_M_waysFrom_157 ?_
              refine A_iload4 d_M_waysFrom_158 ?_
              refine A_iload_n1 d_M_waysFrom_160 ?_
              refine A_callVP d_M_waysFrom_161 (c_M_goesTo hM (by rw [hb.1, hS.cross, hC]) hcr s first (by omega) hfi) hM.o rfl q_1492 q_1494 qs_65 mk_M_goesTo rfl (by decide) rfl (Nat.le_of_ble_eq_true rfl) ⟨Nat.le_of_ble_eq_true rfl, Nat.le_of_ble_eq_true rfl⟩ ⟨rfl, rfl⟩ ?_
              rw [hg]
              refine A_if_eqB (tgt := 211) d_M_waysFrom_164 (by decide) (fun c => absurd c (by decide)) (fun c_164 => ?_)
              refine A_lload_n2 d_M_waysFrom_167 ?_
              refine A_aload_n0 d_M_waysFrom_168 ?_
              refine A_iload5 d_M_waysFrom_169 ?_
              refine A_bipush (v := nI 25) d_M_waysFrom_171 (by decide) ?_
              refine A_idivN d_M_waysFrom_173 (by with_reducible rfl) (by with_reducible rfl) (by omega) ?_
              refine A_iload5 d_M_waysFrom_174 ?_
              refine A_bipush (v := nI 25) d_M_waysFrom_176 (by decide) ?_
              refine A_iremN d_M_waysFrom_178 (by with_reducible rfl) (by with_reducible rfl) (by omega) ?_
              refine A_callVP d_M_waysFrom_179 (c_M_fitsDark hM hS.ok (hb.nd hN) (d / 25) (d % 25) (by omega) (by omega)) hM.o rfl q_1496 q_1498 qs_66 mk_M_fitsDark rfl (by decide) rfl (Nat.le_of_ble_eq_true rfl) ⟨Nat.le_of_ble_eq_true rfl, Nat.le_of_ble_eq_true rfl⟩ ⟨rfl, rfl⟩ ?_
              refine A_if_eqB (tgt := 202) d_M_waysFrom_182 (by decide) (fun c_182 => ?_) (fun c_182 => ?_)
              · refine A_lconst (v := 0) d_M_waysFrom_202 (by decide) ?_
                refine A_ladd d_M_waysFrom_203 ?_
                refine A_lstore2 d_M_waysFrom_204 trivial ?_
                first | refine A_iinc5 d_M_waysFrom_205 (nI_1 _) trivial ?_ | refine A_iinc5 d_M_waysFrom_205 rfl trivial ?_
                refine A_goto (tgt := 149) d_M_waysFrom_208 (by decide) ?_
                refine A_loc ?_ (ihd _ _ hM hb h37)
                rw [sumN_succ _ d]
                first
                  | rw [lN_add, if_pos c_182, Nat.add_assoc]
                  | (rw [if_neg (by rw [c_182]; decide), show (0 : Int64) = lN 0 from rfl, lN_add]; rfl)
              · refine A_aload_n0 d_M_waysFrom_185 ?_
                refine A_getf (kf := 37) d_M_waysFrom_186 hM.o ok_8 (by decide) q_1086 rfl ?_
                refine A_sipush (v := nI 625) d_M_waysFrom_189 (by decide) ?_
                refine A_iload4 d_M_waysFrom_192 ?_
                first | refine A_imulN d_M_waysFrom_194 (by with_reducible rfl) (by with_reducible rfl) ?_ | refine A_imul d_M_waysFrom_194 ?_
                refine A_iload5 d_M_waysFrom_195 ?_
                first | refine A_iaddN d_M_waysFrom_197 (by with_reducible rfl) (by with_reducible rfl) ?_ | refine A_iadd d_M_waysFrom_197 ?_
                refine A_laldN d_M_waysFrom_198 hM.a37 ⟨by omega, by decide⟩ ?_
                refine A_top (congrArg Value.long ((congrFun h37 _).trans (hG _ (by omega)))) ?_
                refine A_goto (tgt := 203) d_M_waysFrom_199 (by decide) ?_
                refine A_ladd d_M_waysFrom_203 ?_
                refine A_lstore2 d_M_waysFrom_204 trivial ?_
                first | refine A_iinc5 d_M_waysFrom_205 (nI_1 _) trivial ?_ | refine A_iinc5 d_M_waysFrom_205 rfl trivial ?_
                refine A_goto (tgt := 149) d_M_waysFrom_208 (by decide) ?_
                refine A_loc ?_ (ihd _ _ hM hb h37)
                rw [sumN_succ _ d]
                first
                  | rw [lN_add, if_pos c_182, Nat.add_assoc]
                  | (rw [if_neg (by rw [c_182]; decide), show (0 : Int64) = lN 0 from rfl, lN_add]; rfl)
        exact keyd 0 (Nat.zero_le _) _ _ hM hb h37
set_option maxHeartbeats 4000000 in
set_option maxRecDepth 100000 in
theorem c_M_waysFrom {G : GE} {h0 h : AH} {m : Nat} {S : MS} (hM : MW h0 h m S) {cr : Nat} (hcr : cr ≤ 3) {l : Nat} {V : Nat → Nat} (hS : HS S l V) (hC : V 1 = cr) (hN : ND S V) (first : Nat) (hfi : first < 2 + 2 * cr) : Ctr G y_M_waysFrom b_M_waysFrom 6 (some .long) r_M_waysFrom [.ref m, .int (nI first)] h (fun v h' => v = some (.long (lN (fromN cr first V))) ∧ ∃ S1, MW h0 h' m S1 ∧ SB S S1) := by
  have hH := hS.ok.1
  have keyh : ∀ h9, h9 ≤ V 0 - 1 → ∀ (h : AH) (S1 : MS), MW h0 h m S1 → SB S S1 → (∀ k, k < 5000 → S1.2.2.2 37 k = lN (nowN cr first h9 k)) → WA G y_M_waysFrom b_M_waysFrom 6 (some .long) r_M_waysFrom 0 0 (fun v h' => v = some (.long (lN (fromN cr first V))) ∧ ∃ S1, MW h0 h' m S1 ∧ SB S S1) 0 0 47 [some (.ref m), some (.int (nI first)), some (.int (nI (h9 + 1))), none, none, none] [] h := by
    refine down ?_ (fun h9 hh9 ih => ?_)
    · obtain ⟨h9, hh9⟩ : ∃ h9, h9 = V 0 - 1 := ⟨_, rfl⟩
      rw [← hh9]
      intro h S1 hM hb h37
      refine A_iload_n2 d_M_waysFrom_47 ?_
      refine A_aload_n0 d_M_waysFrom_48 ?_
      refine A_getf (kf := 27) d_M_waysFrom_49 hM.o ok_8 (by decide) q_1076 rfl ?_
      refine A_topI (show S1.1 27 = nI (V 0) by rw [hb.1]; exact hS.hours) ?_
      first | refine A_icmp_geN (tgt := 132) d_M_waysFrom_52 (by decide) (by with_reducible rfl) (by with_reducible rfl) (by omega) (by omega) (fun c_52 => ?_) (fun c_52 => ?_) | refine A_icmp_ge (tgt := 132) d_M_waysFrom_52 (by decide) (fun c_52 => ?_) (fun c_52 => ?_)
      · refine A_lconst (v := 0) d_M_waysFrom_132 (by decide) ?_
        refine A_lstore2 d_M_waysFrom_133 trivial ?_
        refine A_iconst (v := nI 0) d_M_waysFrom_134 (by decide) ?_
        refine A_istore4 d_M_waysFrom_135 trivial ?_
        exact c_M_waysSum hcr hS hC hN hfi h37 (by unfold fromN; rw [show V 0 - 1 = h9 by omega]) 0 (Nat.zero_le _) _ _ hM hb rfl
      · exact absurd c_52 (by omega)
    · intro h S1 hM hb h37
      refine A_iload_n2 d_M_waysFrom_47 ?_
      refine A_aload_n0 d_M_waysFrom_48 ?_
      refine A_getf (kf := 27) d_M_waysFrom_49 hM.o ok_8 (by decide) q_1076 rfl ?_
      refine A_topI (show S1.1 27 = nI (V 0) by rw [hb.1]; exact hS.hours) ?_
      first | refine A_icmp_geN (tgt := 132) d_M_waysFrom_52 (by decide) (by with_reducible rfl) (by with_reducible rfl) (by omega) (by omega) (fun c_52 => ?_) (fun c_52 => ?_) | refine A_icmp_ge (tgt := 132) d_M_waysFrom_52 (by decide) (fun c_52 => ?_) (fun c_52 => ?_)
      · exact absurd c_52 (by omega)
      · refine A_iconst (v := nI 0) d_M_waysFrom_55 (by decide) ?_
        refine A_istore3 d_M_waysFrom_56 trivial ?_
        have key3 : ∀ i, i ≤ 5000 → ∀ (h : AH) (S1 : MS), MW h0 h m S1 → SB S S1 → (∀ k, k < 5000 → S1.2.2.2 37 k = lN (if k < i then stepN cr (nowN cr first h9) (h9 + 1) (2 + 2 * cr) k else nowN cr first h9 k)) → (∀ k, k < 5000 → S1.2.2.2 38 k = lN (stepN cr (nowN cr first h9) (h9 + 1) (2 + 2 * cr) k)) → WA G y_M_waysFrom b_M_waysFrom 6 (some .long) r_M_waysFrom 0 0 (fun v h' => v = some (.long (lN (fromN cr first V))) ∧ ∃ S1, MW h0 h' m S1 ∧ SB S S1) 0 0 101 [some (.ref m), some (.int (nI first)), some (.int (nI (h9 + 1))), some (.int (nI i)), none, none] [] h := by
          refine down ?_ (fun i hi ihi => ?_)
          · intro h S1 hM hb h37 h38
            refine A_iload_n3 d_M_waysFrom_101 ?_
            refine A_sipush (v := nI 5000) d_M_waysFrom_102 (by decide) ?_
            first | refine A_icmp_geN (tgt := 126) d_M_waysFrom_105 (by decide) (by with_reducible rfl) (by with_reducible rfl) (by omega) (by omega) (fun c_105 => ?_) (fun c_105 => ?_) | refine A_icmp_ge (tgt := 126) d_M_waysFrom_105 (by decide) (fun c_105 => ?_) (fun c_105 => ?_)
            · first | refine A_iinc2 d_M_waysFrom_126 (nI_1 _) trivial ?_ | refine A_iinc2 d_M_waysFrom_126 rfl trivial ?_
              refine A_goto (tgt := 47) d_M_waysFrom_129 (by decide) ?_
              exact A_drop3 (ih _ _ hM hb (fun k hk => by rw [h37 k hk, if_pos hk]; rfl))
            · exact absurd c_105 (by omega)
          · intro h S1 hM hb h37 h38
            refine A_iload_n3 d_M_waysFrom_101 ?_
            refine A_sipush (v := nI 5000) d_M_waysFrom_102 (by decide) ?_
            first | refine A_icmp_geN (tgt := 126) d_M_waysFrom_105 (by decide) (by with_reducible rfl) (by with_reducible rfl) (by omega) (by omega) (fun c_105 => ?_) (fun c_105 => ?_) | refine A_icmp_ge (tgt := 126) d_M_waysFrom_105 (by decide) (fun c_105 => ?_) (fun c_105 => ?_)
            · exact absurd c_105 (by omega)
            · refine A_aload_n0 d_M_waysFrom_108 ?_
              refine A_getf (kf := 37) d_M_waysFrom_109 hM.o ok_8 (by decide) q_1086 rfl ?_
              refine A_iload_n3 d_M_waysFrom_112 ?_
              refine A_aload_n0 d_M_waysFrom_113 ?_
              refine A_getf (kf := 38) d_M_waysFrom_114 hM.o ok_8 (by decide) q_1087 rfl ?_
              refine A_iload_n3 d_M_waysFrom_117 ?_
              refine A_laldN d_M_waysFrom_118 hM.a38 ⟨by omega, by decide⟩ ?_
              refine A_top (congrArg Value.long (h38 _ (by omega))) ?_
              refine A_st37 hM d_M_waysFrom_119 (by omega) (fun h hM => ?_)
              obtain ⟨S3, hM, e37, x37, sb⟩ := opb hM
              first | refine A_iinc3 d_M_waysFrom_120 (nI_1 _) trivial ?_ | refine A_iinc3 d_M_waysFrom_120 rfl trivial ?_
              refine A_goto (tgt := 101) d_M_waysFrom_123 (by decide) ?_
              refine ihi _ _ hM (hb.tr sb) (fun k hk => ?_) (fun k hk => (congrFun (x37 38 (by decide)) k).trans (h38 k hk))
              rw [e37]
              by_cases r : k = i
              · subst r; rw [fup_eq, if_pos (by omega)]
              · rw [fup_ne _ _ r, h37 k hk]
                by_cases r2 : k < i
                · rw [if_pos r2, if_pos (by omega)]
                · rw [if_neg r2, if_neg (by omega)]
        have key2 : ∀ i, i ≤ 2 + 2 * cr → ∀ (h : AH) (S1 : MS), MW h0 h m S1 → SB S S1 → (∀ k, k < 5000 → S1.2.2.2 37 k = lN (nowN cr first h9 k)) → (∀ k, k < 5000 → S1.2.2.2 38 k = lN (stepN cr (nowN cr first h9) (h9 + 1) i k)) → WA G y_M_waysFrom b_M_waysFrom 6 (some .long) r_M_waysFrom 0 0 (fun v h' => v = some (.long (lN (fromN cr first V))) ∧ ∃ S1, MW h0 h' m S1 ∧ SB S S1) 0 0 79 [some (.ref m), some (.int (nI first)), some (.int (nI (h9 + 1))), some (.int (nI i)), none, none] [] h := by
          refine down ?_ (fun i hi ihi => ?_)
          · intro h S1 hM hb h37 h38
            refine A_iload_n3 d_M_waysFrom_79 ?_
            refine A_aload_n0 d_M_waysFrom_80 ?_
            refine A_callVP d_M_waysFrom_81 (c_M_stateMany hM) hM.o rfl q_1468 q_1470 qs_59 mk_M_stateMany rfl (by decide) rfl (Nat.le_of_ble_eq_true rfl) ⟨Nat.le_of_ble_eq_true rfl, Nat.le_of_ble_eq_true rfl⟩ ⟨rfl, rfl⟩ ?_
            refine A_topI (show nI 2 + nI 2 * S1.1 28 = nI (2 + 2 * cr) by rw [hb.1, hS.cross, hC, nI_mul, nI_add]) ?_
            first | refine A_icmp_geN (tgt := 99) d_M_waysFrom_84 (by decide) (by with_reducible rfl) (by with_reducible rfl) (by omega) (by omega) (fun c_84 => ?_) (fun c_84 => ?_) | refine A_icmp_ge (tgt := 99) d_M_waysFrom_84 (by decide) (fun c_84 => ?_) (fun c_84 => ?_)
            · refine A_iconst (v := nI 0) d_M_waysFrom_99 (by decide) ?_
              refine A_istore3 d_M_waysFrom_100 trivial ?_
              exact key3 0 (Nat.zero_le _) _ _ hM hb (fun k hk => by rw [if_neg (Nat.not_lt_zero k)]; exact h37 k hk) h38
            · exact absurd c_84 (by omega)
          · intro h S1 hM hb h37 h38
            refine A_iload_n3 d_M_waysFrom_79 ?_
            refine A_aload_n0 d_M_waysFrom_80 ?_
            refine A_callVP d_M_waysFrom_81 (c_M_stateMany hM) hM.o rfl q_1468 q_1470 qs_59 mk_M_stateMany rfl (by decide) rfl (Nat.le_of_ble_eq_true rfl) ⟨Nat.le_of_ble_eq_true rfl, Nat.le_of_ble_eq_true rfl⟩ ⟨rfl, rfl⟩ ?_
            refine A_topI (show nI 2 + nI 2 * S1.1 28 = nI (2 + 2 * cr) by rw [hb.1, hS.cross, hC, nI_mul, nI_add]) ?_
            first | refine A_icmp_geN (tgt := 99) d_M_waysFrom_84 (by decide) (by with_reducible rfl) (by with_reducible rfl) (by omega) (by omega) (fun c_84 => ?_) (fun c_84 => ?_) | refine A_icmp_ge (tgt := 99) d_M_waysFrom_84 (by decide) (fun c_84 => ?_) (fun c_84 => ?_)
            · exact absurd c_84 (by omega)
            · refine A_aload_n0 d_M_waysFrom_87 ?_
              refine A_iload_n3 d_M_waysFrom_88 ?_
              refine A_iload_n2 d_M_waysFrom_89 ?_
              refine A_callV d_M_waysFrom_90 (c_M_spread hM (by rw [hb.1, hS.cross, hC]) hcr (s := i) (hh := h9 + 1) hi (by omega) (fun k hk => ⟨h37 k hk, nowN_lt hcr (by omega)⟩) h38) hM.o rfl q_1484 q_1486 qs_63 mk_M_spread rfl (by decide) rfl (Nat.le_of_ble_eq_true rfl) ⟨Nat.le_of_ble_eq_true rfl, Nat.le_of_ble_eq_true rfl⟩ (fun v h1 hv => ?_)
              obtain ⟨rfl, S3, hM, sb, e37, e38⟩ := hv
              first | refine A_iinc3 d_M_waysFrom_93 (nI_1 _) trivial ?_ | refine A_iinc3 d_M_waysFrom_93 rfl trivial ?_
              refine A_goto (tgt := 79) d_M_waysFrom_96 (by decide) ?_
              refine ihi _ _ hM (hb.tr sb) (fun k hk => by rw [e37]; exact h37 k hk) (fun k hk => ?_)
              rw [e38 k hk]; rfl
        have key1 : ∀ i, i ≤ 5000 → ∀ (h : AH) (S1 : MS), MW h0 h m S1 → SB S S1 → (∀ k, k < 5000 → S1.2.2.2 37 k = lN (nowN cr first h9 k)) → (∀ k, k < i → S1.2.2.2 38 k = lN 0) → WA G y_M_waysFrom b_M_waysFrom 6 (some .long) r_M_waysFrom 0 0 (fun v h' => v = some (.long (lN (fromN cr first V))) ∧ ∃ S1, MW h0 h' m S1 ∧ SB S S1) 0 0 57 [some (.ref m), some (.int (nI first)), some (.int (nI (h9 + 1))), some (.int (nI i)), none, none] [] h := by
          refine down ?_ (fun i hi ihi => ?_)
          · intro h S1 hM hb h37 h38
            refine A_iload_n3 d_M_waysFrom_57 ?_
            refine A_sipush (v := nI 5000) d_M_waysFrom_58 (by decide) ?_
            first | refine A_icmp_geN (tgt := 77) d_M_waysFrom_61 (by decide) (by with_reducible rfl) (by with_reducible rfl) (by omega) (by omega) (fun c_61 => ?_) (fun c_61 => ?_) | refine A_icmp_ge (tgt := 77) d_M_waysFrom_61 (by decide) (fun c_61 => ?_) (fun c_61 => ?_)
            · refine A_iconst (v := nI 0) d_M_waysFrom_77 (by decide) ?_
              refine A_istore3 d_M_waysFrom_78 trivial ?_
              exact key2 0 (Nat.zero_le _) _ _ hM hb h37 (fun k hk => by rw [h38 k hk]; rfl)
            · exact absurd c_61 (by omega)
          · intro h S1 hM hb h37 h38
            refine A_iload_n3 d_M_waysFrom_57 ?_
            refine A_sipush (v := nI 5000) d_M_waysFrom_58 (by decide) ?_
            first | refine A_icmp_geN (tgt := 77) d_M_waysFrom_61 (by decide) (by with_reducible rfl) (by with_reducible rfl) (by omega) (by omega) (fun c_61 => ?_) (fun c_61 => ?_) | refine A_icmp_ge (tgt := 77) d_M_waysFrom_61 (by decide) (fun c_61 => ?_) (fun c_61 => ?_)
            · exact absurd c_61 (by omega)
            · refine A_aload_n0 d_M_waysFrom_64 ?_
              refine A_getf (kf := 38) d_M_waysFrom_65 hM.o ok_8 (by decide) q_1087 rfl ?_
              refine A_iload_n3 d_M_waysFrom_68 ?_
              refine A_lconst (v := 0) d_M_waysFrom_69 (by decide) ?_
              refine A_st38 hM d_M_waysFrom_70 (by omega) (fun h hM => ?_)
              obtain ⟨S3, hM, e38, x38, sb⟩ := opb hM
              first | refine A_iinc3 d_M_waysFrom_71 (nI_1 _) trivial ?_ | refine A_iinc3 d_M_waysFrom_71 rfl trivial ?_
              refine A_goto (tgt := 57) d_M_waysFrom_74 (by decide) ?_
              refine ihi _ _ hM (hb.tr sb) (fun k hk => (congrFun (x38 37 (by decide)) k).trans (h37 k hk)) (fun k hk => ?_)
              rw [e38]
              by_cases r : k = i
              · subst r; exact fup_eq _ _ _
              · exact (fup_ne _ _ r).trans (h38 k (by omega))
        exact key1 0 (Nat.zero_le _) _ _ hM hb h37 (fun k hk => absurd hk (Nat.not_lt_zero k))
  have key0 : ∀ i, i ≤ 5000 → ∀ (h : AH) (S1 : MS), MW h0 h m S1 → SB S S1 → (∀ k, k < i → S1.2.2.2 37 k = lN 0) → WA G y_M_waysFrom b_M_waysFrom 6 (some .long) r_M_waysFrom 0 0 (fun v h' => v = some (.long (lN (fromN cr first V))) ∧ ∃ S1, MW h0 h' m S1 ∧ SB S S1) 0 0 2 [some (.ref m), some (.int (nI first)), some (.int (nI i)), none, none, none] [] h := by
    refine down ?_ (fun i hi ih => ?_)
    · intro h S1 hM hb h37
      refine A_iload_n2 d_M_waysFrom_2 ?_
      refine A_sipush (v := nI 5000) d_M_waysFrom_3 (by decide) ?_
      first | refine A_icmp_geN (tgt := 22) d_M_waysFrom_6 (by decide) (by with_reducible rfl) (by with_reducible rfl) (by omega) (by omega) (fun c_6 => ?_) (fun c_6 => ?_) | refine A_icmp_ge (tgt := 22) d_M_waysFrom_6 (by decide) (fun c_6 => ?_) (fun c_6 => ?_)
      · refine A_aload_n0 d_M_waysFrom_22 ?_
        refine A_getf (kf := 37) d_M_waysFrom_23 hM.o ok_8 (by decide) q_1086 rfl ?_
        refine A_aload_n0 d_M_waysFrom_26 ?_
        refine A_iload_n1 d_M_waysFrom_27 ?_
        refine A_aload_n0 d_M_waysFrom_28 ?_
        refine A_iload_n1 d_M_waysFrom_29 ?_
        refine A_iconst (v := nI 0) d_M_waysFrom_30 (by decide) ?_
        refine A_callVP d_M_waysFrom_31 (c_M_more hM (nI first) (nI 0)) hM.o rfl q_1476 q_1478 qs_61 mk_M_more rfl (by decide) rfl (Nat.le_of_ble_eq_true rfl) ⟨Nat.le_of_ble_eq_true rfl, Nat.le_of_ble_eq_true rfl⟩ ⟨rfl, rfl⟩ ?_
        refine A_topI (moI (by omega) (by decide)) ?_
        refine A_aload_n0 d_M_waysFrom_34 ?_
        refine A_iload_n1 d_M_waysFrom_35 ?_
        refine A_iconst (v := nI 1) d_M_waysFrom_36 (by decide) ?_
        refine A_callVP d_M_waysFrom_37 (c_M_more hM (nI first) (nI 1)) hM.o rfl q_1476 q_1478 qs_61 mk_M_more rfl (by decide) rfl (Nat.le_of_ble_eq_true rfl) ⟨Nat.le_of_ble_eq_true rfl, Nat.le_of_ble_eq_true rfl⟩ ⟨rfl, rfl⟩ ?_
        refine A_topI (moI (by omega) (by decide)) ?_
        have m0 := moN_le first 0
        have m1 := moN_le first 1
        refine A_callVP d_M_waysFrom_40 (c_M_grid hM first (moN first 0) (moN first 1)) hM.o rfl q_1480 q_1482 qs_62 mk_M_grid rfl (by decide) rfl (Nat.le_of_ble_eq_true rfl) ⟨Nat.le_of_ble_eq_true rfl, Nat.le_of_ble_eq_true rfl⟩ ⟨rfl, rfl⟩ ?_
        refine A_lconst (v := 1) d_M_waysFrom_43 (by decide) ?_
        refine A_st37 hM d_M_waysFrom_44 (by omega) (fun h hM => ?_)
        obtain ⟨S3, hM, e37, x37, sb⟩ := opb hM
        refine A_iconst (v := nI 1) d_M_waysFrom_45 (by decide) ?_
        refine A_istore2 d_M_waysFrom_46 trivial ?_
        refine keyh 0 (Nat.zero_le _) _ _ hM (hb.tr sb) (fun k hk => ?_)
        rw [e37]
        show _ = lN (if k = offN first then 1 else 0)
        by_cases r : k = offN first
        · subst r; rw [if_pos rfl, ← moN_eq]; exact fup_eq _ _ _
        · rw [if_neg r]; exact (fup_ne _ _ (by rw [moN_eq]; exact r)).trans (h37 k hk)
      · exact absurd c_6 (by omega)
    · intro h S1 hM hb h37
      refine A_iload_n2 d_M_waysFrom_2 ?_
      refine A_sipush (v := nI 5000) d_M_waysFrom_3 (by decide) ?_
      first | refine A_icmp_geN (tgt := 22) d_M_waysFrom_6 (by decide) (by with_reducible rfl) (by with_reducible rfl) (by omega) (by omega) (fun c_6 => ?_) (fun c_6 => ?_) | refine A_icmp_ge (tgt := 22) d_M_waysFrom_6 (by decide) (fun c_6 => ?_) (fun c_6 => ?_)
      · exact absurd c_6 (by omega)
      · refine A_aload_n0 d_M_waysFrom_9 ?_
        refine A_getf (kf := 37) d_M_waysFrom_10 hM.o ok_8 (by decide) q_1086 rfl ?_
        refine A_iload_n2 d_M_waysFrom_13 ?_
        refine A_lconst (v := 0) d_M_waysFrom_14 (by decide) ?_
        refine A_st37 hM d_M_waysFrom_15 (by omega) (fun h hM => ?_)
        obtain ⟨S3, hM, e37, x37, sb⟩ := opb hM
        first | refine A_iinc2 d_M_waysFrom_16 (nI_1 _) trivial ?_ | refine A_iinc2 d_M_waysFrom_16 rfl trivial ?_
        refine A_goto (tgt := 2) d_M_waysFrom_19 (by decide) ?_
        refine ih _ _ hM (hb.tr sb) (fun k hk => ?_)
        rw [e37]
        by_cases r : k = i
        · subst r; exact fup_eq _ _ _
        · exact (fup_ne _ _ r).trans (h37 k (by omega))
  refine Ctr.of (by decide +kernel) (by simp) (Nat.le_of_ble_eq_true rfl) (L0 := [some (.ref m), some (.int (nI first)), none, none, none, none]) rfl ?_
  refine A_iconst (v := nI 0) d_M_waysFrom_0 (by decide) ?_
  refine A_istore2 d_M_waysFrom_1 trivial ?_
  exact key0 0 (Nat.zero_le _) _ _ hM (SB.rf S) (fun k hk => absurd hk (Nat.not_lt_zero k))
set_option maxHeartbeats 4000000 in
set_option maxRecDepth 100000 in
theorem c_M_ways2 {G : GE} {h0 : AH} {m : Nat} {S : MS} {la : Int32} {l : Nat} {V : Nat → Nat} (hC : V 1 ≤ 3) : ∀ i, i ≤ 2 + 2 * V 1 → ∀ (h : AH) (S3 : MS), MW h0 h m S3 → HS S3 l V → ND S3 V → Keep S S3 → WA G y_M_ways b_M_ways 5 (some .long) r_M_ways 0 0 (TK h0 m S (.long (lN (waysN V)))) 0 0 26 [some (.ref m), some (.int la), some (.long (lN (sumN (fun s => fromN (V 1) s V) i))), none, some (.int (nI i))] [] h := by
  refine down ?_ (fun i hi ih => ?_)
  · intro h S3 hM hS3 hN3 hk3
    refine A_iload4 d_M_ways_26 ?_
    refine A_aload_n0 d_M_ways_28 ?_
    refine A_callVP d_M_ways_29 (c_M_stateMany hM) hM.o rfl q_1468 q_1470 qs_59 mk_M_stateMany rfl (by decide) rfl (Nat.le_of_ble_eq_true rfl) ⟨Nat.le_of_ble_eq_true rfl, Nat.le_of_ble_eq_true rfl⟩ ⟨rfl, rfl⟩ ?_
    refine A_topI (show nI 2 + nI 2 * S3.1 28 = nI (2 + 2 * V 1) by rw [hS3.cross, nI_mul, nI_add]) ?_
    first | refine A_icmp_geN (tgt := 50) d_M_ways_32 (by decide) (by with_reducible rfl) (by with_reducible rfl) (by omega) (by omega) (fun c_32 => ?_) (fun c_32 => ?_) | refine A_icmp_ge (tgt := 50) d_M_ways_32 (by decide) (fun c_32 => ?_) (fun c_32 => ?_)
    · refine A_lload_n2 d_M_ways_50 ?_
      refine A_lret d_M_ways_51 rfl ⟨Nat.zero_le _, Nat.zero_le _⟩ ?_
      exact tk hM hk3 rfl
    · exact absurd c_32 (by omega)
  · intro h S3 hM hS3 hN3 hk3
    refine A_iload4 d_M_ways_26 ?_
    refine A_aload_n0 d_M_ways_28 ?_
    refine A_callVP d_M_ways_29 (c_M_stateMany hM) hM.o rfl q_1468 q_1470 qs_59 mk_M_stateMany rfl (by decide) rfl (Nat.le_of_ble_eq_true rfl) ⟨Nat.le_of_ble_eq_true rfl, Nat.le_of_ble_eq_true rfl⟩ ⟨rfl, rfl⟩ ?_
    refine A_topI (show nI 2 + nI 2 * S3.1 28 = nI (2 + 2 * V 1) by rw [hS3.cross, nI_mul, nI_add]) ?_
    first | refine A_icmp_geN (tgt := 50) d_M_ways_32 (by decide) (by with_reducible rfl) (by with_reducible rfl) (by omega) (by omega) (fun c_32 => ?_) (fun c_32 => ?_) | refine A_icmp_ge (tgt := 50) d_M_ways_32 (by decide) (fun c_32 => ?_) (fun c_32 => ?_)
    · exact absurd c_32 (by omega)
    · refine A_lload_n2 d_M_ways_35 ?_
      refine A_aload_n0 d_M_ways_36 ?_
      refine A_iload4 d_M_ways_37 ?_
      refine A_callV d_M_ways_39 (c_M_waysFrom hM hC hS3 rfl hN3 i hi) hM.o rfl q_1472 q_1474 qs_60 mk_M_waysFrom rfl (by decide) rfl (Nat.le_of_ble_eq_true rfl) ⟨Nat.le_of_ble_eq_true rfl, Nat.le_of_ble_eq_true rfl⟩ (fun v h1 hv => ?_)
      obtain ⟨rfl, S4, hM, sb⟩ := hv
      refine A_ladd d_M_ways_42 ?_
      refine A_lstore2 d_M_ways_43 trivial ?_
      first | refine A_iinc4 d_M_ways_44 (nI_1 _) trivial ?_ | refine A_iinc4 d_M_ways_44 rfl trivial ?_
      refine A_goto (tgt := 26) d_M_ways_47 (by decide) ?_
      refine A_loc ?_ (ih _ _ hM (sb.hs hS3) (sb.nd hN3) (hk3.tr (fun k _ => by rw [sb.2])))
      rw [sumN_succ, lN_add]
set_option maxHeartbeats 4000000 in
set_option maxRecDepth 100000 in
theorem c_M_ways {G : GE} {h0 h : AH} {m : Nat} {S : MS} (hM : MW h0 h m S) {c : Nat → Nat} {VL WT BK SG GM : Nat → Nat → Nat} (hp : MP S c VL WT BK SG GM) (la : Int32) : Ctr G y_M_ways b_M_ways 5 (some .long) r_M_ways [.ref m, .int la] h (TK h0 m S (.long (pickL (c 0) la (fun l => lN (waysN (VL l))) (-1)))) := by
  have hc0 := (hp.1 0 (by decide)).2
  refine Ctr.of (by decide +kernel) (by simp) (Nat.le_of_ble_eq_true rfl) (L0 := [some (.ref m), some (.int la), none, none, none]) rfl ?_
  refine A_aload_n0 d_M_ways_0 ?_
  refine A_iconst (v := nI 0) d_M_ways_1 (by decide) ?_
  refine A_putM hM (kf := 0) (ty := .int) d_M_ways_2 (by decide) q_1049 rfl (by decide +kernel) (by first | rfl | exact bI_nar _) rfl (Nat.le_of_ble_eq_true rfl) rfl (fun h hM => ?_)
  have hp := hp.keep (Keep.sf _ 0 (nI 0))
  refine A_aload_n0 d_M_ways_5 ?_
  refine A_iload_n1 d_M_ways_6 ?_
  refine A_callV d_M_ways_7 (c_M_hand hM (hp.1 0 (by decide)).1 (hp.1 0 (by decide)).2 hp.2.1 la) hM.o rfl q_1339 q_1341 qs_35 mk_M_hand rfl (by decide) rfl (Nat.le_of_ble_eq_true rfl) ⟨Nat.le_of_ble_eq_true rfl, Nat.le_of_ble_eq_true rfl⟩ (fun v h1 hv => ?_)
  rcases hv with ⟨l', rfl, hl, rfl, hM⟩ | ⟨q, rfl, rfl⟩
  · have hVl := hp.2.1 l' hl
    have hS := HS_hand hVl
    obtain ⟨b0, b1, b2, b3, b4, b5, bp, bb, bt⟩ := hVl.2.1
    refine A_if_neB (tgt := 17) d_M_ways_10 (by decide) (fun c_10 => ?_) (fun c => absurd c (by decide))
    refine A_aload_n0 d_M_ways_17 ?_
    refine A_callV d_M_ways_18 (c_M_layNeeds hM hS) hM.o rfl q_1464 q_1466 qs_58 mk_M_layNeeds rfl (by decide) rfl (Nat.le_of_ble_eq_true rfl) ⟨Nat.le_of_ble_eq_true rfl, Nat.le_of_ble_eq_true rfl⟩ (fun v h1 hv => ?_)
    obtain ⟨rfl, S3, hM, hN3, hf3, ha3⟩ := hv
    have hk3 : Keep S S3 := fun k hk => ha3 k (by omega)
    have hS3 := hS.keepF (S1 := S3) (fun k hk => ha3 k (by omega)) (fun j a b => hf3 j (by omega))
    refine A_lconst (v := 0) d_M_ways_21 (by decide) ?_
    refine A_lstore2 d_M_ways_22 trivial ?_
    refine A_iconst (v := nI 0) d_M_ways_23 (by decide) ?_
    refine A_istore4 d_M_ways_24 trivial ?_
    rw [pickL_in hl (by omega)]
    exact c_M_ways2 b1 0 (Nat.zero_le _) _ _ hM hS3 hN3 hk3
  · refine A_if_neB (tgt := 17) d_M_ways_10 (by decide) (fun c => absurd c (by decide)) (fun c_10 => ?_)
    refine A_ldc2 d_M_ways_13 q_1463 ?_
    refine A_lret d_M_ways_16 rfl ⟨Nat.zero_le _, Nat.zero_le _⟩ ?_
    exact tk hM (fun _ _ => rfl) (by rw [pickL_out q])
