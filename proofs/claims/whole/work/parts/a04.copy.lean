section TWC
variable {G : GE} {y : MethodName} {cc : ByteArray} {nL : Nat} {ret : Option FieldType} {R : Room} {mc ms : Nat} {K : Option Value → AH → Prop} {u n pc : Nat} {L : List (Option Value)} {st : List Value} {h0 h : AH} {t : Nat} {W : TD}
theorem A_twCpT {q0 index : Nat} {f : Nat → Int32} (d : decode cc pc = .ok (.invokestatic index, 3)) (w1 : (.methodLink y.cls index arraycopyName : Cond) ∈ lw_g) (w2 : (.native arraycopyName : Cond) ∈ lw_g) (w3 : (.static arraycopyName : Cond) ∈ lw_g) (w4 : (.initialized "java/lang/System" : Cond) ∈ lw_g) (hs : h q0 = some (.inl (0, 600, .inl f))) (M : TW h0 h t W) (hR : 1 ≤ R.frames) (hW : (st.map fun v => v.category).sum + (nativeFrameWords "java/lang/System" "arraycopy" 5 + 11) ≤ R.locals)
    (k : ∀ h1, TW h0 h1 t (W.1, fup W.2.1 0 (va_cpy f (W.2.1 0) 0 0 600), W.2.2) → WA G y cc nL ret R mc ms K u n (pc + 3) L st h1) : WA G y cc nL ret R mc ms K u n pc L (.int (nI 600) :: .int (nI 0) :: .ref (t + 1) :: .int (nI 0) :: .ref q0 :: st) h :=
  A_copyI d w1 w2 w3 w4 hs M.1.tape (by have := M.1.ge; omega) ⟨by decide, by decide, by decide, by decide⟩ hR hW (k _ ⟨M.1.ptape _, hset_far M.2 (by omega)⟩)
theorem A_twCpN {q0 index : Nat} {f : Nat → Int32} (d : decode cc pc = .ok (.invokestatic index, 3)) (w1 : (.methodLink y.cls index arraycopyName : Cond) ∈ lw_g) (w2 : (.native arraycopyName : Cond) ∈ lw_g) (w3 : (.static arraycopyName : Cond) ∈ lw_g) (w4 : (.initialized "java/lang/System" : Cond) ∈ lw_g) (hs : h q0 = some (.inl (0, 5, .inl f))) (M : TW h0 h t W) (hR : 1 ≤ R.frames) (hW : (st.map fun v => v.category).sum + (nativeFrameWords "java/lang/System" "arraycopy" 5 + 11) ≤ R.locals)
    (k : ∀ h1, TW h0 h1 t (W.1, fup W.2.1 1 (va_cpy f (W.2.1 1) 0 0 5), W.2.2) → WA G y cc nL ret R mc ms K u n (pc + 3) L st h1) : WA G y cc nL ret R mc ms K u n pc L (.int (nI 5) :: .int (nI 0) :: .ref (t + 2) :: .int (nI 0) :: .ref q0 :: st) h :=
  A_copyI d w1 w2 w3 w4 hs M.1.counts (by have := M.1.ge; omega) ⟨by decide, by decide, by decide, by decide⟩ hR hW (k _ ⟨M.1.pcnt _, hset_far M.2 (by omega)⟩)
theorem A_twCpR {q0 index : Nat} {f : Nat → Int32} (d : decode cc pc = .ok (.invokestatic index, 3)) (w1 : (.methodLink y.cls index arraycopyName : Cond) ∈ lw_g) (w2 : (.native arraycopyName : Cond) ∈ lw_g) (w3 : (.static arraycopyName : Cond) ∈ lw_g) (w4 : (.initialized "java/lang/System" : Cond) ∈ lw_g) {i : Nat} (hi : i < 2) (hs : h q0 = some (.inl (0, 24, .inl f))) (M : TW h0 h t W) (hR : 1 ≤ R.frames) (hW : (st.map fun v => v.category).sum + (nativeFrameWords "java/lang/System" "arraycopy" 5 + 11) ≤ R.locals)
    (k : ∀ h1, TW h0 h1 t (W.1, fup W.2.1 (2 + i) (va_cpy f (W.2.1 (2 + i)) 0 0 24), W.2.2) → WA G y cc nL ret R mc ms K u n (pc + 3) L st h1) : WA G y cc nL ret R mc ms K u n pc L (.int (nI 24) :: .int (nI 0) :: .ref (t + 5 + i) :: .int (nI 0) :: .ref q0 :: st) h :=
  A_copyI d w1 w2 w3 w4 hs (M.1.tr hi) (by have := M.1.ge; omega) ⟨by decide, by decide, by decide, by decide⟩ hR hW (k _ ⟨M.1.ptr hi _, hset_far M.2 (by omega)⟩)
theorem A_twCpG {q0 index : Nat} {f : Nat → Int32} (d : decode cc pc = .ok (.invokestatic index, 3)) (w1 : (.methodLink y.cls index arraycopyName : Cond) ∈ lw_g) (w2 : (.native arraycopyName : Cond) ∈ lw_g) (w3 : (.static arraycopyName : Cond) ∈ lw_g) (w4 : (.initialized "java/lang/System" : Cond) ∈ lw_g) {i : Nat} (hi : i < 2) (hs : h q0 = some (.inl (0, 8, .inl f))) (M : TW h0 h t W) (hR : 1 ≤ R.frames) (hW : (st.map fun v => v.category).sum + (nativeFrameWords "java/lang/System" "arraycopy" 5 + 11) ≤ R.locals)
    (k : ∀ h1, TW h0 h1 t (W.1, fup W.2.1 (4 + i) (va_cpy f (W.2.1 (4 + i)) 0 0 8), W.2.2) → WA G y cc nL ret R mc ms K u n (pc + 3) L st h1) : WA G y cc nL ret R mc ms K u n pc L (.int (nI 8) :: .int (nI 0) :: .ref (t + 10 + i) :: .int (nI 0) :: .ref q0 :: st) h :=
  A_copyI d w1 w2 w3 w4 hs (M.1.gm hi) (by have := M.1.ge; omega) ⟨by decide, by decide, by decide, by decide⟩ hR hW (k _ ⟨M.1.pgm hi _, hset_far M.2 (by omega)⟩)
end TWC
theorem TW.pl {h0 h h1 : AH} {t : Nat} {W : TD} (M : TW h0 h t W) {i : Nat} (hi : i < 2) {D : LD} (Q : Rg h h1 (t + 12 + 17 * i) (esL (t + 12 + 17 * i) D)) : TW h0 h1 t (W.1, W.2.1, fup W.2.2.1 i D, W.2.2.2) :=
  ⟨M.1.pl hi Q, fun j hj => (Q.far (m := 9) rfl (by omega)).trans (M.2 j hj)⟩
theorem TW.pb {h0 h h1 : AH} {t : Nat} {W : TD} (M : TW h0 h t W) {i : Nat} (hi : i < 2) {D : LD} (Q : Rg h h1 (t + 21 + 17 * i) (esB (t + 21 + 17 * i) D)) : TW h0 h1 t (W.1, W.2.1, W.2.2.1, fup W.2.2.2.1 i D, W.2.2.2.2) :=
  ⟨M.1.pb hi Q, fun j hj => (Q.far (m := 4) rfl (by omega)).trans (M.2 j hj)⟩
theorem TW.ps {h0 h h1 : AH} {t : Nat} {W : TD} (M : TW h0 h t W) {i : Nat} (hi : i < 2) {D : LD} (Q : Rg h h1 (t + 25 + 17 * i) (esS (t + 25 + 17 * i) D)) : TW h0 h1 t (W.1, W.2.1, W.2.2.1, W.2.2.2.1, fup W.2.2.2.2 i D) :=
  ⟨M.1.ps hi Q, fun j hj => (Q.far (m := 4) rfl (by omega)).trans (M.2 j hj)⟩
/-- copied: all but the lands, treaties, books, sights, games from i on -/
def CPd (i : Nat) (W E : TD) : Prop := (W.1 1 = E.1 1 ∧ W.1 2 = E.1 2 ∧ W.1 3 = E.1 3) ∧ (∀ j, j < 600 → W.2.1 0 j = E.2.1 0 j) ∧ (∀ j, j < 5 → W.2.1 1 j = E.2.1 1 j) ∧ ∀ k, k < i → esLq (W.2.2.1 k) (E.2.2.1 k) ∧ (∀ j, j < 24 → W.2.1 (2 + k) j = E.2.1 (2 + k) j) ∧ esBq (W.2.2.2.1 k) (E.2.2.2.1 k) ∧ esSq (W.2.2.2.2 k) (E.2.2.2.2 k) ∧ ∀ j, j < 8 → W.2.1 (4 + k) j = E.2.1 (4 + k) j
theorem CPd.step {W E : TD} {i : Nat} (hi : i < 2) (h : CPd i W E) {D B1 S1 : LD} (hD : esLq D (E.2.2.1 i)) (hB : esBq B1 (E.2.2.2.1 i)) (hS : esSq S1 (E.2.2.2.2 i)) (g1 g2 : Nat → Int32) (e1 : ∀ j, j < 24 → g1 j = E.2.1 (2 + i) j) (e2 : ∀ j, j < 8 → g2 j = E.2.1 (4 + i) j) :
    CPd (i + 1) (W.1, fup (fup W.2.1 (2 + i) g1) (4 + i) g2, fup W.2.2.1 i D, fup W.2.2.2.1 i B1, fup W.2.2.2.2 i S1) E := by
  obtain ⟨h1, h2, h3, h4⟩ := h
  refine ⟨h1, fun j hj => ?_, fun j hj => ?_, fun k hk => ?_⟩
  · show fup (fup W.2.1 (2 + i) g1) (4 + i) g2 0 j = _
    rw [fup_ne _ _ (by omega), fup_ne _ _ (by omega)]
    exact h2 j hj
  · show fup (fup W.2.1 (2 + i) g1) (4 + i) g2 1 j = _
    rw [fup_ne _ _ (by omega), fup_ne _ _ (by omega)]
    exact h3 j hj
  · show esLq (fup W.2.2.1 i D k) _ ∧ (∀ j, j < 24 → fup (fup W.2.1 (2 + i) g1) (4 + i) g2 (2 + k) j = _) ∧ esBq (fup W.2.2.2.1 i B1 k) _ ∧ esSq (fup W.2.2.2.2 i S1 k) _ ∧ ∀ j, j < 8 → fup (fup W.2.1 (2 + i) g1) (4 + i) g2 (4 + k) j = _
    by_cases z : k = i
    · subst z
      rw [fup_eq, fup_eq, fup_eq, fup_eq, fup_ne _ _ (by omega), fup_eq]
      exact ⟨hD, e1, hB, hS, e2⟩
    · have hk2 : k < i := by omega
      rw [fup_ne _ _ z, fup_ne _ _ z, fup_ne _ _ z, fup_ne _ _ (by omega), fup_ne _ _ (by omega), fup_ne _ _ (by omega), fup_ne _ _ (by omega)]
      exact h4 k hk2
set_option maxHeartbeats 4000000 in
set_option maxRecDepth 100000 in
theorem c_Td_copyFrom {G : GE} {h : AH} {t b : Nat} {W E : TD} (hA : TdAt h t W) (hE : TdAt h b E) (htb : t + 46 ≤ b ∨ b + 46 ≤ t) (hZ : ∀ i, i < 2 → ∃ z13 z14, (E.2.2.1 i).1 13 = bI z13 ∧ (E.2.2.1 i).1 14 = bI z14)  : Ctr G y_Td_copyFrom b_Td_copyFrom 3 none r_Td_copyFrom [.ref t, .ref b] h (fun v h1 => v = none ∧ ∃ W1, TW h h1 t W1 ∧ CPd 2 W1 E) := by
  refine Ctr.of (by decide +kernel) (by simp) (Nat.le_of_ble_eq_true rfl) (L0 := [some (.ref t), some (.ref b), none]) rfl ?_
  have key : ∀ i, i ≤ 2 → ∀ h' W1, TW h h' t W1 → CPd i W1 E → WA G y_Td_copyFrom b_Td_copyFrom 3 none r_Td_copyFrom 0 0 (fun v h1 => v = none ∧ ∃ W1, TW h h1 t W1 ∧ CPd 2 W1 E) 0 0 56 [some (.ref t), some (.ref b), some (.int (nI i))] [] h' := by
    refine down ?_ (fun i hi ih => ?_)
    · intro h' W1 M hC
      refine A_iload_n2 d_Td_copyFrom_56 ?_
      refine A_iconst (v := nI 2) d_Td_copyFrom_57 (by decide) ?_
      first | refine A_icmp_geN (tgt := 150) d_Td_copyFrom_58 (by decide) (by with_reducible rfl) (by with_reducible rfl) (by omega) (by omega) (fun c_58 => ?_) (fun c_58 => ?_) | refine A_icmp_ge (tgt := 150) d_Td_copyFrom_58 (by decide) (fun c_58 => ?_) (fun c_58 => ?_)
      · refine A_vret d_Td_copyFrom_150 rfl ⟨Nat.zero_le _, Nat.zero_le _⟩ ?_
        exact ⟨rfl, W1, M, hC⟩
      · exact absurd c_58 (by omega)
    · intro h' W1 M hC
      refine A_iload_n2 d_Td_copyFrom_56 ?_
      refine A_iconst (v := nI 2) d_Td_copyFrom_57 (by decide) ?_
      first | refine A_icmp_geN (tgt := 150) d_Td_copyFrom_58 (by decide) (by with_reducible rfl) (by with_reducible rfl) (by omega) (by omega) (fun c_58 => ?_) (fun c_58 => ?_) | refine A_icmp_ge (tgt := 150) d_Td_copyFrom_58 (by decide) (fun c_58 => ?_) (fun c_58 => ?_)
      · exact absurd c_58 (by omega)
      · refine A_aload_n0 d_Td_copyFrom_61 ?_
        refine A_getf (kf := 5) d_Td_copyFrom_62 M.1.o ok_6 (by decide) q_202 rfl ?_
        refine A_iload_n2 d_Td_copyFrom_65 ?_
        refine A_aaldN d_Td_copyFrom_66 M.1.lands rfl rfl ⟨by omega, by decide⟩ (show va_rf (two (t + 12) (t + 29) i) = .ref (t + 12 + 17 * i) by rw [two_at rfl (by omega)]; rfl) ?_
        refine A_aload_n1 d_Td_copyFrom_67 ?_
        refine A_getf (kf := 5) d_Td_copyFrom_68 ((M.2 _ (by omega)).trans hE.o) ok_6 (by decide) q_202 rfl ?_
        refine A_iload_n2 d_Td_copyFrom_71 ?_
        refine A_aaldN d_Td_copyFrom_72 (hE.kept (fun j _ _ => M.2 j (by omega))).lands rfl rfl ⟨by omega, by decide⟩ (show va_rf (two (b + 12) (b + 29) i) = .ref (b + 12 + 17 * i) by rw [two_at rfl (by omega)]; rfl) ?_
        refine A_callV d_Td_copyFrom_73 (c_Ld_copyFrom (M.1.l i hi) ((hE.kept (fun j _ _ => M.2 j (by omega))).l i hi) (hZ i hi).choose_spec.choose_spec.1 (hZ i hi).choose_spec.choose_spec.2 (by omega)) (M.1.l i hi).o rfl q_633 q_598 q_599 mk_Ld_copyFrom rfl (by decide) rfl (Nat.le_of_ble_eq_true rfl) ⟨Nat.le_of_ble_eq_true rfl, Nat.le_of_ble_eq_true rfl⟩ ?_
        rintro _ h' ⟨rfl, F1, hQ, hF1⟩
        replace M := M.pl hi hQ
        clear hQ
        refine A_aload_n1 d_Td_copyFrom_76 ?_
        refine A_getf (kf := 6) d_Td_copyFrom_77 ((M.2 _ (by omega)).trans hE.o) ok_6 (by decide) q_204 rfl ?_
        refine A_iload_n2 d_Td_copyFrom_80 ?_
        refine A_aaldN d_Td_copyFrom_81 (hE.kept (fun j _ _ => M.2 j (by omega))).treaties rfl rfl ⟨by omega, by decide⟩ (show va_rf (if i < 2 then some (b + 5 + i) else none) = .ref (b + 5 + i) by rw [if_pos (by omega)]; rfl) ?_
        refine A_iconst (v := nI 0) d_Td_copyFrom_82 (by decide) ?_
        refine A_aload_n0 d_Td_copyFrom_83 ?_
        refine A_getf (kf := 6) d_Td_copyFrom_84 M.1.o ok_6 (by decide) q_204 rfl ?_
        refine A_iload_n2 d_Td_copyFrom_87 ?_
        refine A_aaldN d_Td_copyFrom_88 M.1.treaties rfl rfl ⟨by omega, by decide⟩ (show va_rf (if i < 2 then some (t + 5 + i) else none) = .ref (t + 5 + i) by rw [if_pos (by omega)]; rfl) ?_
        refine A_iconst (v := nI 0) d_Td_copyFrom_89 (by decide) ?_
        refine A_bipush (v := nI 24) d_Td_copyFrom_90 (by decide) ?_
        refine A_twCpR d_Td_copyFrom_92 q_632 q_603 q_602 q_16 hi ((hE.kept (fun j _ _ => M.2 j (by omega))).tr hi) M (Nat.le_of_ble_eq_true rfl) (by decide +kernel) (fun h' M' => ?_)
        replace M := M'
        clear M'
        refine A_aload_n0 d_Td_copyFrom_95 ?_
        refine A_getf (kf := 7) d_Td_copyFrom_96 M.1.o ok_6 (by decide) q_206 rfl ?_
        refine A_iload_n2 d_Td_copyFrom_99 ?_
        refine A_aaldN d_Td_copyFrom_100 M.1.books rfl rfl ⟨by omega, by decide⟩ (show va_rf (two (t + 21) (t + 38) i) = .ref (t + 21 + 17 * i) by rw [two_at rfl (by omega)]; rfl) ?_
        refine A_aload_n1 d_Td_copyFrom_101 ?_
        refine A_getf (kf := 7) d_Td_copyFrom_102 ((M.2 _ (by omega)).trans hE.o) ok_6 (by decide) q_206 rfl ?_
        refine A_iload_n2 d_Td_copyFrom_105 ?_
        refine A_aaldN d_Td_copyFrom_106 (hE.kept (fun j _ _ => M.2 j (by omega))).books rfl rfl ⟨by omega, by decide⟩ (show va_rf (two (b + 21) (b + 38) i) = .ref (b + 21 + 17 * i) by rw [two_at rfl (by omega)]; rfl) ?_
        refine A_callV d_Td_copyFrom_107 (c_Bk_copyFrom (M.1.b i hi) ((hE.kept (fun j _ _ => M.2 j (by omega))).b i hi) (by omega)) (M.1.b i hi).o rfl q_634 q_606 q_607 mk_Bk_copyFrom rfl (by decide) rfl (Nat.le_of_ble_eq_true rfl) ⟨Nat.le_of_ble_eq_true rfl, Nat.le_of_ble_eq_true rfl⟩ ?_
        rintro _ h' ⟨rfl, F2, hQ, hF2⟩
        replace M := M.pb hi hQ
        clear hQ
        refine A_aload_n0 d_Td_copyFrom_110 ?_
        refine A_getf (kf := 8) d_Td_copyFrom_111 M.1.o ok_6 (by decide) q_208 rfl ?_
        refine A_iload_n2 d_Td_copyFrom_114 ?_
        refine A_aaldN d_Td_copyFrom_115 M.1.sights rfl rfl ⟨by omega, by decide⟩ (show va_rf (two (t + 25) (t + 42) i) = .ref (t + 25 + 17 * i) by rw [two_at rfl (by omega)]; rfl) ?_
        refine A_aload_n1 d_Td_copyFrom_116 ?_
        refine A_getf (kf := 8) d_Td_copyFrom_117 ((M.2 _ (by omega)).trans hE.o) ok_6 (by decide) q_208 rfl ?_
        refine A_iload_n2 d_Td_copyFrom_120 ?_
        refine A_aaldN d_Td_copyFrom_121 (hE.kept (fun j _ _ => M.2 j (by omega))).sights rfl rfl ⟨by omega, by decide⟩ (show va_rf (two (b + 25) (b + 42) i) = .ref (b + 25 + 17 * i) by rw [two_at rfl (by omega)]; rfl) ?_
        refine A_callV d_Td_copyFrom_122 (c_Si_copyFrom (M.1.s i hi) ((hE.kept (fun j _ _ => M.2 j (by omega))).s i hi) (by omega)) (M.1.s i hi).o rfl q_635 q_611 q_612 mk_Si_copyFrom rfl (by decide) rfl (Nat.le_of_ble_eq_true rfl) ⟨Nat.le_of_ble_eq_true rfl, Nat.le_of_ble_eq_true rfl⟩ ?_
        rintro _ h' ⟨rfl, F3, hQ, hF3⟩
        replace M := M.ps hi hQ
        clear hQ
        refine A_aload_n1 d_Td_copyFrom_125 ?_
        refine A_getf (kf := 9) d_Td_copyFrom_126 ((M.2 _ (by omega)).trans hE.o) ok_6 (by decide) q_210 rfl ?_
        refine A_iload_n2 d_Td_copyFrom_129 ?_
        refine A_aaldN d_Td_copyFrom_130 (hE.kept (fun j _ _ => M.2 j (by omega))).games rfl rfl ⟨by omega, by decide⟩ (show va_rf (if i < 2 then some (b + 10 + i) else none) = .ref (b + 10 + i) by rw [if_pos (by omega)]; rfl) ?_
        refine A_iconst (v := nI 0) d_Td_copyFrom_131 (by decide) ?_
        refine A_aload_n0 d_Td_copyFrom_132 ?_
        refine A_getf (kf := 9) d_Td_copyFrom_133 M.1.o ok_6 (by decide) q_210 rfl ?_
        refine A_iload_n2 d_Td_copyFrom_136 ?_
        refine A_aaldN d_Td_copyFrom_137 M.1.games rfl rfl ⟨by omega, by decide⟩ (show va_rf (if i < 2 then some (t + 10 + i) else none) = .ref (t + 10 + i) by rw [if_pos (by omega)]; rfl) ?_
        refine A_iconst (v := nI 0) d_Td_copyFrom_138 (by decide) ?_
        refine A_bipush (v := nI 8) d_Td_copyFrom_139 (by decide) ?_
        refine A_twCpG d_Td_copyFrom_141 q_632 q_603 q_602 q_16 hi ((hE.kept (fun j _ _ => M.2 j (by omega))).gm hi) M (Nat.le_of_ble_eq_true rfl) (by decide +kernel) (fun h' M' => ?_)
        replace M := M'
        clear M'
        first | refine A_iinc2 d_Td_copyFrom_144 (nI_1 _) trivial ?_ | refine A_iinc2 d_Td_copyFrom_144 rfl trivial ?_
        refine A_goto (tgt := 56) d_Td_copyFrom_147 (by decide) ?_
        exact ih _ _ M (CPd.step hi hC hF1 hF2 hF3 _ _ (fun j hj => va_cpy0 _ _ hj) (fun j hj => va_cpy0 _ _ hj))
  have M := TW.start hA
  refine A_aload_n1 d_Td_copyFrom_0 ?_
  refine A_getf (kf := 0) d_Td_copyFrom_1 ((M.2 _ (by omega)).trans hE.o) ok_6 (by decide) q_192 rfl ?_
  refine A_iconst (v := nI 0) d_Td_copyFrom_4 (by decide) ?_
  refine A_aload_n0 d_Td_copyFrom_5 ?_
  refine A_getf (kf := 0) d_Td_copyFrom_6 M.1.o ok_6 (by decide) q_192 rfl ?_
  refine A_iconst (v := nI 0) d_Td_copyFrom_9 (by decide) ?_
  refine A_sipush (v := nI 600) d_Td_copyFrom_10 (by decide) ?_
  refine A_twCpT d_Td_copyFrom_13 q_632 q_603 q_602 q_16 (hE.kept (fun j _ _ => M.2 j (by omega))).tape M (Nat.le_of_ble_eq_true rfl) (by decide +kernel) (fun h' M' => ?_)
  replace M := M'
  clear M'
  refine A_aload_n0 d_Td_copyFrom_16 ?_
  refine A_aload_n1 d_Td_copyFrom_17 ?_
  refine A_getf (kf := 1) d_Td_copyFrom_18 ((M.2 _ (by omega)).trans hE.o) ok_6 (by decide) q_195 rfl ?_
  refine A_twInt (kf := 1) d_Td_copyFrom_21 (by decide) q_195 (Or.inl rfl) (by decide +kernel) M rfl (fun h' M' => ?_)
  replace M := M'
  clear M'
  refine A_aload_n0 d_Td_copyFrom_24 ?_
  refine A_aload_n1 d_Td_copyFrom_25 ?_
  refine A_getf (kf := 2) d_Td_copyFrom_26 ((M.2 _ (by omega)).trans hE.o) ok_6 (by decide) q_196 rfl ?_
  refine A_twInt (kf := 2) d_Td_copyFrom_29 (by decide) q_196 (Or.inl rfl) (by decide +kernel) M rfl (fun h' M' => ?_)
  replace M := M'
  clear M'
  refine A_aload_n0 d_Td_copyFrom_32 ?_
  refine A_aload_n1 d_Td_copyFrom_33 ?_
  refine A_getf (kf := 3) d_Td_copyFrom_34 ((M.2 _ (by omega)).trans hE.o) ok_6 (by decide) q_198 rfl ?_
  refine A_twInt (kf := 3) d_Td_copyFrom_37 (by decide) q_198 (Or.inl rfl) (by decide +kernel) M rfl (fun h' M' => ?_)
  replace M := M'
  clear M'
  refine A_aload_n1 d_Td_copyFrom_40 ?_
  refine A_getf (kf := 4) d_Td_copyFrom_41 ((M.2 _ (by omega)).trans hE.o) ok_6 (by decide) q_200 rfl ?_
  refine A_iconst (v := nI 0) d_Td_copyFrom_44 (by decide) ?_
  refine A_aload_n0 d_Td_copyFrom_45 ?_
  refine A_getf (kf := 4) d_Td_copyFrom_46 M.1.o ok_6 (by decide) q_200 rfl ?_
  refine A_iconst (v := nI 0) d_Td_copyFrom_49 (by decide) ?_
  refine A_iconst (v := nI 5) d_Td_copyFrom_50 (by decide) ?_
  refine A_twCpN d_Td_copyFrom_51 q_632 q_603 q_602 q_16 (hE.kept (fun j _ _ => M.2 j (by omega))).counts M (Nat.le_of_ble_eq_true rfl) (by decide +kernel) (fun h' M' => ?_)
  replace M := M'
  clear M'
  refine A_iconst (v := nI 0) d_Td_copyFrom_54 (by decide) ?_
  refine A_istore2 d_Td_copyFrom_55 trivial ?_
  exact key 0 (Nat.zero_le _) _ _ M ⟨⟨rfl, rfl, rfl⟩, fun j hj => va_cpy0 _ _ hj, fun j hj => va_cpy0 _ _ hj, fun k hk => absurd hk (Nat.not_lt_zero k)⟩
