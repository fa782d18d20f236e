set_option maxHeartbeats 4000000 in
set_option maxRecDepth 100000 in
theorem c_To_step {G : GE} {h : AH} {z tp : Nat} {E : Nat → Int32} (hz : 1000 ≤ z) (hoz : h z = some (.inr (5, tkfs tp E))) {B : Nat → Nat} (hB : TPB h tp B) (hzt : tp ≠ z) {n : Nat} (hn : n ≤ 600) (hE1 : E 1 = nI n) {e0 : Nat} (he0 : e0 ≤ n) (hE3 : E 3 = nI e0)  : Ctr G y_To_step b_To_step 1 none r_To_step [.ref z] h (fun v h1 => v = none ∧ ∃ E1, TKW h h1 z tp E1 ∧ TKn B n (skN B n e0) E1) := by
  refine Ctr.of (by decide +kernel) (by simp) (Nat.le_of_ble_eq_true rfl) (L0 := [some (.ref z)]) rfl ?_
  have hB0 := hB
  obtain ⟨⟨f, hf, hfB⟩, hB2⟩ := hB
  have M := TKW.start hz hoz
  have key : ∀ i, i ≤ n → e0 ≤ i → ∀ h' E1, TKW h h' z tp E1 → (∀ j, j ≠ 3 → E1 j = E j) → E1 3 = nI i → skN B n i = skN B n e0 → WA G y_To_step b_To_step 1 none r_To_step 0 0 (fun v h1 => v = none ∧ ∃ E1, TKW h h1 z tp E1 ∧ TKn B n (skN B n e0) E1) 0 0 0 [some (.ref z)] [] h' := by
    refine down ?_ (fun i hi ih => ?_)
    · intro hei h' E1 M hEj hE3' hsk
      refine A_aload_n0 d_To_step_0 ?_
      refine A_getf (kf := 3) d_To_step_1 M.o ok_5 (by decide) q_250 rfl ?_
      refine A_topI hE3' ?_
      refine A_aload_n0 d_To_step_4 ?_
      refine A_getf (kf := 1) d_To_step_5 M.o ok_5 (by decide) q_247 rfl ?_
      refine A_topI ((hEj 1 (by decide)).trans hE1) ?_
      first | refine A_icmp_geN (tgt := 52) d_To_step_8 (by decide) (by with_reducible rfl) (by with_reducible rfl) (by omega) (by omega) (fun c_8 => ?_) (fun c_8 => ?_) | refine A_icmp_ge (tgt := 52) d_To_step_8 (by decide) (fun c_8 => ?_) (fun c_8 => ?_)
      · rw [sk_e] at hsk
        rw [← hsk]
        exact w_To_step M hB0 hzt hn ((hEj 1 (by decide)).trans hE1) hE3' (Nat.le_refl _)
      · exact absurd c_8 (by omega)
    · intro hei h' E1 M hEj hE3' hsk
      refine A_aload_n0 d_To_step_0 ?_
      refine A_getf (kf := 3) d_To_step_1 M.o ok_5 (by decide) q_250 rfl ?_
      refine A_topI hE3' ?_
      refine A_aload_n0 d_To_step_4 ?_
      refine A_getf (kf := 1) d_To_step_5 M.o ok_5 (by decide) q_247 rfl ?_
      refine A_topI ((hEj 1 (by decide)).trans hE1) ?_
      first | refine A_icmp_geN (tgt := 52) d_To_step_8 (by decide) (by with_reducible rfl) (by with_reducible rfl) (by omega) (by omega) (fun c_8 => ?_) (fun c_8 => ?_) | refine A_icmp_ge (tgt := 52) d_To_step_8 (by decide) (fun c_8 => ?_) (fun c_8 => ?_)
      · first
          | (exfalso; omega)
          | (rw [sk_s hi, show blkB (B i) = false by unfold blkB; rw [decide_eq_false c_22, decide_eq_false c_36]; rfl, if_neg (by decide)] at hsk
             rw [← hsk]
             exact w_To_step M hB0 hzt hn ((hEj 1 (by decide)).trans hE1) hE3' (Nat.le_of_lt hi))
      · refine A_aload_n0 d_To_step_11 ?_
        refine A_getf (kf := 0) d_To_step_12 M.o ok_5 (by decide) q_246 rfl ?_
        refine A_aload_n0 d_To_step_15 ?_
        refine A_getf (kf := 3) d_To_step_16 M.o ok_5 (by decide) q_250 rfl ?_
        refine A_topI hE3' ?_
        refine A_ialdN d_To_step_19 ((M.2.2 _ hzt).trans hf) ⟨by omega, by decide⟩ ?_
        refine A_topI (hfB i (by omega)) ?_
        have hb := hB2 i
        refine A_bipush (v := nI 10) d_To_step_20 (by decide) ?_
        first | refine A_icmp_eqN (tgt := 39) d_To_step_22 (by decide) (by with_reducible rfl) (by with_reducible rfl) (by omega) (by omega) (fun c_22 => ?_) (fun c_22 => ?_) | refine A_icmp_eq (tgt := 39) d_To_step_22 (by decide) (fun c_22 => ?_) (fun c_22 => ?_)
        · refine A_aload_n0 d_To_step_39 ?_
          first | refine A_dupR d_To_step_40 ?_ | refine A_dupI d_To_step_40 ?_
          refine A_getf (kf := 3) d_To_step_41 M.o ok_5 (by decide) q_250 rfl ?_
          refine A_topI hE3' ?_
          refine A_iconst (v := nI 1) d_To_step_44 (by decide) ?_
          first | refine A_iaddN d_To_step_45 (by with_reducible rfl) (by with_reducible rfl) ?_ | refine A_iadd d_To_step_45 ?_
          refine A_tkInt (kf := 3) d_To_step_46 (by decide) q_250 (Or.inl rfl) (by decide +kernel) M rfl (fun h' M' => ?_)
          replace M := M'
          clear M'
          refine A_goto (tgt := 0) d_To_step_49 (by decide) ?_
          have hbk : blkB (B i) = true := by
            unfold blkB
            first
              | (rw [decide_eq_true c_22]; rfl)
              | (rw [decide_eq_true c_36, Bool.or_true])
          rw [sk_s hi, hbk, if_pos rfl] at hsk
          exact ih (by omega) _ _ M (fun j hj => (fup_get hj).trans (hEj j hj)) (fup_eq _ _ _) hsk
        · refine A_aload_n0 d_To_step_25 ?_
          refine A_getf (kf := 0) d_To_step_26 M.o ok_5 (by decide) q_246 rfl ?_
          refine A_aload_n0 d_To_step_29 ?_
          refine A_getf (kf := 3) d_To_step_30 M.o ok_5 (by decide) q_250 rfl ?_
          refine A_topI hE3' ?_
          refine A_ialdN d_To_step_33 ((M.2.2 _ hzt).trans hf) ⟨by omega, by decide⟩ ?_
          refine A_topI (hfB i (by omega)) ?_
          have hb := hB2 i
          refine A_bipush (v := nI 32) d_To_step_34 (by decide) ?_
          first | refine A_icmp_neN (tgt := 52) d_To_step_36 (by decide) (by with_reducible rfl) (by with_reducible rfl) (by omega) (by omega) (fun c_36 => ?_) (fun c_36 => ?_) | refine A_icmp_ne (tgt := 52) d_To_step_36 (by decide) (fun c_36 => ?_) (fun c_36 => ?_)
          · first
              | (exfalso; omega)
              | (rw [sk_s hi, show blkB (B i) = false by unfold blkB; rw [decide_eq_false c_22, decide_eq_false c_36]; rfl, if_neg (by decide)] at hsk
                 rw [← hsk]
                 exact w_To_step M hB0 hzt hn ((hEj 1 (by decide)).trans hE1) hE3' (Nat.le_of_lt hi))
          · refine A_aload_n0 d_To_step_39 ?_
            first | refine A_dupR d_To_step_40 ?_ | refine A_dupI d_To_step_40 ?_
            refine A_getf (kf := 3) d_To_step_41 M.o ok_5 (by decide) q_250 rfl ?_
            refine A_topI hE3' ?_
            refine A_iconst (v := nI 1) d_To_step_44 (by decide) ?_
            first | refine A_iaddN d_To_step_45 (by with_reducible rfl) (by with_reducible rfl) ?_ | refine A_iadd d_To_step_45 ?_
            refine A_tkInt (kf := 3) d_To_step_46 (by decide) q_250 (Or.inl rfl) (by decide +kernel) M rfl (fun h' M' => ?_)
            replace M := M'
            clear M'
            refine A_goto (tgt := 0) d_To_step_49 (by decide) ?_
            have hbk : blkB (B i) = true := by
              unfold blkB
              first
                | (rw [decide_eq_true c_22]; rfl)
                | (rw [decide_eq_true c_36, Bool.or_true])
            rw [sk_s hi, hbk, if_pos rfl] at hsk
            exact ih (by omega) _ _ M (fun j hj => (fup_get hj).trans (hEj j hj)) (fup_eq _ _ _) hsk
  exact key e0 he0 (Nat.le_refl _) _ _ M (fun _ _ => rfl) hE3 rfl
theorem A_tkTape {G : GE} {y : MethodName} {cc : ByteArray} {nL : Nat} {ret : Option FieldType} {R : Room} {mc ms : Nat} {K : Option Value → AH → Prop} {u n pc : Nat} {L : List (Option Value)} {st : List Value} {h0 h : AH} {z tp tp1 : Nat} {E : Nat → Int32} {index : Nat} (d : decode cc pc = .ok (.putfield index, 3)) (hw : (.fieldLink y.cls index (TX5 0).1 (TX5 0).2.1 (TX5 0).2.2.1 : Cond) ∈ lw_g) (M : TKW h0 h z tp E)
    (k : ∀ h1, TKW h0 h1 z tp1 E → WA G y cc nL ret R mc ms K u n (pc + 3) L st h1) : WA G y cc nL ret R mc ms K u n pc L (.ref tp1 :: .ref z :: st) h :=
  A_put (kf := 0) (ty := .array .int) d M.o ok_5 (by decide) hw (Or.inl rfl) (by decide +kernel) rfl rfl (by show 0 < 6; decide) M.1 (k _ ⟨M.1, hset_eq _ _ _, fun i hi => (hset_ne hi).trans (M.2.2 i hi)⟩)
set_option maxHeartbeats 4000000 in
set_option maxRecDepth 100000 in
theorem c_To_begin {G : GE} {h : AH} {z tp0 tp : Nat} {E : Nat → Int32} (hz : 1000 ≤ z) (hoz : h z = some (.inr (5, tkfs tp0 E))) {B : Nat → Nat} (hB : TPB h tp B) (hzt : tp ≠ z) {n : Nat} (hn : n ≤ 600)  : Ctr G y_To_begin b_To_begin 3 none r_To_begin [.ref z, .ref tp, .int (nI n)] h (fun v h1 => v = none ∧ ∃ E1, TKW h h1 z tp E1 ∧ TKn B n (skN B n 0) E1) := by
  refine Ctr.of (by decide +kernel) (by simp) (Nat.le_of_ble_eq_true rfl) (L0 := [some (.ref z), some (.ref tp), some (.int (nI n))]) rfl ?_
  obtain ⟨⟨f, hf, hfB⟩, hB2⟩ := hB
  have M := TKW.start hz hoz
  refine A_aload_n0 d_To_begin_0 ?_
  refine A_aload_n1 d_To_begin_1 ?_
  refine A_tkTape d_To_begin_2 q_246 M (fun h' M' => ?_)
  replace M := M'
  clear M'
  refine A_aload_n0 d_To_begin_5 ?_
  refine A_iload_n2 d_To_begin_6 ?_
  refine A_aload_n1 d_To_begin_7 ?_
  refine A_alen (w := 0) d_To_begin_8 ((M.2.2 _ hzt).trans hf) rfl ?_
  refine A_callSP d_To_begin_9 (c_JM_min _ _ _) q_437 q_438 mk_JM_min rfl (by decide) rfl (Nat.le_of_ble_eq_true rfl) ⟨Nat.le_of_ble_eq_true rfl, Nat.le_of_ble_eq_true rfl⟩ ⟨rfl, rfl⟩ ?_
  refine A_topI ((nI_minJ (a := n) (b := 600) (by omega) (by decide)).trans (congrArg nI (show min n 600 = n by omega))) ?_
  refine A_tkInt (kf := 1) d_To_begin_12 (by decide) q_247 (Or.inl rfl) (by decide +kernel) M rfl (fun h' M' => ?_)
  replace M := M'
  clear M'
  refine A_aload_n0 d_To_begin_15 ?_
  refine A_iconst (v := nI 0) d_To_begin_16 (by decide) ?_
  refine A_tkInt (kf := 3) d_To_begin_17 (by decide) q_250 (Or.inl rfl) (by decide +kernel) M rfl (fun h' M' => ?_)
  replace M := M'
  clear M'
  refine A_aload_n0 d_To_begin_20 ?_
  refine A_callV d_To_begin_21 (c_To_step M.1 M.o ⟨⟨f, (M.2.2 _ hzt).trans hf, hfB⟩, hB2⟩ hzt hn ((fup_get (by decide)).trans (fup_eq _ _ _)) (e0 := 0) (Nat.zero_le _) (fup_eq _ _ _)) M.o rfl q_440 q_441 q_442 mk_To_step rfl (by decide) rfl (Nat.le_of_ble_eq_true rfl) ⟨Nat.le_of_ble_eq_true rfl, Nat.le_of_ble_eq_true rfl⟩ ?_
  rintro _ h5 ⟨rfl, E5, M5, hT5⟩
  refine A_vret d_To_begin_24 rfl ⟨Nat.zero_le _, Nat.zero_le _⟩ ?_
  exact ⟨rfl, E5, M.trans M5, hT5⟩
theorem eN_ge (B : Nat → Nat) (n q : Nat) : q ≤ eN B n q := by
  unfold eN
  by_cases h : n ≤ q
  · rw [if_pos h]; exact Nat.le_refl _
  · rw [if_neg h]
    have h1 := rn_bd (lo := 97) (hi := 122) (B := B) (n := n) (n - q) q (by omega)
    have h2 := rn_bd (lo := 48) (hi := 57) (B := B) (n := n) (n - q) q (by omega)
    split
    · exact h1.1
    · split
      · exact h2.1
      · omega
theorem eN_le (B : Nat → Nat) {n q : Nat} (hq : q ≤ n) : eN B n q ≤ n := by
  unfold eN
  by_cases h : n ≤ q
  · rw [if_pos h]; exact hq
  · rw [if_neg h]
    have h1 := rn_bd (lo := 97) (hi := 122) (B := B) (n := n) (n - q) q (by omega)
    have h2 := rn_bd (lo := 48) (hi := 57) (B := B) (n := n) (n - q) q (by omega)
    split
    · exact h1.2
    · split
      · exact h2.2
      · omega
theorem kcN_1 (k : Nat) : kcN k = 1 ↔ k = 2 := by
  unfold kcN
  split
  · omega
  · split <;> omega
theorem isW_fu (B : Nat → Nat) (n q : Nat) (l : List Nat) (h1 : kN B n q = 2) (h2 : eN B n q - q = l.length) : isW B n q l = firstU (fun k => !decide (B (q + k) = l.getD k 0)) (fun _ => false) true l.length 0 := by
  apply Bool.eq_iff_iff.mpr
  rw [firstU_iff]
  unfold isW
  rw [decide_eq_true h1, decide_eq_true h2, Bool.true_and, Bool.true_and, List.all_eq_true]
  constructor
  · intro h
    refine ⟨rfl, fun k hk => ?_⟩
    have := h k (List.mem_range.mpr hk)
    rw [decide_eq_true (by simpa using this)]
    rfl
  · intro h k hk
    have := h.2 k (List.mem_range.mp hk)
    simpa using this
set_option maxHeartbeats 4000000 in
set_option maxRecDepth 100000 in
theorem c_To_isWord {G : GE} {h : AH} {z tp : Nat} {E : Nat → Int32} (hz : 1000 ≤ z) (hoz : h z = some (.inr (5, tkfs tp E))) {B : Nat → Nat} (hB : TPB h tp B) (hzt : tp ≠ z) {n : Nat} (hn : n ≤ 600) (hOl : OLD h) {q : Nat} (hT : TKn B n q E) {i : Nat} (hi : i < 14)  : Ctr G y_To_isWord b_To_isWord 3 (some .boolean) r_To_isWord [.ref z, .ref (10 + i)] h (Pu (.int (bI (isW B n q (WDl.getD i [])))) h) := by
  refine Ctr.of (by decide +kernel) (by simp) (Nat.le_of_ble_eq_true rfl) (L0 := [some (.ref z), some (.ref (10 + i)), none]) rfl ?_
  obtain ⟨⟨f, hf, hfB⟩, hB2⟩ := hB
  have M := TKW.start hz hoz
  obtain ⟨hwl, hwj⟩ := wd_len i hi
  have hl6 := wl_6 i hi
  obtain ⟨hq1, hq2, hq3, hq4, hq5, hqn⟩ := hT
  have hge := eN_ge B n q
  have hle := eN_le B (n := n) (q := q) hqn
  have hk4 := kN_le B n q
  have hk1 := kcN_1 (kN B n q)
  have hkc : kcN (kN B n q) ≤ 4 := by
    unfold kcN
    split
    · omega
    · split <;> omega
  by_cases hgo : kN B n q = 2 ∧ eN B n q - q = (WDl.getD i []).length
  · rw [isW_fu B n q _ hgo.1 hgo.2]
    have key : ∀ j, j ≤ (WDl.getD i []).length → WA G y_To_isWord b_To_isWord 3 (some .boolean) r_To_isWord 0 0 (Pu (.int (bI (firstU (fun k => !decide (B (q + k) = (WDl.getD i []).getD k 0)) (fun _ => false) true (WDl.getD i []).length j))) h) 0 0 28 [some (.ref z), some (.ref (10 + i)), some (.int (nI j))] [] h := by
      refine down ?_ (fun j hj ih => ?_)
      · refine A_iload_n2 d_To_isWord_28 ?_
        refine A_aload_n1 d_To_isWord_29 ?_
        refine A_callVSP d_To_isWord_30 (c_JS_length hOl hi) hi rfl q_473 q_474 q_475 mk_JS_length rfl (by decide) rfl (Nat.le_of_ble_eq_true rfl) ⟨Nat.le_of_ble_eq_true rfl, Nat.le_of_ble_eq_true rfl⟩ ⟨rfl, rfl⟩ ?_
        refine A_topI (congrArg nI hwl) ?_
        first | refine A_icmp_geN (tgt := 63) d_To_isWord_33 (by decide) (by with_reducible rfl) (by with_reducible rfl) (by omega) (by omega) (fun c_33 => ?_) (fun c_33 => ?_) | refine A_icmp_ge (tgt := 63) d_To_isWord_33 (by decide) (fun c_33 => ?_) (fun c_33 => ?_)
        · refine A_iconst (v := nI 1) d_To_isWord_63 (by decide) ?_
          refine A_zret d_To_isWord_64 rfl (by first | rfl | exact bI_nar _ | decide) ⟨Nat.zero_le _, Nat.zero_le _⟩ ?_
          exact pu (by rw [firstU_end]; rfl)
        · exact absurd c_33 (by omega)
      · obtain ⟨hsb, hw256⟩ := hwj j (by omega)
        refine A_iload_n2 d_To_isWord_28 ?_
        refine A_aload_n1 d_To_isWord_29 ?_
        refine A_callVSP d_To_isWord_30 (c_JS_length hOl hi) hi rfl q_473 q_474 q_475 mk_JS_length rfl (by decide) rfl (Nat.le_of_ble_eq_true rfl) ⟨Nat.le_of_ble_eq_true rfl, Nat.le_of_ble_eq_true rfl⟩ ⟨rfl, rfl⟩ ?_
        refine A_topI (congrArg nI hwl) ?_
        first | refine A_icmp_geN (tgt := 63) d_To_isWord_33 (by decide) (by with_reducible rfl) (by with_reducible rfl) (by omega) (by omega) (fun c_33 => ?_) (fun c_33 => ?_) | refine A_icmp_ge (tgt := 63) d_To_isWord_33 (by decide) (fun c_33 => ?_) (fun c_33 => ?_)
        · exact absurd c_33 (by omega)
        · refine A_aload_n0 d_To_isWord_36 ?_
          refine A_getf (kf := 0) d_To_isWord_37 M.o ok_5 (by decide) q_246 rfl ?_
          refine A_aload_n0 d_To_isWord_40 ?_
          refine A_getf (kf := 2) d_To_isWord_41 M.o ok_5 (by decide) q_249 rfl ?_
          refine A_topI hq2 ?_
          refine A_iload_n2 d_To_isWord_44 ?_
          first | refine A_iaddN d_To_isWord_45 (by with_reducible rfl) (by with_reducible rfl) ?_ | refine A_iadd d_To_isWord_45 ?_
          refine A_ialdN d_To_isWord_46 ((M.2.2 _ hzt).trans hf) ⟨by omega, by decide⟩ ?_
          refine A_topI (hfB (q + j) (by omega)) ?_
          have hb := hB2 (q + j)
          refine A_aload_n1 d_To_isWord_47 ?_
          refine A_iload_n2 d_To_isWord_48 ?_
          refine A_callVSP d_To_isWord_49 (c_JS_charAt hOl hi j (by omega)) hi rfl q_483 q_484 q_485 mk_JS_charAt rfl (by decide) rfl (Nat.le_of_ble_eq_true rfl) ⟨Nat.le_of_ble_eq_true rfl, Nat.le_of_ble_eq_true rfl⟩ ⟨rfl, rfl⟩ ?_
          refine A_topI hsb ?_
          first | refine A_icmp_eqN (tgt := 57) d_To_isWord_52 (by decide) (by with_reducible rfl) (by with_reducible rfl) (by omega) (by omega) (fun c_52 => ?_) (fun c_52 => ?_) | refine A_icmp_eq (tgt := 57) d_To_isWord_52 (by decide) (fun c_52 => ?_) (fun c_52 => ?_)
          · first | refine A_iinc2 d_To_isWord_57 (nI_1 _) trivial ?_ | refine A_iinc2 d_To_isWord_57 rfl trivial ?_
            refine A_goto (tgt := 28) d_To_isWord_60 (by decide) ?_
            rw [firstU_step _ _ _ hj, if_neg (by rw [decide_eq_true c_52]; decide)]
            exact ih
          · refine A_iconst (v := nI 0) d_To_isWord_55 (by decide) ?_
            refine A_zret d_To_isWord_56 rfl (by first | rfl | exact bI_nar _ | decide) ⟨Nat.zero_le _, Nat.zero_le _⟩ ?_
            exact pu (by rw [firstU_step _ _ _ hj, if_pos (by rw [decide_eq_false c_52]; rfl)]; rfl)
    refine A_aload_n0 d_To_isWord_0 ?_
    refine A_getf (kf := 4) d_To_isWord_1 M.o ok_5 (by decide) q_252 rfl ?_
    refine A_topI hq4 ?_
    refine A_iconst (v := nI 1) d_To_isWord_4 (by decide) ?_
    first | refine A_icmp_neN (tgt := 24) d_To_isWord_5 (by decide) (by with_reducible rfl) (by with_reducible rfl) (by omega) (by omega) (fun c_5 => ?_) (fun c_5 => ?_) | refine A_icmp_ne (tgt := 24) d_To_isWord_5 (by decide) (fun c_5 => ?_) (fun c_5 => ?_)
    · refine A_iconst (v := nI 0) d_To_isWord_24 (by decide) ?_
      refine A_zret d_To_isWord_25 rfl (by first | rfl | exact bI_nar _ | decide) ⟨Nat.zero_le _, Nat.zero_le _⟩ ?_
      exfalso; omega
    · refine A_aload_n0 d_To_isWord_8 ?_
      refine A_getf (kf := 3) d_To_isWord_9 M.o ok_5 (by decide) q_250 rfl ?_
      refine A_topI hq3 ?_
      refine A_aload_n0 d_To_isWord_12 ?_
      refine A_getf (kf := 2) d_To_isWord_13 M.o ok_5 (by decide) q_249 rfl ?_
      refine A_topI hq2 ?_
      first | refine A_isubN d_To_isWord_16 (by with_reducible rfl) (by with_reducible rfl) (by omega) ?_ | refine A_isub d_To_isWord_16 ?_
      refine A_aload_n1 d_To_isWord_17 ?_
      refine A_callVSP d_To_isWord_18 (c_JS_length hOl hi) hi rfl q_473 q_474 q_475 mk_JS_length rfl (by decide) rfl (Nat.le_of_ble_eq_true rfl) ⟨Nat.le_of_ble_eq_true rfl, Nat.le_of_ble_eq_true rfl⟩ ⟨rfl, rfl⟩ ?_
      refine A_topI (congrArg nI hwl) ?_
      first | refine A_icmp_eqN (tgt := 26) d_To_isWord_21 (by decide) (by with_reducible rfl) (by with_reducible rfl) (by omega) (by omega) (fun c_21 => ?_) (fun c_21 => ?_) | refine A_icmp_eq (tgt := 26) d_To_isWord_21 (by decide) (fun c_21 => ?_) (fun c_21 => ?_)
      · refine A_iconst (v := nI 0) d_To_isWord_26 (by decide) ?_
        refine A_istore2 d_To_isWord_27 trivial ?_
        exact key 0 (Nat.zero_le _)
      · refine A_iconst (v := nI 0) d_To_isWord_24 (by decide) ?_
        refine A_zret d_To_isWord_25 rfl (by first | rfl | exact bI_nar _ | decide) ⟨Nat.zero_le _, Nat.zero_le _⟩ ?_
        exfalso; omega
  · rw [show isW B n q (WDl.getD i []) = false by
      unfold isW
      by_cases a : kN B n q = 2
      · rw [decide_eq_true a, decide_eq_false (fun y => hgo ⟨a, y⟩)]; rfl
      · rw [decide_eq_false a]; rfl]
    refine A_aload_n0 d_To_isWord_0 ?_
    refine A_getf (kf := 4) d_To_isWord_1 M.o ok_5 (by decide) q_252 rfl ?_
    refine A_topI hq4 ?_
    refine A_iconst (v := nI 1) d_To_isWord_4 (by decide) ?_
    first | refine A_icmp_neN (tgt := 24) d_To_isWord_5 (by decide) (by with_reducible rfl) (by with_reducible rfl) (by omega) (by omega) (fun c_5 => ?_) (fun c_5 => ?_) | refine A_icmp_ne (tgt := 24) d_To_isWord_5 (by decide) (fun c_5 => ?_) (fun c_5 => ?_)
    · refine A_iconst (v := nI 0) d_To_isWord_24 (by decide) ?_
      refine A_zret d_To_isWord_25 rfl (by first | rfl | exact bI_nar _ | decide) ⟨Nat.zero_le _, Nat.zero_le _⟩ ?_
      exact pu rfl
    · refine A_aload_n0 d_To_isWord_8 ?_
      refine A_getf (kf := 3) d_To_isWord_9 M.o ok_5 (by decide) q_250 rfl ?_
      refine A_topI hq3 ?_
      refine A_aload_n0 d_To_isWord_12 ?_
      refine A_getf (kf := 2) d_To_isWord_13 M.o ok_5 (by decide) q_249 rfl ?_
      refine A_topI hq2 ?_
      first | refine A_isubN d_To_isWord_16 (by with_reducible rfl) (by with_reducible rfl) (by omega) ?_ | refine A_isub d_To_isWord_16 ?_
      refine A_aload_n1 d_To_isWord_17 ?_
      refine A_callVSP d_To_isWord_18 (c_JS_length hOl hi) hi rfl q_473 q_474 q_475 mk_JS_length rfl (by decide) rfl (Nat.le_of_ble_eq_true rfl) ⟨Nat.le_of_ble_eq_true rfl, Nat.le_of_ble_eq_true rfl⟩ ⟨rfl, rfl⟩ ?_
      refine A_topI (congrArg nI hwl) ?_
      first | refine A_icmp_eqN (tgt := 26) d_To_isWord_21 (by decide) (by with_reducible rfl) (by with_reducible rfl) (by omega) (by omega) (fun c_21 => ?_) (fun c_21 => ?_) | refine A_icmp_eq (tgt := 26) d_To_isWord_21 (by decide) (fun c_21 => ?_) (fun c_21 => ?_)
      · exfalso; omega
      · refine A_iconst (v := nI 0) d_To_isWord_24 (by decide) ?_
        refine A_zret d_To_isWord_25 rfl (by first | rfl | exact bI_nar _ | decide) ⟨Nat.zero_le _, Nat.zero_le _⟩ ?_
        exact pu rfl
