section STR
variable {G : GE} {y : MethodName} {cc : ByteArray} {nL : Nat} {ret : Option FieldType} {R : Room} {mc ms : Nat} {K : Option Value → AH → Prop} {u n pc : Nat} {L : List (Option Value)} {st : List Value} {h : AH}
variable {y1 : MethodName} {cc1 : ByteArray} {nL1 na index : Nat} {ret1 : Option FieldType} {R1 : Room} {K1 : Option Value → AH → Prop} {st0 : List Value}
theorem A_ldcS {cell : Nat} {tx : String} (d : decode cc pc = .ok (.ldc index, 2)) (hq : (y.cls, index, tx, cell) ∈ wa_st) (k : WA G y cc nL ret R mc ms K u n (pc + 2) L (.ref cell :: st) h) : WA G y cc nL ret R mc ms K u n pc L st h := by
  intro l p e s m args below meth c H locs ls a r hl hf
  exact va_ldcS (tx := tx) a.1 a.2.1 a.2.2.2.1 (a.2.2.2.2.2.2.2.2.2.2.2.2.2.2.2.1 _ hq) d (k l p e s m args below meth c H locs ls a r hl hf)
theorem A_strV {i : Nat} (d : decode cc pc = .ok (.getfield index, 3)) (hi : i < 14) (hw : (.fieldLink y.cls index "java/lang/String" "value" "[B" : Cond) ∈ lw_g) (k : WA G y cc nL ret R mc ms K u n (pc + 3) L (.ref (30 + i) :: st) h) : WA G y cc nL ret R mc ms K u n pc L (.ref (10 + i) :: st) h := by
  intro l p e s m args below meth c H locs ls a r hl hf
  obtain ⟨hx0, hb0, hml, hown, hts, hK, hlk, hrt, g, hnm, hkx⟩ := id a
  obtain ⟨cf, kc, fi, f, cell, h1, h2, h3, h4, h5, h6⟩ := (hkx.2.2.2.2.2.2.1.1 i hi).2.2.1
  exact W.getf hx0 hb0 hown (hts _ hw) h1 h2 (by rw [r.2.1 _ (Array.getElem?_eq_some_iff.mp h3).1]; exact h3) h4 h5 rfl rfl d (k l p e s m args below meth c H locs ls a r hl hf)
theorem A_strC {i : Nat} (d : decode cc pc = .ok (.getfield index, 3)) (hi : i < 14) (hw : (.fieldLink y.cls index "java/lang/String" "coder" "B" : Cond) ∈ lw_g) (k : WA G y cc nL ret R mc ms K u n (pc + 3) L (.int 0 :: st) h) : WA G y cc nL ret R mc ms K u n pc L (.ref (10 + i) :: st) h := by
  intro l p e s m args below meth c H locs ls a r hl hf
  obtain ⟨hx0, hb0, hml, hown, hts, hK, hlk, hrt, g, hnm, hkx⟩ := id a
  obtain ⟨cf, kc, fi, f, cell, h1, h2, h3, h4, h5, h6⟩ := (hkx.2.2.2.2.2.2.1.1 i hi).2.1
  exact W.getf hx0 hb0 hown (hts _ hw) h1 h2 (by rw [r.2.1 _ (Array.getElem?_eq_some_iff.mp h3).1]; exact h3) h4 h5 rfl rfl d (k l p e s m args below meth c H locs ls a r hl hf)
theorem A_getsP (d : decode cc pc = .ok (.getstatic index, 3)) (hw : (.fieldLink y.cls index "jdk/internal/util/Preconditions" "SIOOBE_FORMATTER" "Ljava/util/function/BiFunction;" : Cond) ∈ lw_g) (k : ∀ w : Value, (w = .null ∨ w = .ref 4) → WA G y cc nL ret R mc ms K u n (pc + 3) L (w :: st) h) : WA G y cc nL ret R mc ms K u n pc L st h := by
  intro l p e s m args below meth c H locs ls a r hl hf
  obtain ⟨hx0, hb0, hml, hown, hts, hK, hlk, hrt, g, hnm, hkx⟩ := id a
  obtain ⟨w, hw1, cf, kf, fi, f, a0, cell, h1, h2, h3, h4, h5, h6, h7, h8⟩ := hkx.2.2.2.2.1
  exact W.gets hx0 hb0 hown (hts _ hw) h1 h2 h3 h4 (by rw [r.2.1 a0 (Array.getElem?_eq_some_iff.mp h5).1]; exact h5) (fun e => by rw [e] at h6; cases h6) h7 rfl d (k w hw1 l p e s m args below meth c H locs ls a r hl hf)
theorem A_callVS {i : Nat} {As : List Value} (d : decode cc pc = .ok (.invokevirtual index, 3)) (hM : Ctr G y1 cc1 nL1 ret1 R1 (.ref (10 + i) :: As) h K1) (hi : i < 14) (hc : y1.cls = "java/lang/String") (w1 : (.methodLink y.cls index y1 : Cond) ∈ lw_g) (w2 : (.instanceMethod y1 : Cond) ∈ lw_g) (w3 : (.selects y1.cls y1 y1 : Cond) ∈ lw_g) (ok : MOK y1 cc1 nL1 ret1 na) (hn : As.length = na)
    (hR : R1.frames + 1 ≤ R.frames ∧ 8 + (nL1 + 11) + R1.locals ≤ R.locals) (hst : st0 = As.reverse ++ .ref (10 + i) :: st) (hW : (st.map fun v => v.category).sum ≤ 8) (hu : u + R1.cells ≤ R.cells ∧ n + R1.slots ≤ R.slots)
    (k : ∀ v h1, K1 v h1 → WA G y cc nL ret R mc ms K (u + R1.cells) (n + R1.slots) (pc + 3) L (v.toList ++ st) h1) : WA G y cc nL ret R mc ms K u n pc L st0 h := by
  subst hn
  refine A_run (a0 := ((.ref (10 + i) :: As).map (cv G)).toArray) (fun l p e s m args below meth c H locs ls a r hl => ?_) k
  obtain ⟨hx, hb, hml, hown, hts, hK, hlk, hrt, g, hnm, hkx⟩ := id a
  refine va_runV (As := As.map (cv G)) (b := ad G (10 + i)) (rest := st.map (cv G)) (C := y1.cls) ⟨hx, hb, hml, hown, hts⟩ (hM l) ⟨callB_of (ws := Cond.code y1 cc1 nL1 ret1 :: lw_g) As.length hts (code_in ok.2.1) rfl rfl rfl (hts _ ok.1) (hts _ w1) ⟨ok.2.2.1, ok.2.2.2.1, ok.2.2.2.2⟩ hR, hts _ w2, hts _ w3⟩
    ⟨KN.blind G _ h, ?_, fun U hU hW2 => ⟨by simp [cv], by rw [hU]; exact r, KN.warm hW2 hK g hkx⟩⟩ rfl (by simp) hl.2.1 (by rw [hst]; simp [cv, List.map_reverse]) (by show 2 * 0 + _ ≤ 8; rw [cat_map]; omega) d hu
  obtain ⟨cell, h1, h2, h3, -⟩ := (hkx.2.2.2.2.2.2.1.1 i hi).1
  exact ⟨cell, by rw [r.2.1 _ (Array.getElem?_eq_some_iff.mp h1).1]; exact h1, h2, by rw [hc]; exact h3⟩
theorem A_callVSP {i : Nat} {As : List Value} {v : Value} (d : decode cc pc = .ok (.invokevirtual index, 3)) (hM : Ctr G y1 cc1 nL1 ret1 R1 (.ref (10 + i) :: As) h (Pu v h)) (hi : i < 14) (hc : y1.cls = "java/lang/String") (w1 : (.methodLink y.cls index y1 : Cond) ∈ lw_g) (w2 : (.instanceMethod y1 : Cond) ∈ lw_g) (w3 : (.selects y1.cls y1 y1 : Cond) ∈ lw_g) (ok : MOK y1 cc1 nL1 ret1 na) (hn : As.length = na)
    (hR : R1.frames + 1 ≤ R.frames ∧ 8 + (nL1 + 11) + R1.locals ≤ R.locals) (hst : st0 = As.reverse ++ .ref (10 + i) :: st) (hW : (st.map fun v => v.category).sum ≤ 8) (hu : u + R1.cells ≤ R.cells ∧ n + R1.slots ≤ R.slots) (h0 : R1.cells = 0 ∧ R1.slots = 0)
    (k : WA G y cc nL ret R mc ms K u n (pc + 3) L (v :: st) h) : WA G y cc nL ret R mc ms K u n pc L st0 h :=
  A_callVS d hM hi hc w1 w2 w3 ok hn hR hst hW hu (fun v' h1 hv => by obtain ⟨rfl, rfl⟩ := hv; rw [h0.1, h0.2]; exact k)
end STR
def sbF (i j : Nat) : Int32 := (wa_byt.getD i []).getD j 0
def NUMl : List Int32 := [1, 1, 1, 1, 3, 4, 2, 2, 3, 2, 2, 2]
def LOWl : List Int32 := [4, 0, 0, 0, 0, 0, 0, 0, 0, 0, 0, 0, 1, 0, 0, 0, 0, 0, 0, 0, 0, 0, 0, 0, 0, 0, 0, 0, 0, 0, 0, 0, 0, 0, 0, 0, 0, 1, 0, 0, 0, 0, 0, 0, 1, 0, 0, 0]
def HIGHl : List Int32 := [24, 0, 0, 0, 3, 0, 0, 0, 9, 0, 0, 0, 4, 0, 0, 0, 1, 12, 12, 0, 9, 23, 23, 9, 99, 10, 0, 0, 23, 99, 0, 0, 2, 23, 23, 0, 2, 24, 0, 0, 9, 23, 0, 0, 7, 60, 0, 0]
/-- what was there before: the rows of constants, the letters of the words -/
def OLD (h : AH) : Prop := (∀ i, i < 14 → h (30 + i) = some (.inl (2, wa_len.getD i 0, .inl (sbF i)))) ∧ h 1 = some (.inl (0, 12, .inl (fun j => NUMl.getD j 0))) ∧ h 2 = some (.inl (0, 48, .inl (fun j => LOWl.getD j 0))) ∧ h 3 = some (.inl (0, 48, .inl (fun j => HIGHl.getD j 0)))
theorem sb_c : ∀ i, i < 14 → ∀ j, j < 6 → ((sbF i j &&& nI 255).toUInt32 % 65536).toInt32 = sbF i j ∧ narrow .char (.int (sbF i j)) = .int (sbF i j) := by decide +kernel
theorem wl_6 : ∀ i, i < 14 → wa_len.getD i 0 ≤ 6 := by decide +kernel
set_option maxHeartbeats 4000000 in
set_option maxRecDepth 100000 in
theorem c_JS_coder {G : GE} (h : AH) {i : Nat} (hi : i < 14) : Ctr G y_JS_coder b_JS_coder 1 (some .byte) r_JS_coder [.ref (10 + i)] h (Pu (.int 0) h) := by
  refine Ctr.ofF (by decide +kernel) (by simp) (Nat.le_of_ble_eq_true rfl) (L0 := [some (.ref (10 + i))]) rfl ?_
  refine A_gets d_JS_coder_0 (v := .int 1) (by decide) q_481 ?_
  refine A_if_eq (tgt := 13) d_JS_coder_3 (by decide) (fun c => absurd c (by decide)) (fun c_3 => ?_)
  refine A_aload_n0 d_JS_coder_6 ?_
  refine A_strC d_JS_coder_7 hi q_1738 ?_
  refine A_goto (tgt := 14) d_JS_coder_10 (by decide) ?_
  refine A_zret d_JS_coder_14 rfl (by first | rfl | exact bI_nar _ | decide) ⟨Nat.zero_le _, Nat.zero_le _⟩ ?_
  exact pu rfl
set_option maxHeartbeats 4000000 in
set_option maxRecDepth 100000 in
theorem c_JS_length {G : GE} {h : AH} (hO : OLD h) {i : Nat} (hi : i < 14) : Ctr G y_JS_length b_JS_length 1 (some .int) r_JS_length [.ref (10 + i)] h (Pu (.int (nI (wa_len.getD i 0))) h) := by
  refine Ctr.ofF (by decide +kernel) (by simp) (Nat.le_of_ble_eq_true rfl) (L0 := [some (.ref (10 + i))]) rfl ?_
  refine A_aload_n0 d_JS_length_0 ?_
  refine A_strV d_JS_length_1 hi q_1737 ?_
  refine A_alen (w := 0) d_JS_length_4 (hO.1 i hi) rfl ?_
  refine A_aload_n0 d_JS_length_5 ?_
  refine A_callVSP d_JS_length_6 (c_JS_coder h hi) hi rfl q_477 q_478 q_479 mk_JS_coder rfl (by decide) rfl (Nat.le_of_ble_eq_true rfl) ⟨Nat.le_of_ble_eq_true rfl, Nat.le_of_ble_eq_true rfl⟩ ⟨rfl, rfl⟩ ?_
  refine A_ishr d_JS_length_9 ?_
  refine A_topI (show _ = nI (wa_len.getD i 0) from nI_shr (j := 0) (by have := wl_6 i hi; omega) (by decide)) ?_
  refine A_iret d_JS_length_10 rfl ⟨Nat.zero_le _, Nat.zero_le _⟩ ?_
  exact pu rfl
set_option maxHeartbeats 4000000 in
set_option maxRecDepth 100000 in
theorem c_JS_isLatin1 {G : GE} (h : AH) {i : Nat} (hi : i < 14) : Ctr G y_JS_isLatin1 b_JS_isLatin1 1 (some .boolean) r_JS_isLatin1 [.ref (10 + i)] h (Pu (.int (bI true)) h) := by
  refine Ctr.ofF (by decide +kernel) (by simp) (Nat.le_of_ble_eq_true rfl) (L0 := [some (.ref (10 + i))]) rfl ?_
  refine A_gets d_JS_isLatin1_0 (v := .int 1) (by decide) q_481 ?_
  refine A_if_eq (tgt := 17) d_JS_isLatin1_3 (by decide) (fun c => absurd c (by decide)) (fun c_3 => ?_)
  refine A_aload_n0 d_JS_isLatin1_6 ?_
  refine A_strC d_JS_isLatin1_7 hi q_1738 ?_
  refine A_if_ne (tgt := 17) d_JS_isLatin1_10 (by decide) (fun c => absurd rfl c) (fun c_10 => ?_)
  refine A_iconst (v := nI 1) d_JS_isLatin1_13 (by decide) ?_
  refine A_goto (tgt := 18) d_JS_isLatin1_14 (by decide) ?_
  refine A_zret d_JS_isLatin1_18 rfl (by first | rfl | exact bI_nar _ | decide) ⟨Nat.zero_le _, Nat.zero_le _⟩ ?_
  exact pu rfl
set_option maxHeartbeats 4000000 in
set_option maxRecDepth 100000 in
theorem c_JP_checkIndex0 {G : GE} (h : AH) (j z : Nat) (hj : j < z) (hz : z < 2 ^ 31) : Ctr G y_JP_checkIndex b_JP_checkIndex 3 (some .int) r_JP_checkIndex [.int (nI j), .int (nI z), .null] h (Pu (.int (nI j)) h) := by
  refine Ctr.ofF (by decide +kernel) (by simp) (Nat.le_of_ble_eq_true rfl) (L0 := [some (.int (nI j)), some (.int (nI z)), some (.null)]) rfl ?_
  refine A_iload_n0 d_JP_checkIndex_0 ?_
  refine A_if_lt (tgt := 9) d_JP_checkIndex_1 (by decide) (fun c => absurd c (nI_pos (by omega))) (fun c_1 => ?_)
  refine A_iload_n0 d_JP_checkIndex_4 ?_
  refine A_iload_n1 d_JP_checkIndex_5 ?_
  refine A_icmp_lt (tgt := 16) d_JP_checkIndex_6 (by decide) (fun c_6 => ?_) (fun c => absurd ((nI_ltI (by omega) hz).mpr hj) c)
  refine A_iload_n0 d_JP_checkIndex_16 ?_
  refine A_iret d_JP_checkIndex_17 rfl ⟨Nat.zero_le _, Nat.zero_le _⟩ ?_
  exact pu rfl
set_option maxHeartbeats 4000000 in
set_option maxRecDepth 100000 in
theorem c_JP_checkIndex4 {G : GE} (h : AH) (j z : Nat) (hj : j < z) (hz : z < 2 ^ 31) : Ctr G y_JP_checkIndex b_JP_checkIndex 3 (some .int) r_JP_checkIndex [.int (nI j), .int (nI z), .ref 4] h (Pu (.int (nI j)) h) := by
  refine Ctr.ofF (by decide +kernel) (by simp) (Nat.le_of_ble_eq_true rfl) (L0 := [some (.int (nI j)), some (.int (nI z)), some (.ref 4)]) rfl ?_
  refine A_iload_n0 d_JP_checkIndex_0 ?_
  refine A_if_lt (tgt := 9) d_JP_checkIndex_1 (by decide) (fun c => absurd c (nI_pos (by omega))) (fun c_1 => ?_)
  refine A_iload_n0 d_JP_checkIndex_4 ?_
  refine A_iload_n1 d_JP_checkIndex_5 ?_
  refine A_icmp_lt (tgt := 16) d_JP_checkIndex_6 (by decide) (fun c_6 => ?_) (fun c => absurd ((nI_ltI (by omega) hz).mpr hj) c)
  refine A_iload_n0 d_JP_checkIndex_16 ?_
  refine A_iret d_JP_checkIndex_17 rfl ⟨Nat.zero_le _, Nat.zero_le _⟩ ?_
  exact pu rfl
theorem c_JP_checkIndex {G : GE} (h : AH) (j z : Nat) (hj : j < z) (hz : z < 2 ^ 31) (w : Value) (hw : w = .null ∨ w = .ref 4) : Ctr G y_JP_checkIndex b_JP_checkIndex 3 (some .int) r_JP_checkIndex [.int (nI j), .int (nI z), w] h (Pu (.int (nI j)) h) := by
  rcases hw with rfl | rfl
  · exact c_JP_checkIndex0 h j z hj hz
  · exact c_JP_checkIndex4 h j z hj hz
set_option maxHeartbeats 4000000 in
set_option maxRecDepth 100000 in
theorem c_JS_checkIndex {G : GE} (h : AH) (j z : Nat) (hj : j < z) (hz : z < 2 ^ 31) : Ctr G y_JS_checkIndex b_JS_checkIndex 2 none r_JS_checkIndex [.int (nI j), .int (nI z)] h (fun v h1 => v = none ∧ h1 = h) := by
  refine Ctr.ofF (by decide +kernel) (by simp) (Nat.le_of_ble_eq_true rfl) (L0 := [some (.int (nI j)), some (.int (nI z))]) rfl ?_
  refine A_iload_n0 d_JS_checkIndex_0 ?_
  refine A_iload_n1 d_JS_checkIndex_1 ?_
  refine A_getsP d_JS_checkIndex_2 q_497 (fun w hw => ?_)
  refine A_callSP d_JS_checkIndex_5 (c_JP_checkIndex _ j z hj hz w hw) q_499 q_500 mk_JP_checkIndex rfl (by decide) rfl (Nat.le_of_ble_eq_true rfl) ⟨Nat.le_of_ble_eq_true rfl, Nat.le_of_ble_eq_true rfl⟩ ⟨rfl, rfl⟩ ?_
  refine A_popI d_JS_checkIndex_8 ?_
  refine A_vret d_JS_checkIndex_9 rfl ⟨Nat.zero_le _, Nat.zero_le _⟩ ?_
  exact ⟨rfl, rfl⟩
set_option maxHeartbeats 4000000 in
set_option maxRecDepth 100000 in
theorem c_JL_charAt {G : GE} {h : AH} (hO : OLD h) {i : Nat} (hi : i < 14) (j : Nat) (hj : j < wa_len.getD i 0) : Ctr G y_JL_charAt b_JL_charAt 2 (some .char) r_JL_charAt [.ref (30 + i), .int (nI j)] h (Pu (.int (sbF i j)) h) := by
  have hl6 := wl_6 i hi
  refine Ctr.ofF (by decide +kernel) (by simp) (Nat.le_of_ble_eq_true rfl) (L0 := [some (.ref (30 + i)), some (.int (nI j))]) rfl ?_
  refine A_iload_n1 d_JL_charAt_0 ?_
  refine A_aload_n0 d_JL_charAt_1 ?_
  refine A_alen (w := 0) d_JL_charAt_2 (hO.1 i hi) rfl ?_
  refine A_callS d_JL_charAt_3 (c_JS_checkIndex _ j _ hj (by omega)) q_494 q_495 mk_JS_checkIndex rfl (by decide) rfl (Nat.le_of_ble_eq_true rfl) ⟨Nat.le_of_ble_eq_true rfl, Nat.le_of_ble_eq_true rfl⟩ ?_
  rintro _ h1 ⟨rfl, rfl⟩
  refine A_aload_n0 d_JL_charAt_6 ?_
  refine A_iload_n1 d_JL_charAt_7 ?_
  refine A_baldN d_JL_charAt_8 (hO.1 i hi) ⟨hj, by omega⟩ ?_
  refine A_sipush (v := nI 255) d_JL_charAt_9 (by decide) ?_
  refine A_iand d_JL_charAt_12 ?_
  refine A_i2c d_JL_charAt_13 ?_
  refine A_topI (sb_c i hi j (by omega)).1 ?_
  refine A_zret d_JL_charAt_14 rfl (sb_c i hi j (by omega)).2 ⟨Nat.zero_le _, Nat.zero_le _⟩ ?_
  exact pu rfl
set_option maxHeartbeats 4000000 in
set_option maxRecDepth 100000 in
theorem c_JS_charAt {G : GE} {h : AH} (hO : OLD h) {i : Nat} (hi : i < 14) (j : Nat) (hj : j < wa_len.getD i 0) : Ctr G y_JS_charAt b_JS_charAt 2 (some .char) r_JS_charAt [.ref (10 + i), .int (nI j)] h (Pu (.int (sbF i j)) h) := by
  refine Ctr.ofF (by decide +kernel) (by simp) (Nat.le_of_ble_eq_true rfl) (L0 := [some (.ref (10 + i)), some (.int (nI j))]) rfl ?_
  refine A_aload_n0 d_JS_charAt_0 ?_
  refine A_callVSP d_JS_charAt_1 (c_JS_isLatin1 h hi) hi rfl q_487 q_488 q_489 mk_JS_isLatin1 rfl (by decide) rfl (Nat.le_of_ble_eq_true rfl) ⟨Nat.le_of_ble_eq_true rfl, Nat.le_of_ble_eq_true rfl⟩ ⟨rfl, rfl⟩ ?_
  refine A_if_eqB (tgt := 16) d_JS_charAt_4 (by decide) (fun c => absurd c (by decide)) (fun c_4 => ?_)
  refine A_aload_n0 d_JS_charAt_7 ?_
  refine A_strV d_JS_charAt_8 hi q_1737 ?_
  refine A_iload_n1 d_JS_charAt_11 ?_
  refine A_callSP d_JS_charAt_12 (c_JL_charAt hO hi j hj) q_491 q_492 mk_JL_charAt rfl (by decide) rfl (Nat.le_of_ble_eq_true rfl) ⟨Nat.le_of_ble_eq_true rfl, Nat.le_of_ble_eq_true rfl⟩ ⟨rfl, rfl⟩ ?_
  refine A_zret d_JS_charAt_15 rfl (sb_c i hi j (by have := wl_6 i hi; omega)).2 ⟨Nat.zero_le _, Nat.zero_le _⟩ ?_
  exact pu rfl
