/-! A REGION being written: from q on there is es, all else is as in h0 -/
def Rg (h0 h : AH) (q : Nat) (es : List va_E) : Prop := 1000 ≤ q ∧ (∀ j e, es[j]? = some e → h (q + j) = some e) ∧ ∀ i, (i < q ∨ q + es.length ≤ i) → h i = h0 i
theorem Rg.get {h0 h : AH} {q : Nat} {es : List va_E} {e : va_E} (M : Rg h0 h q es) (j : Nat) (hj : es[j]? = some e) : h (q + j) = some e := M.2.1 j e hj
theorem Rg.ge {h0 h : AH} {q : Nat} {es : List va_E} (M : Rg h0 h q es) (j : Nat) : 1000 ≤ q + j := by have := M.1; omega
theorem Rg.far {h0 h : AH} {q m i : Nat} {es : List va_E} (M : Rg h0 h q es) (hm : es.length = m) (hi : i < q ∨ q + m ≤ i) : h i = h0 i := M.2.2 i (by rw [hm]; exact hi)
theorem Rg.put {h0 h : AH} {q j : Nat} {es : List va_E} {e e' : va_E} (M : Rg h0 h q es) (hj : es[j]? = some e') : Rg h0 (hset h (q + j) e) q (es.set j e) := by
  have hl := (List.getElem?_eq_some_iff.mp hj).1
  refine ⟨M.1, fun i x hi => ?_, fun i hi => ?_⟩
  · rw [List.getElem?_set] at hi
    by_cases z : j = i
    · subst z
      rw [if_pos rfl, if_pos hl] at hi
      cases hi
      exact hset_eq _ _ _
    · rw [if_neg z] at hi
      rw [hset_ne (by omega)]
      exact M.get i hi
  · rw [List.length_set] at hi
    rw [hset_ne (by omega)]
    exact M.2.2 i hi
theorem va_cpy0 {α : Type} (f g : Nat → α) {n j : Nat} (hj : j < n) : va_cpy f g 0 0 n j = f j := by
  unfold va_cpy
  rw [if_pos (by omega)]
  exact congrArg f (by omega)
section RGROWS
variable {G : GE} {y : MethodName} {cc : ByteArray} {nL : Nat} {ret : Option FieldType} {R : Room} {mc ms : Nat} {K : Option Value → AH → Prop} {u n pc : Nat} {L : List (Option Value)} {st : List Value} {h0 h : AH} {q : Nat} {es : List va_E}
theorem A_rgPut {ci kf index N j : Nat} {es' : List va_E} {C : String} {T : u_T} {t0 : Nat → FieldType} {fs : List Value} {v : Value} {ty : FieldType} (d : decode cc pc = .ok (.putfield index, 3)) (ok : ClsOK ci C T N t0) (hk : kf < N) (hw : (.fieldLink y.cls index (T kf).1 (T kf).2.1 (T kf).2.2.1 : Cond) ∈ lw_g) (hfin : (T kf).2.2.2 = false ∨ ((T kf).2.2.2 = true ∧ y.name = "<init>" ∧ (T kf).1 = y.cls))
    (hd : parseFieldDescriptor (T kf).2.2.1 = some ty) (hn : narrow ty (cv G v) = cv G v) (hfit : fits ty (cv G v) = true) (M : Rg h0 h q es) (hq : es[j]? = some (.inr (ci, fs))) (hl : kf < fs.length) (he : es.set j (.inr (ci, fs.set kf v)) = es')
    (k : ∀ h1, Rg h0 h1 q es' → WA G y cc nL ret R mc ms K u n (pc + 3) L st h1) : WA G y cc nL ret R mc ms K u n pc L (v :: .ref (q + j) :: st) h :=
  A_put (q := q + j) d (M.get j hq) ok hk hw hfin hd hn hfit hl (M.ge j) (k _ (he ▸ M.put hq))
theorem A_rgCpy {q0 n0 n1 sp dp z j index : Nat} {es' : List va_E} {f f1 : Nat → Int32} (d : decode cc pc = .ok (.invokestatic index, 3)) (w1 : (.methodLink y.cls index arraycopyName : Cond) ∈ lw_g) (w2 : (.native arraycopyName : Cond) ∈ lw_g) (w3 : (.static arraycopyName : Cond) ∈ lw_g) (w4 : (.initialized "java/lang/System" : Cond) ∈ lw_g) (hs : h q0 = some (.inl (0, n0, .inl f))) (M : Rg h0 h q es) (hq : es[j]? = some (.inl (0, n1, .inl f1))) (hz : sp + z ≤ n0 ∧ dp + z ≤ n1 ∧ n0 < 2 ^ 31 ∧ n1 < 2 ^ 31) (hR : 1 ≤ R.frames) (hW : (st.map fun v => v.category).sum + (nativeFrameWords "java/lang/System" "arraycopy" 5 + 11) ≤ R.locals) (he : es.set j (.inl (0, n1, .inl (va_cpy f f1 sp dp z))) = es')
    (k : ∀ h1, Rg h0 h1 q es' → WA G y cc nL ret R mc ms K u n (pc + 3) L st h1) : WA G y cc nL ret R mc ms K u n pc L (.int (nI z) :: .int (nI dp) :: .ref (q + j) :: .int (nI sp) :: .ref q0 :: st) h :=
  A_copyI (q1 := q + j) d w1 w2 w3 w4 hs (M.get j hq) (M.ge j) hz hR hW (k _ (he ▸ M.put hq))
end RGROWS
def esL (a : Nat) (D : LD) : List va_E := [.inr (1, ldfs a D), .inl (0, 10, .inl (D.2 5)), .inl (0, 10, .inl (D.2 6)), .inl (0, 10, .inl (D.2 7)), .inl (0, 240, .inl (D.2 8)), .inl (0, 6, .inl (D.2 10)), .inl (0, 6, .inl (D.2 11)), .inl (0, 24, .inl (D.2 12)), .inl (0, 24, .inl (D.2 17))]
theorem LAt_rg {h : AH} {a : Nat} {D : LD} (A : LAt h a D) : Rg h h a (esL a D) := ⟨A.ge, fun j e hj => by
  have hl : j < 9 := (List.getElem?_eq_some_iff.mp hj).1
  rcases (show j = 0 ∨ j = 1 ∨ j = 2 ∨ j = 3 ∨ j = 4 ∨ j = 5 ∨ j = 6 ∨ j = 7 ∨ j = 8 by omega) with rfl | rfl | rfl | rfl | rfl | rfl | rfl | rfl | rfl <;> cases hj
  · exact A.o
  · exact A.a5
  · exact A.a6
  · exact A.a7
  · exact A.a8
  · exact A.a10
  · exact A.a11
  · exact A.a12
  · exact A.a17, fun _ _ => rfl⟩
theorem LAt.of_rg {h0 h : AH} {a : Nat} {D : LD} (M : Rg h0 h a (esL a D)) : LAt h a D := ⟨M.1, M.get 0 rfl, M.get 1 rfl, M.get 2 rfl, M.get 3 rfl, M.get 4 rfl, M.get 5 rfl, M.get 6 rfl, M.get 7 rfl, M.get 8 rfl⟩
/-- the same to a reader -/
def esLq (D E : LD) : Prop := D.1 0 = E.1 0 ∧ D.1 1 = E.1 1 ∧ D.1 2 = E.1 2 ∧ D.1 3 = E.1 3 ∧ D.1 4 = E.1 4 ∧ D.1 9 = E.1 9 ∧ D.1 13 = E.1 13 ∧ D.1 14 = E.1 14 ∧ D.1 15 = E.1 15 ∧ D.1 16 = E.1 16 ∧ (∀ j, j < 10 → D.2 5 j = E.2 5 j) ∧ (∀ j, j < 10 → D.2 6 j = E.2 6 j) ∧ (∀ j, j < 10 → D.2 7 j = E.2 7 j) ∧ (∀ j, j < 240 → D.2 8 j = E.2 8 j) ∧ (∀ j, j < 6 → D.2 10 j = E.2 10 j) ∧ (∀ j, j < 6 → D.2 11 j = E.2 11 j) ∧ (∀ j, j < 24 → D.2 12 j = E.2 12 j) ∧ (∀ j, j < 24 → D.2 17 j = E.2 17 j)
def esB (a : Nat) (D : LD) : List va_E := [.inr (0, bkfs a D), .inl (0, 30, .inl (D.2 2)), .inl (0, 30, .inl (D.2 3)), .inl (0, 96, .inl (D.2 4))]
theorem BAt_rg {h : AH} {a : Nat} {D : LD} (A : BAt h a D) : Rg h h a (esB a D) := ⟨A.ge, fun j e hj => by
  have hl : j < 4 := (List.getElem?_eq_some_iff.mp hj).1
  rcases (show j = 0 ∨ j = 1 ∨ j = 2 ∨ j = 3 by omega) with rfl | rfl | rfl | rfl <;> cases hj
  · exact A.o
  · exact A.a2
  · exact A.a3
  · exact A.a4, fun _ _ => rfl⟩
theorem BAt.of_rg {h0 h : AH} {a : Nat} {D : LD} (M : Rg h0 h a (esB a D)) : BAt h a D := ⟨M.1, M.get 0 rfl, M.get 1 rfl, M.get 2 rfl, M.get 3 rfl⟩
/-- the same to a reader -/
def esBq (D E : LD) : Prop := D.1 0 = E.1 0 ∧ D.1 1 = E.1 1 ∧ (∀ j, j < 30 → D.2 2 j = E.2 2 j) ∧ (∀ j, j < 30 → D.2 3 j = E.2 3 j) ∧ (∀ j, j < 96 → D.2 4 j = E.2 4 j)
def esS (a : Nat) (D : LD) : List va_E := [.inr (4, sgfs a D), .inl (0, 20, .inl (D.2 1)), .inl (0, 20, .inl (D.2 2)), .inl (0, 20, .inl (D.2 3))]
theorem SAt_rg {h : AH} {a : Nat} {D : LD} (A : SAt h a D) : Rg h h a (esS a D) := ⟨A.ge, fun j e hj => by
  have hl : j < 4 := (List.getElem?_eq_some_iff.mp hj).1
  rcases (show j = 0 ∨ j = 1 ∨ j = 2 ∨ j = 3 by omega) with rfl | rfl | rfl | rfl <;> cases hj
  · exact A.o
  · exact A.a1
  · exact A.a2
  · exact A.a3, fun _ _ => rfl⟩
theorem SAt.of_rg {h0 h : AH} {a : Nat} {D : LD} (M : Rg h0 h a (esS a D)) : SAt h a D := ⟨M.1, M.get 0 rfl, M.get 1 rfl, M.get 2 rfl, M.get 3 rfl⟩
/-- the same to a reader -/
def esSq (D E : LD) : Prop := D.1 0 = E.1 0 ∧ (∀ j, j < 20 → D.2 1 j = E.2 1 j) ∧ (∀ j, j < 20 → D.2 2 j = E.2 2 j) ∧ (∀ j, j < 20 → D.2 3 j = E.2 3 j)
set_option maxHeartbeats 4000000 in
set_option maxRecDepth 100000 in
theorem c_Bk_copyFrom {G : GE} {h : AH} {a b : Nat} {D E : LD} (hA : BAt h a D) (hB : BAt h b E) (hab : a + 4 ≤ b ∨ b + 4 ≤ a) : Ctr G y_Bk_copyFrom b_Bk_copyFrom 2 none r_Bk_copyFrom [.ref a, .ref b] h (fun v h1 => v = none ∧ ∃ D1, Rg h h1 a (esB a D1) ∧ esBq D1 E) := by
  refine Ctr.of (by decide +kernel) (by simp) (Nat.le_of_ble_eq_true rfl) (L0 := [some (.ref a), some (.ref b)]) rfl ?_
  have M := BAt_rg hA
  refine A_aload_n0 d_Bk_copyFrom_0 ?_
  refine A_aload_n1 d_Bk_copyFrom_1 ?_
  refine A_getf (kf := 0) d_Bk_copyFrom_2 ((M.far (m := 4) rfl (by omega)).trans hB.o) ok_0 (by decide) q_146 rfl ?_
  refine A_rgPut (kf := 0) (ty := .int) (j := 0) (es' := (esB a ((fup D.1 0 (E.1 0)), D.2))) d_Bk_copyFrom_5 ok_0 (by decide) q_146 (Or.inl rfl) (by decide +kernel) rfl rfl M rfl (Nat.le_of_ble_eq_true rfl) rfl (fun h M => ?_)
  refine A_aload_n0 d_Bk_copyFrom_8 ?_
  refine A_aload_n1 d_Bk_copyFrom_9 ?_
  refine A_getf (kf := 1) d_Bk_copyFrom_10 ((M.far (m := 4) rfl (by omega)).trans hB.o) ok_0 (by decide) q_149 rfl ?_
  refine A_rgPut (kf := 1) (ty := .int) (j := 0) (es' := (esB a ((fup (fup D.1 0 (E.1 0)) 1 (E.1 1)), D.2))) d_Bk_copyFrom_13 ok_0 (by decide) q_149 (Or.inl rfl) (by decide +kernel) rfl rfl M rfl (Nat.le_of_ble_eq_true rfl) rfl (fun h M => ?_)
  refine A_aload_n1 d_Bk_copyFrom_16 ?_
  refine A_getf (kf := 2) d_Bk_copyFrom_17 ((M.far (m := 4) rfl (by omega)).trans hB.o) ok_0 (by decide) q_152 rfl ?_
  refine A_iconst (v := nI 0) d_Bk_copyFrom_20 (by decide) ?_
  refine A_aload_n0 d_Bk_copyFrom_21 ?_
  refine A_getf (kf := 2) d_Bk_copyFrom_22 (M.get 0 rfl) ok_0 (by decide) q_152 rfl ?_
  refine A_iconst (v := nI 0) d_Bk_copyFrom_25 (by decide) ?_
  refine A_bipush (v := nI 30) d_Bk_copyFrom_26 (by decide) ?_
  refine A_rgCpy (j := 1) (sp := 0) (dp := 0) (z := 30) (es' := (esB a ((fup (fup D.1 0 (E.1 0)) 1 (E.1 1)), (fup D.2 2 (va_cpy (E.2 2) (D.2 2) 0 0 30))))) d_Bk_copyFrom_28 q_609 q_603 q_602 q_16 ((M.far (m := 4) rfl (by omega)).trans hB.a2) M rfl ⟨by decide, by decide, by decide, by decide⟩ (Nat.le_of_ble_eq_true rfl) (by decide +kernel) rfl (fun h M => ?_)
  refine A_aload_n1 d_Bk_copyFrom_31 ?_
  refine A_getf (kf := 3) d_Bk_copyFrom_32 ((M.far (m := 4) rfl (by omega)).trans hB.o) ok_0 (by decide) q_154 rfl ?_
  refine A_iconst (v := nI 0) d_Bk_copyFrom_35 (by decide) ?_
  refine A_aload_n0 d_Bk_copyFrom_36 ?_
  refine A_getf (kf := 3) d_Bk_copyFrom_37 (M.get 0 rfl) ok_0 (by decide) q_154 rfl ?_
  refine A_iconst (v := nI 0) d_Bk_copyFrom_40 (by decide) ?_
  refine A_bipush (v := nI 30) d_Bk_copyFrom_41 (by decide) ?_
  refine A_rgCpy (j := 2) (sp := 0) (dp := 0) (z := 30) (es' := (esB a ((fup (fup D.1 0 (E.1 0)) 1 (E.1 1)), (fup (fup D.2 2 (va_cpy (E.2 2) (D.2 2) 0 0 30)) 3 (va_cpy (E.2 3) (D.2 3) 0 0 30))))) d_Bk_copyFrom_43 q_609 q_603 q_602 q_16 ((M.far (m := 4) rfl (by omega)).trans hB.a3) M rfl ⟨by decide, by decide, by decide, by decide⟩ (Nat.le_of_ble_eq_true rfl) (by decide +kernel) rfl (fun h M => ?_)
  refine A_aload_n1 d_Bk_copyFrom_46 ?_
  refine A_getf (kf := 4) d_Bk_copyFrom_47 ((M.far (m := 4) rfl (by omega)).trans hB.o) ok_0 (by decide) q_156 rfl ?_
  refine A_iconst (v := nI 0) d_Bk_copyFrom_50 (by decide) ?_
  refine A_aload_n0 d_Bk_copyFrom_51 ?_
  refine A_getf (kf := 4) d_Bk_copyFrom_52 (M.get 0 rfl) ok_0 (by decide) q_156 rfl ?_
  refine A_iconst (v := nI 0) d_Bk_copyFrom_55 (by decide) ?_
  refine A_bipush (v := nI 96) d_Bk_copyFrom_56 (by decide) ?_
  refine A_rgCpy (j := 3) (sp := 0) (dp := 0) (z := 96) (es' := (esB a ((fup (fup D.1 0 (E.1 0)) 1 (E.1 1)), (fup (fup (fup D.2 2 (va_cpy (E.2 2) (D.2 2) 0 0 30)) 3 (va_cpy (E.2 3) (D.2 3) 0 0 30)) 4 (va_cpy (E.2 4) (D.2 4) 0 0 96))))) d_Bk_copyFrom_58 q_609 q_603 q_602 q_16 ((M.far (m := 4) rfl (by omega)).trans hB.a4) M rfl ⟨by decide, by decide, by decide, by decide⟩ (Nat.le_of_ble_eq_true rfl) (by decide +kernel) rfl (fun h M => ?_)
  exact A_vret d_Bk_copyFrom_61 rfl ⟨Nat.zero_le _, Nat.zero_le _⟩ ⟨rfl, ((fup (fup D.1 0 (E.1 0)) 1 (E.1 1)), (fup (fup (fup D.2 2 (va_cpy (E.2 2) (D.2 2) 0 0 30)) 3 (va_cpy (E.2 3) (D.2 3) 0 0 30)) 4 (va_cpy (E.2 4) (D.2 4) 0 0 96))), M, rfl, rfl, fun j hj => va_cpy0 _ _ hj, fun j hj => va_cpy0 _ _ hj, fun j hj => va_cpy0 _ _ hj⟩
set_option maxHeartbeats 4000000 in
set_option maxRecDepth 100000 in
theorem c_Si_copyFrom {G : GE} {h : AH} {a b : Nat} {D E : LD} (hA : SAt h a D) (hB : SAt h b E) (hab : a + 4 ≤ b ∨ b + 4 ≤ a) : Ctr G y_Si_copyFrom b_Si_copyFrom 2 none r_Si_copyFrom [.ref a, .ref b] h (fun v h1 => v = none ∧ ∃ D1, Rg h h1 a (esS a D1) ∧ esSq D1 E) := by
  refine Ctr.of (by decide +kernel) (by simp) (Nat.le_of_ble_eq_true rfl) (L0 := [some (.ref a), some (.ref b)]) rfl ?_
  have M := SAt_rg hA
  refine A_aload_n0 d_Si_copyFrom_0 ?_
  refine A_aload_n1 d_Si_copyFrom_1 ?_
  refine A_getf (kf := 0) d_Si_copyFrom_2 ((M.far (m := 4) rfl (by omega)).trans hB.o) ok_4 (by decide) q_174 rfl ?_
  refine A_rgPut (kf := 0) (ty := .int) (j := 0) (es' := (esS a ((fup D.1 0 (E.1 0)), D.2))) d_Si_copyFrom_5 ok_4 (by decide) q_174 (Or.inl rfl) (by decide +kernel) rfl rfl M rfl (Nat.le_of_ble_eq_true rfl) rfl (fun h M => ?_)
  refine A_aload_n1 d_Si_copyFrom_8 ?_
  refine A_getf (kf := 1) d_Si_copyFrom_9 ((M.far (m := 4) rfl (by omega)).trans hB.o) ok_4 (by decide) q_177 rfl ?_
  refine A_iconst (v := nI 0) d_Si_copyFrom_12 (by decide) ?_
  refine A_aload_n0 d_Si_copyFrom_13 ?_
  refine A_getf (kf := 1) d_Si_copyFrom_14 (M.get 0 rfl) ok_4 (by decide) q_177 rfl ?_
  refine A_iconst (v := nI 0) d_Si_copyFrom_17 (by decide) ?_
  refine A_bipush (v := nI 20) d_Si_copyFrom_18 (by decide) ?_
  refine A_rgCpy (j := 1) (sp := 0) (dp := 0) (z := 20) (es' := (esS a ((fup D.1 0 (E.1 0)), (fup D.2 1 (va_cpy (E.2 1) (D.2 1) 0 0 20))))) d_Si_copyFrom_20 q_614 q_603 q_602 q_16 ((M.far (m := 4) rfl (by omega)).trans hB.a1) M rfl ⟨by decide, by decide, by decide, by decide⟩ (Nat.le_of_ble_eq_true rfl) (by decide +kernel) rfl (fun h M => ?_)
  refine A_aload_n1 d_Si_copyFrom_23 ?_
  refine A_getf (kf := 2) d_Si_copyFrom_24 ((M.far (m := 4) rfl (by omega)).trans hB.o) ok_4 (by decide) q_179 rfl ?_
  refine A_iconst (v := nI 0) d_Si_copyFrom_27 (by decide) ?_
  refine A_aload_n0 d_Si_copyFrom_28 ?_
  refine A_getf (kf := 2) d_Si_copyFrom_29 (M.get 0 rfl) ok_4 (by decide) q_179 rfl ?_
  refine A_iconst (v := nI 0) d_Si_copyFrom_32 (by decide) ?_
  refine A_bipush (v := nI 20) d_Si_copyFrom_33 (by decide) ?_
  refine A_rgCpy (j := 2) (sp := 0) (dp := 0) (z := 20) (es' := (esS a ((fup D.1 0 (E.1 0)), (fup (fup D.2 1 (va_cpy (E.2 1) (D.2 1) 0 0 20)) 2 (va_cpy (E.2 2) (D.2 2) 0 0 20))))) d_Si_copyFrom_35 q_614 q_603 q_602 q_16 ((M.far (m := 4) rfl (by omega)).trans hB.a2) M rfl ⟨by decide, by decide, by decide, by decide⟩ (Nat.le_of_ble_eq_true rfl) (by decide +kernel) rfl (fun h M => ?_)
  refine A_aload_n1 d_Si_copyFrom_38 ?_
  refine A_getf (kf := 3) d_Si_copyFrom_39 ((M.far (m := 4) rfl (by omega)).trans hB.o) ok_4 (by decide) q_181 rfl ?_
  refine A_iconst (v := nI 0) d_Si_copyFrom_42 (by decide) ?_
  refine A_aload_n0 d_Si_copyFrom_43 ?_
  refine A_getf (kf := 3) d_Si_copyFrom_44 (M.get 0 rfl) ok_4 (by decide) q_181 rfl ?_
  refine A_iconst (v := nI 0) d_Si_copyFrom_47 (by decide) ?_
  refine A_bipush (v := nI 20) d_Si_copyFrom_48 (by decide) ?_
  refine A_rgCpy (j := 3) (sp := 0) (dp := 0) (z := 20) (es' := (esS a ((fup D.1 0 (E.1 0)), (fup (fup (fup D.2 1 (va_cpy (E.2 1) (D.2 1) 0 0 20)) 2 (va_cpy (E.2 2) (D.2 2) 0 0 20)) 3 (va_cpy (E.2 3) (D.2 3) 0 0 20))))) d_Si_copyFrom_50 q_614 q_603 q_602 q_16 ((M.far (m := 4) rfl (by omega)).trans hB.a3) M rfl ⟨by decide, by decide, by decide, by decide⟩ (Nat.le_of_ble_eq_true rfl) (by decide +kernel) rfl (fun h M => ?_)
  exact A_vret d_Si_copyFrom_53 rfl ⟨Nat.zero_le _, Nat.zero_le _⟩ ⟨rfl, ((fup D.1 0 (E.1 0)), (fup (fup (fup D.2 1 (va_cpy (E.2 1) (D.2 1) 0 0 20)) 2 (va_cpy (E.2 2) (D.2 2) 0 0 20)) 3 (va_cpy (E.2 3) (D.2 3) 0 0 20))), M, rfl, fun j hj => va_cpy0 _ _ hj, fun j hj => va_cpy0 _ _ hj, fun j hj => va_cpy0 _ _ hj⟩
set_option maxHeartbeats 4000000 in
set_option maxRecDepth 100000 in
theorem c_Ld_copyFrom {G : GE} {h : AH} {a b : Nat} {D E : LD} (hA : LAt h a D) (hB : LAt h b E) {z13 z14 : Bool} (hZ13 : E.1 13 = bI z13) (hZ14 : E.1 14 = bI z14) (hab : a + 9 ≤ b ∨ b + 9 ≤ a) : Ctr G y_Ld_copyFrom b_Ld_copyFrom 2 none r_Ld_copyFrom [.ref a, .ref b] h (fun v h1 => v = none ∧ ∃ D1, Rg h h1 a (esL a D1) ∧ esLq D1 E) := by
  refine Ctr.of (by decide +kernel) (by simp) (Nat.le_of_ble_eq_true rfl) (L0 := [some (.ref a), some (.ref b)]) rfl ?_
  have M := LAt_rg hA
  refine A_aload_n0 d_Ld_copyFrom_0 ?_
  refine A_aload_n1 d_Ld_copyFrom_1 ?_
  refine A_getf (kf := 0) d_Ld_copyFrom_2 ((M.far (m := 9) rfl (by omega)).trans hB.o) ok_1 (by decide) q_45 rfl ?_
  refine A_rgPut (kf := 0) (ty := .int) (j := 0) (es' := (esL a ((fup D.1 0 (E.1 0)), D.2))) d_Ld_copyFrom_5 ok_1 (by decide) q_45 (Or.inl rfl) (by decide +kernel) rfl rfl M rfl (Nat.le_of_ble_eq_true rfl) rfl (fun h M => ?_)
  refine A_aload_n0 d_Ld_copyFrom_8 ?_
  refine A_aload_n1 d_Ld_copyFrom_9 ?_
  refine A_getf (kf := 1) d_Ld_copyFrom_10 ((M.far (m := 9) rfl (by omega)).trans hB.o) ok_1 (by decide) q_50 rfl ?_
  refine A_rgPut (kf := 1) (ty := .int) (j := 0) (es' := (esL a ((fup (fup D.1 0 (E.1 0)) 1 (E.1 1)), D.2))) d_Ld_copyFrom_13 ok_1 (by decide) q_50 (Or.inl rfl) (by decide +kernel) rfl rfl M rfl (Nat.le_of_ble_eq_true rfl) rfl (fun h M => ?_)
  refine A_aload_n0 d_Ld_copyFrom_16 ?_
  refine A_aload_n1 d_Ld_copyFrom_17 ?_
  refine A_getf (kf := 2) d_Ld_copyFrom_18 ((M.far (m := 9) rfl (by omega)).trans hB.o) ok_1 (by decide) q_54 rfl ?_
  refine A_rgPut (kf := 2) (ty := .int) (j := 0) (es' := (esL a ((fup (fup (fup D.1 0 (E.1 0)) 1 (E.1 1)) 2 (E.1 2)), D.2))) d_Ld_copyFrom_21 ok_1 (by decide) q_54 (Or.inl rfl) (by decide +kernel) rfl rfl M rfl (Nat.le_of_ble_eq_true rfl) rfl (fun h M => ?_)
  refine A_aload_n0 d_Ld_copyFrom_24 ?_
  refine A_aload_n1 d_Ld_copyFrom_25 ?_
  refine A_getf (kf := 3) d_Ld_copyFrom_26 ((M.far (m := 9) rfl (by omega)).trans hB.o) ok_1 (by decide) q_57 rfl ?_
  refine A_rgPut (kf := 3) (ty := .int) (j := 0) (es' := (esL a ((fup (fup (fup (fup D.1 0 (E.1 0)) 1 (E.1 1)) 2 (E.1 2)) 3 (E.1 3)), D.2))) d_Ld_copyFrom_29 ok_1 (by decide) q_57 (Or.inl rfl) (by decide +kernel) rfl rfl M rfl (Nat.le_of_ble_eq_true rfl) rfl (fun h M => ?_)
  refine A_aload_n0 d_Ld_copyFrom_32 ?_
  refine A_aload_n1 d_Ld_copyFrom_33 ?_
  refine A_getf (kf := 4) d_Ld_copyFrom_34 ((M.far (m := 9) rfl (by omega)).trans hB.o) ok_1 (by decide) q_60 rfl ?_
  refine A_rgPut (kf := 4) (ty := .int) (j := 0) (es' := (esL a ((fup (fup (fup (fup (fup D.1 0 (E.1 0)) 1 (E.1 1)) 2 (E.1 2)) 3 (E.1 3)) 4 (E.1 4)), D.2))) d_Ld_copyFrom_37 ok_1 (by decide) q_60 (Or.inl rfl) (by decide +kernel) rfl rfl M rfl (Nat.le_of_ble_eq_true rfl) rfl (fun h M => ?_)
  refine A_aload_n1 d_Ld_copyFrom_40 ?_
  refine A_getf (kf := 5) d_Ld_copyFrom_41 ((M.far (m := 9) rfl (by omega)).trans hB.o) ok_1 (by decide) q_63 rfl ?_
  refine A_iconst (v := nI 0) d_Ld_copyFrom_44 (by decide) ?_
  refine A_aload_n0 d_Ld_copyFrom_45 ?_
  refine A_getf (kf := 5) d_Ld_copyFrom_46 (M.get 0 rfl) ok_1 (by decide) q_63 rfl ?_
  refine A_iconst (v := nI 0) d_Ld_copyFrom_49 (by decide) ?_
  refine A_bipush (v := nI 10) d_Ld_copyFrom_50 (by decide) ?_
  refine A_rgCpy (j := 1) (sp := 0) (dp := 0) (z := 10) (es' := (esL a ((fup (fup (fup (fup (fup D.1 0 (E.1 0)) 1 (E.1 1)) 2 (E.1 2)) 3 (E.1 3)) 4 (E.1 4)), (fup D.2 5 (va_cpy (E.2 5) (D.2 5) 0 0 10))))) d_Ld_copyFrom_52 q_601 q_603 q_602 q_16 ((M.far (m := 9) rfl (by omega)).trans hB.a5) M rfl ⟨by decide, by decide, by decide, by decide⟩ (Nat.le_of_ble_eq_true rfl) (by decide +kernel) rfl (fun h M => ?_)
  refine A_aload_n1 d_Ld_copyFrom_55 ?_
  refine A_getf (kf := 6) d_Ld_copyFrom_56 ((M.far (m := 9) rfl (by omega)).trans hB.o) ok_1 (by decide) q_67 rfl ?_
  refine A_iconst (v := nI 0) d_Ld_copyFrom_59 (by decide) ?_
  refine A_aload_n0 d_Ld_copyFrom_60 ?_
  refine A_getf (kf := 6) d_Ld_copyFrom_61 (M.get 0 rfl) ok_1 (by decide) q_67 rfl ?_
  refine A_iconst (v := nI 0) d_Ld_copyFrom_64 (by decide) ?_
  refine A_bipush (v := nI 10) d_Ld_copyFrom_65 (by decide) ?_
  refine A_rgCpy (j := 2) (sp := 0) (dp := 0) (z := 10) (es' := (esL a ((fup (fup (fup (fup (fup D.1 0 (E.1 0)) 1 (E.1 1)) 2 (E.1 2)) 3 (E.1 3)) 4 (E.1 4)), (fup (fup D.2 5 (va_cpy (E.2 5) (D.2 5) 0 0 10)) 6 (va_cpy (E.2 6) (D.2 6) 0 0 10))))) d_Ld_copyFrom_67 q_601 q_603 q_602 q_16 ((M.far (m := 9) rfl (by omega)).trans hB.a6) M rfl ⟨by decide, by decide, by decide, by decide⟩ (Nat.le_of_ble_eq_true rfl) (by decide +kernel) rfl (fun h M => ?_)
  refine A_aload_n1 d_Ld_copyFrom_70 ?_
  refine A_getf (kf := 7) d_Ld_copyFrom_71 ((M.far (m := 9) rfl (by omega)).trans hB.o) ok_1 (by decide) q_70 rfl ?_
  refine A_iconst (v := nI 0) d_Ld_copyFrom_74 (by decide) ?_
  refine A_aload_n0 d_Ld_copyFrom_75 ?_
  refine A_getf (kf := 7) d_Ld_copyFrom_76 (M.get 0 rfl) ok_1 (by decide) q_70 rfl ?_
  refine A_iconst (v := nI 0) d_Ld_copyFrom_79 (by decide) ?_
  refine A_bipush (v := nI 10) d_Ld_copyFrom_80 (by decide) ?_
  refine A_rgCpy (j := 3) (sp := 0) (dp := 0) (z := 10) (es' := (esL a ((fup (fup (fup (fup (fup D.1 0 (E.1 0)) 1 (E.1 1)) 2 (E.1 2)) 3 (E.1 3)) 4 (E.1 4)), (fup (fup (fup D.2 5 (va_cpy (E.2 5) (D.2 5) 0 0 10)) 6 (va_cpy (E.2 6) (D.2 6) 0 0 10)) 7 (va_cpy (E.2 7) (D.2 7) 0 0 10))))) d_Ld_copyFrom_82 q_601 q_603 q_602 q_16 ((M.far (m := 9) rfl (by omega)).trans hB.a7) M rfl ⟨by decide, by decide, by decide, by decide⟩ (Nat.le_of_ble_eq_true rfl) (by decide +kernel) rfl (fun h M => ?_)
  refine A_aload_n1 d_Ld_copyFrom_85 ?_
  refine A_getf (kf := 8) d_Ld_copyFrom_86 ((M.far (m := 9) rfl (by omega)).trans hB.o) ok_1 (by decide) q_73 rfl ?_
  refine A_iconst (v := nI 0) d_Ld_copyFrom_89 (by decide) ?_
  refine A_aload_n0 d_Ld_copyFrom_90 ?_
  refine A_getf (kf := 8) d_Ld_copyFrom_91 (M.get 0 rfl) ok_1 (by decide) q_73 rfl ?_
  refine A_iconst (v := nI 0) d_Ld_copyFrom_94 (by decide) ?_
  refine A_sipush (v := nI 240) d_Ld_copyFrom_95 (by decide) ?_
  refine A_rgCpy (j := 4) (sp := 0) (dp := 0) (z := 240) (es' := (esL a ((fup (fup (fup (fup (fup D.1 0 (E.1 0)) 1 (E.1 1)) 2 (E.1 2)) 3 (E.1 3)) 4 (E.1 4)), (fup (fup (fup (fup D.2 5 (va_cpy (E.2 5) (D.2 5) 0 0 10)) 6 (va_cpy (E.2 6) (D.2 6) 0 0 10)) 7 (va_cpy (E.2 7) (D.2 7) 0 0 10)) 8 (va_cpy (E.2 8) (D.2 8) 0 0 240))))) d_Ld_copyFrom_98 q_601 q_603 q_602 q_16 ((M.far (m := 9) rfl (by omega)).trans hB.a8) M rfl ⟨by decide, by decide, by decide, by decide⟩ (Nat.le_of_ble_eq_true rfl) (by decide +kernel) rfl (fun h M => ?_)
  refine A_aload_n0 d_Ld_copyFrom_101 ?_
  refine A_aload_n1 d_Ld_copyFrom_102 ?_
  refine A_getf (kf := 9) d_Ld_copyFrom_103 ((M.far (m := 9) rfl (by omega)).trans hB.o) ok_1 (by decide) q_76 rfl ?_
  refine A_rgPut (kf := 9) (ty := .int) (j := 0) (es' := (esL a ((fup (fup (fup (fup (fup (fup D.1 0 (E.1 0)) 1 (E.1 1)) 2 (E.1 2)) 3 (E.1 3)) 4 (E.1 4)) 9 (E.1 9)), (fup (fup (fup (fup D.2 5 (va_cpy (E.2 5) (D.2 5) 0 0 10)) 6 (va_cpy (E.2 6) (D.2 6) 0 0 10)) 7 (va_cpy (E.2 7) (D.2 7) 0 0 10)) 8 (va_cpy (E.2 8) (D.2 8) 0 0 240))))) d_Ld_copyFrom_106 ok_1 (by decide) q_76 (Or.inl rfl) (by decide +kernel) rfl rfl M rfl (Nat.le_of_ble_eq_true rfl) rfl (fun h M => ?_)
  refine A_aload_n1 d_Ld_copyFrom_109 ?_
  refine A_getf (kf := 10) d_Ld_copyFrom_110 ((M.far (m := 9) rfl (by omega)).trans hB.o) ok_1 (by decide) q_79 rfl ?_
  refine A_iconst (v := nI 0) d_Ld_copyFrom_113 (by decide) ?_
  refine A_aload_n0 d_Ld_copyFrom_114 ?_
  refine A_getf (kf := 10) d_Ld_copyFrom_115 (M.get 0 rfl) ok_1 (by decide) q_79 rfl ?_
  refine A_iconst (v := nI 0) d_Ld_copyFrom_118 (by decide) ?_
  refine A_bipush (v := nI 6) d_Ld_copyFrom_119 (by decide) ?_
  refine A_rgCpy (j := 5) (sp := 0) (dp := 0) (z := 6) (es' := (esL a ((fup (fup (fup (fup (fup (fup D.1 0 (E.1 0)) 1 (E.1 1)) 2 (E.1 2)) 3 (E.1 3)) 4 (E.1 4)) 9 (E.1 9)), (fup (fup (fup (fup (fup D.2 5 (va_cpy (E.2 5) (D.2 5) 0 0 10)) 6 (va_cpy (E.2 6) (D.2 6) 0 0 10)) 7 (va_cpy (E.2 7) (D.2 7) 0 0 10)) 8 (va_cpy (E.2 8) (D.2 8) 0 0 240)) 10 (va_cpy (E.2 10) (D.2 10) 0 0 6))))) d_Ld_copyFrom_121 q_601 q_603 q_602 q_16 ((M.far (m := 9) rfl (by omega)).trans hB.a10) M rfl ⟨by decide, by decide, by decide, by decide⟩ (Nat.le_of_ble_eq_true rfl) (by decide +kernel) rfl (fun h M => ?_)
  refine A_aload_n1 d_Ld_copyFrom_124 ?_
  refine A_getf (kf := 11) d_Ld_copyFrom_125 ((M.far (m := 9) rfl (by omega)).trans hB.o) ok_1 (by decide) q_82 rfl ?_
  refine A_iconst (v := nI 0) d_Ld_copyFrom_128 (by decide) ?_
  refine A_aload_n0 d_Ld_copyFrom_129 ?_
  refine A_getf (kf := 11) d_Ld_copyFrom_130 (M.get 0 rfl) ok_1 (by decide) q_82 rfl ?_
  refine A_iconst (v := nI 0) d_Ld_copyFrom_133 (by decide) ?_
  refine A_bipush (v := nI 6) d_Ld_copyFrom_134 (by decide) ?_
  refine A_rgCpy (j := 6) (sp := 0) (dp := 0) (z := 6) (es' := (esL a ((fup (fup (fup (fup (fup (fup D.1 0 (E.1 0)) 1 (E.1 1)) 2 (E.1 2)) 3 (E.1 3)) 4 (E.1 4)) 9 (E.1 9)), (fup (fup (fup (fup (fup (fup D.2 5 (va_cpy (E.2 5) (D.2 5) 0 0 10)) 6 (va_cpy (E.2 6) (D.2 6) 0 0 10)) 7 (va_cpy (E.2 7) (D.2 7) 0 0 10)) 8 (va_cpy (E.2 8) (D.2 8) 0 0 240)) 10 (va_cpy (E.2 10) (D.2 10) 0 0 6)) 11 (va_cpy (E.2 11) (D.2 11) 0 0 6))))) d_Ld_copyFrom_136 q_601 q_603 q_602 q_16 ((M.far (m := 9) rfl (by omega)).trans hB.a11) M rfl ⟨by decide, by decide, by decide, by decide⟩ (Nat.le_of_ble_eq_true rfl) (by decide +kernel) rfl (fun h M => ?_)
  refine A_aload_n1 d_Ld_copyFrom_139 ?_
  refine A_getf (kf := 12) d_Ld_copyFrom_140 ((M.far (m := 9) rfl (by omega)).trans hB.o) ok_1 (by decide) q_85 rfl ?_
  refine A_iconst (v := nI 0) d_Ld_copyFrom_143 (by decide) ?_
  refine A_aload_n0 d_Ld_copyFrom_144 ?_
  refine A_getf (kf := 12) d_Ld_copyFrom_145 (M.get 0 rfl) ok_1 (by decide) q_85 rfl ?_
  refine A_iconst (v := nI 0) d_Ld_copyFrom_148 (by decide) ?_
  refine A_bipush (v := nI 24) d_Ld_copyFrom_149 (by decide) ?_
  refine A_rgCpy (j := 7) (sp := 0) (dp := 0) (z := 24) (es' := (esL a ((fup (fup (fup (fup (fup (fup D.1 0 (E.1 0)) 1 (E.1 1)) 2 (E.1 2)) 3 (E.1 3)) 4 (E.1 4)) 9 (E.1 9)), (fup (fup (fup (fup (fup (fup (fup D.2 5 (va_cpy (E.2 5) (D.2 5) 0 0 10)) 6 (va_cpy (E.2 6) (D.2 6) 0 0 10)) 7 (va_cpy (E.2 7) (D.2 7) 0 0 10)) 8 (va_cpy (E.2 8) (D.2 8) 0 0 240)) 10 (va_cpy (E.2 10) (D.2 10) 0 0 6)) 11 (va_cpy (E.2 11) (D.2 11) 0 0 6)) 12 (va_cpy (E.2 12) (D.2 12) 0 0 24))))) d_Ld_copyFrom_151 q_601 q_603 q_602 q_16 ((M.far (m := 9) rfl (by omega)).trans hB.a12) M rfl ⟨by decide, by decide, by decide, by decide⟩ (Nat.le_of_ble_eq_true rfl) (by decide +kernel) rfl (fun h M => ?_)
  refine A_aload_n0 d_Ld_copyFrom_154 ?_
  refine A_aload_n1 d_Ld_copyFrom_155 ?_
  refine A_getf (kf := 13) d_Ld_copyFrom_156 ((M.far (m := 9) rfl (by omega)).trans hB.o) ok_1 (by decide) q_89 rfl ?_
  refine A_rgPut (kf := 13) (ty := .boolean) (j := 0) (es' := (esL a ((fup (fup (fup (fup (fup (fup (fup D.1 0 (E.1 0)) 1 (E.1 1)) 2 (E.1 2)) 3 (E.1 3)) 4 (E.1 4)) 9 (E.1 9)) 13 (E.1 13)), (fup (fup (fup (fup (fup (fup (fup D.2 5 (va_cpy (E.2 5) (D.2 5) 0 0 10)) 6 (va_cpy (E.2 6) (D.2 6) 0 0 10)) 7 (va_cpy (E.2 7) (D.2 7) 0 0 10)) 8 (va_cpy (E.2 8) (D.2 8) 0 0 240)) 10 (va_cpy (E.2 10) (D.2 10) 0 0 6)) 11 (va_cpy (E.2 11) (D.2 11) 0 0 6)) 12 (va_cpy (E.2 12) (D.2 12) 0 0 24))))) d_Ld_copyFrom_159 ok_1 (by decide) q_89 (Or.inl rfl) (by decide +kernel) (by rw [show cv G (.int (E.1 13)) = .int (bI z13) from congrArg Value.int hZ13]; exact bI_nar _) (by rw [show cv G (.int (E.1 13)) = .int (bI z13) from congrArg Value.int hZ13]; cases z13 <;> rfl) M rfl (Nat.le_of_ble_eq_true rfl) rfl (fun h M => ?_)
  refine A_aload_n0 d_Ld_copyFrom_162 ?_
  refine A_aload_n1 d_Ld_copyFrom_163 ?_
  refine A_getf (kf := 14) d_Ld_copyFrom_164 ((M.far (m := 9) rfl (by omega)).trans hB.o) ok_1 (by decide) q_92 rfl ?_
  refine A_rgPut (kf := 14) (ty := .boolean) (j := 0) (es' := (esL a ((fup (fup (fup (fup (fup (fup (fup (fup D.1 0 (E.1 0)) 1 (E.1 1)) 2 (E.1 2)) 3 (E.1 3)) 4 (E.1 4)) 9 (E.1 9)) 13 (E.1 13)) 14 (E.1 14)), (fup (fup (fup (fup (fup (fup (fup D.2 5 (va_cpy (E.2 5) (D.2 5) 0 0 10)) 6 (va_cpy (E.2 6) (D.2 6) 0 0 10)) 7 (va_cpy (E.2 7) (D.2 7) 0 0 10)) 8 (va_cpy (E.2 8) (D.2 8) 0 0 240)) 10 (va_cpy (E.2 10) (D.2 10) 0 0 6)) 11 (va_cpy (E.2 11) (D.2 11) 0 0 6)) 12 (va_cpy (E.2 12) (D.2 12) 0 0 24))))) d_Ld_copyFrom_167 ok_1 (by decide) q_92 (Or.inl rfl) (by decide +kernel) (by rw [show cv G (.int (E.1 14)) = .int (bI z14) from congrArg Value.int hZ14]; exact bI_nar _) (by rw [show cv G (.int (E.1 14)) = .int (bI z14) from congrArg Value.int hZ14]; cases z14 <;> rfl) M rfl (Nat.le_of_ble_eq_true rfl) rfl (fun h M => ?_)
  refine A_aload_n0 d_Ld_copyFrom_170 ?_
  refine A_aload_n1 d_Ld_copyFrom_171 ?_
  refine A_getf (kf := 15) d_Ld_copyFrom_172 ((M.far (m := 9) rfl (by omega)).trans hB.o) ok_1 (by decide) q_94 rfl ?_
  refine A_rgPut (kf := 15) (ty := .int) (j := 0) (es' := (esL a ((fup (fup (fup (fup (fup (fup (fup (fup (fup D.1 0 (E.1 0)) 1 (E.1 1)) 2 (E.1 2)) 3 (E.1 3)) 4 (E.1 4)) 9 (E.1 9)) 13 (E.1 13)) 14 (E.1 14)) 15 (E.1 15)), (fup (fup (fup (fup (fup (fup (fup D.2 5 (va_cpy (E.2 5) (D.2 5) 0 0 10)) 6 (va_cpy (E.2 6) (D.2 6) 0 0 10)) 7 (va_cpy (E.2 7) (D.2 7) 0 0 10)) 8 (va_cpy (E.2 8) (D.2 8) 0 0 240)) 10 (va_cpy (E.2 10) (D.2 10) 0 0 6)) 11 (va_cpy (E.2 11) (D.2 11) 0 0 6)) 12 (va_cpy (E.2 12) (D.2 12) 0 0 24))))) d_Ld_copyFrom_175 ok_1 (by decide) q_94 (Or.inl rfl) (by decide +kernel) rfl rfl M rfl (Nat.le_of_ble_eq_true rfl) rfl (fun h M => ?_)
  refine A_aload_n0 d_Ld_copyFrom_178 ?_
  refine A_aload_n1 d_Ld_copyFrom_179 ?_
  refine A_getf (kf := 16) d_Ld_copyFrom_180 ((M.far (m := 9) rfl (by omega)).trans hB.o) ok_1 (by decide) q_97 rfl ?_
  refine A_rgPut (kf := 16) (ty := .int) (j := 0) (es' := (esL a ((fup (fup (fup (fup (fup (fup (fup (fup (fup (fup D.1 0 (E.1 0)) 1 (E.1 1)) 2 (E.1 2)) 3 (E.1 3)) 4 (E.1 4)) 9 (E.1 9)) 13 (E.1 13)) 14 (E.1 14)) 15 (E.1 15)) 16 (E.1 16)), (fup (fup (fup (fup (fup (fup (fup D.2 5 (va_cpy (E.2 5) (D.2 5) 0 0 10)) 6 (va_cpy (E.2 6) (D.2 6) 0 0 10)) 7 (va_cpy (E.2 7) (D.2 7) 0 0 10)) 8 (va_cpy (E.2 8) (D.2 8) 0 0 240)) 10 (va_cpy (E.2 10) (D.2 10) 0 0 6)) 11 (va_cpy (E.2 11) (D.2 11) 0 0 6)) 12 (va_cpy (E.2 12) (D.2 12) 0 0 24))))) d_Ld_copyFrom_183 ok_1 (by decide) q_97 (Or.inl rfl) (by decide +kernel) rfl rfl M rfl (Nat.le_of_ble_eq_true rfl) rfl (fun h M => ?_)
  refine A_aload_n1 d_Ld_copyFrom_186 ?_
  refine A_getf (kf := 17) d_Ld_copyFrom_187 ((M.far (m := 9) rfl (by omega)).trans hB.o) ok_1 (by decide) q_100 rfl ?_
  refine A_iconst (v := nI 0) d_Ld_copyFrom_190 (by decide) ?_
  refine A_aload_n0 d_Ld_copyFrom_191 ?_
  refine A_getf (kf := 17) d_Ld_copyFrom_192 (M.get 0 rfl) ok_1 (by decide) q_100 rfl ?_
  refine A_iconst (v := nI 0) d_Ld_copyFrom_195 (by decide) ?_
  refine A_bipush (v := nI 24) d_Ld_copyFrom_196 (by decide) ?_
  refine A_rgCpy (j := 8) (sp := 0) (dp := 0) (z := 24) (es' := (esL a ((fup (fup (fup (fup (fup (fup (fup (fup (fup (fup D.1 0 (E.1 0)) 1 (E.1 1)) 2 (E.1 2)) 3 (E.1 3)) 4 (E.1 4)) 9 (E.1 9)) 13 (E.1 13)) 14 (E.1 14)) 15 (E.1 15)) 16 (E.1 16)), (fup (fup (fup (fup (fup (fup (fup (fup D.2 5 (va_cpy (E.2 5) (D.2 5) 0 0 10)) 6 (va_cpy (E.2 6) (D.2 6) 0 0 10)) 7 (va_cpy (E.2 7) (D.2 7) 0 0 10)) 8 (va_cpy (E.2 8) (D.2 8) 0 0 240)) 10 (va_cpy (E.2 10) (D.2 10) 0 0 6)) 11 (va_cpy (E.2 11) (D.2 11) 0 0 6)) 12 (va_cpy (E.2 12) (D.2 12) 0 0 24)) 17 (va_cpy (E.2 17) (D.2 17) 0 0 24))))) d_Ld_copyFrom_198 q_601 q_603 q_602 q_16 ((M.far (m := 9) rfl (by omega)).trans hB.a17) M rfl ⟨by decide, by decide, by decide, by decide⟩ (Nat.le_of_ble_eq_true rfl) (by decide +kernel) rfl (fun h M => ?_)
  exact A_vret d_Ld_copyFrom_201 rfl ⟨Nat.zero_le _, Nat.zero_le _⟩ ⟨rfl, ((fup (fup (fup (fup (fup (fup (fup (fup (fup (fup D.1 0 (E.1 0)) 1 (E.1 1)) 2 (E.1 2)) 3 (E.1 3)) 4 (E.1 4)) 9 (E.1 9)) 13 (E.1 13)) 14 (E.1 14)) 15 (E.1 15)) 16 (E.1 16)), (fup (fup (fup (fup (fup (fup (fup (fup D.2 5 (va_cpy (E.2 5) (D.2 5) 0 0 10)) 6 (va_cpy (E.2 6) (D.2 6) 0 0 10)) 7 (va_cpy (E.2 7) (D.2 7) 0 0 10)) 8 (va_cpy (E.2 8) (D.2 8) 0 0 240)) 10 (va_cpy (E.2 10) (D.2 10) 0 0 6)) 11 (va_cpy (E.2 11) (D.2 11) 0 0 6)) 12 (va_cpy (E.2 12) (D.2 12) 0 0 24)) 17 (va_cpy (E.2 17) (D.2 17) 0 0 24))), M, rfl, rfl, rfl, rfl, rfl, rfl, rfl, rfl, rfl, rfl, fun j hj => va_cpy0 _ _ hj, fun j hj => va_cpy0 _ _ hj, fun j hj => va_cpy0 _ _ hj, fun j hj => va_cpy0 _ _ hj, fun j hj => va_cpy0 _ _ hj, fun j hj => va_cpy0 _ _ hj, fun j hj => va_cpy0 _ _ hj, fun j hj => va_cpy0 _ _ hj⟩
/-- cleared -/
def clBk (D : LD) : LD := ((fup (fup D.1 0 (nI 0)) 1 (nI 0)), D.2)
set_option maxHeartbeats 4000000 in
set_option maxRecDepth 100000 in
theorem c_Bk_clear {G : GE} {h : AH} {a : Nat} {D : LD} (hA : BAt h a D) : Ctr G y_Bk_clear b_Bk_clear 1 none r_Bk_clear [.ref a] h (fun v h1 => v = none ∧ Rg h h1 a (esB a (clBk D))) := by
  refine Ctr.of (by decide +kernel) (by simp) (Nat.le_of_ble_eq_true rfl) (L0 := [some (.ref a)]) rfl ?_
  have M := BAt_rg hA
  refine A_aload_n0 d_Bk_clear_0 ?_
  refine A_iconst (v := nI 0) d_Bk_clear_1 (by decide) ?_
  refine A_rgPut (kf := 0) (ty := .int) (j := 0) (es' := (esB a ((fup D.1 0 (nI 0)), D.2))) d_Bk_clear_2 ok_0 (by decide) q_146 (Or.inl rfl) (by decide +kernel) rfl rfl M rfl (Nat.le_of_ble_eq_true rfl) rfl (fun h M => ?_)
  refine A_aload_n0 d_Bk_clear_5 ?_
  refine A_iconst (v := nI 0) d_Bk_clear_6 (by decide) ?_
  refine A_rgPut (kf := 1) (ty := .int) (j := 0) (es' := (esB a ((fup (fup D.1 0 (nI 0)) 1 (nI 0)), D.2))) d_Bk_clear_7 ok_0 (by decide) q_149 (Or.inl rfl) (by decide +kernel) rfl rfl M rfl (Nat.le_of_ble_eq_true rfl) rfl (fun h M => ?_)
  exact A_vret d_Bk_clear_10 rfl ⟨Nat.zero_le _, Nat.zero_le _⟩ ⟨rfl, M⟩
/-- cleared -/
def clLd (D : LD) : LD := ((fup (fup (fup (fup (fup (fup (fup D.1 0 (nI 12)) 1 (nI 1)) 2 (nI 0)) 3 (nI 1)) 4 (nI 0)) 9 (nI 0)) 13 (nI 0)), (fup (fup D.2 8 (filF (D.2 8) (nI 0) 0 240)) 12 (filF (D.2 12) (nI 0) 0 24)))
set_option maxHeartbeats 4000000 in
set_option maxRecDepth 100000 in
theorem c_Ld_clear {G : GE} {h : AH} {a : Nat} {D : LD} (hA : LAt h a D) : Ctr G y_Ld_clear b_Ld_clear 1 none r_Ld_clear [.ref a] h (fun v h1 => v = none ∧ Rg h h1 a (esL a (clLd D))) := by
  refine Ctr.of (by decide +kernel) (by simp) (Nat.le_of_ble_eq_true rfl) (L0 := [some (.ref a)]) rfl ?_
  have M := LAt_rg hA
  refine A_aload_n0 d_Ld_clear_0 ?_
  refine A_bipush (v := nI 12) d_Ld_clear_1 (by decide) ?_
  refine A_rgPut (kf := 0) (ty := .int) (j := 0) (es' := (esL a ((fup D.1 0 (nI 12)), D.2))) d_Ld_clear_3 ok_1 (by decide) q_45 (Or.inl rfl) (by decide +kernel) rfl rfl M rfl (Nat.le_of_ble_eq_true rfl) rfl (fun h M => ?_)
  refine A_aload_n0 d_Ld_clear_6 ?_
  refine A_iconst (v := nI 1) d_Ld_clear_7 (by decide) ?_
  refine A_rgPut (kf := 1) (ty := .int) (j := 0) (es' := (esL a ((fup (fup D.1 0 (nI 12)) 1 (nI 1)), D.2))) d_Ld_clear_8 ok_1 (by decide) q_50 (Or.inl rfl) (by decide +kernel) rfl rfl M rfl (Nat.le_of_ble_eq_true rfl) rfl (fun h M => ?_)
  refine A_aload_n0 d_Ld_clear_11 ?_
  refine A_iconst (v := nI 0) d_Ld_clear_12 (by decide) ?_
  refine A_rgPut (kf := 2) (ty := .int) (j := 0) (es' := (esL a ((fup (fup (fup D.1 0 (nI 12)) 1 (nI 1)) 2 (nI 0)), D.2))) d_Ld_clear_13 ok_1 (by decide) q_54 (Or.inl rfl) (by decide +kernel) rfl rfl M rfl (Nat.le_of_ble_eq_true rfl) rfl (fun h M => ?_)
  refine A_aload_n0 d_Ld_clear_16 ?_
  refine A_iconst (v := nI 1) d_Ld_clear_17 (by decide) ?_
  refine A_rgPut (kf := 3) (ty := .int) (j := 0) (es' := (esL a ((fup (fup (fup (fup D.1 0 (nI 12)) 1 (nI 1)) 2 (nI 0)) 3 (nI 1)), D.2))) d_Ld_clear_18 ok_1 (by decide) q_57 (Or.inl rfl) (by decide +kernel) rfl rfl M rfl (Nat.le_of_ble_eq_true rfl) rfl (fun h M => ?_)
  refine A_aload_n0 d_Ld_clear_21 ?_
  refine A_iconst (v := nI 0) d_Ld_clear_22 (by decide) ?_
  refine A_rgPut (kf := 4) (ty := .int) (j := 0) (es' := (esL a ((fup (fup (fup (fup (fup D.1 0 (nI 12)) 1 (nI 1)) 2 (nI 0)) 3 (nI 1)) 4 (nI 0)), D.2))) d_Ld_clear_23 ok_1 (by decide) q_60 (Or.inl rfl) (by decide +kernel) rfl rfl M rfl (Nat.le_of_ble_eq_true rfl) rfl (fun h M => ?_)
  refine A_aload_n0 d_Ld_clear_26 ?_
  refine A_iconst (v := nI 0) d_Ld_clear_27 (by decide) ?_
  refine A_rgPut (kf := 9) (ty := .int) (j := 0) (es' := (esL a ((fup (fup (fup (fup (fup (fup D.1 0 (nI 12)) 1 (nI 1)) 2 (nI 0)) 3 (nI 1)) 4 (nI 0)) 9 (nI 0)), D.2))) d_Ld_clear_28 ok_1 (by decide) q_76 (Or.inl rfl) (by decide +kernel) rfl rfl M rfl (Nat.le_of_ble_eq_true rfl) rfl (fun h M => ?_)
  refine A_aload_n0 d_Ld_clear_31 ?_
  refine A_getf (kf := 8) d_Ld_clear_32 (M.get 0 rfl) ok_1 (by decide) q_73 rfl ?_
  refine A_iconst (v := nI 0) d_Ld_clear_35 (by decide) ?_
  refine A_callS d_Ld_clear_36 (c_JA_fill_0 (M.get 4 rfl) (M.ge _) (by decide) _) q_425 q_426 mk_JA_fill_0 rfl (by decide) rfl (Nat.le_of_ble_eq_true rfl) ⟨Nat.le_of_ble_eq_true rfl, Nat.le_of_ble_eq_true rfl⟩ ?_
  rintro _ _ ⟨rfl, rfl⟩
  replace M := M.put (j := 4) (e := .inl (0, 240, .inl (filF (D.2 8) (nI 0) 0 240))) rfl
  replace M : Rg _ _ a (esL a ((fup (fup (fup (fup (fup (fup D.1 0 (nI 12)) 1 (nI 1)) 2 (nI 0)) 3 (nI 1)) 4 (nI 0)) 9 (nI 0)), (fup D.2 8 (filF (D.2 8) (nI 0) 0 240)))) := M
  refine A_aload_n0 d_Ld_clear_39 ?_
  refine A_getf (kf := 12) d_Ld_clear_40 (M.get 0 rfl) ok_1 (by decide) q_85 rfl ?_
  refine A_iconst (v := nI 0) d_Ld_clear_43 (by decide) ?_
  refine A_callS d_Ld_clear_44 (c_JA_fill_0 (M.get 7 rfl) (M.ge _) (by decide) _) q_425 q_426 mk_JA_fill_0 rfl (by decide) rfl (Nat.le_of_ble_eq_true rfl) ⟨Nat.le_of_ble_eq_true rfl, Nat.le_of_ble_eq_true rfl⟩ ?_
  rintro _ _ ⟨rfl, rfl⟩
  replace M := M.put (j := 7) (e := .inl (0, 24, .inl (filF (D.2 12) (nI 0) 0 24))) rfl
  replace M : Rg _ _ a (esL a ((fup (fup (fup (fup (fup (fup D.1 0 (nI 12)) 1 (nI 1)) 2 (nI 0)) 3 (nI 1)) 4 (nI 0)) 9 (nI 0)), (fup (fup D.2 8 (filF (D.2 8) (nI 0) 0 240)) 12 (filF (D.2 12) (nI 0) 0 24)))) := M
  refine A_aload_n0 d_Ld_clear_47 ?_
  refine A_iconst (v := nI 0) d_Ld_clear_48 (by decide) ?_
  refine A_rgPut (kf := 13) (ty := .boolean) (j := 0) (es' := (esL a ((fup (fup (fup (fup (fup (fup (fup D.1 0 (nI 12)) 1 (nI 1)) 2 (nI 0)) 3 (nI 1)) 4 (nI 0)) 9 (nI 0)) 13 (nI 0)), (fup (fup D.2 8 (filF (D.2 8) (nI 0) 0 240)) 12 (filF (D.2 12) (nI 0) 0 24))))) d_Ld_clear_49 ok_1 (by decide) q_89 (Or.inl rfl) (by decide +kernel) rfl rfl M rfl (Nat.le_of_ble_eq_true rfl) rfl (fun h M => ?_)
  exact A_vret d_Ld_clear_52 rfl ⟨Nat.zero_le _, Nat.zero_le _⟩ ⟨rfl, M⟩
