theorem fup_2 {α : Type} (f : Nat → α) (k : Nat) (a b : α) : fup (fup f k a) k b = fup f k b := funext fun j => by
  unfold fup
  by_cases z : j = k
  · rw [if_pos z, if_pos z]
  · rw [if_neg z, if_neg z, if_neg z]
section RGR2
variable {G : GE} {y : MethodName} {cc : ByteArray} {nL : Nat} {ret : Option FieldType} {R : Room} {mc ms : Nat} {K : Option Value → AH → Prop} {u n pc : Nat} {L : List (Option Value)} {st : List Value} {h0 h : AH} {q : Nat} {D : LD}
theorem A_rgI (ES : LD → List va_E) (fs : LD → List Value) {ci kf index N : Nat} {C : String} {T : u_T} {t0 : Nat → FieldType} {x : Int32} (d : decode cc pc = .ok (.putfield index, 3)) (ok : ClsOK ci C T N t0) (hk : kf < N) (hw : (.fieldLink y.cls index (T kf).1 (T kf).2.1 (T kf).2.2.1 : Cond) ∈ lw_g) (hfin : (T kf).2.2.2 = false ∨ ((T kf).2.2.2 = true ∧ y.name = "<init>" ∧ (T kf).1 = y.cls)) (hd : parseFieldDescriptor (T kf).2.2.1 = some .int) (M : Rg h0 h q (ES D)) (hq : (ES D)[0]? = some (.inr (ci, fs D))) (hl : kf < (fs D).length) (he : (ES D).set 0 (.inr (ci, (fs D).set kf (.int x))) = ES (fup D.1 kf x, D.2))
    (k : ∀ h1, Rg h0 h1 q (ES (fup D.1 kf x, D.2)) → WA G y cc nL ret R mc ms K u n (pc + 3) L st h1) : WA G y cc nL ret R mc ms K u n pc L (.int x :: .ref q :: st) h :=
  A_rgPut (j := 0) (ty := .int) d ok hk hw hfin hd rfl rfl M hq hl he k
theorem A_rgA (ES : LD → List va_E) {j kk len i : Nat} {x : Int32} (d : decode cc pc = .ok (.iastore, 1)) (M : Rg h0 h q (ES D)) (hj : (ES D)[j]? = some (.inl (0, len, .inl (D.2 kk)))) (hi : i < len ∧ len < 2 ^ 31) (he : (ES D).set j (.inl (0, len, .inl (fup (D.2 kk) i x))) = ES (D.1, fup D.2 kk (fup (D.2 kk) i x)))
    (k : ∀ h1, Rg h0 h1 q (ES (D.1, fup D.2 kk (fup (D.2 kk) i x))) → WA G y cc nL ret R mc ms K u n (pc + 1) L st h1) : WA G y cc nL ret R mc ms K u n pc L (.int x :: .int (nI i) :: .ref (q + j) :: st) h :=
  A_iastN (q := q + j) d (M.get j hj) hi (M.ge j) (k _ (he ▸ M.put hj))
end RGR2
section RDR2
variable {G : GE} {y : MethodName} {cc : ByteArray} {nL : Nat} {ret : Option FieldType} {R : Room} {mc ms : Nat} {K : Option Value → AH → Prop} {u n pc : Nat} {L : List (Option Value)} {st : List Value} {h0 h : AH} {r : Nat} {Z : RC}
theorem A_rdLd {kf index : Nat} {x : Int32} (d : decode cc pc = .ok (.putfield index, 3)) (hk : kf < 18) (hw : (.fieldLink y.cls index (TX1 kf).1 (TX1 kf).2.1 (TX1 kf).2.2.1 : Cond) ∈ lw_g) (hfin : (TX1 kf).2.2.2 = false ∨ ((TX1 kf).2.2.2 = true ∧ y.name = "<init>" ∧ (TX1 kf).1 = y.cls)) (hd : parseFieldDescriptor (TX1 kf).2.2.1 = some .int) (M : RdW h0 h r Z) (he : (esL (r + 3) Z.2.2.2.1).set 0 (.inr (1, (ldfs (r + 3) Z.2.2.2.1).set kf (.int x))) = esL (r + 3) (fup Z.2.2.2.1.1 kf x, Z.2.2.2.1.2))
    (k : ∀ h1, RdW h0 h1 r (Z.1, Z.2.1, Z.2.2.1, (fup Z.2.2.2.1.1 kf x, Z.2.2.2.1.2), Z.2.2.2.2) → WA G y cc nL ret R mc ms K u n (pc + 3) L st h1) : WA G y cc nL ret R mc ms K u n pc L (.int x :: .ref (r + 3) :: st) h :=
  A_rgI (esL (r + 3)) (ldfs (r + 3)) d ok_1 hk hw hfin hd (LAt_rg M.1.ld) rfl (by show kf < 18; exact hk) he (fun h1 Q => k h1 (M.land Q))
theorem A_rdLa {j kk len i : Nat} {x : Int32} (d : decode cc pc = .ok (.iastore, 1)) (M : RdW h0 h r Z) (hj : (esL (r + 3) Z.2.2.2.1)[j]? = some (.inl (0, len, .inl (Z.2.2.2.1.2 kk)))) (hi : i < len ∧ len < 2 ^ 31) (he : (esL (r + 3) Z.2.2.2.1).set j (.inl (0, len, .inl (fup (Z.2.2.2.1.2 kk) i x))) = esL (r + 3) (Z.2.2.2.1.1, fup Z.2.2.2.1.2 kk (fup (Z.2.2.2.1.2 kk) i x)))
    (k : ∀ h1, RdW h0 h1 r (Z.1, Z.2.1, Z.2.2.1, (Z.2.2.2.1.1, fup Z.2.2.2.1.2 kk (fup (Z.2.2.2.1.2 kk) i x)), Z.2.2.2.2) → WA G y cc nL ret R mc ms K u n (pc + 1) L st h1) : WA G y cc nL ret R mc ms K u n pc L (.int x :: .int (nI i) :: .ref (r + 3 + j) :: st) h :=
  A_rgA (esL (r + 3)) d (LAt_rg M.1.ld) hj hi he (fun h1 Q => k h1 (M.land Q))
theorem RdW.lfil {j kk len : Nat} {g : Nat → Int32} (M : RdW h0 h r Z) (hj : (esL (r + 3) Z.2.2.2.1)[j]? = some (.inl (0, len, .inl (Z.2.2.2.1.2 kk)))) (he : (esL (r + 3) Z.2.2.2.1).set j (.inl (0, len, .inl g)) = esL (r + 3) (Z.2.2.2.1.1, fup Z.2.2.2.1.2 kk g)) : RdW h0 (hset h (r + 3 + j) (.inl (0, len, .inl g))) r (Z.1, Z.2.1, Z.2.2.1, (Z.2.2.2.1.1, fup Z.2.2.2.1.2 kk g), Z.2.2.2.2) :=
  M.land (he ▸ (LAt_rg M.1.ld).put hj)
end RDR2
set_option maxHeartbeats 4000000 in
set_option maxRecDepth 100000 in
theorem c_Bk_add {G : GE} {h : AH} {a : Nat} {D : LD} (hA : BAt h a D) {s t pl l : Nat} (f0 : D.1 0 = nI s) (f1 : D.1 1 = nI t) (hs : s < 30) (ht : t ≤ 720) (hl : 1 ≤ l ∧ l ≤ 24) (hpl : pl ≤ 2)  : Ctr G y_Bk_add b_Bk_add 4 none r_Bk_add [.ref a, .int (nI pl), .int (nI l)] h (fun v h1 => v = none ∧ Rg h h1 a (esB a (fup (fup D.1 0 (nI (s + 1))) 1 (nI (t + l)), fup (fup (fup D.2 2 (fup (D.2 2) s (nI pl))) 3 (fup (D.2 3) s (nI l))) 4 (fun j => if t ≤ j ∧ j < t + l ∧ j < 96 then nI pl else D.2 4 j)))) := by
  refine Ctr.of (by decide +kernel) (by simp) (Nat.le_of_ble_eq_true rfl) (L0 := [some (.ref a), some (.int (nI pl)), some (.int (nI l)), none]) rfl ?_
  have M := BAt_rg hA
  obtain ⟨e, he⟩ : ∃ e, e = (if 96 ≤ t then t else if t + l ≤ 96 then t + l else 96) := ⟨_, rfl⟩
  have key : ∀ i, i ≤ e → t ≤ i → ∀ h', Rg h h' a (esB a (fup D.1 0 (nI (s + 1)), fup (fup (fup D.2 2 (fup (D.2 2) s (nI pl))) 3 (fup (D.2 3) s (nI l))) 4 (filF (D.2 4) (nI pl) t i))) → WA G y_Bk_add b_Bk_add 4 none r_Bk_add 0 0 (fun v h1 => v = none ∧ Rg h h1 a (esB a (fup (fup D.1 0 (nI (s + 1))) 1 (nI (t + l)), fup (fup (fup D.2 2 (fup (D.2 2) s (nI pl))) 3 (fup (D.2 3) s (nI l))) 4 (fun j => if t ≤ j ∧ j < t + l ∧ j < 96 then nI pl else D.2 4 j)))) 0 0 45 [some (.ref a), some (.int (nI pl)), some (.int (nI l)), some (.int (nI i))] [] h' := by
    refine down ?_ (fun i hi ih => ?_)
    · intro hti h' M
      have hes : e = t ∧ 96 ≤ t ∨ t < 96 ∧ e = t + l ∧ t + l ≤ 96 ∨ t < 96 ∧ e = 96 ∧ 96 < t + l := by
        subst he
        split
        · omega
        · split <;> omega
      refine A_iload_n3 d_Bk_add_45 ?_
      refine A_aload_n0 d_Bk_add_46 ?_
      refine A_getf (kf := 1) d_Bk_add_47 (M.get 0 rfl) ok_0 (by decide) q_149 rfl ?_
      refine A_topI (show fup D.1 0 (nI (s + 1)) 1 = nI t from (fup_ne D.1 _ (show (1 : Nat) ≠ 0 by decide)).trans f1) ?_
      refine A_iload_n2 d_Bk_add_50 ?_
      first | refine A_iaddN d_Bk_add_51 (by with_reducible rfl) (by with_reducible rfl) ?_ | refine A_iadd d_Bk_add_51 ?_
      first | refine A_icmp_geN (tgt := 74) d_Bk_add_52 (by decide) (by with_reducible rfl) (by with_reducible rfl) (by omega) (by omega) (fun c_52 => ?_) (fun c_52 => ?_) | refine A_icmp_ge (tgt := 74) d_Bk_add_52 (by decide) (fun c_52 => ?_) (fun c_52 => ?_)
      · refine A_aload_n0 d_Bk_add_74 ?_
        first | refine A_dupR d_Bk_add_75 ?_ | refine A_dupI d_Bk_add_75 ?_
        refine A_getf (kf := 1) d_Bk_add_76 (M.get 0 rfl) ok_0 (by decide) q_149 rfl ?_
        refine A_topI (show fup D.1 0 (nI (s + 1)) 1 = nI t from (fup_ne D.1 _ (show (1 : Nat) ≠ 0 by decide)).trans f1) ?_
        refine A_iload_n2 d_Bk_add_79 ?_
        first | refine A_iaddN d_Bk_add_80 (by with_reducible rfl) (by with_reducible rfl) ?_ | refine A_iadd d_Bk_add_80 ?_
        refine A_rgI (esB a) (bkfs a) (kf := 1) d_Bk_add_81 ok_0 (by decide) q_149 (Or.inl rfl) (by decide +kernel) M rfl (Nat.le_of_ble_eq_true rfl) rfl (fun h M => ?_)
        refine A_vret d_Bk_add_84 rfl ⟨Nat.zero_le _, Nat.zero_le _⟩ ?_
        refine ⟨rfl, ?_⟩
        rw [show (fun j => if t ≤ j ∧ j < t + l ∧ j < 96 then nI pl else D.2 4 j) = filF (D.2 4) (nI pl) t e from funext fun j => by
          unfold filF
          subst he
          by_cases z : t ≤ j ∧ j < t + l ∧ j < 96
          · rw [if_pos z, if_pos ⟨z.1, by split <;> (try split) <;> omega⟩]
          · rw [if_neg z, if_neg (fun w => z ⟨w.1, by have := w.2; revert this; split <;> (try split) <;> omega, by have := w.2; revert this; split <;> (try split) <;> omega⟩)]]
        exact M
      · refine A_iload_n3 d_Bk_add_55 ?_
        refine A_bipush (v := nI 96) d_Bk_add_56 (by decide) ?_
        first | refine A_icmp_geN (tgt := 74) d_Bk_add_58 (by decide) (by with_reducible rfl) (by with_reducible rfl) (by omega) (by omega) (fun c_58 => ?_) (fun c_58 => ?_) | refine A_icmp_ge (tgt := 74) d_Bk_add_58 (by decide) (fun c_58 => ?_) (fun c_58 => ?_)
        · refine A_aload_n0 d_Bk_add_74 ?_
          first | refine A_dupR d_Bk_add_75 ?_ | refine A_dupI d_Bk_add_75 ?_
          refine A_getf (kf := 1) d_Bk_add_76 (M.get 0 rfl) ok_0 (by decide) q_149 rfl ?_
          refine A_topI (show fup D.1 0 (nI (s + 1)) 1 = nI t from (fup_ne D.1 _ (show (1 : Nat) ≠ 0 by decide)).trans f1) ?_
          refine A_iload_n2 d_Bk_add_79 ?_
          first | refine A_iaddN d_Bk_add_80 (by with_reducible rfl) (by with_reducible rfl) ?_ | refine A_iadd d_Bk_add_80 ?_
          refine A_rgI (esB a) (bkfs a) (kf := 1) d_Bk_add_81 ok_0 (by decide) q_149 (Or.inl rfl) (by decide +kernel) M rfl (Nat.le_of_ble_eq_true rfl) rfl (fun h M => ?_)
          refine A_vret d_Bk_add_84 rfl ⟨Nat.zero_le _, Nat.zero_le _⟩ ?_
          refine ⟨rfl, ?_⟩
          rw [show (fun j => if t ≤ j ∧ j < t + l ∧ j < 96 then nI pl else D.2 4 j) = filF (D.2 4) (nI pl) t e from funext fun j => by
            unfold filF
            subst he
            by_cases z : t ≤ j ∧ j < t + l ∧ j < 96
            · rw [if_pos z, if_pos ⟨z.1, by split <;> (try split) <;> omega⟩]
            · rw [if_neg z, if_neg (fun w => z ⟨w.1, by have := w.2; revert this; split <;> (try split) <;> omega, by have := w.2; revert this; split <;> (try split) <;> omega⟩)]]
          exact M
        · exfalso
          omega
    · intro hti h' M
      have hes : e = t ∧ 96 ≤ t ∨ t < 96 ∧ e = t + l ∧ t + l ≤ 96 ∨ t < 96 ∧ e = 96 ∧ 96 < t + l := by
        subst he
        split
        · omega
        · split <;> omega
      refine A_iload_n3 d_Bk_add_45 ?_
      refine A_aload_n0 d_Bk_add_46 ?_
      refine A_getf (kf := 1) d_Bk_add_47 (M.get 0 rfl) ok_0 (by decide) q_149 rfl ?_
      refine A_topI (show fup D.1 0 (nI (s + 1)) 1 = nI t from (fup_ne D.1 _ (show (1 : Nat) ≠ 0 by decide)).trans f1) ?_
      refine A_iload_n2 d_Bk_add_50 ?_
      first | refine A_iaddN d_Bk_add_51 (by with_reducible rfl) (by with_reducible rfl) ?_ | refine A_iadd d_Bk_add_51 ?_
      first | refine A_icmp_geN (tgt := 74) d_Bk_add_52 (by decide) (by with_reducible rfl) (by with_reducible rfl) (by omega) (by omega) (fun c_52 => ?_) (fun c_52 => ?_) | refine A_icmp_ge (tgt := 74) d_Bk_add_52 (by decide) (fun c_52 => ?_) (fun c_52 => ?_)
      · exfalso
        omega
      · refine A_iload_n3 d_Bk_add_55 ?_
        refine A_bipush (v := nI 96) d_Bk_add_56 (by decide) ?_
        first | refine A_icmp_geN (tgt := 74) d_Bk_add_58 (by decide) (by with_reducible rfl) (by with_reducible rfl) (by omega) (by omega) (fun c_58 => ?_) (fun c_58 => ?_) | refine A_icmp_ge (tgt := 74) d_Bk_add_58 (by decide) (fun c_58 => ?_) (fun c_58 => ?_)
        · exfalso
          omega
        · refine A_aload_n0 d_Bk_add_61 ?_
          refine A_getf (kf := 4) d_Bk_add_62 (M.get 0 rfl) ok_0 (by decide) q_156 rfl ?_
          refine A_iload_n3 d_Bk_add_65 ?_
          refine A_iload_n1 d_Bk_add_66 ?_
          refine A_rgA (esB a) (j := 3) (kk := 4) (len := 96) d_Bk_add_67 M rfl ⟨by omega, by decide⟩ rfl (fun h M => ?_)
          first | refine A_iinc3 d_Bk_add_68 (nI_1 _) trivial ?_ | refine A_iinc3 d_Bk_add_68 rfl trivial ?_
          refine A_goto (tgt := 45) d_Bk_add_71 (by decide) ?_
          rw [show fup (fup (fup (fup D.2 2 (fup (D.2 2) s (nI pl))) 3 (fup (D.2 3) s (nI l))) 4 (filF (D.2 4) (nI pl) t i)) 4 (fup (fup (fup (fup D.2 2 (fup (D.2 2) s (nI pl))) 3 (fup (D.2 3) s (nI l))) 4 (filF (D.2 4) (nI pl) t i) 4) i (nI pl)) = fup (fup (fup D.2 2 (fup (D.2 2) s (nI pl))) 3 (fup (D.2 3) s (nI l))) 4 (filF (D.2 4) (nI pl) t (i + 1)) by rw [fup_2, fup_eq, filF_s _ _ _ _ (by omega)]] at M
          exact ih (by omega) _ M
  refine A_aload_n0 d_Bk_add_0 ?_
  refine A_getf (kf := 0) d_Bk_add_1 (M.get 0 rfl) ok_0 (by decide) q_146 rfl ?_
  refine A_topI f0 ?_
  refine A_bipush (v := nI 30) d_Bk_add_4 (by decide) ?_
  first | refine A_icmp_ltN (tgt := 10) d_Bk_add_6 (by decide) (by with_reducible rfl) (by with_reducible rfl) (by omega) (by omega) (fun c_6 => ?_) (fun c_6 => ?_) | refine A_icmp_lt (tgt := 10) d_Bk_add_6 (by decide) (fun c_6 => ?_) (fun c_6 => ?_)
  · refine A_aload_n0 d_Bk_add_10 ?_
    refine A_getf (kf := 2) d_Bk_add_11 (M.get 0 rfl) ok_0 (by decide) q_152 rfl ?_
    refine A_aload_n0 d_Bk_add_14 ?_
    refine A_getf (kf := 0) d_Bk_add_15 (M.get 0 rfl) ok_0 (by decide) q_146 rfl ?_
    refine A_topI f0 ?_
    refine A_iload_n1 d_Bk_add_18 ?_
    refine A_rgA (esB a) (j := 1) (kk := 2) (len := 30) d_Bk_add_19 M rfl ⟨by omega, by decide⟩ rfl (fun h M => ?_)
    refine A_aload_n0 d_Bk_add_20 ?_
    refine A_getf (kf := 3) d_Bk_add_21 (M.get 0 rfl) ok_0 (by decide) q_154 rfl ?_
    refine A_aload_n0 d_Bk_add_24 ?_
    refine A_getf (kf := 0) d_Bk_add_25 (M.get 0 rfl) ok_0 (by decide) q_146 rfl ?_
    refine A_topI f0 ?_
    refine A_iload_n2 d_Bk_add_28 ?_
    refine A_rgA (esB a) (j := 2) (kk := 3) (len := 30) d_Bk_add_29 M rfl ⟨by omega, by decide⟩ rfl (fun h M => ?_)
    refine A_aload_n0 d_Bk_add_30 ?_
    first | refine A_dupR d_Bk_add_31 ?_ | refine A_dupI d_Bk_add_31 ?_
    refine A_getf (kf := 0) d_Bk_add_32 (M.get 0 rfl) ok_0 (by decide) q_146 rfl ?_
    refine A_topI f0 ?_
    refine A_iconst (v := nI 1) d_Bk_add_35 (by decide) ?_
    first | refine A_iaddN d_Bk_add_36 (by with_reducible rfl) (by with_reducible rfl) ?_ | refine A_iadd d_Bk_add_36 ?_
    refine A_rgI (esB a) (bkfs a) (kf := 0) d_Bk_add_37 ok_0 (by decide) q_146 (Or.inl rfl) (by decide +kernel) M rfl (Nat.le_of_ble_eq_true rfl) rfl (fun h M => ?_)
    refine A_aload_n0 d_Bk_add_40 ?_
    refine A_getf (kf := 1) d_Bk_add_41 (M.get 0 rfl) ok_0 (by decide) q_149 rfl ?_
    refine A_topI (show fup D.1 0 (nI (s + 1)) 1 = nI t from (fup_ne D.1 _ (show (1 : Nat) ≠ 0 by decide)).trans f1) ?_
    refine A_istore3 d_Bk_add_44 trivial ?_
    refine key t (by subst he; split <;> (try split) <;> omega) (Nat.le_refl _) _ ?_
    rw [filF_0, show fup (fup (fup D.2 2 (fup (D.2 2) s (nI pl))) 3 (fup (D.2 3) s (nI l))) 4 (D.2 4) = fup (fup D.2 2 (fup (D.2 2) s (nI pl))) 3 (fup (D.2 3) s (nI l)) from funext fun j => by
      by_cases z : j = 4
      · subst z; rw [fup_eq]; rfl
      · rw [fup_ne _ _ z]]
    exact M
  · omega
set_option maxHeartbeats 4000000 in
set_option maxRecDepth 100000 in
theorem c_Si_add {G : GE} {h : AH} {a : Nat} {D : LD} (hA : SAt h a D) {s pl l : Nat} {b : Bool} (f0 : D.1 0 = nI s) (hs : s < 20)  : Ctr G y_Si_add b_Si_add 4 none r_Si_add [.ref a, .int (nI pl), .int (nI l), .int (bI b)] h (fun v h1 => v = none ∧ Rg h h1 a (esS a (fup D.1 0 (nI (s + 1)), fup (fup (fup D.2 1 (fup (D.2 1) s (nI pl))) 2 (fup (D.2 2) s (nI l))) 3 (fup (D.2 3) s (bI b))))) := by
  refine Ctr.of (by decide +kernel) (by simp) (Nat.le_of_ble_eq_true rfl) (L0 := [some (.ref a), some (.int (nI pl)), some (.int (nI l)), some (.int (bI b))]) rfl ?_
  have M := SAt_rg hA
  refine A_aload_n0 d_Si_add_0 ?_
  refine A_getf (kf := 0) d_Si_add_1 (M.get 0 rfl) ok_4 (by decide) q_174 rfl ?_
  refine A_topI f0 ?_
  refine A_bipush (v := nI 20) d_Si_add_4 (by decide) ?_
  first | refine A_icmp_ltN (tgt := 10) d_Si_add_6 (by decide) (by with_reducible rfl) (by with_reducible rfl) (by omega) (by omega) (fun c_6 => ?_) (fun c_6 => ?_) | refine A_icmp_lt (tgt := 10) d_Si_add_6 (by decide) (fun c_6 => ?_) (fun c_6 => ?_)
  · refine A_aload_n0 d_Si_add_10 ?_
    refine A_getf (kf := 1) d_Si_add_11 (M.get 0 rfl) ok_4 (by decide) q_177 rfl ?_
    refine A_aload_n0 d_Si_add_14 ?_
    refine A_getf (kf := 0) d_Si_add_15 (M.get 0 rfl) ok_4 (by decide) q_174 rfl ?_
    refine A_topI f0 ?_
    refine A_iload_n1 d_Si_add_18 ?_
    refine A_rgA (esS a) (j := 1) (kk := 1) (len := 20) d_Si_add_19 M rfl ⟨by omega, by decide⟩ rfl (fun h M => ?_)
    refine A_aload_n0 d_Si_add_20 ?_
    refine A_getf (kf := 2) d_Si_add_21 (M.get 0 rfl) ok_4 (by decide) q_179 rfl ?_
    refine A_aload_n0 d_Si_add_24 ?_
    refine A_getf (kf := 0) d_Si_add_25 (M.get 0 rfl) ok_4 (by decide) q_174 rfl ?_
    refine A_topI f0 ?_
    refine A_iload_n2 d_Si_add_28 ?_
    refine A_rgA (esS a) (j := 2) (kk := 2) (len := 20) d_Si_add_29 M rfl ⟨by omega, by decide⟩ rfl (fun h M => ?_)
    refine A_aload_n0 d_Si_add_30 ?_
    refine A_getf (kf := 3) d_Si_add_31 (M.get 0 rfl) ok_4 (by decide) q_181 rfl ?_
    refine A_aload_n0 d_Si_add_34 ?_
    refine A_getf (kf := 0) d_Si_add_35 (M.get 0 rfl) ok_4 (by decide) q_174 rfl ?_
    refine A_topI f0 ?_
    refine A_iload_n3 d_Si_add_38 ?_
    refine A_callSNP d_Si_add_39 (c_N_oneB _ _) q_590 q_591 mk_N_oneIf rfl (by decide) rfl (Nat.le_of_ble_eq_true rfl) ⟨Nat.le_of_ble_eq_true rfl, Nat.le_of_ble_eq_true rfl⟩ ⟨rfl, rfl⟩ ?_
    refine A_rgA (esS a) (j := 3) (kk := 3) (len := 20) d_Si_add_42 M rfl ⟨by omega, by decide⟩ rfl (fun h M => ?_)
    refine A_aload_n0 d_Si_add_43 ?_
    first | refine A_dupR d_Si_add_44 ?_ | refine A_dupI d_Si_add_44 ?_
    refine A_getf (kf := 0) d_Si_add_45 (M.get 0 rfl) ok_4 (by decide) q_174 rfl ?_
    refine A_topI f0 ?_
    refine A_iconst (v := nI 1) d_Si_add_48 (by decide) ?_
    first | refine A_iaddN d_Si_add_49 (by with_reducible rfl) (by with_reducible rfl) ?_ | refine A_iadd d_Si_add_49 ?_
    refine A_rgI (esS a) (sgfs a) (kf := 0) d_Si_add_50 ok_4 (by decide) q_174 (Or.inl rfl) (by decide +kernel) M rfl (Nat.le_of_ble_eq_true rfl) rfl (fun h M => ?_)
    refine A_vret d_Si_add_53 rfl ⟨Nat.zero_le _, Nat.zero_le _⟩ ?_
    exact ⟨rfl, M⟩
  · omega
set_option maxHeartbeats 4000000 in
set_option maxRecDepth 100000 in
theorem c_Rd_tellPerson {G : GE} {h : AH} {r : Nat} {Z : RC} (hR : RdAt h r Z) {v : Nat → Nat} (hv : ∀ i, i < 3 → Z.2.2.2.2.2.2 2 i = nI (v i)) {s : Nat} (f0 : Z.2.2.2.1.1 4 = nI s) (hs : s < 10)  : Ctr G y_Rd_tellPerson b_Rd_tellPerson 1 none r_Rd_tellPerson [.ref r] h (fun v' h1 => v' = none ∧ RdW h h1 r (Z.1, Z.2.1, Z.2.2.1, (fup Z.2.2.2.1.1 4 (nI (s + 1)), fup (fup (fup Z.2.2.2.1.2 5 (fup (Z.2.2.2.1.2 5) s (nI (v 0)))) 6 (fup (Z.2.2.2.1.2 6) s (nI (v 1)))) 7 (fup (Z.2.2.2.1.2 7) s (nI (v 2)))), Z.2.2.2.2)) := by
  refine Ctr.of (by decide +kernel) (by simp) (Nat.le_of_ble_eq_true rfl) (L0 := [some (.ref r)]) rfl ?_
  have M := RdW.start hR
  refine A_aload_n0 d_Rd_tellPerson_0 ?_
  refine A_getf (kf := 1) d_Rd_tellPerson_1 M.1.o ok_3 (by decide) q_275 rfl ?_
  refine A_getf (kf := 5) d_Rd_tellPerson_4 M.1.ld.o ok_1 (by decide) q_65 rfl ?_
  refine A_aload_n0 d_Rd_tellPerson_7 ?_
  refine A_getf (kf := 1) d_Rd_tellPerson_8 M.1.o ok_3 (by decide) q_275 rfl ?_
  refine A_getf (kf := 4) d_Rd_tellPerson_11 M.1.ld.o ok_1 (by decide) q_61 rfl ?_
  refine A_topI f0 ?_
  refine A_aload_n0 d_Rd_tellPerson_14 ?_
  refine A_getf (kf := 10) d_Rd_tellPerson_15 M.1.o ok_3 (by decide) q_291 rfl ?_
  refine A_iconst (v := nI 0) d_Rd_tellPerson_18 (by decide) ?_
  refine A_ialdN d_Rd_tellPerson_19 M.1.nu ⟨by decide, by decide⟩ ?_
  refine A_topI (hv 0 (by decide)) ?_
  refine A_rdLa (j := 1) (kk := 5) (len := 10) d_Rd_tellPerson_20 M rfl ⟨by omega, by decide⟩ rfl (fun h M => ?_)
  refine A_aload_n0 d_Rd_tellPerson_21 ?_
  refine A_getf (kf := 1) d_Rd_tellPerson_22 M.1.o ok_3 (by decide) q_275 rfl ?_
  refine A_getf (kf := 6) d_Rd_tellPerson_25 M.1.ld.o ok_1 (by decide) q_68 rfl ?_
  refine A_aload_n0 d_Rd_tellPerson_28 ?_
  refine A_getf (kf := 1) d_Rd_tellPerson_29 M.1.o ok_3 (by decide) q_275 rfl ?_
  refine A_getf (kf := 4) d_Rd_tellPerson_32 M.1.ld.o ok_1 (by decide) q_61 rfl ?_
  refine A_topI f0 ?_
  refine A_aload_n0 d_Rd_tellPerson_35 ?_
  refine A_getf (kf := 10) d_Rd_tellPerson_36 M.1.o ok_3 (by decide) q_291 rfl ?_
  refine A_iconst (v := nI 1) d_Rd_tellPerson_39 (by decide) ?_
  refine A_ialdN d_Rd_tellPerson_40 M.1.nu ⟨by decide, by decide⟩ ?_
  refine A_topI (hv 1 (by decide)) ?_
  refine A_rdLa (j := 2) (kk := 6) (len := 10) d_Rd_tellPerson_41 M rfl ⟨by omega, by decide⟩ rfl (fun h M => ?_)
  refine A_aload_n0 d_Rd_tellPerson_42 ?_
  refine A_getf (kf := 1) d_Rd_tellPerson_43 M.1.o ok_3 (by decide) q_275 rfl ?_
  refine A_getf (kf := 7) d_Rd_tellPerson_46 M.1.ld.o ok_1 (by decide) q_71 rfl ?_
  refine A_aload_n0 d_Rd_tellPerson_49 ?_
  refine A_getf (kf := 1) d_Rd_tellPerson_50 M.1.o ok_3 (by decide) q_275 rfl ?_
  refine A_getf (kf := 4) d_Rd_tellPerson_53 M.1.ld.o ok_1 (by decide) q_61 rfl ?_
  refine A_topI f0 ?_
  refine A_aload_n0 d_Rd_tellPerson_56 ?_
  refine A_getf (kf := 10) d_Rd_tellPerson_57 M.1.o ok_3 (by decide) q_291 rfl ?_
  refine A_iconst (v := nI 2) d_Rd_tellPerson_60 (by decide) ?_
  refine A_ialdN d_Rd_tellPerson_61 M.1.nu ⟨by decide, by decide⟩ ?_
  refine A_topI (hv 2 (by decide)) ?_
  refine A_rdLa (j := 3) (kk := 7) (len := 10) d_Rd_tellPerson_62 M rfl ⟨by omega, by decide⟩ rfl (fun h M => ?_)
  refine A_aload_n0 d_Rd_tellPerson_63 ?_
  refine A_getf (kf := 1) d_Rd_tellPerson_64 M.1.o ok_3 (by decide) q_275 rfl ?_
  first | refine A_dupR d_Rd_tellPerson_67 ?_ | refine A_dupI d_Rd_tellPerson_67 ?_
  refine A_getf (kf := 4) d_Rd_tellPerson_68 M.1.ld.o ok_1 (by decide) q_61 rfl ?_
  refine A_topI f0 ?_
  refine A_iconst (v := nI 1) d_Rd_tellPerson_71 (by decide) ?_
  first | refine A_iaddN d_Rd_tellPerson_72 (by with_reducible rfl) (by with_reducible rfl) ?_ | refine A_iadd d_Rd_tellPerson_72 ?_
  refine A_rdLd (kf := 4) d_Rd_tellPerson_73 (by decide) q_61 (Or.inl rfl) (by decide +kernel) M rfl (fun h M => ?_)
  refine A_vret d_Rd_tellPerson_76 rfl ⟨Nat.zero_le _, Nat.zero_le _⟩ ?_
  exact ⟨rfl, M⟩
