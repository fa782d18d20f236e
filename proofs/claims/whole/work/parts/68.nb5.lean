/-- all that was told is W now, all else as in h0 -/
def TW (h0 h : AH) (t : Nat) (W : TD) : Prop := TdAt h t W ∧ ∀ i, (i < t ∨ t + 46 ≤ i) → h i = h0 i
theorem TW.start {h : AH} {t : Nat} {W : TD} (A : TdAt h t W) : TW h h t W := ⟨A, fun _ _ => rfl⟩
theorem hset_far {h h0 : AH} {t q : Nat} {e : va_E} (f : ∀ i, (i < t ∨ t + 46 ≤ i) → h i = h0 i) (hq : t ≤ q ∧ q < t + 46) : ∀ i, (i < t ∨ t + 46 ≤ i) → hset h q e i = h0 i := fun i hi => by
  rw [hset_ne (by omega)]
  exact f i hi
section TWR
variable {G : GE} {y : MethodName} {cc : ByteArray} {nL : Nat} {ret : Option FieldType} {R : Room} {mc ms : Nat} {K : Option Value → AH → Prop} {u n pc : Nat} {L : List (Option Value)} {st : List Value} {h0 h : AH} {t : Nat} {W : TD}
theorem A_twInt {kf index : Nat} {x : Int32} (d : decode cc pc = .ok (.putfield index, 3)) (hk : kf < 10) (hw : (.fieldLink y.cls index (TX6 kf).1 (TX6 kf).2.1 (TX6 kf).2.2.1 : Cond) ∈ lw_g) (hfin : (TX6 kf).2.2.2 = false ∨ ((TX6 kf).2.2.2 = true ∧ y.name = "<init>" ∧ (TX6 kf).1 = y.cls)) (hd : parseFieldDescriptor (TX6 kf).2.2.1 = some .int) (M : TW h0 h t W) (he : (tdfs t W).set kf (.int x) = tdfs t (fup W.1 kf x, W.2))
    (k : ∀ h1, TW h0 h1 t (fup W.1 kf x, W.2) → WA G y cc nL ret R mc ms K u n (pc + 3) L st h1) : WA G y cc nL ret R mc ms K u n pc L (.int x :: .ref t :: st) h :=
  A_put (kf := kf) (ty := .int) d M.1.o ok_6 hk hw hfin hd rfl rfl (by show kf < 10; exact hk) M.1.ge (k _ ⟨by rw [he]; exact M.1.obj _, hset_far M.2 (by omega)⟩)
theorem A_twTape {i : Nat} {x : Int32} (d : decode cc pc = .ok (.iastore, 1)) (M : TW h0 h t W) (hi : i < 600)
    (k : ∀ h1, TW h0 h1 t (W.1, fup W.2.1 0 (fup (W.2.1 0) i x), W.2.2) → WA G y cc nL ret R mc ms K u n (pc + 1) L st h1) : WA G y cc nL ret R mc ms K u n pc L (.int x :: .int (nI i) :: .ref (t + 1) :: st) h :=
  A_iastN d M.1.tape ⟨hi, by decide⟩ (by have := M.1.ge; omega) (k _ ⟨M.1.ptape _, hset_far M.2 (by omega)⟩)
theorem A_twCnt {i : Nat} {x : Int32} (d : decode cc pc = .ok (.iastore, 1)) (M : TW h0 h t W) (hi : i < 5)
    (k : ∀ h1, TW h0 h1 t (W.1, fup W.2.1 1 (fup (W.2.1 1) i x), W.2.2) → WA G y cc nL ret R mc ms K u n (pc + 1) L st h1) : WA G y cc nL ret R mc ms K u n pc L (.int x :: .int (nI i) :: .ref (t + 2) :: st) h :=
  A_iastN d M.1.counts ⟨hi, by decide⟩ (by have := M.1.ge; omega) (k _ ⟨M.1.pcnt _, hset_far M.2 (by omega)⟩)
end TWR
def byU (v s : Int32) : Int32 := (v.toUInt32 >>> (s.toUInt32 &&& Int32.toUInt32 31)).toInt32 &&& nI 255
/-- a tape after i of the four bytes of one number more -/
def apT (W : TD) (len : Nat) (v : Int32) : Nat → (Nat → Int32)
  | 0 => W.2.1 0
  | i + 1 => fup (apT W len v i) (len + i) (byU v (nI (24 - 8 * i)))
def apS (W : TD) (len : Nat) (v : Int32) (i : Nat) : TD := (fup W.1 1 (nI (len + i)), fup W.2.1 0 (apT W len v i), W.2.2)
theorem fup_same {α : Type} (f : Nat → α) {k : Nat} {x : α} (e : f k = x) : fup f k x = f := funext fun j => by
  by_cases z : j = k
  · subst z
    rw [fup_eq, e]
  · rw [fup_ne _ _ z]
theorem apS_0 {W : TD} {len : Nat} (v : Int32) (hlen : W.1 1 = nI len) : W = apS W len v 0 := by
  have e1 : fup W.1 1 (nI (len + 0)) = W.1 := fup_same _ hlen
  have e2 : fup W.2.1 0 (apT W len v 0) = W.2.1 := fup_same _ rfl
  unfold apS
  rw [e1, e2]
theorem apS_s (W : TD) (len : Nat) (v : Int32) (i s : Nat) (hs : 24 - 8 * i = s) : ((fup (apS W len v i).1 1 (nI (len + i + 1)), fup (apS W len v i).2.1 0 (fup ((apS W len v i).2.1 0) (len + i) (byU v (nI s))), (apS W len v i).2.2) : TD) = apS W len v (i + 1) := by
  subst hs
  have e1 : fup (fup W.1 1 (nI (len + i))) 1 (nI (len + i + 1)) = fup W.1 1 (nI (len + (i + 1))) := fup_fup _ _ _ _
  have e2 : fup (fup W.2.1 0 (apT W len v i)) 0 (fup ((fup W.2.1 0 (apT W len v i)) 0) (len + i) (byU v (nI (24 - 8 * i)))) = fup W.2.1 0 (apT W len v (i + 1)) := by
    rw [fup_fup, fup_eq]
    rfl
  unfold apS
  exact Prod.ext e1 (Prod.ext e2 rfl)
theorem apS_n (W : TD) (len : Nat) (v : Int32) (i : Nat) : (apS W len v i).1 1 = nI (len + i) := by
  show fup W.1 1 (nI (len + i)) 1 = _
  exact fup_eq _ _ _
theorem TW.eq {h0 h : AH} {t : Nat} {W W' : TD} (M : TW h0 h t W) (e : W = W') : TW h0 h t W' := e ▸ M
set_option maxHeartbeats 4000000 in
set_option maxRecDepth 100000 in
theorem c_Td_append {G : GE} {h : AH} {t len : Nat} {W : TD} (hA : TdAt h t W) (hlen : W.1 1 = nI len) (hl : len ≤ 596) (v : Int32) : Ctr G y_Td_append b_Td_append 3 none r_Td_append [.ref t, .int v] h (fun r h1 => r = none ∧ TW h h1 t (apS W len v 4)) := by
  refine Ctr.of (by decide +kernel) (by simp) (Nat.le_of_ble_eq_true rfl) (L0 := [some (.ref t), some (.int v), none]) rfl ?_
  have M := (TW.start hA).eq (apS_0 v hlen)
  refine A_bipush (v := nI 24) d_Td_append_0 (by decide) ?_
  refine A_istore2 d_Td_append_2 trivial ?_
  refine A_iload_n2 d_Td_append_3 ?_
  refine A_if_lt (tgt := 49) d_Td_append_4 (by decide) (fun c => absurd c (by decide)) (fun c_4 => ?_)
  refine A_aload_n0 d_Td_append_7 ?_
  refine A_getf (kf := 1) d_Td_append_8 M.1.o ok_6 (by decide) q_195 rfl ?_
  refine A_topI (apS_n W len v 0) ?_
  refine A_sipush (v := nI 600) d_Td_append_11 (by decide) ?_
  refine A_icmp_ge (tgt := 49) d_Td_append_14 (by decide) (fun c => absurd ((nI_ltI (by omega) (by decide)).mpr (show len + 0 < 600 by omega)) (Int32.not_lt.mpr c)) (fun c_14 => ?_)
  refine A_aload_n0 d_Td_append_17 ?_
  refine A_getf (kf := 0) d_Td_append_18 M.1.o ok_6 (by decide) q_192 rfl ?_
  refine A_aload_n0 d_Td_append_21 ?_
  refine A_getf (kf := 1) d_Td_append_22 M.1.o ok_6 (by decide) q_195 rfl ?_
  refine A_topI (apS_n W len v 0) ?_
  refine A_iload_n1 d_Td_append_25 ?_
  refine A_iload_n2 d_Td_append_26 ?_
  refine A_iushr d_Td_append_27 ?_
  refine A_sipush (v := nI 255) d_Td_append_28 (by decide) ?_
  refine A_iand d_Td_append_31 ?_
  refine A_twTape (i := len + 0) (x := byU v (nI 24)) d_Td_append_32 M (by omega) (fun h M => ?_)
  refine A_aload_n0 d_Td_append_33 ?_
  refine A_dupR d_Td_append_34 ?_
  refine A_getf (kf := 1) d_Td_append_35 M.1.o ok_6 (by decide) q_195 rfl ?_
  refine A_topI (apS_n W len v 0) ?_
  refine A_iconst (v := nI 1) d_Td_append_38 (by decide) ?_
  first | refine A_iaddN d_Td_append_39 (by with_reducible rfl) (by with_reducible rfl) ?_ | refine A_iadd d_Td_append_39 ?_
  refine A_twInt (kf := 1) (x := nI (len + 0 + 1)) d_Td_append_40 (by decide) q_195 (Or.inl rfl) (by decide +kernel) M rfl (fun h M => ?_)
  replace M := M.eq (apS_s W len v 0 24 rfl)
  refine A_iinc2 d_Td_append_43 rfl trivial ?_
  refine A_loc (show ([some (.ref t), some (.int v), some (.int (nI 24 + -8))] : List (Option Value)) = [some (.ref t), some (.int v), some (.int (nI 16))] from rfl) ?_
  refine A_goto (tgt := 3) d_Td_append_46 (by decide) ?_
  refine A_iload_n2 d_Td_append_3 ?_
  refine A_if_lt (tgt := 49) d_Td_append_4 (by decide) (fun c => absurd c (by decide)) (fun c_4 => ?_)
  refine A_aload_n0 d_Td_append_7 ?_
  refine A_getf (kf := 1) d_Td_append_8 M.1.o ok_6 (by decide) q_195 rfl ?_
  refine A_topI (apS_n W len v 1) ?_
  refine A_sipush (v := nI 600) d_Td_append_11 (by decide) ?_
  refine A_icmp_ge (tgt := 49) d_Td_append_14 (by decide) (fun c => absurd ((nI_ltI (by omega) (by decide)).mpr (show len + 1 < 600 by omega)) (Int32.not_lt.mpr c)) (fun c_14 => ?_)
  refine A_aload_n0 d_Td_append_17 ?_
  refine A_getf (kf := 0) d_Td_append_18 M.1.o ok_6 (by decide) q_192 rfl ?_
  refine A_aload_n0 d_Td_append_21 ?_
  refine A_getf (kf := 1) d_Td_append_22 M.1.o ok_6 (by decide) q_195 rfl ?_
  refine A_topI (apS_n W len v 1) ?_
  refine A_iload_n1 d_Td_append_25 ?_
  refine A_iload_n2 d_Td_append_26 ?_
  refine A_iushr d_Td_append_27 ?_
  refine A_sipush (v := nI 255) d_Td_append_28 (by decide) ?_
  refine A_iand d_Td_append_31 ?_
  refine A_twTape (i := len + 1) (x := byU v (nI 16)) d_Td_append_32 M (by omega) (fun h M => ?_)
  refine A_aload_n0 d_Td_append_33 ?_
  refine A_dupR d_Td_append_34 ?_
  refine A_getf (kf := 1) d_Td_append_35 M.1.o ok_6 (by decide) q_195 rfl ?_
  refine A_topI (apS_n W len v 1) ?_
  refine A_iconst (v := nI 1) d_Td_append_38 (by decide) ?_
  first | refine A_iaddN d_Td_append_39 (by with_reducible rfl) (by with_reducible rfl) ?_ | refine A_iadd d_Td_append_39 ?_
  refine A_twInt (kf := 1) (x := nI (len + 1 + 1)) d_Td_append_40 (by decide) q_195 (Or.inl rfl) (by decide +kernel) M rfl (fun h M => ?_)
  replace M := M.eq (apS_s W len v 1 16 rfl)
  refine A_iinc2 d_Td_append_43 rfl trivial ?_
  refine A_loc (show ([some (.ref t), some (.int v), some (.int (nI 16 + -8))] : List (Option Value)) = [some (.ref t), some (.int v), some (.int (nI 8))] from rfl) ?_
  refine A_goto (tgt := 3) d_Td_append_46 (by decide) ?_
  refine A_iload_n2 d_Td_append_3 ?_
  refine A_if_lt (tgt := 49) d_Td_append_4 (by decide) (fun c => absurd c (by decide)) (fun c_4 => ?_)
  refine A_aload_n0 d_Td_append_7 ?_
  refine A_getf (kf := 1) d_Td_append_8 M.1.o ok_6 (by decide) q_195 rfl ?_
  refine A_topI (apS_n W len v 2) ?_
  refine A_sipush (v := nI 600) d_Td_append_11 (by decide) ?_
  refine A_icmp_ge (tgt := 49) d_Td_append_14 (by decide) (fun c => absurd ((nI_ltI (by omega) (by decide)).mpr (show len + 2 < 600 by omega)) (Int32.not_lt.mpr c)) (fun c_14 => ?_)
  refine A_aload_n0 d_Td_append_17 ?_
  refine A_getf (kf := 0) d_Td_append_18 M.1.o ok_6 (by decide) q_192 rfl ?_
  refine A_aload_n0 d_Td_append_21 ?_
  refine A_getf (kf := 1) d_Td_append_22 M.1.o ok_6 (by decide) q_195 rfl ?_
  refine A_topI (apS_n W len v 2) ?_
  refine A_iload_n1 d_Td_append_25 ?_
  refine A_iload_n2 d_Td_append_26 ?_
  refine A_iushr d_Td_append_27 ?_
  refine A_sipush (v := nI 255) d_Td_append_28 (by decide) ?_
  refine A_iand d_Td_append_31 ?_
  refine A_twTape (i := len + 2) (x := byU v (nI 8)) d_Td_append_32 M (by omega) (fun h M => ?_)
  refine A_aload_n0 d_Td_append_33 ?_
  refine A_dupR d_Td_append_34 ?_
  refine A_getf (kf := 1) d_Td_append_35 M.1.o ok_6 (by decide) q_195 rfl ?_
  refine A_topI (apS_n W len v 2) ?_
  refine A_iconst (v := nI 1) d_Td_append_38 (by decide) ?_
  first | refine A_iaddN d_Td_append_39 (by with_reducible rfl) (by with_reducible rfl) ?_ | refine A_iadd d_Td_append_39 ?_
  refine A_twInt (kf := 1) (x := nI (len + 2 + 1)) d_Td_append_40 (by decide) q_195 (Or.inl rfl) (by decide +kernel) M rfl (fun h M => ?_)
  replace M := M.eq (apS_s W len v 2 8 rfl)
  refine A_iinc2 d_Td_append_43 rfl trivial ?_
  refine A_loc (show ([some (.ref t), some (.int v), some (.int (nI 8 + -8))] : List (Option Value)) = [some (.ref t), some (.int v), some (.int (nI 0))] from rfl) ?_
  refine A_goto (tgt := 3) d_Td_append_46 (by decide) ?_
  refine A_iload_n2 d_Td_append_3 ?_
  refine A_if_lt (tgt := 49) d_Td_append_4 (by decide) (fun c => absurd c (by decide)) (fun c_4 => ?_)
  refine A_aload_n0 d_Td_append_7 ?_
  refine A_getf (kf := 1) d_Td_append_8 M.1.o ok_6 (by decide) q_195 rfl ?_
  refine A_topI (apS_n W len v 3) ?_
  refine A_sipush (v := nI 600) d_Td_append_11 (by decide) ?_
  refine A_icmp_ge (tgt := 49) d_Td_append_14 (by decide) (fun c => absurd ((nI_ltI (by omega) (by decide)).mpr (show len + 3 < 600 by omega)) (Int32.not_lt.mpr c)) (fun c_14 => ?_)
  refine A_aload_n0 d_Td_append_17 ?_
  refine A_getf (kf := 0) d_Td_append_18 M.1.o ok_6 (by decide) q_192 rfl ?_
  refine A_aload_n0 d_Td_append_21 ?_
  refine A_getf (kf := 1) d_Td_append_22 M.1.o ok_6 (by decide) q_195 rfl ?_
  refine A_topI (apS_n W len v 3) ?_
  refine A_iload_n1 d_Td_append_25 ?_
  refine A_iload_n2 d_Td_append_26 ?_
  refine A_iushr d_Td_append_27 ?_
  refine A_sipush (v := nI 255) d_Td_append_28 (by decide) ?_
  refine A_iand d_Td_append_31 ?_
  refine A_twTape (i := len + 3) (x := byU v (nI 0)) d_Td_append_32 M (by omega) (fun h M => ?_)
  refine A_aload_n0 d_Td_append_33 ?_
  refine A_dupR d_Td_append_34 ?_
  refine A_getf (kf := 1) d_Td_append_35 M.1.o ok_6 (by decide) q_195 rfl ?_
  refine A_topI (apS_n W len v 3) ?_
  refine A_iconst (v := nI 1) d_Td_append_38 (by decide) ?_
  first | refine A_iaddN d_Td_append_39 (by with_reducible rfl) (by with_reducible rfl) ?_ | refine A_iadd d_Td_append_39 ?_
  refine A_twInt (kf := 1) (x := nI (len + 3 + 1)) d_Td_append_40 (by decide) q_195 (Or.inl rfl) (by decide +kernel) M rfl (fun h M => ?_)
  replace M := M.eq (apS_s W len v 3 0 rfl)
  refine A_iinc2 d_Td_append_43 rfl trivial ?_
  refine A_loc (show ([some (.ref t), some (.int v), some (.int (nI 0 + -8))] : List (Option Value)) = [some (.ref t), some (.int v), some (.int (-8))] from rfl) ?_
  refine A_goto (tgt := 3) d_Td_append_46 (by decide) ?_
  refine A_iload_n2 d_Td_append_3 ?_
  refine A_if_lt (tgt := 49) d_Td_append_4 (by decide) (fun c_4 => ?_) (fun c => absurd (by decide) c)
  refine A_vret d_Td_append_49 rfl ⟨Nat.zero_le _, Nat.zero_le _⟩ ?_
  exact ⟨rfl, M⟩
