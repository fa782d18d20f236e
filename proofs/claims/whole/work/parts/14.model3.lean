/-- a treaty, a book, a sight, a game of the reference -/
def MT (S : MS) (t : Nat) (w : Nat → Nat) : Prop := t < 2 ∧ ∀ h, h < 24 → S.2.2.1 7 (24 * t + h) = nI (w h) ∧ w h ≤ 2
def BOK (b : Nat → Nat) : Prop := b 0 ≤ 30 ∧ (∀ k, k < b 0 → b (1 + 2 * k + 0) ≤ 2 ∧ 1 ≤ b (1 + 2 * k + 1) ∧ b (1 + 2 * k + 1) ≤ 24) ∧ sumN (fun k => b (1 + 2 * k + 1)) (b 0) ≤ 96
def MB (S : MS) (t : Nat) (b : Nat → Nat) : Prop := t < 2 ∧ BOK b ∧ ∀ i, i < 61 → S.2.2.1 8 (61 * t + i) = nI (b i)
def SOK (b : Nat → Nat) : Prop := b 0 ≤ 20 ∧ ∀ k, k < b 0 → b (1 + 3 * k + 0) ≤ 9 ∧ b (1 + 3 * k + 1) ≤ 23 ∧ b (1 + 3 * k + 2) ≤ 1
def MSi (S : MS) (t : Nat) (b : Nat → Nat) : Prop := t < 2 ∧ SOK b ∧ ∀ i, i < 61 → S.2.2.1 9 (61 * t + i) = nI (b i)
def MG (S : MS) (t : Nat) (b : Nat → Nat) : Prop := t < 2 ∧ ∀ i, i < 8 → S.2.2.1 10 (8 * t + i) = nI (b i) ∧ b i ≤ 60
/-- all that is told -/
def MP (S : MS) (c : Nat → Nat) (VL WT BK SG GM : Nat → Nat → Nat) : Prop :=
  (∀ s, s < 5 → S.2.2.1 5 s = nI (c s) ∧ c s ≤ 2) ∧ (∀ l, l < c 0 → ML S l (VL l)) ∧ (∀ t, t < c 1 → MT S t (WT t)) ∧ (∀ t, t < c 2 → MB S t (BK t)) ∧ (∀ t, t < c 3 → MSi S t (SG t)) ∧ ∀ t, t < c 4 → MG S t (GM t)
/-- what lasts is as it was -/
def Keep (S S1 : MS) : Prop := ∀ k, (k ≤ 10 ∨ k = 55) → S1.2.2.1 k = S.2.2.1 k
theorem Keep.rf (S : MS) : Keep S S := fun _ _ => rfl
theorem Keep.tr {S S1 S2 : MS} (h1 : Keep S S1) (h2 : Keep S1 S2) : Keep S S2 := fun k hk => (h2 k hk).trans (h1 k hk)
theorem Keep.of {S S1 : MS} (h : S1.2 = S.2) : Keep S S1 := fun k _ => by rw [h]
theorem Keep.sf (S : MS) (k : Nat) (x : Int32) : Keep S (S.sf k x) := fun _ _ => rfl
theorem Keep.sw (S : MS) (x : Int64) : Keep S (S.sw x) := fun _ _ => rfl
theorem Keep.sb (S : MS) (k : Nat) (x : Nat → Int64) : Keep S (S.sb k x) := fun _ _ => rfl
theorem Keep.sa (S : MS) {k : Nat} (x : Nat → Int32) (h : 10 < k ∧ k ≠ 55) : Keep S (S.sa k x) := fun j hj => fup_ne _ _ (by omega)
theorem ML.keep {S S1 : MS} (k : Keep S S1) {l : Nat} {V : Nat → Nat} (h : ML S l V) : ML S1 l V := ⟨h.1, h.2.1, fun i hi => by rw [k 6 (by omega)]; exact h.2.2 i hi⟩
theorem MP.keep {S S1 : MS} (k : Keep S S1) {c : Nat → Nat} {VL WT BK SG GM : Nat → Nat → Nat} (h : MP S c VL WT BK SG GM) : MP S1 c VL WT BK SG GM := by
  obtain ⟨h1, h2, h3, h4, h5, h6⟩ := h
  refine ⟨fun s hs => by rw [k 5 (by omega)]; exact h1 s hs, fun l hl => (h2 l hl).keep k, fun t ht => ⟨(h3 t ht).1, fun i hi => by rw [k 7 (by omega)]; exact (h3 t ht).2 i hi⟩, fun t ht => ⟨(h4 t ht).1, (h4 t ht).2.1, fun i hi => by rw [k 8 (by omega)]; exact (h4 t ht).2.2 i hi⟩, fun t ht => ⟨(h5 t ht).1, (h5 t ht).2.1, fun i hi => by rw [k 9 (by omega)]; exact (h5 t ht).2.2 i hi⟩, fun t ht => ⟨(h6 t ht).1, fun i hi => by rw [k 10 (by omega)]; exact (h6 t ht).2 i hi⟩⟩
theorem HS.keepF {S S1 : MS} (k : Keep S S1) (hf : ∀ j, 26 ≤ j → j ≤ 30 → S1.1 j = S.1 j) {l : Nat} {V : Nat → Nat} (h : HS S l V) : HS S1 l V := by
  obtain ⟨h1, h2, h3, h4, h5, h6⟩ := h
  exact ⟨h1.keep k, by rw [hf 26 (by omega) (by omega)]; exact h2, by rw [hf 27 (by omega) (by omega)]; exact h3, by rw [hf 28 (by omega) (by omega)]; exact h4, by rw [hf 29 (by omega) (by omega)]; exact h5, by rw [hf 30 (by omega) (by omega)]; exact h6⟩
/-- a land handed and a row laid in it, its dark hours counted -/
def LRd (S : MS) (l : Nat) (V w : Nat → Nat) : Prop := HS S l V ∧ RW S w (V 0) ∧ S.1 32 = nI (darkN w 0 (V 0)) ∧ S.1 33 = nI (darkN w 1 (V 0))
set_option maxHeartbeats 4000000 in
set_option maxRecDepth 100000 in
theorem c_M_comesAt {G : GE} {h0 h : AH} {m : Nat} {S : MS} (hM : MW h0 h m S) {l : Nat} {V : Nat → Nat} (hS : HS S l V) {w : Nat → Nat} (hw : RW S w (V 0)) (x : Nat) (hx : x < V 0) : Ctr G y_M_comesAt b_M_comesAt 2 (some .boolean) r_M_comesAt [.ref m, .int (nI x)] h (Pu (.int (bI (comesB w (V 0) x))) h) := by
  have hH := hS.ok.1
  have hx2 := (hw x hx).2
  refine Ctr.of (by decide +kernel) (by simp) (Nat.le_of_ble_eq_true rfl) (L0 := [some (.ref m), some (.int (nI x))]) rfl ?_
  refine A_aload_n0 d_M_comesAt_0 ?_
  refine A_getf (kf := 31) d_M_comesAt_1 hM.o ok_8 (by decide) q_1080 rfl ?_
  refine A_iload_n1 d_M_comesAt_4 ?_
  refine A_ialdN d_M_comesAt_5 hM.a31 ⟨by omega, by decide⟩ ?_
  refine A_topI (hw x hx).1 ?_
  refine A_iconst (v := nI 2) d_M_comesAt_6 (by decide) ?_
  first | refine A_icmp_eqN (tgt := 30) d_M_comesAt_7 (by decide) (by with_reducible rfl) (by with_reducible rfl) (by omega) (by omega) (fun c_7 => ?_) (fun c_7 => ?_) | refine A_icmp_eq (tgt := 30) d_M_comesAt_7 (by decide) (fun c_7 => ?_) (fun c_7 => ?_)
  · refine A_iconst (v := nI 0) d_M_comesAt_30 (by decide) ?_
    refine A_zret d_M_comesAt_31 rfl (by first | rfl | exact bI_nar _ | decide) ⟨Nat.zero_le _, Nat.zero_le _⟩ ?_
    exact pu (by simp [comesB, bI, *])
  · refine A_aload_n0 d_M_comesAt_10 ?_
    refine A_iload_n1 d_M_comesAt_11 ?_
    refine A_callVP d_M_comesAt_12 (c_M_cityAhead hM hS hw x hx) hM.o rfl q_1387 q_1389 qs_44 mk_M_cityAhead rfl (by decide) rfl (Nat.le_of_ble_eq_true rfl) ⟨Nat.le_of_ble_eq_true rfl, Nat.le_of_ble_eq_true rfl⟩ ⟨rfl, rfl⟩ ?_
    refine A_iconst (v := nI 1) d_M_comesAt_15 (by decide) ?_
    refine A_aload_n0 d_M_comesAt_16 ?_
    refine A_getf (kf := 31) d_M_comesAt_17 hM.o ok_8 (by decide) q_1080 rfl ?_
    refine A_iload_n1 d_M_comesAt_20 ?_
    refine A_ialdN d_M_comesAt_21 hM.a31 ⟨by omega, by decide⟩ ?_
    refine A_topI (hw x hx).1 ?_
    refine A_isub d_M_comesAt_22 ?_
    skip
    first | refine A_icmp_neN (tgt := 30) d_M_comesAt_23 (by decide) (by with_reducible rfl) (by with_reducible rfl) (by omega) (by omega) (fun c_23 => ?_) (fun c_23 => ?_) | refine A_icmp_ne (tgt := 30) d_M_comesAt_23 (by decide) (fun c_23 => ?_) (fun c_23 => ?_)
    · refine A_iconst (v := nI 0) d_M_comesAt_30 (by decide) ?_
      refine A_zret d_M_comesAt_31 rfl (by first | rfl | exact bI_nar _ | decide) ⟨Nat.zero_le _, Nat.zero_le _⟩ ?_
      exact pu (by simp [comesB, bI, *])
    · refine A_iconst (v := nI 1) d_M_comesAt_26 (by decide) ?_
      refine A_goto (tgt := 31) d_M_comesAt_27 (by decide) ?_
      refine A_zret d_M_comesAt_31 rfl (by first | rfl | exact bI_nar _ | decide) ⟨Nat.zero_le _, Nat.zero_le _⟩ ?_
      exact pu (by simp [comesB, bI, *])
set_option maxHeartbeats 4000000 in
set_option maxRecDepth 100000 in
theorem c_M_carryings {G : GE} {h0 h : AH} {m : Nat} {S : MS} (hM : MW h0 h m S) {l : Nat} {V : Nat → Nat} (hS : HS S l V) {w : Nat → Nat} (hw : RW S w (V 0))  : Ctr G y_M_carryings b_M_carryings 3 (some .int) r_M_carryings [.ref m] h (Pu (.int (nI (carryN w (V 0)))) h) := by
  have hH := hS.ok.1
  generalize hf : (fun h => if comesB w (V 0) h = true then 1 else 0) = f
  have key : ∀ i, i ≤ V 0 → WA G y_M_carryings b_M_carryings 3 (some .int) r_M_carryings 0 0 (Pu (.int (nI (carryN w (V 0)))) h) 0 0 4 [some (.ref m), some (.int (nI (sumN f i))), some (.int (nI i))] [] h := by
    refine down ?_ (fun i hi ih => ?_)
    · refine A_iload_n2 d_M_carryings_4 ?_
      refine A_aload_n0 d_M_carryings_5 ?_
      refine A_getf (kf := 27) d_M_carryings_6 hM.o ok_8 (by decide) q_1076 rfl ?_
      refine A_topI hS.hours ?_
      first | refine A_icmp_geN (tgt := 34) d_M_carryings_9 (by decide) (by with_reducible rfl) (by with_reducible rfl) (by omega) (by omega) (fun c_9 => ?_) (fun c_9 => ?_) | refine A_icmp_ge (tgt := 34) d_M_carryings_9 (by decide) (fun c_9 => ?_) (fun c_9 => ?_)
      · refine A_iload_n1 d_M_carryings_34 ?_
        refine A_iret d_M_carryings_35 rfl ⟨Nat.zero_le _, Nat.zero_le _⟩ ?_
        exact pu (by rw [carryN, hf])
      · exact absurd c_9 (by omega)
    · refine A_iload_n2 d_M_carryings_4 ?_
      refine A_aload_n0 d_M_carryings_5 ?_
      refine A_getf (kf := 27) d_M_carryings_6 hM.o ok_8 (by decide) q_1076 rfl ?_
      refine A_topI hS.hours ?_
      first | refine A_icmp_geN (tgt := 34) d_M_carryings_9 (by decide) (by with_reducible rfl) (by with_reducible rfl) (by omega) (by omega) (fun c_9 => ?_) (fun c_9 => ?_) | refine A_icmp_ge (tgt := 34) d_M_carryings_9 (by decide) (fun c_9 => ?_) (fun c_9 => ?_)
      · exact absurd c_9 (by omega)
      · refine A_iload_n1 d_M_carryings_12 ?_
        refine A_aload_n0 d_M_carryings_13 ?_
        refine A_iload_n2 d_M_carryings_14 ?_
        refine A_callVP d_M_carryings_15 (c_M_comesAt hM hS hw i hi) hM.o rfl q_1383 q_1385 qs_43 mk_M_comesAt rfl (by decide) rfl (Nat.le_of_ble_eq_true rfl) ⟨Nat.le_of_ble_eq_true rfl, Nat.le_of_ble_eq_true rfl⟩ ⟨rfl, rfl⟩ ?_
        refine A_if_eqB (tgt := 25) d_M_carryings_18 (by decide) (fun c_18 => ?_) (fun c_18 => ?_)
        · refine A_iconst (v := nI 0) d_M_carryings_25 (by decide) ?_
          first | refine A_iaddN d_M_carryings_26 (by with_reducible rfl) (by with_reducible rfl) ?_ | refine A_iadd d_M_carryings_26 ?_
          refine A_istore1 d_M_carryings_27 trivial ?_
          first | refine A_iinc2 d_M_carryings_28 (nI_1 _) trivial ?_ | refine A_iinc2 d_M_carryings_28 rfl trivial ?_
          refine A_goto (tgt := 4) d_M_carryings_31 (by decide) ?_
          exact A_loc (by simp only [sumN, ← hf, c_9, c_18, reduceIte, Bool.false_eq_true]) ih
        · refine A_iconst (v := nI 1) d_M_carryings_21 (by decide) ?_
          refine A_goto (tgt := 26) d_M_carryings_22 (by decide) ?_
          first | refine A_iaddN d_M_carryings_26 (by with_reducible rfl) (by with_reducible rfl) ?_ | refine A_iadd d_M_carryings_26 ?_
          refine A_istore1 d_M_carryings_27 trivial ?_
          first | refine A_iinc2 d_M_carryings_28 (nI_1 _) trivial ?_ | refine A_iinc2 d_M_carryings_28 rfl trivial ?_
          refine A_goto (tgt := 4) d_M_carryings_31 (by decide) ?_
          exact A_loc (by simp only [sumN, ← hf, c_9, c_18, reduceIte, Bool.false_eq_true]) ih
  refine Ctr.of (by decide +kernel) (by simp) (Nat.le_of_ble_eq_true rfl) (L0 := [some (.ref m), none, none]) rfl ?_
  refine A_iconst (v := nI 0) d_M_carryings_0 (by decide) ?_
  refine A_istore1 d_M_carryings_1 trivial ?_
  refine A_iconst (v := nI 0) d_M_carryings_2 (by decide) ?_
  refine A_istore2 d_M_carryings_3 trivial ?_
  exact key 0 (Nat.zero_le _)
set_option maxHeartbeats 4000000 in
set_option maxRecDepth 100000 in
theorem c_M_countDark {G : GE} {h0 h : AH} {m : Nat} {S : MS} (hM : MW h0 h m S) {l : Nat} {V : Nat → Nat} (hS : HS S l V) {w : Nat → Nat} (hw : RW S w (V 0))  : Ctr G y_M_countDark b_M_countDark 2 none r_M_countDark [.ref m] h (fun v h' => v = none ∧ ∃ S1, MW h0 h' m S1 ∧ S1.2 = S.2 ∧ S1.1 32 = nI (darkN w 0 (V 0)) ∧ S1.1 33 = nI (darkN w 1 (V 0)) ∧ ∀ j, j ≠ 32 → j ≠ 33 → S1.1 j = S.1 j) := by
  have hH := hS.ok.1
  generalize hf0 : (fun h => if w h = 0 then 1 else 0) = f0
  generalize hf1 : (fun h => if w h = 1 then 1 else 0) = f1
  have key : ∀ i, i ≤ V 0 → ∀ (h : AH) (S1 : MS), MW h0 h m S1 → S1.2 = S.2 → S1.1 32 = nI (sumN f0 i) → S1.1 33 = nI (sumN f1 i) → (∀ j, j ≠ 32 → j ≠ 33 → S1.1 j = S.1 j) → WA G y_M_countDark b_M_countDark 2 none r_M_countDark 0 0 (fun v h' => v = none ∧ ∃ S1, MW h0 h' m S1 ∧ S1.2 = S.2 ∧ S1.1 32 = nI (darkN w 0 (V 0)) ∧ S1.1 33 = nI (darkN w 1 (V 0)) ∧ ∀ j, j ≠ 32 → j ≠ 33 → S1.1 j = S.1 j) 0 0 12 [some (.ref m), some (.int (nI i))] [] h := by
    refine down ?_ (fun i hi ih => ?_)
    · intro h S1 hM he he1 he2 he3
      refine A_iload_n1 d_M_countDark_12 ?_
      refine A_aload_n0 d_M_countDark_13 ?_
      refine A_getf (kf := 27) d_M_countDark_14 hM.o ok_8 (by decide) q_1076 rfl ?_
      refine A_topI ((he3 27 (by decide) (by decide)).trans hS.hours) ?_
      first | refine A_icmp_geN (tgt := 73) d_M_countDark_17 (by decide) (by with_reducible rfl) (by with_reducible rfl) (by omega) (by omega) (fun c_17 => ?_) (fun c_17 => ?_) | refine A_icmp_ge (tgt := 73) d_M_countDark_17 (by decide) (fun c_17 => ?_) (fun c_17 => ?_)
      · refine A_vret d_M_countDark_73 rfl ⟨Nat.zero_le _, Nat.zero_le _⟩ ?_
        exact ⟨rfl, S1, hM, he, by rw [darkN, hf0]; exact he1, by rw [darkN, hf1]; exact he2, he3⟩
      · exact absurd c_17 (by omega)
    · intro h S1 hM he he1 he2 he3
      have hwi := (hw i hi).2
      refine A_iload_n1 d_M_countDark_12 ?_
      refine A_aload_n0 d_M_countDark_13 ?_
      refine A_getf (kf := 27) d_M_countDark_14 hM.o ok_8 (by decide) q_1076 rfl ?_
      refine A_topI ((he3 27 (by decide) (by decide)).trans hS.hours) ?_
      first | refine A_icmp_geN (tgt := 73) d_M_countDark_17 (by decide) (by with_reducible rfl) (by with_reducible rfl) (by omega) (by omega) (fun c_17 => ?_) (fun c_17 => ?_) | refine A_icmp_ge (tgt := 73) d_M_countDark_17 (by decide) (fun c_17 => ?_) (fun c_17 => ?_)
      · exact absurd c_17 (by omega)
      · refine A_aload_n0 d_M_countDark_20 ?_
        first | refine A_dupR d_M_countDark_21 ?_ | refine A_dupI d_M_countDark_21 ?_
        refine A_getf (kf := 32) d_M_countDark_22 hM.o ok_8 (by decide) q_1081 rfl ?_
        refine A_topI he1 ?_
        refine A_aload_n0 d_M_countDark_25 ?_
        refine A_getf (kf := 31) d_M_countDark_26 hM.o ok_8 (by decide) q_1080 rfl ?_
        refine A_iload_n1 d_M_countDark_29 ?_
        refine A_ialdN d_M_countDark_30 hM.a31 ⟨by omega, by decide⟩ ?_
        refine A_topI ((congrArg (fun z => z.2.1 31 i) he).trans (hw i hi).1) ?_
        first | refine A_if_neN (tgt := 38) d_M_countDark_31 (by decide) (by with_reducible rfl) (by omega) (fun c_31 => ?_) (fun c_31 => ?_) | refine A_if_ne (tgt := 38) d_M_countDark_31 (by decide) (fun c_31 => ?_) (fun c_31 => ?_)
        · refine A_iconst (v := nI 0) d_M_countDark_38 (by decide) ?_
          first | refine A_iaddN d_M_countDark_39 (by with_reducible rfl) (by with_reducible rfl) ?_ | refine A_iadd d_M_countDark_39 ?_
          refine A_putM hM (kf := 32) (ty := .int) d_M_countDark_40 (by decide) q_1081 rfl (by decide +kernel) (by first | rfl | exact bI_nar _) rfl (Nat.le_of_ble_eq_true rfl) rfl (fun h hM => ?_)
          refine A_aload_n0 d_M_countDark_43 ?_
          first | refine A_dupR d_M_countDark_44 ?_ | refine A_dupI d_M_countDark_44 ?_
          refine A_getf (kf := 33) d_M_countDark_45 hM.o ok_8 (by decide) q_1082 rfl ?_
          refine A_topI he2 ?_
          refine A_aload_n0 d_M_countDark_48 ?_
          refine A_getf (kf := 31) d_M_countDark_49 hM.o ok_8 (by decide) q_1080 rfl ?_
          refine A_iload_n1 d_M_countDark_52 ?_
          refine A_ialdN d_M_countDark_53 hM.a31 ⟨by omega, by decide⟩ ?_
          refine A_topI ((congrArg (fun z => z.2.1 31 i) he).trans (hw i hi).1) ?_
          refine A_iconst (v := nI 1) d_M_countDark_54 (by decide) ?_
          first | refine A_icmp_neN (tgt := 62) d_M_countDark_55 (by decide) (by with_reducible rfl) (by with_reducible rfl) (by omega) (by omega) (fun c_55 => ?_) (fun c_55 => ?_) | refine A_icmp_ne (tgt := 62) d_M_countDark_55 (by decide) (fun c_55 => ?_) (fun c_55 => ?_)
          · refine A_iconst (v := nI 0) d_M_countDark_62 (by decide) ?_
            first | refine A_iaddN d_M_countDark_63 (by with_reducible rfl) (by with_reducible rfl) ?_ | refine A_iadd d_M_countDark_63 ?_
            refine A_putM hM (kf := 33) (ty := .int) d_M_countDark_64 (by decide) q_1082 rfl (by decide +kernel) (by first | rfl | exact bI_nar _) rfl (Nat.le_of_ble_eq_true rfl) rfl (fun h hM => ?_)
            first | refine A_iinc1 d_M_countDark_67 (nI_1 _) trivial ?_ | refine A_iinc1 d_M_countDark_67 rfl trivial ?_
            refine A_goto (tgt := 12) d_M_countDark_70 (by decide) ?_
            first | exact ih _ _ hM he (by simp only [sumN, ← hf0, c_17, c_31, c_55, reduceIte]; rfl) (by simp only [sumN, ← hf1, c_17, c_31, c_55, reduceIte]; rfl) (fun j a b => (fup_ne _ _ b).trans ((fup_ne _ _ a).trans (he3 j a b))) | (exfalso; omega)
          · refine A_iconst (v := nI 1) d_M_countDark_58 (by decide) ?_
            refine A_goto (tgt := 63) d_M_countDark_59 (by decide) ?_
            first | refine A_iaddN d_M_countDark_63 (by with_reducible rfl) (by with_reducible rfl) ?_ | refine A_iadd d_M_countDark_63 ?_
            refine A_putM hM (kf := 33) (ty := .int) d_M_countDark_64 (by decide) q_1082 rfl (by decide +kernel) (by first | rfl | exact bI_nar _) rfl (Nat.le_of_ble_eq_true rfl) rfl (fun h hM => ?_)
            first | refine A_iinc1 d_M_countDark_67 (nI_1 _) trivial ?_ | refine A_iinc1 d_M_countDark_67 rfl trivial ?_
            refine A_goto (tgt := 12) d_M_countDark_70 (by decide) ?_
            first | exact ih _ _ hM he (by simp only [sumN, ← hf0, c_17, c_31, c_55, reduceIte]; rfl) (by simp only [sumN, ← hf1, c_17, c_31, c_55, reduceIte]; rfl) (fun j a b => (fup_ne _ _ b).trans ((fup_ne _ _ a).trans (he3 j a b))) | (exfalso; omega)
        · refine A_iconst (v := nI 1) d_M_countDark_34 (by decide) ?_
          refine A_goto (tgt := 39) d_M_countDark_35 (by decide) ?_
          first | refine A_iaddN d_M_countDark_39 (by with_reducible rfl) (by with_reducible rfl) ?_ | refine A_iadd d_M_countDark_39 ?_
          refine A_putM hM (kf := 32) (ty := .int) d_M_countDark_40 (by decide) q_1081 rfl (by decide +kernel) (by first | rfl | exact bI_nar _) rfl (Nat.le_of_ble_eq_true rfl) rfl (fun h hM => ?_)
          refine A_aload_n0 d_M_countDark_43 ?_
          first | refine A_dupR d_M_countDark_44 ?_ | refine A_dupI d_M_countDark_44 ?_
          refine A_getf (kf := 33) d_M_countDark_45 hM.o ok_8 (by decide) q_1082 rfl ?_
          refine A_topI he2 ?_
          refine A_aload_n0 d_M_countDark_48 ?_
          refine A_getf (kf := 31) d_M_countDark_49 hM.o ok_8 (by decide) q_1080 rfl ?_
          refine A_iload_n1 d_M_countDark_52 ?_
          refine A_ialdN d_M_countDark_53 hM.a31 ⟨by omega, by decide⟩ ?_
          refine A_topI ((congrArg (fun z => z.2.1 31 i) he).trans (hw i hi).1) ?_
          refine A_iconst (v := nI 1) d_M_countDark_54 (by decide) ?_
          first | refine A_icmp_neN (tgt := 62) d_M_countDark_55 (by decide) (by with_reducible rfl) (by with_reducible rfl) (by omega) (by omega) (fun c_55 => ?_) (fun c_55 => ?_) | refine A_icmp_ne (tgt := 62) d_M_countDark_55 (by decide) (fun c_55 => ?_) (fun c_55 => ?_)
          · refine A_iconst (v := nI 0) d_M_countDark_62 (by decide) ?_
            first | refine A_iaddN d_M_countDark_63 (by with_reducible rfl) (by with_reducible rfl) ?_ | refine A_iadd d_M_countDark_63 ?_
            refine A_putM hM (kf := 33) (ty := .int) d_M_countDark_64 (by decide) q_1082 rfl (by decide +kernel) (by first | rfl | exact bI_nar _) rfl (Nat.le_of_ble_eq_true rfl) rfl (fun h hM => ?_)
            first | refine A_iinc1 d_M_countDark_67 (nI_1 _) trivial ?_ | refine A_iinc1 d_M_countDark_67 rfl trivial ?_
            refine A_goto (tgt := 12) d_M_countDark_70 (by decide) ?_
            first | exact ih _ _ hM he (by simp only [sumN, ← hf0, c_17, c_31, c_55, reduceIte]; rfl) (by simp only [sumN, ← hf1, c_17, c_31, c_55, reduceIte]; rfl) (fun j a b => (fup_ne _ _ b).trans ((fup_ne _ _ a).trans (he3 j a b))) | (exfalso; omega)
          · refine A_iconst (v := nI 1) d_M_countDark_58 (by decide) ?_
            refine A_goto (tgt := 63) d_M_countDark_59 (by decide) ?_
            first | refine A_iaddN d_M_countDark_63 (by with_reducible rfl) (by with_reducible rfl) ?_ | refine A_iadd d_M_countDark_63 ?_
            refine A_putM hM (kf := 33) (ty := .int) d_M_countDark_64 (by decide) q_1082 rfl (by decide +kernel) (by first | rfl | exact bI_nar _) rfl (Nat.le_of_ble_eq_true rfl) rfl (fun h hM => ?_)
            first | refine A_iinc1 d_M_countDark_67 (nI_1 _) trivial ?_ | refine A_iinc1 d_M_countDark_67 rfl trivial ?_
            refine A_goto (tgt := 12) d_M_countDark_70 (by decide) ?_
            first | exact ih _ _ hM he (by simp only [sumN, ← hf0, c_17, c_31, c_55, reduceIte]; rfl) (by simp only [sumN, ← hf1, c_17, c_31, c_55, reduceIte]; rfl) (fun j a b => (fup_ne _ _ b).trans ((fup_ne _ _ a).trans (he3 j a b))) | (exfalso; omega)
  refine Ctr.of (by decide +kernel) (by simp) (Nat.le_of_ble_eq_true rfl) (L0 := [some (.ref m), none]) rfl ?_
  refine A_aload_n0 d_M_countDark_0 ?_
  refine A_iconst (v := nI 0) d_M_countDark_1 (by decide) ?_
  refine A_putM hM (kf := 32) (ty := .int) d_M_countDark_2 (by decide) q_1081 rfl (by decide +kernel) (by first | rfl | exact bI_nar _) rfl (Nat.le_of_ble_eq_true rfl) rfl (fun h hM => ?_)
  refine A_aload_n0 d_M_countDark_5 ?_
  refine A_iconst (v := nI 0) d_M_countDark_6 (by decide) ?_
  refine A_putM hM (kf := 33) (ty := .int) d_M_countDark_7 (by decide) q_1082 rfl (by decide +kernel) (by first | rfl | exact bI_nar _) rfl (Nat.le_of_ble_eq_true rfl) rfl (fun h hM => ?_)
  refine A_iconst (v := nI 0) d_M_countDark_10 (by decide) ?_
  refine A_istore1 d_M_countDark_11 trivial ?_
  exact key 0 (Nat.zero_le _) h _ hM rfl rfl rfl (fun j a b => (fup_ne _ _ b).trans (fup_ne _ _ a))
