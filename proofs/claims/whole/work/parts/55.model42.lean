def stoP (g : Nat → Int32) (w k : Nat) (T : Nat → Nat) (i : Nat) : Nat → Int32 := fun j => if w * k ≤ j ∧ j < w * k + i then nI (T (j - w * k)) else g j
def stoF (g : Nat → Int32) (w k : Nat) (T : Nat → Nat) : Nat → Int32 := stoP g w k T w
theorem stoP_s {g : Nat → Int32} {w k : Nat} {T : Nat → Nat} {i : Nat} : fup (stoP g w k T i) (w * k + i) (nI (T i)) = stoP g w k T (i + 1) := by
  funext j
  unfold fup stoP
  by_cases q : j = w * k + i
  · subst q
    rw [if_pos rfl, if_pos (by omega), show w * k + i - w * k = i by omega]
  · rw [if_neg q]
    by_cases r : w * k ≤ j ∧ j < w * k + i
    · rw [if_pos r, if_pos (by omega)]
    · rw [if_neg r, if_neg (by omega)]
theorem stoP_0 {g : Nat → Int32} {w k : Nat} {T : Nat → Nat} : stoP g w k T 0 = g := by
  funext j
  unfold stoP
  rw [if_neg (by omega)]
def wdN (of : Nat) : Nat := if of = 0 then 312 else if of = 1 then 24 else if of = 2 then 61 else if of = 3 then 61 else 8
set_option maxHeartbeats 4000000 in
set_option maxRecDepth 100000 in
theorem c_M_store6 {G : GE} {h0 h : AH} {m : Nat} {S : MS} (hM : MW h0 h m S) {T : Nat → Nat} (hT : ∀ i, i < 312 → S.2.2.1 20 i = nI (T i)) (k : Nat) (hk : k < 2) : Ctr G y_M_store b_M_store 5 none r_M_store [.ref m, .ref (m + 6), .int (nI 312), .int (nI k)] h (fun v h' => v = none ∧ ∃ S1, MW h0 h' m S1 ∧ S1.2.2.1 6 = stoF (S.2.2.1 6) 312 k T ∧ ∀ j, j ≠ 6 → S1.2.2.1 j = S.2.2.1 j) := by
  have key : ∀ i, i ≤ 312 → ∀ (h : AH) (S1 : MS), MW h0 h m S1 → S1.2.2.1 6 = stoP (S.2.2.1 6) 312 k T i → (∀ j, j ≠ 6 → S1.2.2.1 j = S.2.2.1 j) → WA G y_M_store b_M_store 5 none r_M_store 0 0 (fun v h' => v = none ∧ ∃ S1, MW h0 h' m S1 ∧ S1.2.2.1 6 = stoF (S.2.2.1 6) 312 k T ∧ ∀ j, j ≠ 6 → S1.2.2.1 j = S.2.2.1 j) 0 0 3 [some (.ref m), some (.ref (m + 6)), some (.int (nI 312)), some (.int (nI k)), some (.int (nI i))] [] h := by
    refine down ?_ (fun i hi ih => ?_)
    · intro h S1 hM e1 x1
      refine A_iload4 d_M_store_3 ?_
      refine A_iload_n2 d_M_store_5 ?_
      first | refine A_icmp_geN (tgt := 30) d_M_store_6 (by decide) (by with_reducible rfl) (by with_reducible rfl) (by omega) (by omega) (fun c_6 => ?_) (fun c_6 => ?_) | refine A_icmp_ge (tgt := 30) d_M_store_6 (by decide) (fun c_6 => ?_) (fun c_6 => ?_)
      · refine A_vret d_M_store_30 rfl ⟨Nat.zero_le _, Nat.zero_le _⟩ ?_
        exact ⟨rfl, S1, hM, e1, x1⟩
      · exact absurd c_6 (by omega)
    · intro h S1 hM e1 x1
      refine A_iload4 d_M_store_3 ?_
      refine A_iload_n2 d_M_store_5 ?_
      first | refine A_icmp_geN (tgt := 30) d_M_store_6 (by decide) (by with_reducible rfl) (by with_reducible rfl) (by omega) (by omega) (fun c_6 => ?_) (fun c_6 => ?_) | refine A_icmp_ge (tgt := 30) d_M_store_6 (by decide) (fun c_6 => ?_) (fun c_6 => ?_)
      · exact absurd c_6 (by omega)
      · refine A_aload_n1 d_M_store_9 ?_
        refine A_iload_n2 d_M_store_10 ?_
        refine A_iload_n3 d_M_store_11 ?_
        first | refine A_imulN d_M_store_12 (by with_reducible rfl) (by with_reducible rfl) ?_ | refine A_imul d_M_store_12 ?_
        refine A_iload4 d_M_store_13 ?_
        first | refine A_iaddN d_M_store_15 (by with_reducible rfl) (by with_reducible rfl) ?_ | refine A_iadd d_M_store_15 ?_
        refine A_aload_n0 d_M_store_16 ?_
        refine A_getf (kf := 20) d_M_store_17 hM.o ok_8 (by decide) q_1069 rfl ?_
        refine A_iload4 d_M_store_20 ?_
        refine A_ialdN d_M_store_22 hM.a20 ⟨by omega, by decide⟩ ?_
        refine A_topI (show S1.2.2.1 20 i = nI (T i) by rw [x1 20 (by decide)]; exact hT i (by omega)) ?_
        refine A_st6 hM d_M_store_23 (by omega) (fun h hM => ?_)
        obtain ⟨S3, hM, e3, x3, -, -, -⟩ := opa hM
        first | refine A_iinc4 d_M_store_24 (nI_1 _) trivial ?_ | refine A_iinc4 d_M_store_24 rfl trivial ?_
        refine A_goto (tgt := 3) d_M_store_27 (by decide) ?_
        exact ih _ _ hM (by rw [e3, e1, stoP_s]) (fun j hj => (x3 j hj).trans (x1 j hj))
  refine Ctr.of (by decide +kernel) (by simp) (Nat.le_of_ble_eq_true rfl) (L0 := [some (.ref m), some (.ref (m + 6)), some (.int (nI 312)), some (.int (nI k)), none]) rfl ?_
  refine A_iconst (v := nI 0) d_M_store_0 (by decide) ?_
  refine A_istore4 d_M_store_1 trivial ?_
  exact key 0 (Nat.zero_le _) _ _ hM stoP_0.symm (fun _ _ => rfl)
set_option maxHeartbeats 4000000 in
set_option maxRecDepth 100000 in
theorem c_M_store7 {G : GE} {h0 h : AH} {m : Nat} {S : MS} (hM : MW h0 h m S) {T : Nat → Nat} (hT : ∀ i, i < 24 → S.2.2.1 20 i = nI (T i)) (k : Nat) (hk : k < 2) : Ctr G y_M_store b_M_store 5 none r_M_store [.ref m, .ref (m + 7), .int (nI 24), .int (nI k)] h (fun v h' => v = none ∧ ∃ S1, MW h0 h' m S1 ∧ S1.2.2.1 7 = stoF (S.2.2.1 7) 24 k T ∧ ∀ j, j ≠ 7 → S1.2.2.1 j = S.2.2.1 j) := by
  have key : ∀ i, i ≤ 24 → ∀ (h : AH) (S1 : MS), MW h0 h m S1 → S1.2.2.1 7 = stoP (S.2.2.1 7) 24 k T i → (∀ j, j ≠ 7 → S1.2.2.1 j = S.2.2.1 j) → WA G y_M_store b_M_store 5 none r_M_store 0 0 (fun v h' => v = none ∧ ∃ S1, MW h0 h' m S1 ∧ S1.2.2.1 7 = stoF (S.2.2.1 7) 24 k T ∧ ∀ j, j ≠ 7 → S1.2.2.1 j = S.2.2.1 j) 0 0 3 [some (.ref m), some (.ref (m + 7)), some (.int (nI 24)), some (.int (nI k)), some (.int (nI i))] [] h := by
    refine down ?_ (fun i hi ih => ?_)
    · intro h S1 hM e1 x1
      refine A_iload4 d_M_store_3 ?_
      refine A_iload_n2 d_M_store_5 ?_
      first | refine A_icmp_geN (tgt := 30) d_M_store_6 (by decide) (by with_reducible rfl) (by with_reducible rfl) (by omega) (by omega) (fun c_6 => ?_) (fun c_6 => ?_) | refine A_icmp_ge (tgt := 30) d_M_store_6 (by decide) (fun c_6 => ?_) (fun c_6 => ?_)
      · refine A_vret d_M_store_30 rfl ⟨Nat.zero_le _, Nat.zero_le _⟩ ?_
        exact ⟨rfl, S1, hM, e1, x1⟩
      · exact absurd c_6 (by omega)
    · intro h S1 hM e1 x1
      refine A_iload4 d_M_store_3 ?_
      refine A_iload_n2 d_M_store_5 ?_
      first | refine A_icmp_geN (tgt := 30) d_M_store_6 (by decide) (by with_reducible rfl) (by with_reducible rfl) (by omega) (by omega) (fun c_6 => ?_) (fun c_6 => ?_) | refine A_icmp_ge (tgt := 30) d_M_store_6 (by decide) (fun c_6 => ?_) (fun c_6 => ?_)
      · exact absurd c_6 (by omega)
      · refine A_aload_n1 d_M_store_9 ?_
        refine A_iload_n2 d_M_store_10 ?_
        refine A_iload_n3 d_M_store_11 ?_
        first | refine A_imulN d_M_store_12 (by with_reducible rfl) (by with_reducible rfl) ?_ | refine A_imul d_M_store_12 ?_
        refine A_iload4 d_M_store_13 ?_
        first | refine A_iaddN d_M_store_15 (by with_reducible rfl) (by with_reducible rfl) ?_ | refine A_iadd d_M_store_15 ?_
        refine A_aload_n0 d_M_store_16 ?_
        refine A_getf (kf := 20) d_M_store_17 hM.o ok_8 (by decide) q_1069 rfl ?_
        refine A_iload4 d_M_store_20 ?_
        refine A_ialdN d_M_store_22 hM.a20 ⟨by omega, by decide⟩ ?_
        refine A_topI (show S1.2.2.1 20 i = nI (T i) by rw [x1 20 (by decide)]; exact hT i (by omega)) ?_
        refine A_st7 hM d_M_store_23 (by omega) (fun h hM => ?_)
        obtain ⟨S3, hM, e3, x3, -, -, -⟩ := opa hM
        first | refine A_iinc4 d_M_store_24 (nI_1 _) trivial ?_ | refine A_iinc4 d_M_store_24 rfl trivial ?_
        refine A_goto (tgt := 3) d_M_store_27 (by decide) ?_
        exact ih _ _ hM (by rw [e3, e1, stoP_s]) (fun j hj => (x3 j hj).trans (x1 j hj))
  refine Ctr.of (by decide +kernel) (by simp) (Nat.le_of_ble_eq_true rfl) (L0 := [some (.ref m), some (.ref (m + 7)), some (.int (nI 24)), some (.int (nI k)), none]) rfl ?_
  refine A_iconst (v := nI 0) d_M_store_0 (by decide) ?_
  refine A_istore4 d_M_store_1 trivial ?_
  exact key 0 (Nat.zero_le _) _ _ hM stoP_0.symm (fun _ _ => rfl)
set_option maxHeartbeats 4000000 in
set_option maxRecDepth 100000 in
theorem c_M_store8 {G : GE} {h0 h : AH} {m : Nat} {S : MS} (hM : MW h0 h m S) {T : Nat → Nat} (hT : ∀ i, i < 61 → S.2.2.1 20 i = nI (T i)) (k : Nat) (hk : k < 2) : Ctr G y_M_store b_M_store 5 none r_M_store [.ref m, .ref (m + 8), .int (nI 61), .int (nI k)] h (fun v h' => v = none ∧ ∃ S1, MW h0 h' m S1 ∧ S1.2.2.1 8 = stoF (S.2.2.1 8) 61 k T ∧ ∀ j, j ≠ 8 → S1.2.2.1 j = S.2.2.1 j) := by
  have key : ∀ i, i ≤ 61 → ∀ (h : AH) (S1 : MS), MW h0 h m S1 → S1.2.2.1 8 = stoP (S.2.2.1 8) 61 k T i → (∀ j, j ≠ 8 → S1.2.2.1 j = S.2.2.1 j) → WA G y_M_store b_M_store 5 none r_M_store 0 0 (fun v h' => v = none ∧ ∃ S1, MW h0 h' m S1 ∧ S1.2.2.1 8 = stoF (S.2.2.1 8) 61 k T ∧ ∀ j, j ≠ 8 → S1.2.2.1 j = S.2.2.1 j) 0 0 3 [some (.ref m), some (.ref (m + 8)), some (.int (nI 61)), some (.int (nI k)), some (.int (nI i))] [] h := by
    refine down ?_ (fun i hi ih => ?_)
    · intro h S1 hM e1 x1
      refine A_iload4 d_M_store_3 ?_
      refine A_iload_n2 d_M_store_5 ?_
      first | refine A_icmp_geN (tgt := 30) d_M_store_6 (by decide) (by with_reducible rfl) (by with_reducible rfl) (by omega) (by omega) (fun c_6 => ?_) (fun c_6 => ?_) | refine A_icmp_ge (tgt := 30) d_M_store_6 (by decide) (fun c_6 => ?_) (fun c_6 => ?_)
      · refine A_vret d_M_store_30 rfl ⟨Nat.zero_le _, Nat.zero_le _⟩ ?_
        exact ⟨rfl, S1, hM, e1, x1⟩
      · exact absurd c_6 (by omega)
    · intro h S1 hM e1 x1
      refine A_iload4 d_M_store_3 ?_
      refine A_iload_n2 d_M_store_5 ?_
      first | refine A_icmp_geN (tgt := 30) d_M_store_6 (by decide) (by with_reducible rfl) (by with_reducible rfl) (by omega) (by omega) (fun c_6 => ?_) (fun c_6 => ?_) | refine A_icmp_ge (tgt := 30) d_M_store_6 (by decide) (fun c_6 => ?_) (fun c_6 => ?_)
      · exact absurd c_6 (by omega)
      · refine A_aload_n1 d_M_store_9 ?_
        refine A_iload_n2 d_M_store_10 ?_
        refine A_iload_n3 d_M_store_11 ?_
        first | refine A_imulN d_M_store_12 (by with_reducible rfl) (by with_reducible rfl) ?_ | refine A_imul d_M_store_12 ?_
        refine A_iload4 d_M_store_13 ?_
        first | refine A_iaddN d_M_store_15 (by with_reducible rfl) (by with_reducible rfl) ?_ | refine A_iadd d_M_store_15 ?_
        refine A_aload_n0 d_M_store_16 ?_
        refine A_getf (kf := 20) d_M_store_17 hM.o ok_8 (by decide) q_1069 rfl ?_
        refine A_iload4 d_M_store_20 ?_
        refine A_ialdN d_M_store_22 hM.a20 ⟨by omega, by decide⟩ ?_
        refine A_topI (show S1.2.2.1 20 i = nI (T i) by rw [x1 20 (by decide)]; exact hT i (by omega)) ?_
        refine A_st8 hM d_M_store_23 (by omega) (fun h hM => ?_)
        obtain ⟨S3, hM, e3, x3, -, -, -⟩ := opa hM
        first | refine A_iinc4 d_M_store_24 (nI_1 _) trivial ?_ | refine A_iinc4 d_M_store_24 rfl trivial ?_
        refine A_goto (tgt := 3) d_M_store_27 (by decide) ?_
        exact ih _ _ hM (by rw [e3, e1, stoP_s]) (fun j hj => (x3 j hj).trans (x1 j hj))
  refine Ctr.of (by decide +kernel) (by simp) (Nat.le_of_ble_eq_true rfl) (L0 := [some (.ref m), some (.ref (m + 8)), some (.int (nI 61)), some (.int (nI k)), none]) rfl ?_
  refine A_iconst (v := nI 0) d_M_store_0 (by decide) ?_
  refine A_istore4 d_M_store_1 trivial ?_
  exact key 0 (Nat.zero_le _) _ _ hM stoP_0.symm (fun _ _ => rfl)
set_option maxHeartbeats 4000000 in
set_option maxRecDepth 100000 in
theorem c_M_store9 {G : GE} {h0 h : AH} {m : Nat} {S : MS} (hM : MW h0 h m S) {T : Nat → Nat} (hT : ∀ i, i < 61 → S.2.2.1 20 i = nI (T i)) (k : Nat) (hk : k < 2) : Ctr G y_M_store b_M_store 5 none r_M_store [.ref m, .ref (m + 9), .int (nI 61), .int (nI k)] h (fun v h' => v = none ∧ ∃ S1, MW h0 h' m S1 ∧ S1.2.2.1 9 = stoF (S.2.2.1 9) 61 k T ∧ ∀ j, j ≠ 9 → S1.2.2.1 j = S.2.2.1 j) := by
  have key : ∀ i, i ≤ 61 → ∀ (h : AH) (S1 : MS), MW h0 h m S1 → S1.2.2.1 9 = stoP (S.2.2.1 9) 61 k T i → (∀ j, j ≠ 9 → S1.2.2.1 j = S.2.2.1 j) → WA G y_M_store b_M_store 5 none r_M_store 0 0 (fun v h' => v = none ∧ ∃ S1, MW h0 h' m S1 ∧ S1.2.2.1 9 = stoF (S.2.2.1 9) 61 k T ∧ ∀ j, j ≠ 9 → S1.2.2.1 j = S.2.2.1 j) 0 0 3 [some (.ref m), some (.ref (m + 9)), some (.int (nI 61)), some (.int (nI k)), some (.int (nI i))] [] h := by
    refine down ?_ (fun i hi ih => ?_)
    · intro h S1 hM e1 x1
      refine A_iload4 d_M_store_3 ?_
      refine A_iload_n2 d_M_store_5 ?_
      first | refine A_icmp_geN (tgt := 30) d_M_store_6 (by decide) (by with_reducible rfl) (by with_reducible rfl) (by omega) (by omega) (fun c_6 => ?_) (fun c_6 => ?_) | refine A_icmp_ge (tgt := 30) d_M_store_6 (by decide) (fun c_6 => ?_) (fun c_6 => ?_)
      · refine A_vret d_M_store_30 rfl ⟨Nat.zero_le _, Nat.zero_le _⟩ ?_
        exact ⟨rfl, S1, hM, e1, x1⟩
      · exact absurd c_6 (by omega)
    · intro h S1 hM e1 x1
      refine A_iload4 d_M_store_3 ?_
      refine A_iload_n2 d_M_store_5 ?_
      first | refine A_icmp_geN (tgt := 30) d_M_store_6 (by decide) (by with_reducible rfl) (by with_reducible rfl) (by omega) (by omega) (fun c_6 => ?_) (fun c_6 => ?_) | refine A_icmp_ge (tgt := 30) d_M_store_6 (by decide) (fun c_6 => ?_) (fun c_6 => ?_)
      · exact absurd c_6 (by omega)
      · refine A_aload_n1 d_M_store_9 ?_
        refine A_iload_n2 d_M_store_10 ?_
        refine A_iload_n3 d_M_store_11 ?_
        first | refine A_imulN d_M_store_12 (by with_reducible rfl) (by with_reducible rfl) ?_ | refine A_imul d_M_store_12 ?_
        refine A_iload4 d_M_store_13 ?_
        first | refine A_iaddN d_M_store_15 (by with_reducible rfl) (by with_reducible rfl) ?_ | refine A_iadd d_M_store_15 ?_
        refine A_aload_n0 d_M_store_16 ?_
        refine A_getf (kf := 20) d_M_store_17 hM.o ok_8 (by decide) q_1069 rfl ?_
        refine A_iload4 d_M_store_20 ?_
        refine A_ialdN d_M_store_22 hM.a20 ⟨by omega, by decide⟩ ?_
        refine A_topI (show S1.2.2.1 20 i = nI (T i) by rw [x1 20 (by decide)]; exact hT i (by omega)) ?_
        refine A_st9 hM d_M_store_23 (by omega) (fun h hM => ?_)
        obtain ⟨S3, hM, e3, x3, -, -, -⟩ := opa hM
        first | refine A_iinc4 d_M_store_24 (nI_1 _) trivial ?_ | refine A_iinc4 d_M_store_24 rfl trivial ?_
        refine A_goto (tgt := 3) d_M_store_27 (by decide) ?_
        exact ih _ _ hM (by rw [e3, e1, stoP_s]) (fun j hj => (x3 j hj).trans (x1 j hj))
  refine Ctr.of (by decide +kernel) (by simp) (Nat.le_of_ble_eq_true rfl) (L0 := [some (.ref m), some (.ref (m + 9)), some (.int (nI 61)), some (.int (nI k)), none]) rfl ?_
  refine A_iconst (v := nI 0) d_M_store_0 (by decide) ?_
  refine A_istore4 d_M_store_1 trivial ?_
  exact key 0 (Nat.zero_le _) _ _ hM stoP_0.symm (fun _ _ => rfl)
set_option maxHeartbeats 4000000 in
set_option maxRecDepth 100000 in
theorem c_M_store10 {G : GE} {h0 h : AH} {m : Nat} {S : MS} (hM : MW h0 h m S) {T : Nat → Nat} (hT : ∀ i, i < 8 → S.2.2.1 20 i = nI (T i)) (k : Nat) (hk : k < 2) : Ctr G y_M_store b_M_store 5 none r_M_store [.ref m, .ref (m + 10), .int (nI 8), .int (nI k)] h (fun v h' => v = none ∧ ∃ S1, MW h0 h' m S1 ∧ S1.2.2.1 10 = stoF (S.2.2.1 10) 8 k T ∧ ∀ j, j ≠ 10 → S1.2.2.1 j = S.2.2.1 j) := by
  have key : ∀ i, i ≤ 8 → ∀ (h : AH) (S1 : MS), MW h0 h m S1 → S1.2.2.1 10 = stoP (S.2.2.1 10) 8 k T i → (∀ j, j ≠ 10 → S1.2.2.1 j = S.2.2.1 j) → WA G y_M_store b_M_store 5 none r_M_store 0 0 (fun v h' => v = none ∧ ∃ S1, MW h0 h' m S1 ∧ S1.2.2.1 10 = stoF (S.2.2.1 10) 8 k T ∧ ∀ j, j ≠ 10 → S1.2.2.1 j = S.2.2.1 j) 0 0 3 [some (.ref m), some (.ref (m + 10)), some (.int (nI 8)), some (.int (nI k)), some (.int (nI i))] [] h := by
    refine down ?_ (fun i hi ih => ?_)
    · intro h S1 hM e1 x1
      refine A_iload4 d_M_store_3 ?_
      refine A_iload_n2 d_M_store_5 ?_
      first | refine A_icmp_geN (tgt := 30) d_M_store_6 (by decide) (by with_reducible rfl) (by with_reducible rfl) (by omega) (by omega) (fun c_6 => ?_) (fun c_6 => ?_) | refine A_icmp_ge (tgt := 30) d_M_store_6 (by decide) (fun c_6 => ?_) (fun c_6 => ?_)
      · refine A_vret d_M_store_30 rfl ⟨Nat.zero_le _, Nat.zero_le _⟩ ?_
        exact ⟨rfl, S1, hM, e1, x1⟩
      · exact absurd c_6 (by omega)
    · intro h S1 hM e1 x1
      refine A_iload4 d_M_store_3 ?_
      refine A_iload_n2 d_M_store_5 ?_
      first | refine A_icmp_geN (tgt := 30) d_M_store_6 (by decide) (by with_reducible rfl) (by with_reducible rfl) (by omega) (by omega) (fun c_6 => ?_) (fun c_6 => ?_) | refine A_icmp_ge (tgt := 30) d_M_store_6 (by decide) (fun c_6 => ?_) (fun c_6 => ?_)
      · exact absurd c_6 (by omega)
      · refine A_aload_n1 d_M_store_9 ?_
        refine A_iload_n2 d_M_store_10 ?_
        refine A_iload_n3 d_M_store_11 ?_
        first | refine A_imulN d_M_store_12 (by with_reducible rfl) (by with_reducible rfl) ?_ | refine A_imul d_M_store_12 ?_
        refine A_iload4 d_M_store_13 ?_
        first | refine A_iaddN d_M_store_15 (by with_reducible rfl) (by with_reducible rfl) ?_ | refine A_iadd d_M_store_15 ?_
        refine A_aload_n0 d_M_store_16 ?_
        refine A_getf (kf := 20) d_M_store_17 hM.o ok_8 (by decide) q_1069 rfl ?_
        refine A_iload4 d_M_store_20 ?_
        refine A_ialdN d_M_store_22 hM.a20 ⟨by omega, by decide⟩ ?_
        refine A_topI (show S1.2.2.1 20 i = nI (T i) by rw [x1 20 (by decide)]; exact hT i (by omega)) ?_
        refine A_st10 hM d_M_store_23 (by omega) (fun h hM => ?_)
        obtain ⟨S3, hM, e3, x3, -, -, -⟩ := opa hM
        first | refine A_iinc4 d_M_store_24 (nI_1 _) trivial ?_ | refine A_iinc4 d_M_store_24 rfl trivial ?_
        refine A_goto (tgt := 3) d_M_store_27 (by decide) ?_
        exact ih _ _ hM (by rw [e3, e1, stoP_s]) (fun j hj => (x3 j hj).trans (x1 j hj))
  refine Ctr.of (by decide +kernel) (by simp) (Nat.le_of_ble_eq_true rfl) (L0 := [some (.ref m), some (.ref (m + 10)), some (.int (nI 8)), some (.int (nI k)), none]) rfl ?_
  refine A_iconst (v := nI 0) d_M_store_0 (by decide) ?_
  refine A_istore4 d_M_store_1 trivial ?_
  exact key 0 (Nat.zero_le _) _ _ hM stoP_0.symm (fun _ _ => rfl)
set_option maxHeartbeats 4000000 in
set_option maxRecDepth 100000 in
theorem c_M_storeAll {G : GE} {h0 h : AH} {m : Nat} {S : MS} (hM : MW h0 h m S) {T : Nat → Nat} (hT : ∀ i, i < 312 → S.2.2.1 20 i = nI (T i)) {of : Nat} (hof : of ≤ 4) (k : Nat) (hk : k < 2) : Ctr G y_M_storeAll b_M_storeAll 3 none r_M_storeAll [.ref m, .int (nI of), .int (nI k)] h (fun v h' => v = none ∧ ∃ S1, MW h0 h' m S1 ∧ S1.2.2.1 (6 + of) = stoF (S.2.2.1 (6 + of)) (wdN of) k T ∧ ∀ j, j ≠ 6 + of → S1.2.2.1 j = S.2.2.1 j) := by
  refine Ctr.of (by decide +kernel) (by simp) (Nat.le_of_ble_eq_true rfl) (L0 := [some (.ref m), some (.int (nI of)), some (.int (nI k))]) rfl ?_
  rcases (show of = 0 ∨ of = 1 ∨ of = 2 ∨ of = 3 ∨ of = 4 by omega) with rfl | rfl | rfl | rfl | rfl
  · refine A_iload_n1 d_M_storeAll_0 ?_
    refine A_tableIn (tgt := 32) d_M_storeAll_1 (by decide) (by decide) rfl (by decide) ?_
    refine A_aload_n0 d_M_storeAll_32 ?_
    refine A_aload_n0 d_M_storeAll_33 ?_
    refine A_getf (kf := 6) d_M_storeAll_34 hM.o ok_8 (by decide) q_1055 rfl ?_
    refine A_sipush (v := nI 312) d_M_storeAll_37 (by decide) ?_
    refine A_iload_n2 d_M_storeAll_40 ?_
    refine A_callV d_M_storeAll_41 (c_M_store6 hM (T := T) (fun i hi => hT i (by omega)) k hk) hM.o rfl q_1327 q_1329 qs_34 mk_M_store rfl (by decide) rfl (Nat.le_of_ble_eq_true rfl) ⟨Nat.le_of_ble_eq_true rfl, Nat.le_of_ble_eq_true rfl⟩ (fun v h1 hv => ?_)
    obtain ⟨rfl, S1, hM, e1, x1⟩ := hv
    refine A_vret d_M_storeAll_44 rfl ⟨Nat.zero_le _, Nat.zero_le _⟩ ?_
    exact ⟨rfl, S1, hM, e1, x1⟩
  · refine A_iload_n1 d_M_storeAll_0 ?_
    refine A_tableIn (tgt := 45) d_M_storeAll_1 (by decide) (by decide) rfl (by decide) ?_
    refine A_aload_n0 d_M_storeAll_45 ?_
    refine A_aload_n0 d_M_storeAll_46 ?_
    refine A_getf (kf := 7) d_M_storeAll_47 hM.o ok_8 (by decide) q_1056 rfl ?_
    refine A_bipush (v := nI 24) d_M_storeAll_50 (by decide) ?_
    refine A_iload_n2 d_M_storeAll_52 ?_
    refine A_callV d_M_storeAll_53 (c_M_store7 hM (T := T) (fun i hi => hT i (by omega)) k hk) hM.o rfl q_1327 q_1329 qs_34 mk_M_store rfl (by decide) rfl (Nat.le_of_ble_eq_true rfl) ⟨Nat.le_of_ble_eq_true rfl, Nat.le_of_ble_eq_true rfl⟩ (fun v h1 hv => ?_)
    obtain ⟨rfl, S1, hM, e1, x1⟩ := hv
    refine A_vret d_M_storeAll_56 rfl ⟨Nat.zero_le _, Nat.zero_le _⟩ ?_
    exact ⟨rfl, S1, hM, e1, x1⟩
  · refine A_iload_n1 d_M_storeAll_0 ?_
    refine A_tableIn (tgt := 57) d_M_storeAll_1 (by decide) (by decide) rfl (by decide) ?_
    refine A_aload_n0 d_M_storeAll_57 ?_
    refine A_aload_n0 d_M_storeAll_58 ?_
    refine A_getf (kf := 8) d_M_storeAll_59 hM.o ok_8 (by decide) q_1057 rfl ?_
    refine A_bipush (v := nI 61) d_M_storeAll_62 (by decide) ?_
    refine A_iload_n2 d_M_storeAll_64 ?_
    refine A_callV d_M_storeAll_65 (c_M_store8 hM (T := T) (fun i hi => hT i (by omega)) k hk) hM.o rfl q_1327 q_1329 qs_34 mk_M_store rfl (by decide) rfl (Nat.le_of_ble_eq_true rfl) ⟨Nat.le_of_ble_eq_true rfl, Nat.le_of_ble_eq_true rfl⟩ (fun v h1 hv => ?_)
    obtain ⟨rfl, S1, hM, e1, x1⟩ := hv
    refine A_vret d_M_storeAll_68 rfl ⟨Nat.zero_le _, Nat.zero_le _⟩ ?_
    exact ⟨rfl, S1, hM, e1, x1⟩
  · refine A_iload_n1 d_M_storeAll_0 ?_
    refine A_tableIn (tgt := 69) d_M_storeAll_1 (by decide) (by decide) rfl (by decide) ?_
    refine A_aload_n0 d_M_storeAll_69 ?_
    refine A_aload_n0 d_M_storeAll_70 ?_
    refine A_getf (kf := 9) d_M_storeAll_71 hM.o ok_8 (by decide) q_1058 rfl ?_
    refine A_bipush (v := nI 61) d_M_storeAll_74 (by decide) ?_
    refine A_iload_n2 d_M_storeAll_76 ?_
    refine A_callV d_M_storeAll_77 (c_M_store9 hM (T := T) (fun i hi => hT i (by omega)) k hk) hM.o rfl q_1327 q_1329 qs_34 mk_M_store rfl (by decide) rfl (Nat.le_of_ble_eq_true rfl) ⟨Nat.le_of_ble_eq_true rfl, Nat.le_of_ble_eq_true rfl⟩ (fun v h1 hv => ?_)
    obtain ⟨rfl, S1, hM, e1, x1⟩ := hv
    refine A_vret d_M_storeAll_80 rfl ⟨Nat.zero_le _, Nat.zero_le _⟩ ?_
    exact ⟨rfl, S1, hM, e1, x1⟩
  · refine A_iload_n1 d_M_storeAll_0 ?_
    refine A_tableOut (tgt := 81) d_M_storeAll_1 (Or.inr (by decide)) (by decide) ?_
    refine A_aload_n0 d_M_storeAll_81 ?_
    refine A_aload_n0 d_M_storeAll_82 ?_
    refine A_getf (kf := 10) d_M_storeAll_83 hM.o ok_8 (by decide) q_1059 rfl ?_
    refine A_bipush (v := nI 8) d_M_storeAll_86 (by decide) ?_
    refine A_iload_n2 d_M_storeAll_88 ?_
    refine A_callV d_M_storeAll_89 (c_M_store10 hM (T := T) (fun i hi => hT i (by omega)) k hk) hM.o rfl q_1327 q_1329 qs_34 mk_M_store rfl (by decide) rfl (Nat.le_of_ble_eq_true rfl) ⟨Nat.le_of_ble_eq_true rfl, Nat.le_of_ble_eq_true rfl⟩ (fun v h1 hv => ?_)
    obtain ⟨rfl, S1, hM, e1, x1⟩ := hv
    refine A_vret d_M_storeAll_92 rfl ⟨Nat.zero_le _, Nat.zero_le _⟩ ?_
    exact ⟨rfl, S1, hM, e1, x1⟩
set_option maxHeartbeats 4000000 in
set_option maxRecDepth 100000 in
theorem c_M_text75 {G : GE} {h0 h : AH} {m : Nat} {S : MS} (hM : MW h0 h m S) {B : Nat → Nat} {n of co k : Nat} (hof : of ≤ 4) (hT : TPE S B n) (hc5 : S.2.2.1 5 of = nI co) {xa : Int32} (hx : (xa = -1 ∧ co ≤ 1 ∧ co = k) ∨ (xa = nI k ∧ k < co ∧ co ≤ 2)) : WA G y_M_text b_M_text 4 (some .int) r_M_text 0 0 (fun v h' => (ftN B n of ≠ 0 ∧ v = some (.int (-1)) ∧ ∃ S1, MW h0 h' m S1 ∧ S1.2.2.1 3 = fup (S.2.2.1 3) 0 (nI (ftN B n of)) ∧ S1.2.2.1 4 = fup (S.2.2.1 4) 0 (plN B n of) ∧ ∀ j, j ≠ 3 → j ≠ 4 → (j ≤ 10 ∨ j = 55) → S1.2.2.1 j = S.2.2.1 j) ∨ (ftN B n of = 0 ∧ v = some (.int (nI k)) ∧ ∃ S1, MW h0 h' m S1 ∧ S1.2.2.1 3 = fup (S.2.2.1 3) 0 (nI 0) ∧ S1.2.2.1 4 = fup (S.2.2.1 4) 0 (plN B n of) ∧ S1.2.2.1 5 = fup (S.2.2.1 5) of (nI (if xa = -1 then co + 1 else co)) ∧ S1.2.2.1 (6 + of) = stoF (S.2.2.1 (6 + of)) (wdN of) k (rdX B n of).2.1 ∧ ∀ j, j ≠ 3 → j ≠ 4 → j ≠ 5 → j ≠ 6 + of → (j ≤ 10 ∨ j = 55) → S1.2.2.1 j = S.2.2.1 j)) 0 0 75 [some (.ref m), some (.int (nI of)), some (.int xa), none] [] h := by
  rcases hx with ⟨rfl, hk1, rfl⟩ | ⟨rfl, hk1, hk2⟩
  · skip
    refine A_aload_n0 d_M_text_75 ?_
    refine A_iload_n1 d_M_text_76 ?_
    refine A_callV d_M_text_77 (c_M_readText hM hof hT) hM.o rfl q_1242 q_1244 qs_17 mk_M_readText rfl (by decide) rfl (Nat.le_of_ble_eq_true rfl) ⟨Nat.le_of_ble_eq_true rfl, Nat.le_of_ble_eq_true rfl⟩ (fun v h1 hv => ?_)
    obtain ⟨rfl, S9, hM, e3, e4, x9, t9⟩ := hv
    refine A_if_neB (tgt := 85) d_M_text_80 (by decide) (fun c_80 => ?_) (fun c_80 => ?_)
    · have hf0 : ftN B n of = 0 := of_decide_eq_true c_80
      refine A_iload_n2 d_M_text_85 ?_
      refine A_iconst (v := (-1)) d_M_text_86 (by decide) ?_
      refine A_icmp_ne (tgt := 99) d_M_text_87 (by decide) (fun c => absurd rfl c) (fun c_87 => ?_)
      refine A_aload_n0 d_M_text_90 ?_
      refine A_getf (kf := 5) d_M_text_91 hM.o ok_8 (by decide) q_1054 rfl ?_
      refine A_iload_n1 d_M_text_94 ?_
      refine A_ialdN d_M_text_95 hM.a5 ⟨by omega, by decide⟩ ?_
      refine A_topI (show S9.2.2.1 5 of = nI co by rw [x9 5 (by decide) (by decide) (by decide)]; exact hc5) ?_
      refine A_goto (tgt := 100) d_M_text_96 (by decide) ?_
      refine A_istore3 d_M_text_100 trivial ?_
      refine A_aload_n0 d_M_text_101 ?_
      refine A_getf (kf := 5) d_M_text_102 hM.o ok_8 (by decide) q_1054 rfl ?_
      refine A_iload_n1 d_M_text_105 ?_
      refine A_dup2IR d_M_text_106 ?_
      refine A_ialdN d_M_text_107 hM.a5 ⟨by omega, by decide⟩ ?_
      refine A_topI (show S9.2.2.1 5 of = nI co by rw [x9 5 (by decide) (by decide) (by decide)]; exact hc5) ?_
      refine A_iload_n2 d_M_text_108 ?_
      refine A_iconst (v := (-1)) d_M_text_109 (by decide) ?_
      refine A_icmp_ne (tgt := 117) d_M_text_110 (by decide) (fun c => absurd rfl c) (fun c_110 => ?_)
      refine A_iconst (v := nI 1) d_M_text_113 (by decide) ?_
      refine A_goto (tgt := 118) d_M_text_114 (by decide) ?_
      first | refine A_iaddN d_M_text_118 (by with_reducible rfl) (by with_reducible rfl) ?_ | refine A_iadd d_M_text_118 ?_
      refine A_st5 hM d_M_text_119 (by omega) (fun h hM => ?_)
      obtain ⟨S10, hM, e10, x10, -, -, -⟩ := opa hM
      refine A_aload_n0 d_M_text_120 ?_
      refine A_iload_n1 d_M_text_121 ?_
      refine A_iload_n3 d_M_text_122 ?_
      refine A_callV d_M_text_123 (c_M_storeAll hM (T := (rdX B n of).2.1) (fun i hi => by rw [x10 20 (by decide)]; exact t9 hf0 i hi) hof co (by omega)) hM.o rfl q_1323 q_1325 qs_33 mk_M_storeAll rfl (by decide) rfl (Nat.le_of_ble_eq_true rfl) ⟨Nat.le_of_ble_eq_true rfl, Nat.le_of_ble_eq_true rfl⟩ (fun v h1 hv => ?_)
      obtain ⟨rfl, S11, hM, e11, x11⟩ := hv
      refine A_iload_n3 d_M_text_126 ?_
      refine A_iret d_M_text_127 rfl ⟨Nat.zero_le _, Nat.zero_le _⟩ ?_
      refine Or.inr ⟨hf0, rfl, S11, hM, ?_, ?_, ?_, ?_, fun j j3 j4 j5 j6 hj => ?_⟩
      · rw [x11 3 (by omega), x10 3 (by decide), e3, hf0]
      · rw [x11 4 (by omega), x10 4 (by decide), e4]
      · rw [x11 5 (by omega), e10, x9 5 (by decide) (by decide) (by decide)]
        rw [if_pos rfl]
      · rw [e11, x10 (6 + of) (by omega), x9 (6 + of) (by omega) (by omega) (by omega)]
      · rw [x11 j j6, x10 j j5, x9 j j3 j4 hj]
    · have hf0 := of_decide_eq_false c_80
      refine A_iconst (v := (-1)) d_M_text_83 (by decide) ?_
      refine A_iret d_M_text_84 rfl ⟨Nat.zero_le _, Nat.zero_le _⟩ ?_
      exact Or.inl ⟨hf0, rfl, S9, hM, e3, e4, x9⟩
  · skip
    refine A_aload_n0 d_M_text_75 ?_
    refine A_iload_n1 d_M_text_76 ?_
    refine A_callV d_M_text_77 (c_M_readText hM hof hT) hM.o rfl q_1242 q_1244 qs_17 mk_M_readText rfl (by decide) rfl (Nat.le_of_ble_eq_true rfl) ⟨Nat.le_of_ble_eq_true rfl, Nat.le_of_ble_eq_true rfl⟩ (fun v h1 hv => ?_)
    obtain ⟨rfl, S9, hM, e3, e4, x9, t9⟩ := hv
    refine A_if_neB (tgt := 85) d_M_text_80 (by decide) (fun c_80 => ?_) (fun c_80 => ?_)
    · have hf0 : ftN B n of = 0 := of_decide_eq_true c_80
      refine A_iload_n2 d_M_text_85 ?_
      refine A_iconst (v := (-1)) d_M_text_86 (by decide) ?_
      refine A_icmp_ne (tgt := 99) d_M_text_87 (by decide) (fun c_87 => ?_) (fun c => absurd c (nI_neM1 (by omega)))
      refine A_iload_n2 d_M_text_99 ?_
      refine A_istore3 d_M_text_100 trivial ?_
      refine A_aload_n0 d_M_text_101 ?_
      refine A_getf (kf := 5) d_M_text_102 hM.o ok_8 (by decide) q_1054 rfl ?_
      refine A_iload_n1 d_M_text_105 ?_
      refine A_dup2IR d_M_text_106 ?_
      refine A_ialdN d_M_text_107 hM.a5 ⟨by omega, by decide⟩ ?_
      refine A_topI (show S9.2.2.1 5 of = nI co by rw [x9 5 (by decide) (by decide) (by decide)]; exact hc5) ?_
      refine A_iload_n2 d_M_text_108 ?_
      refine A_iconst (v := (-1)) d_M_text_109 (by decide) ?_
      refine A_icmp_ne (tgt := 117) d_M_text_110 (by decide) (fun c_110 => ?_) (fun c => absurd c (nI_neM1 (by omega)))
      refine A_iconst (v := nI 0) d_M_text_117 (by decide) ?_
      first | refine A_iaddN d_M_text_118 (by with_reducible rfl) (by with_reducible rfl) ?_ | refine A_iadd d_M_text_118 ?_
      refine A_st5 hM d_M_text_119 (by omega) (fun h hM => ?_)
      obtain ⟨S10, hM, e10, x10, -, -, -⟩ := opa hM
      refine A_aload_n0 d_M_text_120 ?_
      refine A_iload_n1 d_M_text_121 ?_
      refine A_iload_n3 d_M_text_122 ?_
      refine A_callV d_M_text_123 (c_M_storeAll hM (T := (rdX B n of).2.1) (fun i hi => by rw [x10 20 (by decide)]; exact t9 hf0 i hi) hof k (by omega)) hM.o rfl q_1323 q_1325 qs_33 mk_M_storeAll rfl (by decide) rfl (Nat.le_of_ble_eq_true rfl) ⟨Nat.le_of_ble_eq_true rfl, Nat.le_of_ble_eq_true rfl⟩ (fun v h1 hv => ?_)
      obtain ⟨rfl, S11, hM, e11, x11⟩ := hv
      refine A_iload_n3 d_M_text_126 ?_
      refine A_iret d_M_text_127 rfl ⟨Nat.zero_le _, Nat.zero_le _⟩ ?_
      refine Or.inr ⟨hf0, rfl, S11, hM, ?_, ?_, ?_, ?_, fun j j3 j4 j5 j6 hj => ?_⟩
      · rw [x11 3 (by omega), x10 3 (by decide), e3, hf0]
      · rw [x11 4 (by omega), x10 4 (by decide), e4]
      · rw [x11 5 (by omega), e10, x9 5 (by decide) (by decide) (by decide)]
        rw [if_neg (nI_neM1 (by omega)), Nat.add_zero]
      · rw [e11, x10 (6 + of) (by omega), x9 (6 + of) (by omega) (by omega) (by omega)]
      · rw [x11 j j6, x10 j j5, x9 j j3 j4 hj]
    · have hf0 := of_decide_eq_false c_80
      refine A_iconst (v := (-1)) d_M_text_83 (by decide) ?_
      refine A_iret d_M_text_84 rfl ⟨Nat.zero_le _, Nat.zero_le _⟩ ?_
      exact Or.inl ⟨hf0, rfl, S9, hM, e3, e4, x9⟩
/-- where a text of a sort goes -/
def sloO (c : Nat) (xa : Int32) : Option Nat := if xa = -1 then (if c = 2 then none else some c) else if inB xa (nI 0) (nI c - nI 1) = true then some xa.toNatClampNeg else none
/-- a text taken: what it answers and leaves -/
def TXQ (h0 : AH) (m : Nat) (S : MS) (B : Nat → Nat) (n : Nat) (c : Nat → Nat) (sa xa : Int32) : Option Value → AH → Prop := fun v h' =>
  ((inB sa (nI 0) (nI 4) = false ∨ ∃ of, sa = nI of ∧ of ≤ 4 ∧ sloO (c of) xa = none) ∧ v = some (.int (-2)) ∧ ∃ S1, MW h0 h' m S1 ∧ S1.2.2.1 2 = fup (S.2.2.1 2) 0 (nI 0) ∧ S1.2.2.1 3 = fup (S.2.2.1 3) 0 (nI 0) ∧ S1.2.2.1 4 = fup (S.2.2.1 4) 0 (-1) ∧ ∀ j, j ≠ 2 → j ≠ 3 → j ≠ 4 → (j ≤ 10 ∨ j = 55) → S1.2.2.1 j = S.2.2.1 j) ∨
  (∃ of k, sa = nI of ∧ of ≤ 4 ∧ sloO (c of) xa = some k ∧ ftN B n of ≠ 0 ∧ v = some (.int (-1)) ∧ ∃ S1, MW h0 h' m S1 ∧ S1.2.2.1 2 = fup (S.2.2.1 2) 0 (nI 0) ∧ S1.2.2.1 3 = fup (S.2.2.1 3) 0 (nI (ftN B n of)) ∧ S1.2.2.1 4 = fup (S.2.2.1 4) 0 (plN B n of) ∧ ∀ j, j ≠ 2 → j ≠ 3 → j ≠ 4 → (j ≤ 10 ∨ j = 55) → S1.2.2.1 j = S.2.2.1 j) ∨
  (∃ of k, sa = nI of ∧ of ≤ 4 ∧ k < 2 ∧ sloO (c of) xa = some k ∧ ftN B n of = 0 ∧ v = some (.int (nI k)) ∧ ∃ S1, MW h0 h' m S1 ∧ S1.2.2.1 2 = fup (S.2.2.1 2) 0 (nI 0) ∧ S1.2.2.1 3 = fup (S.2.2.1 3) 0 (nI 0) ∧ S1.2.2.1 4 = fup (S.2.2.1 4) 0 (plN B n of) ∧ S1.2.2.1 5 = fup (S.2.2.1 5) of (nI (if xa = -1 then c of + 1 else c of)) ∧ S1.2.2.1 (6 + of) = stoF (S.2.2.1 (6 + of)) (wdN of) k (rdX B n of).2.1 ∧ ∀ j, j ≠ 2 → j ≠ 3 → j ≠ 4 → j ≠ 5 → j ≠ 6 + of → (j ≤ 10 ∨ j = 55) → S1.2.2.1 j = S.2.2.1 j)
set_option maxHeartbeats 4000000 in
set_option maxRecDepth 100000 in
theorem c_M_text {G : GE} {h0 h : AH} {m : Nat} {S : MS} (hM : MW h0 h m S) {c : Nat → Nat} (hc : ∀ s, s < 5 → S.2.2.1 5 s = nI (c s) ∧ c s ≤ 2) {B : Nat → Nat} {n : Nat} (hs : S.2.2.1 2 0 = nI n) (hn : n ≤ 600) (hB : ∀ k, k < 600 → S.2.2.1 1 k &&& nI 255 = nI (B k) ∧ B k < 256) (sa xa : Int32) : Ctr G y_M_text b_M_text 4 (some .int) r_M_text [.ref m, .int sa, .int xa] h (TXQ h0 m S B n c sa xa) := by
  refine Ctr.of (by decide +kernel) (by simp) (Nat.le_of_ble_eq_true rfl) (L0 := [some (.ref m), some (.int sa), some (.int xa), none]) rfl ?_
  refine A_aload_n0 d_M_text_0 ?_
  refine A_iconst (v := nI 0) d_M_text_1 (by decide) ?_
  refine A_putM hM (kf := 0) (ty := .int) d_M_text_2 (by decide) q_1049 rfl (by decide +kernel) (by first | rfl | exact bI_nar _) rfl (Nat.le_of_ble_eq_true rfl) rfl (fun h hM => ?_)
  obtain ⟨S1, hM, e0, x0⟩ := ops hM
  refine A_aload_n0 d_M_text_5 ?_
  refine A_aload_n0 d_M_text_6 ?_
  refine A_getf (kf := 2) d_M_text_7 hM.o ok_8 (by decide) q_1051 rfl ?_
  refine A_iconst (v := nI 0) d_M_text_10 (by decide) ?_
  refine A_ialdN d_M_text_11 hM.a2 ⟨by decide, by decide⟩ ?_
  refine A_topI (show S1.2.2.1 2 0 = nI n by rw [x0.2]; exact hs) ?_
  refine A_putM hM (kf := 12) (ty := .int) d_M_text_12 (by decide) q_1061 rfl (by decide +kernel) (by first | rfl | exact bI_nar _) rfl (Nat.le_of_ble_eq_true rfl) rfl (fun h hM => ?_)
  obtain ⟨S2, hM, e12, x12b⟩ := ops hM
  have x12 : SF S S2 [0, 12] := x0.tr x12b
  refine A_aload_n0 d_M_text_15 ?_
  refine A_getf (kf := 2) d_M_text_16 hM.o ok_8 (by decide) q_1051 rfl ?_
  refine A_iconst (v := nI 0) d_M_text_19 (by decide) ?_
  refine A_iconst (v := nI 0) d_M_text_20 (by decide) ?_
  refine A_st2 hM d_M_text_21 (by decide) (fun h hM => ?_)
  obtain ⟨S3, hM, e3, x3, f3, -, -⟩ := opa hM
  refine A_aload_n0 d_M_text_22 ?_
  refine A_getf (kf := 3) d_M_text_23 hM.o ok_8 (by decide) q_1052 rfl ?_
  refine A_iconst (v := nI 0) d_M_text_26 (by decide) ?_
  refine A_iconst (v := nI 0) d_M_text_27 (by decide) ?_
  refine A_st3 hM d_M_text_28 (by decide) (fun h hM => ?_)
  obtain ⟨S4, hM, e4, x4, f4, -, -⟩ := opa hM
  refine A_aload_n0 d_M_text_29 ?_
  refine A_getf (kf := 4) d_M_text_30 hM.o ok_8 (by decide) q_1053 rfl ?_
  refine A_iconst (v := nI 0) d_M_text_33 (by decide) ?_
  refine A_iconst (v := (-1)) d_M_text_34 (by decide) ?_
  refine A_st4 hM d_M_text_35 (by decide) (fun h hM => ?_)
  obtain ⟨S5, hM, e5, x5, f5, -, -⟩ := opa hM
  refine A_iload_n1 d_M_text_36 ?_
  refine A_iconst (v := nI 0) d_M_text_37 (by decide) ?_
  refine A_iconst (v := nI 4) d_M_text_38 (by decide) ?_
  refine A_callSP d_M_text_39 (c_M_in _ _ _ h) q_1231 q_1232 mk_M_in rfl (by decide) rfl (Nat.le_of_ble_eq_true rfl) ⟨Nat.le_of_ble_eq_true rfl, Nat.le_of_ble_eq_true rfl⟩ ⟨rfl, rfl⟩ ?_
  refine A_if_eqB (tgt := 72) d_M_text_42 (by decide) (fun c_42 => ?_) (fun c_42 => ?_)
  · refine A_bipush (v := (-2)) d_M_text_72 (by decide) ?_
    refine A_iret d_M_text_74 rfl ⟨Nat.zero_le _, Nat.zero_le _⟩ ?_
    refine Or.inl ⟨Or.inl c_42, rfl, S5, hM, ?_, ?_, ?_, fun j j2 j3 j4 _ => ?_⟩
    · rw [x5 2 (by decide), x4 2 (by decide), e3, x12.2]
    · rw [x5 3 (by decide), e4, x3 3 (by decide), x12.2]
    · rw [e5, x4 4 (by decide), x3 4 (by decide), x12.2]
    · rw [x5 j j4, x4 j j3, x3 j j2, x12.2]
  · obtain ⟨of, rfl, hof1, hof2⟩ := inB_ex (by decide) c_42
    have hco := (hc of (by omega)).2
    refine A_iload_n2 d_M_text_45 ?_
    refine A_iconst (v := (-1)) d_M_text_46 (by decide) ?_
    first | refine A_icmp_neN (tgt := 63) d_M_text_47 (by decide) (by with_reducible rfl) (by with_reducible rfl) (by omega) (by omega) (fun c_47 => ?_) (fun c_47 => ?_) | refine A_icmp_ne (tgt := 63) d_M_text_47 (by decide) (fun c_47 => ?_) (fun c_47 => ?_)
    · refine A_aload_n0 d_M_text_63 ?_
      refine A_iload_n1 d_M_text_64 ?_
      refine A_iload_n2 d_M_text_65 ?_
      refine A_callVP d_M_text_66 (c_M_is hM of (by omega) xa) hM.o rfl q_1238 q_1240 qs_16 mk_M_is rfl (by decide) rfl (Nat.le_of_ble_eq_true rfl) ⟨Nat.le_of_ble_eq_true rfl, Nat.le_of_ble_eq_true rfl⟩ ⟨rfl, rfl⟩ ?_
      refine A_topI (show bI (inB xa (nI 0) (S5.2.2.1 5 of - nI 1)) = bI (inB xa (nI 0) (nI (c of) - nI 1)) by rw [x5 5 (by decide), x4 5 (by decide), x3 5 (by decide), x12.2, (hc of (by omega)).1]) ?_
      refine A_if_neB (tgt := 75) d_M_text_69 (by decide) (fun c_69 => ?_) (fun c_69 => ?_)
      · obtain ⟨k, rfl, hkc⟩ := inB_nat (by omega) c_69
        have hT5 : TPE S5 B n := ⟨by rw [f5, f4, f3, e12], hn, fun k hk => by rw [x5 1 (by decide), x4 1 (by decide), x3 1 (by decide), x12.2]; exact hB k (by omega)⟩
        have hc5 : S5.2.2.1 5 of = nI (c of) := by rw [x5 5 (by decide), x4 5 (by decide), x3 5 (by decide), x12.2]; exact (hc of (by omega)).1
        refine WA.imp (fun v h' z => ?_) (c_M_text75 hM (k := k) (by omega) hT5 hc5 (Or.inr ⟨rfl, hkc, by omega⟩))
        have g3 : S5.2.2.1 3 = fup (S.2.2.1 3) 0 (nI 0) := by rw [x5 3 (by decide), e4, x3 3 (by decide), x12.2]
        have g4 : S5.2.2.1 4 = fup (S.2.2.1 4) 0 (-1) := by rw [e5, x4 4 (by decide), x3 4 (by decide), x12.2]
        have g2 : S5.2.2.1 2 = fup (S.2.2.1 2) 0 (nI 0) := by rw [x5 2 (by decide), x4 2 (by decide), e3, x12.2]
        have gj : ∀ j, j ≠ 2 → j ≠ 3 → j ≠ 4 → S5.2.2.1 j = S.2.2.1 j := fun j j2 j3 j4 => by rw [x5 j j4, x4 j j3, x3 j j2, x12.2]
        have hslo : sloO (c of) (nI k) = some (k) := by unfold sloO; rw [if_neg (nI_neM1 (by omega)), if_pos c_69, nI_clamp (by omega)]
        rcases z with ⟨a1, a2, S1, a3, a4, a5, a6⟩ | ⟨a1, a2, S1, a3, a4, a5, a6, a7, a8⟩
        · refine Or.inr (Or.inl ⟨of, _, rfl, hof2, hslo, a1, a2, S1, a3, ?_, ?_, ?_, fun j j2 j3 j4 hj => ?_⟩)
          · rw [a6 2 (by decide) (by decide) (by decide), g2]
          · rw [a4, g3, fup_fup]
          · rw [a5, g4, fup_fup]
          · rw [a6 j j3 j4 hj, gj j j2 j3 j4]
        · refine Or.inr (Or.inr ⟨of, _, rfl, hof2, by omega, hslo, a1, a2, S1, a3, ?_, ?_, ?_, ?_, ?_, fun j j2 j3 j4 j5 j6 hj => ?_⟩)
          · rw [a8 2 (by decide) (by decide) (by decide) (by omega) (by decide), g2]
          · rw [a4, g3, fup_fup]
          · rw [a5, g4, fup_fup]
          · rw [a6, gj 5 (by decide) (by decide) (by decide)]
          · rw [a7, gj (6 + of) (by omega) (by omega) (by omega)]
          · rw [a8 j j3 j4 j5 j6 hj, gj j j2 j3 j4]
      · refine A_bipush (v := (-2)) d_M_text_72 (by decide) ?_
        refine A_iret d_M_text_74 rfl ⟨Nat.zero_le _, Nat.zero_le _⟩ ?_
        refine Or.inl ⟨Or.inr ⟨of, rfl, hof2, by unfold sloO; rw [if_neg c_47, if_neg (by rw [c_69]; decide)]⟩, rfl, S5, hM, ?_, ?_, ?_, fun j j2 j3 j4 _ => ?_⟩
        · rw [x5 2 (by decide), x4 2 (by decide), e3, x12.2]
        · rw [x5 3 (by decide), e4, x3 3 (by decide), x12.2]
        · rw [e5, x4 4 (by decide), x3 4 (by decide), x12.2]
        · rw [x5 j j4, x4 j j3, x3 j j2, x12.2]
    · subst c_47
      refine A_aload_n0 d_M_text_50 ?_
      refine A_getf (kf := 5) d_M_text_51 hM.o ok_8 (by decide) q_1054 rfl ?_
      refine A_iload_n1 d_M_text_54 ?_
      refine A_ialdN d_M_text_55 hM.a5 ⟨by omega, by decide⟩ ?_
      refine A_topI (show S5.2.2.1 5 of = nI (c of) by rw [x5 5 (by decide), x4 5 (by decide), x3 5 (by decide), x12.2]; exact (hc of (by omega)).1) ?_
      refine A_iconst (v := nI 2) d_M_text_56 (by decide) ?_
      first | refine A_icmp_neN (tgt := 75) d_M_text_57 (by decide) (by with_reducible rfl) (by with_reducible rfl) (by omega) (by omega) (fun c_57 => ?_) (fun c_57 => ?_) | refine A_icmp_ne (tgt := 75) d_M_text_57 (by decide) (fun c_57 => ?_) (fun c_57 => ?_)
      · have hT5 : TPE S5 B n := ⟨by rw [f5, f4, f3, e12], hn, fun k hk => by rw [x5 1 (by decide), x4 1 (by decide), x3 1 (by decide), x12.2]; exact hB k (by omega)⟩
        have hc5 : S5.2.2.1 5 of = nI (c of) := by rw [x5 5 (by decide), x4 5 (by decide), x3 5 (by decide), x12.2]; exact (hc of (by omega)).1
        refine WA.imp (fun v h' z => ?_) (c_M_text75 hM (k := c of) (by omega) hT5 hc5 (Or.inl ⟨rfl, by omega, rfl⟩))
        have g3 : S5.2.2.1 3 = fup (S.2.2.1 3) 0 (nI 0) := by rw [x5 3 (by decide), e4, x3 3 (by decide), x12.2]
        have g4 : S5.2.2.1 4 = fup (S.2.2.1 4) 0 (-1) := by rw [e5, x4 4 (by decide), x3 4 (by decide), x12.2]
        have g2 : S5.2.2.1 2 = fup (S.2.2.1 2) 0 (nI 0) := by rw [x5 2 (by decide), x4 2 (by decide), e3, x12.2]
        have gj : ∀ j, j ≠ 2 → j ≠ 3 → j ≠ 4 → S5.2.2.1 j = S.2.2.1 j := fun j j2 j3 j4 => by rw [x5 j j4, x4 j j3, x3 j j2, x12.2]
        have hslo : sloO (c of) (-1) = some (c of) := (if_pos rfl).trans (if_neg (by omega))
        rcases z with ⟨a1, a2, S1, a3, a4, a5, a6⟩ | ⟨a1, a2, S1, a3, a4, a5, a6, a7, a8⟩
        · refine Or.inr (Or.inl ⟨of, _, rfl, hof2, hslo, a1, a2, S1, a3, ?_, ?_, ?_, fun j j2 j3 j4 hj => ?_⟩)
          · rw [a6 2 (by decide) (by decide) (by decide), g2]
          · rw [a4, g3, fup_fup]
          · rw [a5, g4, fup_fup]
          · rw [a6 j j3 j4 hj, gj j j2 j3 j4]
        · refine Or.inr (Or.inr ⟨of, _, rfl, hof2, by omega, hslo, a1, a2, S1, a3, ?_, ?_, ?_, ?_, ?_, fun j j2 j3 j4 j5 j6 hj => ?_⟩)
          · rw [a8 2 (by decide) (by decide) (by decide) (by omega) (by decide), g2]
          · rw [a4, g3, fup_fup]
          · rw [a5, g4, fup_fup]
          · rw [a6, gj 5 (by decide) (by decide) (by decide)]
          · rw [a7, gj (6 + of) (by omega) (by omega) (by omega)]
          · rw [a8 j j3 j4 j5 j6 hj, gj j j2 j3 j4]
      · refine A_goto (tgt := 72) d_M_text_60 (by decide) ?_
        refine A_bipush (v := (-2)) d_M_text_72 (by decide) ?_
        refine A_iret d_M_text_74 rfl ⟨Nat.zero_le _, Nat.zero_le _⟩ ?_
        refine Or.inl ⟨Or.inr ⟨of, rfl, hof2, (if_pos rfl).trans (if_pos c_57)⟩, rfl, S5, hM, ?_, ?_, ?_, fun j j2 j3 j4 _ => ?_⟩
        · rw [x5 2 (by decide), x4 2 (by decide), e3, x12.2]
        · rw [x5 3 (by decide), e4, x3 3 (by decide), x12.2]
        · rw [e5, x4 4 (by decide), x3 4 (by decide), x12.2]
        · rw [x5 j j4, x4 j j3, x3 j j2, x12.2]
