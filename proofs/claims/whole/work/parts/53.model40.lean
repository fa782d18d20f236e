/-- bounds of what has been read -/
def TB (of q : Nat) (T : Nat → Nat) (f : Nat × Nat × Nat) : Prop := (of = 0 → T 4 ≤ 10 ∧ T 5 ≤ 6 ∧ T 0 ≤ 99) ∧ (of = 2 → T 0 ≤ 30) ∧ (of = 3 → T 0 ≤ 20) ∧ f.1 ≤ 100 ∧ f.2.1 ≤ 100 ∧ f.2.2 ≤ 99 * q
theorem nuF_k {B : Nat → Nat} {n p c : Nat} (h : nuF B n p c = none) : ∀ i, i < c → kN B n (itN B n p i) = 3 := by
  have key : ∀ i, i ≤ c → ∀ j, j < i → kN B n (itN B n p j) = 3 := by
    intro i
    induction i with
    | zero => intro _ j hj; omega
    | succ i ih =>
      intro hi j hj
      have ih := ih (by omega)
      by_cases q : j = i
      · subst q
        rw [nuF_go j (by omega) ih, firstU_step _ _ _ (by omega)] at h
        by_cases z : kN B n (itN B n p j) = 3
        · exact z
        · rw [if_pos (by rw [decide_eq_false z]; rfl)] at h
          cases h
      · exact ih j (by omega)
  exact fun i hi => key c (Nat.le_refl _) i hi
theorem flN_nu {B : Nat → Nat} {n k q : Nat} (h : flN B n k q = none) : k ≠ 12 ∧ nuF B n (nxN B n q) (ncN k) = none := by
  unfold flN at h
  split at h
  · cases h
  · rename_i c
    refine ⟨c, ?_⟩
    cases e : nuF B n (nxN B n q) (ncN k) with
    | none => rfl
    | some x => rw [e] at h; cases h
theorem ncN_pos (k : Nat) : 1 ≤ ncN k ∧ ncN k ≤ 4 := by
  unfold ncN
  repeat' split
  all_goals omega
theorem kpF_c {T v : Nat → Nat} {c fr ap wi mo : Nat} (h : T c ≤ mo) : kpF T v c fr ap wi mo c ≤ mo := by
  unfold kpF
  split
  · exact h
  · rw [fup_eq]; omega
theorem kpF_o {T v : Nat → Nat} {c fr ap wi mo j : Nat} (h : j ≠ c) (hj : j < fr) : kpF T v c fr ap wi mo j = T j := by
  unfold kpF
  split
  · rfl
  · rw [fup_ne _ _ h, if_neg (by omega)]
theorem spF_o {b x y z j : Nat} {T : Nat → Nat} (h : j < b + x) : spF b x y z T j = T j := if_neg (by omega)
theorem lkN_of {B : Nat → Nat} {n of q : Nat} (h : lkN B n of q ≠ 12) : (of = 0 → lkN B n of q ≤ 7) ∧ (of = 1 → lkN B n of q = 8) ∧ (of = 2 → lkN B n of q = 9) ∧ (of = 3 → lkN B n of q = 10) := by
  unfold lkN at h ⊢
  refine ⟨fun e => ?_, fun e => ?_, fun e => ?_, fun e => ?_⟩
  · subst e
    rw [if_pos rfl] at h ⊢
    repeat' split
    all_goals first | omega | (exfalso; simp_all)
  · subst e
    rw [if_neg (by decide), if_pos rfl] at h ⊢
    split
    · rfl
    · rename_i c; rw [if_neg c] at h; exact absurd rfl h
  · subst e
    rw [if_neg (by decide), if_neg (by decide), if_pos rfl] at h ⊢
    split
    · rfl
    · rename_i c; rw [if_neg c] at h; exact absurd rfl h
  · subst e
    rw [if_neg (by decide), if_neg (by decide), if_neg (by decide), if_pos rfl] at h ⊢
    split
    · rfl
    · rename_i c; rw [if_neg c] at h; exact absurd rfl h
theorem TB_step {B : Nat → Nat} {n of q q1 d k : Nat} {T v : Nat → Nat} {f : Nat × Nat × Nat} (h : TB of q T f) (hv : ∀ i, i < ncN k → v i ≤ 99) (hq : q < q1) (h0 : of = 0 → k ≤ 7) (h1 : of = 2 → k = 9) (h2 : of = 3 → k = 10) (hk : k ≠ 12) : TB of q1 (tolT k d v T) (farN k v f) := by
  obtain ⟨a1, a2, a3, a4, a5, a6⟩ := h
  have hc := ncN_pos k
  have v0 := hv 0 (by omega)
  refine ⟨fun e => ?_, fun e => ?_, fun e => ?_, ?_, ?_, ?_⟩
  · obtain ⟨b1, b2, b3⟩ := a1 e
    have hk7 := h0 e
    unfold tolT
    split
    · refine ⟨?_, ?_, ?_⟩
      · rw [fup_ne _ _ (by omega)]; exact b1
      · rw [fup_ne _ _ (by omega)]; exact b2
      · by_cases z : k = 0
        · rw [z, fup_eq]; exact v0
        · rw [fup_ne _ _ (by omega)]; exact b3
    · split
      · exact ⟨kpF_c b1, by rw [kpF_o (by decide) (by decide)]; exact b2, by rw [kpF_o (by decide) (by decide)]; exact b3⟩
      · split
        · split
          · rw [spF_o (by omega), spF_o (by omega), spF_o (by omega)]; exact ⟨b1, b2, b3⟩
          · exact ⟨b1, b2, b3⟩
        · split
          · exact ⟨by rw [kpF_o (by decide) (by decide)]; exact b1, kpF_c b2, by rw [kpF_o (by decide) (by decide)]; exact b3⟩
          · rw [if_pos (by omega)]
            split
            · rw [fup_ne _ _ (by omega), fup_ne _ _ (by omega), fup_ne _ _ (by omega)]; exact ⟨b1, b2, b3⟩
            · exact ⟨b1, b2, b3⟩
  · have b := a2 e
    have hk9 := h1 e
    subst hk9
    show kpF T v 0 1 2 2 30 0 ≤ 30
    exact kpF_c b
  · have b := a3 e
    have hk9 := h2 e
    subst hk9
    show kpF T (fup v 2 d) 0 1 3 3 20 0 ≤ 20
    exact kpF_c b
  · unfold farN
    split
    · show max f.1 (v 0 + 1) ≤ 100; omega
    · split
      · exact a4
      · split <;> exact a4
  · unfold farN
    split
    · rename_i c
      subst c
      have v1 := hv 1 (by decide)
      have v2 := hv 2 (by decide)
      show max f.2.1 (max (v 1) (v 2) + 1) ≤ 100
      omega
    · split
      · show max f.2.1 (v 0 + 1) ≤ 100; omega
      · split <;> exact a5
  · unfold farN
    split
    · show f.2.2 ≤ 99 * q1; omega
    · split
      · show f.2.2 ≤ 99 * q1; omega
      · split
        · rename_i c
          subst c
          have v1 := hv 1 (by decide)
          show f.2.2 + v 1 ≤ 99 * q1
          omega
        · omega
set_option maxHeartbeats 4000000 in
set_option maxRecDepth 100000 in
theorem c_M_lineOf {G : GE} {h0 h : AH} {m : Nat} {S : MS} (hM : MW h0 h m S) {S0 : MS} {B : Nat → Nat} {n q : Nat} {T : Nat → Nat} {f : Nat × Nat × Nat} {s : Nat × Nat} (hL : LnS S0 S B n q q (T, f, s) true) (hqn : q < n) {of : Nat} (hof : of ≤ 4) (hTB : TB of q T f) : Ctr G y_M_lineOf b_M_lineOf 5 (some .boolean) r_M_lineOf [.ref m, .int (nI of), .long (wdW B n q), .int (nI q)] h (fun v h' => (∃ x, flN B n (lkN B n of q) q = some x ∧ v = some (.int (bI false)) ∧ ∃ S1, MW h0 h' m S1 ∧ KT S0 S1 ∧ S1.1 17 = nI x) ∨ (flN B n (lkN B n of q) q = none ∧ v = some (.int (bI true)) ∧ ∃ S1 g', MW h0 h' m S1 ∧ LnS S0 S1 B n (itN B n (nxN B n q) (sgN (lkN B n of q))) (itN B n (nxN B n q) (sgN (lkN B n of q))) (lnF (lkN B n of q) B n q (T, f, s)) g')) := by
  obtain ⟨tb0, tb2, tb3, tb4, tb5, -⟩ := hTB
  refine Ctr.of (by decide +kernel) (by simp) (Nat.le_of_ble_eq_true rfl) (L0 := [some (.ref m), some (.int (nI of)), some (.long (wdW B n q)), none, some (.int (nI q))]) rfl ?_
  rcases (show of = 0 ∨ of = 1 ∨ of = 2 ∨ of = 3 ∨ of = 4 by omega) with rfl | rfl | rfl | rfl | rfl
  · skip
    by_cases h0 : isW B n q wd_hours = true
    · rw [show lkN B n 0 q = 0 from by unfold lkN; rw [if_pos rfl, if_pos h0]]
      rw [wc_hours.mpr h0]
      refine A_iload_n1 d_M_lineOf_0 ?_
      refine A_tableIn (tgt := 32) d_M_lineOf_1 (by decide) (by decide) rfl (by decide) ?_
      refine A_aload_n0 d_M_lineOf_32 ?_
      refine A_lload_n2 d_M_lineOf_33 ?_
      refine A_iload4 d_M_lineOf_34 ?_
      refine A_callV d_M_lineOf_36 (c_M_land_hours hM hL hqn) hM.o rfl q_1262 q_1264 qs_22 mk_M_landLine rfl (by decide) rfl (Nat.le_of_ble_eq_true rfl) ⟨Nat.le_of_ble_eq_true rfl, Nat.le_of_ble_eq_true rfl⟩ (fun v h1 hv => ?_)
      rcases hv with ⟨x, hfl, rfl, hx⟩ | ⟨hfl, rfl, hx⟩
      · refine A_zret d_M_lineOf_39 rfl (by first | rfl | exact bI_nar _ | decide) ⟨Nat.zero_le _, Nat.zero_le _⟩ ?_
        first | exact Or.inl ⟨x, hfl, rfl, hx⟩ | exact Or.inr ⟨hfl, rfl, hx⟩
      · refine A_zret d_M_lineOf_39 rfl (by first | rfl | exact bI_nar _ | decide) ⟨Nat.zero_le _, Nat.zero_le _⟩ ?_
        first | exact Or.inl ⟨x, hfl, rfl, hx⟩ | exact Or.inr ⟨hfl, rfl, hx⟩
    · skip
      by_cases h1 : isW B n q wd_cross = true
      · rw [show lkN B n 0 q = 1 from by unfold lkN; rw [if_pos rfl, if_neg h0, if_pos h1]]
        rw [wc_cross.mpr h1]
        refine A_iload_n1 d_M_lineOf_0 ?_
        refine A_tableIn (tgt := 32) d_M_lineOf_1 (by decide) (by decide) rfl (by decide) ?_
        refine A_aload_n0 d_M_lineOf_32 ?_
        refine A_lload_n2 d_M_lineOf_33 ?_
        refine A_iload4 d_M_lineOf_34 ?_
        refine A_callV d_M_lineOf_36 (c_M_land_cross hM hL hqn) hM.o rfl q_1262 q_1264 qs_22 mk_M_landLine rfl (by decide) rfl (Nat.le_of_ble_eq_true rfl) ⟨Nat.le_of_ble_eq_true rfl, Nat.le_of_ble_eq_true rfl⟩ (fun v h1 hv => ?_)
        rcases hv with ⟨x, hfl, rfl, hx⟩ | ⟨hfl, rfl, hx⟩
        · refine A_zret d_M_lineOf_39 rfl (by first | rfl | exact bI_nar _ | decide) ⟨Nat.zero_le _, Nat.zero_le _⟩ ?_
          first | exact Or.inl ⟨x, hfl, rfl, hx⟩ | exact Or.inr ⟨hfl, rfl, hx⟩
        · refine A_zret d_M_lineOf_39 rfl (by first | rfl | exact bI_nar _ | decide) ⟨Nat.zero_le _, Nat.zero_le _⟩ ?_
          first | exact Or.inl ⟨x, hfl, rfl, hx⟩ | exact Or.inr ⟨hfl, rfl, hx⟩
      · skip
        by_cases h2 : isW B n q wd_crowd = true
        · rw [show lkN B n 0 q = 2 from by unfold lkN; rw [if_pos rfl, if_neg h0, if_neg h1, if_pos h2]]
          rw [wc_crowd.mpr h2]
          refine A_iload_n1 d_M_lineOf_0 ?_
          refine A_tableIn (tgt := 32) d_M_lineOf_1 (by decide) (by decide) rfl (by decide) ?_
          refine A_aload_n0 d_M_lineOf_32 ?_
          refine A_lload_n2 d_M_lineOf_33 ?_
          refine A_iload4 d_M_lineOf_34 ?_
          refine A_callV d_M_lineOf_36 (c_M_land_crowd hM hL hqn) hM.o rfl q_1262 q_1264 qs_22 mk_M_landLine rfl (by decide) rfl (Nat.le_of_ble_eq_true rfl) ⟨Nat.le_of_ble_eq_true rfl, Nat.le_of_ble_eq_true rfl⟩ (fun v h1 hv => ?_)
          rcases hv with ⟨x, hfl, rfl, hx⟩ | ⟨hfl, rfl, hx⟩
          · refine A_zret d_M_lineOf_39 rfl (by first | rfl | exact bI_nar _ | decide) ⟨Nat.zero_le _, Nat.zero_le _⟩ ?_
            first | exact Or.inl ⟨x, hfl, rfl, hx⟩ | exact Or.inr ⟨hfl, rfl, hx⟩
          · refine A_zret d_M_lineOf_39 rfl (by first | rfl | exact bI_nar _ | decide) ⟨Nat.zero_le _, Nat.zero_le _⟩ ?_
            first | exact Or.inl ⟨x, hfl, rfl, hx⟩ | exact Or.inr ⟨hfl, rfl, hx⟩
        · skip
          by_cases h3 : isW B n q wd_walk = true
          · rw [show lkN B n 0 q = 3 from by unfold lkN; rw [if_pos rfl, if_neg h0, if_neg h1, if_neg h2, if_pos h3]]
            rw [wc_walk.mpr h3]
            refine A_iload_n1 d_M_lineOf_0 ?_
            refine A_tableIn (tgt := 32) d_M_lineOf_1 (by decide) (by decide) rfl (by decide) ?_
            refine A_aload_n0 d_M_lineOf_32 ?_
            refine A_lload_n2 d_M_lineOf_33 ?_
            refine A_iload4 d_M_lineOf_34 ?_
            refine A_callV d_M_lineOf_36 (c_M_land_walk hM hL hqn) hM.o rfl q_1262 q_1264 qs_22 mk_M_landLine rfl (by decide) rfl (Nat.le_of_ble_eq_true rfl) ⟨Nat.le_of_ble_eq_true rfl, Nat.le_of_ble_eq_true rfl⟩ (fun v h1 hv => ?_)
            rcases hv with ⟨x, hfl, rfl, hx⟩ | ⟨hfl, rfl, hx⟩
            · refine A_zret d_M_lineOf_39 rfl (by first | rfl | exact bI_nar _ | decide) ⟨Nat.zero_le _, Nat.zero_le _⟩ ?_
              first | exact Or.inl ⟨x, hfl, rfl, hx⟩ | exact Or.inr ⟨hfl, rfl, hx⟩
            · refine A_zret d_M_lineOf_39 rfl (by first | rfl | exact bI_nar _ | decide) ⟨Nat.zero_le _, Nat.zero_le _⟩ ?_
              first | exact Or.inl ⟨x, hfl, rfl, hx⟩ | exact Or.inr ⟨hfl, rfl, hx⟩
          · skip
            by_cases h4 : isW B n q wd_person = true
            · rw [show lkN B n 0 q = 4 from by unfold lkN; rw [if_pos rfl, if_neg h0, if_neg h1, if_neg h2, if_neg h3, if_pos h4]]
              rw [wc_person.mpr h4]
              refine A_iload_n1 d_M_lineOf_0 ?_
              refine A_tableIn (tgt := 32) d_M_lineOf_1 (by decide) (by decide) rfl (by decide) ?_
              refine A_aload_n0 d_M_lineOf_32 ?_
              refine A_lload_n2 d_M_lineOf_33 ?_
              refine A_iload4 d_M_lineOf_34 ?_
              refine A_callV d_M_lineOf_36 (c_M_land_person hM hL hqn (tb0 rfl).1) hM.o rfl q_1262 q_1264 qs_22 mk_M_landLine rfl (by decide) rfl (Nat.le_of_ble_eq_true rfl) ⟨Nat.le_of_ble_eq_true rfl, Nat.le_of_ble_eq_true rfl⟩ (fun v h1 hv => ?_)
              rcases hv with ⟨x, hfl, rfl, hx⟩ | ⟨hfl, rfl, hx⟩
              · refine A_zret d_M_lineOf_39 rfl (by first | rfl | exact bI_nar _ | decide) ⟨Nat.zero_le _, Nat.zero_le _⟩ ?_
                first | exact Or.inl ⟨x, hfl, rfl, hx⟩ | exact Or.inr ⟨hfl, rfl, hx⟩
              · refine A_zret d_M_lineOf_39 rfl (by first | rfl | exact bI_nar _ | decide) ⟨Nat.zero_le _, Nat.zero_le _⟩ ?_
                first | exact Or.inl ⟨x, hfl, rfl, hx⟩ | exact Or.inr ⟨hfl, rfl, hx⟩
            · skip
              by_cases h5 : isW B n q wd_likes = true
              · rw [show lkN B n 0 q = 5 from by unfold lkN; rw [if_pos rfl, if_neg h0, if_neg h1, if_neg h2, if_neg h3, if_neg h4, if_pos h5]]
                rw [wc_likes.mpr h5]
                refine A_iload_n1 d_M_lineOf_0 ?_
                refine A_tableIn (tgt := 32) d_M_lineOf_1 (by decide) (by decide) rfl (by decide) ?_
                refine A_aload_n0 d_M_lineOf_32 ?_
                refine A_lload_n2 d_M_lineOf_33 ?_
                refine A_iload4 d_M_lineOf_34 ?_
                refine A_callV d_M_lineOf_36 (c_M_land_likes hM hL hqn ⟨tb4, tb5⟩) hM.o rfl q_1262 q_1264 qs_22 mk_M_landLine rfl (by decide) rfl (Nat.le_of_ble_eq_true rfl) ⟨Nat.le_of_ble_eq_true rfl, Nat.le_of_ble_eq_true rfl⟩ (fun v h1 hv => ?_)
                rcases hv with ⟨x, hfl, rfl, hx⟩ | ⟨hfl, rfl, hx⟩
                · refine A_zret d_M_lineOf_39 rfl (by first | rfl | exact bI_nar _ | decide) ⟨Nat.zero_le _, Nat.zero_le _⟩ ?_
                  first | exact Or.inl ⟨x, hfl, rfl, hx⟩ | exact Or.inr ⟨hfl, rfl, hx⟩
                · refine A_zret d_M_lineOf_39 rfl (by first | rfl | exact bI_nar _ | decide) ⟨Nat.zero_le _, Nat.zero_le _⟩ ?_
                  first | exact Or.inl ⟨x, hfl, rfl, hx⟩ | exact Or.inr ⟨hfl, rfl, hx⟩
              · skip
                by_cases h6 : isW B n q wd_bearer = true
                · rw [show lkN B n 0 q = 6 from by unfold lkN; rw [if_pos rfl, if_neg h0, if_neg h1, if_neg h2, if_neg h3, if_neg h4, if_neg h5, if_pos h6]]
                  rw [wc_bearer.mpr h6]
                  refine A_iload_n1 d_M_lineOf_0 ?_
                  refine A_tableIn (tgt := 32) d_M_lineOf_1 (by decide) (by decide) rfl (by decide) ?_
                  refine A_aload_n0 d_M_lineOf_32 ?_
                  refine A_lload_n2 d_M_lineOf_33 ?_
                  refine A_iload4 d_M_lineOf_34 ?_
                  refine A_callV d_M_lineOf_36 (c_M_land_bearer hM hL hqn (tb0 rfl).2.1) hM.o rfl q_1262 q_1264 qs_22 mk_M_landLine rfl (by decide) rfl (Nat.le_of_ble_eq_true rfl) ⟨Nat.le_of_ble_eq_true rfl, Nat.le_of_ble_eq_true rfl⟩ (fun v h1 hv => ?_)
                  rcases hv with ⟨x, hfl, rfl, hx⟩ | ⟨hfl, rfl, hx⟩
                  · refine A_zret d_M_lineOf_39 rfl (by first | rfl | exact bI_nar _ | decide) ⟨Nat.zero_le _, Nat.zero_le _⟩ ?_
                    first | exact Or.inl ⟨x, hfl, rfl, hx⟩ | exact Or.inr ⟨hfl, rfl, hx⟩
                  · refine A_zret d_M_lineOf_39 rfl (by first | rfl | exact bI_nar _ | decide) ⟨Nat.zero_le _, Nat.zero_le _⟩ ?_
                    first | exact Or.inl ⟨x, hfl, rfl, hx⟩ | exact Or.inr ⟨hfl, rfl, hx⟩
                · skip
                  by_cases h7 : isW B n q wd_toll = true
                  · rw [show lkN B n 0 q = 7 from by unfold lkN; rw [if_pos rfl, if_neg h0, if_neg h1, if_neg h2, if_neg h3, if_neg h4, if_neg h5, if_neg h6, if_pos h7]]
                    rw [wc_toll.mpr h7]
                    refine A_iload_n1 d_M_lineOf_0 ?_
                    refine A_tableIn (tgt := 32) d_M_lineOf_1 (by decide) (by decide) rfl (by decide) ?_
                    refine A_aload_n0 d_M_lineOf_32 ?_
                    refine A_lload_n2 d_M_lineOf_33 ?_
                    refine A_iload4 d_M_lineOf_34 ?_
                    refine A_callV d_M_lineOf_36 (c_M_land_toll hM hL hqn ⟨tb4, tb5⟩) hM.o rfl q_1262 q_1264 qs_22 mk_M_landLine rfl (by decide) rfl (Nat.le_of_ble_eq_true rfl) ⟨Nat.le_of_ble_eq_true rfl, Nat.le_of_ble_eq_true rfl⟩ (fun v h1 hv => ?_)
                    rcases hv with ⟨x, hfl, rfl, hx⟩ | ⟨hfl, rfl, hx⟩
                    · refine A_zret d_M_lineOf_39 rfl (by first | rfl | exact bI_nar _ | decide) ⟨Nat.zero_le _, Nat.zero_le _⟩ ?_
                      first | exact Or.inl ⟨x, hfl, rfl, hx⟩ | exact Or.inr ⟨hfl, rfl, hx⟩
                    · refine A_zret d_M_lineOf_39 rfl (by first | rfl | exact bI_nar _ | decide) ⟨Nat.zero_le _, Nat.zero_le _⟩ ?_
                      first | exact Or.inl ⟨x, hfl, rfl, hx⟩ | exact Or.inr ⟨hfl, rfl, hx⟩
                  · skip
                    rw [show lkN B n 0 q = 12 from by unfold lkN; rw [if_pos rfl, if_neg h0, if_neg h1, if_neg h2, if_neg h3, if_neg h4, if_neg h5, if_neg h6, if_neg h7]]
                    refine A_iload_n1 d_M_lineOf_0 ?_
                    refine A_tableIn (tgt := 32) d_M_lineOf_1 (by decide) (by decide) rfl (by decide) ?_
                    refine A_aload_n0 d_M_lineOf_32 ?_
                    refine A_lload_n2 d_M_lineOf_33 ?_
                    refine A_iload4 d_M_lineOf_34 ?_
                    refine A_callV d_M_lineOf_36 (c_M_land_none hM hL hqn ⟨Bool.eq_false_iff.mpr h0, Bool.eq_false_iff.mpr h1, Bool.eq_false_iff.mpr h2, Bool.eq_false_iff.mpr h3, Bool.eq_false_iff.mpr h4, Bool.eq_false_iff.mpr h5, Bool.eq_false_iff.mpr h6, Bool.eq_false_iff.mpr h7⟩) hM.o rfl q_1262 q_1264 qs_22 mk_M_landLine rfl (by decide) rfl (Nat.le_of_ble_eq_true rfl) ⟨Nat.le_of_ble_eq_true rfl, Nat.le_of_ble_eq_true rfl⟩ (fun v h1 hv => ?_)
                    rcases hv with ⟨x, hfl, rfl, hx⟩ | ⟨hfl, rfl, hx⟩
                    · refine A_zret d_M_lineOf_39 rfl (by first | rfl | exact bI_nar _ | decide) ⟨Nat.zero_le _, Nat.zero_le _⟩ ?_
                      first | exact Or.inl ⟨x, hfl, rfl, hx⟩ | exact Or.inr ⟨hfl, rfl, hx⟩
                    · refine A_zret d_M_lineOf_39 rfl (by first | rfl | exact bI_nar _ | decide) ⟨Nat.zero_le _, Nat.zero_le _⟩ ?_
                      first | exact Or.inl ⟨x, hfl, rfl, hx⟩ | exact Or.inr ⟨hfl, rfl, hx⟩
  · by_cases h0 : isW B n q wd_night = true
    · rw [show lkN B n 1 q = 8 from by unfold lkN; rw [if_neg (by decide), if_pos rfl, if_pos h0]]
      rw [wc_night.mpr h0]
      refine A_iload_n1 d_M_lineOf_0 ?_
      refine A_tableIn (tgt := 40) d_M_lineOf_1 (by decide) (by decide) rfl (by decide) ?_
      refine A_aload_n0 d_M_lineOf_40 ?_
      refine A_lload_n2 d_M_lineOf_41 ?_
      refine A_callV d_M_lineOf_42 (c_M_treaty hM hL hqn) hM.o rfl q_1301 q_1303 qs_29 mk_M_treatyLine rfl (by decide) rfl (Nat.le_of_ble_eq_true rfl) ⟨Nat.le_of_ble_eq_true rfl, Nat.le_of_ble_eq_true rfl⟩ (fun v h1 hv => ?_)
      rcases hv with ⟨x, hfl, rfl, hx⟩ | ⟨hfl, rfl, hx⟩
      · refine A_zret d_M_lineOf_45 rfl (by first | rfl | exact bI_nar _ | decide) ⟨Nat.zero_le _, Nat.zero_le _⟩ ?_
        first | exact Or.inl ⟨x, hfl, rfl, hx⟩ | exact Or.inr ⟨hfl, rfl, hx⟩
      · refine A_zret d_M_lineOf_45 rfl (by first | rfl | exact bI_nar _ | decide) ⟨Nat.zero_le _, Nat.zero_le _⟩ ?_
        first | exact Or.inl ⟨x, hfl, rfl, hx⟩ | exact Or.inr ⟨hfl, rfl, hx⟩
    · rw [show lkN B n 1 q = 12 from by unfold lkN; rw [if_neg (by decide), if_pos rfl, if_neg h0]]
      refine A_iload_n1 d_M_lineOf_0 ?_
      refine A_tableIn (tgt := 40) d_M_lineOf_1 (by decide) (by decide) rfl (by decide) ?_
      refine A_aload_n0 d_M_lineOf_40 ?_
      refine A_lload_n2 d_M_lineOf_41 ?_
      refine A_callV d_M_lineOf_42 (c_M_treaty_none hM hL hqn (Bool.eq_false_iff.mpr h0)) hM.o rfl q_1301 q_1303 qs_29 mk_M_treatyLine rfl (by decide) rfl (Nat.le_of_ble_eq_true rfl) ⟨Nat.le_of_ble_eq_true rfl, Nat.le_of_ble_eq_true rfl⟩ (fun v h1 hv => ?_)
      rcases hv with ⟨x, hfl, rfl, hx⟩ | ⟨hfl, rfl, hx⟩
      · refine A_zret d_M_lineOf_45 rfl (by first | rfl | exact bI_nar _ | decide) ⟨Nat.zero_le _, Nat.zero_le _⟩ ?_
        first | exact Or.inl ⟨x, hfl, rfl, hx⟩ | exact Or.inr ⟨hfl, rfl, hx⟩
      · refine A_zret d_M_lineOf_45 rfl (by first | rfl | exact bI_nar _ | decide) ⟨Nat.zero_le _, Nat.zero_le _⟩ ?_
        first | exact Or.inl ⟨x, hfl, rfl, hx⟩ | exact Or.inr ⟨hfl, rfl, hx⟩
  · by_cases h0 : isW B n q wd_at = true
    · rw [show lkN B n 2 q = 9 from by unfold lkN; rw [if_neg (by decide), if_neg (by decide), if_pos rfl, if_pos h0]]
      rw [wc_at.mpr h0]
      refine A_iload_n1 d_M_lineOf_0 ?_
      refine A_tableIn (tgt := 46) d_M_lineOf_1 (by decide) (by decide) rfl (by decide) ?_
      refine A_aload_n0 d_M_lineOf_46 ?_
      refine A_lload_n2 d_M_lineOf_47 ?_
      refine A_iload4 d_M_lineOf_48 ?_
      refine A_callV d_M_lineOf_50 (c_M_book hM hL hqn (tb2 rfl)) hM.o rfl q_1306 q_1308 qs_30 mk_M_bookLine rfl (by decide) rfl (Nat.le_of_ble_eq_true rfl) ⟨Nat.le_of_ble_eq_true rfl, Nat.le_of_ble_eq_true rfl⟩ (fun v h1 hv => ?_)
      rcases hv with ⟨x, hfl, rfl, hx⟩ | ⟨hfl, rfl, hx⟩
      · refine A_zret d_M_lineOf_53 rfl (by first | rfl | exact bI_nar _ | decide) ⟨Nat.zero_le _, Nat.zero_le _⟩ ?_
        first | exact Or.inl ⟨x, hfl, rfl, hx⟩ | exact Or.inr ⟨hfl, rfl, hx⟩
      · refine A_zret d_M_lineOf_53 rfl (by first | rfl | exact bI_nar _ | decide) ⟨Nat.zero_le _, Nat.zero_le _⟩ ?_
        first | exact Or.inl ⟨x, hfl, rfl, hx⟩ | exact Or.inr ⟨hfl, rfl, hx⟩
    · rw [show lkN B n 2 q = 12 from by unfold lkN; rw [if_neg (by decide), if_neg (by decide), if_pos rfl, if_neg h0]]
      refine A_iload_n1 d_M_lineOf_0 ?_
      refine A_tableIn (tgt := 46) d_M_lineOf_1 (by decide) (by decide) rfl (by decide) ?_
      refine A_aload_n0 d_M_lineOf_46 ?_
      refine A_lload_n2 d_M_lineOf_47 ?_
      refine A_iload4 d_M_lineOf_48 ?_
      refine A_callV d_M_lineOf_50 (c_M_book_none hM hL hqn (Bool.eq_false_iff.mpr h0)) hM.o rfl q_1306 q_1308 qs_30 mk_M_bookLine rfl (by decide) rfl (Nat.le_of_ble_eq_true rfl) ⟨Nat.le_of_ble_eq_true rfl, Nat.le_of_ble_eq_true rfl⟩ (fun v h1 hv => ?_)
      rcases hv with ⟨x, hfl, rfl, hx⟩ | ⟨hfl, rfl, hx⟩
      · refine A_zret d_M_lineOf_53 rfl (by first | rfl | exact bI_nar _ | decide) ⟨Nat.zero_le _, Nat.zero_le _⟩ ?_
        first | exact Or.inl ⟨x, hfl, rfl, hx⟩ | exact Or.inr ⟨hfl, rfl, hx⟩
      · refine A_zret d_M_lineOf_53 rfl (by first | rfl | exact bI_nar _ | decide) ⟨Nat.zero_le _, Nat.zero_le _⟩ ?_
        first | exact Or.inl ⟨x, hfl, rfl, hx⟩ | exact Or.inr ⟨hfl, rfl, hx⟩
  · by_cases h0 : isW B n q wd_saw = true
    · rw [show lkN B n 3 q = 10 from by unfold lkN; rw [if_neg (by decide), if_neg (by decide), if_neg (by decide), if_pos rfl, if_pos h0]]
      rw [wc_saw.mpr h0]
      refine A_iload_n1 d_M_lineOf_0 ?_
      refine A_tableIn (tgt := 54) d_M_lineOf_1 (by decide) (by decide) rfl (by decide) ?_
      refine A_aload_n0 d_M_lineOf_54 ?_
      refine A_lload_n2 d_M_lineOf_55 ?_
      refine A_iload4 d_M_lineOf_56 ?_
      refine A_callV d_M_lineOf_58 (c_M_sight hM hL hqn (tb3 rfl)) hM.o rfl q_1311 q_1313 qs_31 mk_M_sightLine rfl (by decide) rfl (Nat.le_of_ble_eq_true rfl) ⟨Nat.le_of_ble_eq_true rfl, Nat.le_of_ble_eq_true rfl⟩ (fun v h1 hv => ?_)
      rcases hv with ⟨x, hfl, rfl, hx⟩ | ⟨hfl, rfl, hx⟩
      · refine A_zret d_M_lineOf_61 rfl (by first | rfl | exact bI_nar _ | decide) ⟨Nat.zero_le _, Nat.zero_le _⟩ ?_
        first | exact Or.inl ⟨x, hfl, rfl, hx⟩ | exact Or.inr ⟨hfl, rfl, hx⟩
      · refine A_zret d_M_lineOf_61 rfl (by first | rfl | exact bI_nar _ | decide) ⟨Nat.zero_le _, Nat.zero_le _⟩ ?_
        first | exact Or.inl ⟨x, hfl, rfl, hx⟩ | exact Or.inr ⟨hfl, rfl, hx⟩
    · rw [show lkN B n 3 q = 12 from by unfold lkN; rw [if_neg (by decide), if_neg (by decide), if_neg (by decide), if_pos rfl, if_neg h0]]
      refine A_iload_n1 d_M_lineOf_0 ?_
      refine A_tableIn (tgt := 54) d_M_lineOf_1 (by decide) (by decide) rfl (by decide) ?_
      refine A_aload_n0 d_M_lineOf_54 ?_
      refine A_lload_n2 d_M_lineOf_55 ?_
      refine A_iload4 d_M_lineOf_56 ?_
      refine A_callV d_M_lineOf_58 (c_M_sight_none hM hL hqn (Bool.eq_false_iff.mpr h0)) hM.o rfl q_1311 q_1313 qs_31 mk_M_sightLine rfl (by decide) rfl (Nat.le_of_ble_eq_true rfl) ⟨Nat.le_of_ble_eq_true rfl, Nat.le_of_ble_eq_true rfl⟩ (fun v h1 hv => ?_)
      rcases hv with ⟨x, hfl, rfl, hx⟩ | ⟨hfl, rfl, hx⟩
      · refine A_zret d_M_lineOf_61 rfl (by first | rfl | exact bI_nar _ | decide) ⟨Nat.zero_le _, Nat.zero_le _⟩ ?_
        first | exact Or.inl ⟨x, hfl, rfl, hx⟩ | exact Or.inr ⟨hfl, rfl, hx⟩
      · refine A_zret d_M_lineOf_61 rfl (by first | rfl | exact bI_nar _ | decide) ⟨Nat.zero_le _, Nat.zero_le _⟩ ?_
        first | exact Or.inl ⟨x, hfl, rfl, hx⟩ | exact Or.inr ⟨hfl, rfl, hx⟩
  · by_cases h0 : isW B n q wd_worth = true
    · rw [show lkN B n 4 q = 11 from by unfold lkN; rw [if_neg (by decide), if_neg (by decide), if_neg (by decide), if_neg (by decide), if_pos h0]]
      rw [wc_worth.mpr h0]
      refine A_iload_n1 d_M_lineOf_0 ?_
      refine A_tableOut (tgt := 62) d_M_lineOf_1 (Or.inr (by decide)) (by decide) ?_
      refine A_aload_n0 d_M_lineOf_62 ?_
      refine A_lload_n2 d_M_lineOf_63 ?_
      refine A_callV d_M_lineOf_64 (c_M_gameL hM hL hqn) hM.o rfl q_1318 q_1320 qs_32 mk_M_gameLine rfl (by decide) rfl (Nat.le_of_ble_eq_true rfl) ⟨Nat.le_of_ble_eq_true rfl, Nat.le_of_ble_eq_true rfl⟩ (fun v h1 hv => ?_)
      rcases hv with ⟨x, hfl, rfl, hx⟩ | ⟨hfl, rfl, hx⟩
      · refine A_zret d_M_lineOf_67 rfl (by first | rfl | exact bI_nar _ | decide) ⟨Nat.zero_le _, Nat.zero_le _⟩ ?_
        first | exact Or.inl ⟨x, hfl, rfl, hx⟩ | exact Or.inr ⟨hfl, rfl, hx⟩
      · refine A_zret d_M_lineOf_67 rfl (by first | rfl | exact bI_nar _ | decide) ⟨Nat.zero_le _, Nat.zero_le _⟩ ?_
        first | exact Or.inl ⟨x, hfl, rfl, hx⟩ | exact Or.inr ⟨hfl, rfl, hx⟩
    · rw [show lkN B n 4 q = 12 from by unfold lkN; rw [if_neg (by decide), if_neg (by decide), if_neg (by decide), if_neg (by decide), if_neg h0]]
      refine A_iload_n1 d_M_lineOf_0 ?_
      refine A_tableOut (tgt := 62) d_M_lineOf_1 (Or.inr (by decide)) (by decide) ?_
      refine A_aload_n0 d_M_lineOf_62 ?_
      refine A_lload_n2 d_M_lineOf_63 ?_
      refine A_callV d_M_lineOf_64 (c_M_gameL_none hM hL hqn (Bool.eq_false_iff.mpr h0)) hM.o rfl q_1318 q_1320 qs_32 mk_M_gameLine rfl (by decide) rfl (Nat.le_of_ble_eq_true rfl) ⟨Nat.le_of_ble_eq_true rfl, Nat.le_of_ble_eq_true rfl⟩ (fun v h1 hv => ?_)
      rcases hv with ⟨x, hfl, rfl, hx⟩ | ⟨hfl, rfl, hx⟩
      · refine A_zret d_M_lineOf_67 rfl (by first | rfl | exact bI_nar _ | decide) ⟨Nat.zero_le _, Nat.zero_le _⟩ ?_
        first | exact Or.inl ⟨x, hfl, rfl, hx⟩ | exact Or.inr ⟨hfl, rfl, hx⟩
      · refine A_zret d_M_lineOf_67 rfl (by first | rfl | exact bI_nar _ | decide) ⟨Nat.zero_le _, Nat.zero_le _⟩ ?_
        first | exact Or.inl ⟨x, hfl, rfl, hx⟩ | exact Or.inr ⟨hfl, rfl, hx⟩
/-- where a line fails, its sign too -/
def leN (B : Nat → Nat) (n of q : Nat) : Option Nat := match flN B n (lkN B n of q) q with
  | some x => some x
  | none => if kN B n (itN B n (nxN B n q) (sgN (lkN B n of q))) = 4 then none else some (itN B n (nxN B n q) (sgN (lkN B n of q)))
/-- all lines from one on: where one fails; what has been read -/
def txF (B : Nat → Nat) (n of : Nat) : Nat → Nat → RS → Option Nat × RS
  | 0, _, r => (none, r)
  | F + 1, q, r => if kN B n q = 0 then (none, r) else match leN B n of q with
    | some x => (some x, r)
    | none => txF B n of F (nxN B n (itN B n (nxN B n q) (sgN (lkN B n of q)))) (lnF (lkN B n of q) B n q r)
theorem kN_0 {B : Nat → Nat} {n q : Nat} (h : kN B n q = 0) : n ≤ q := by
  rcases Nat.lt_or_ge q n with h1 | h1
  · unfold kN at h
    rw [if_neg (by omega)] at h
    split at h
    · omega
    · split at h
      · split at h <;> omega
      · split at h <;> omega
  · exact h1
/-- at a line's beginning: all but 'good' -/
def LnH (S0 S : MS) (B : Nat → Nat) (n q b : Nat) (r : RS) : Prop := KT S0 S ∧ TPE S B n ∧ TOK S B n q ∧ RSt S r ∧ q ≤ n ∧ r.2.2.1 ≤ 4 ∧ (r.2.2.1 ≠ 0 → r.2.2.2 ≤ 600) ∧ (r.2.2.1 ≠ 0 → r.2.2.2 < b)
theorem LnS.toH {S0 S : MS} {B : Nat → Nat} {n q b : Nat} {r : RS} {g : Bool} (hL : LnS S0 S B n q b r g) : LnH S0 S B n q b r := by
  obtain ⟨l1, l2, l3, l4, l5, l6, l7, l8, l9⟩ := hL
  exact ⟨l1, l2, l3, l4, l6, l7, l8, l9⟩
theorem LnH.sf25 {S0 S S1 : MS} {B : Nat → Nat} {n q b : Nat} {r : RS} (hL : LnH S0 S B n q b r) (a : SF S S1 [25]) {g' : Bool} (e : S1.1 25 = bI g') : LnS S0 S1 B n q b r g' := by
  obtain ⟨l1, l2, l3, l4, l6, l7, l8, l9⟩ := hL
  exact ⟨l1.tr (KT.sf a (by decide)), KT.tpe (KT.sf a (by decide)) l2, TOK.sf a (by decide) l3, RSt.sf a (by decide) l4, e, l6, l7, l8, l9⟩
theorem LnS.wd {S0 S : MS} {B : Nat → Nat} {n q b : Nat} {r : RS} {g : Bool} (hL : LnS S0 S B n q b r g) (hk : kN B n q = 2) : S.2.1 = wdW B n q := by
  unfold wdW
  rw [if_pos hk]
  exact hL.2.2.1.2.2.2.2 hk
set_option maxHeartbeats 4000000 in
set_option maxRecDepth 100000 in
theorem c_M_lines {G : GE} {h0 : AH} {m : Nat} {S0 : MS} {B : Nat → Nat} {n of : Nat} (hof : of ≤ 4) : ∀ (F : Nat) (q : Nat) (r : RS) (h : AH) (S : MS), MW h0 h m S → LnH S0 S B n q q r → TB of q r.1 r.2.1 → n < q + F → WA G y_M_lines b_M_lines 4 (some .boolean) r_M_lines 0 0 (fun v h' => (∃ x, (txF B n of F q r).1 = some x ∧ v = some (.int (bI false)) ∧ ∃ S1, MW h0 h' m S1 ∧ KT S0 S1 ∧ S1.1 17 = nI x) ∨ ((txF B n of F q r).1 = none ∧ v = some (.int (bI true)) ∧ ∃ S1, MW h0 h' m S1 ∧ LnH S0 S1 B n n n (txF B n of F q r).2)) 0 0 2 [some (.ref m), some (.int (nI of)), some (.int (bI true)), none] [] h := by
  intro F
  induction F with
  | zero =>
    intro q r h S hM hL hTB hF
    have := hL.2.2.2.2.1
    omega
  | succ F ih =>
    intro q r h S hM hL hTB hF
    have hn := hL.2.1.2.1
    have hkl := kN_le B n q
    by_cases hk0 : kN B n q = 0
    · have htx : txF B n of (F + 1) q r = (none, r) := if_pos hk0
      refine A_iload_n2 d_M_lines_2 ?_
      refine A_if_eqB (tgt := 74) d_M_lines_3 (by decide) (fun c => absurd c (by decide)) (fun c_3 => ?_)
      refine A_aload_n0 d_M_lines_6 ?_
      refine A_getf (kf := 14) d_M_lines_7 hM.o ok_8 (by decide) q_1063 rfl ?_
      refine A_topI hL.2.2.1.2.2.1 ?_
      refine A_if_eq (tgt := 74) d_M_lines_10 (by decide) (fun c_10 => ?_) (fun c => absurd (congrArg nI hk0) c)
      refine A_iload_n2 d_M_lines_74 ?_
      refine A_zret d_M_lines_75 rfl (by first | rfl | exact bI_nar _ | decide) ⟨Nat.zero_le _, Nat.zero_le _⟩ ?_
      refine Or.inr ⟨by rw [htx], rfl, S, hM, ?_⟩
      rw [htx]
      have e := kN_0 hk0
      have e2 : q = n := Nat.le_antisymm hL.2.2.2.2.1 e
      rw [e2] at hL
      exact hL
    · have hqn : q < n := kN_lt hk0
      refine A_iload_n2 d_M_lines_2 ?_
      refine A_if_eqB (tgt := 74) d_M_lines_3 (by decide) (fun c => absurd c (by decide)) (fun c_3 => ?_)
      refine A_aload_n0 d_M_lines_6 ?_
      refine A_getf (kf := 14) d_M_lines_7 hM.o ok_8 (by decide) q_1063 rfl ?_
      refine A_topI hL.2.2.1.2.2.1 ?_
      refine A_if_eq (tgt := 74) d_M_lines_10 (by decide) (fun c => absurd ((nI_eq (by omega) (by decide)).mp c) hk0) (fun c_10 => ?_)
      refine A_aload_n0 d_M_lines_13 ?_
      refine A_getf (kf := 13) d_M_lines_14 hM.o ok_8 (by decide) q_1062 rfl ?_
      refine A_topI hL.2.2.1.2.1 ?_
      refine A_istore3 d_M_lines_17 trivial ?_
      refine A_aload_n0 d_M_lines_18 ?_
      refine A_iconst (v := nI 1) d_M_lines_19 (by decide) ?_
      refine A_putM hM (kf := 25) (ty := .boolean) d_M_lines_20 (by decide) q_1074 rfl (by decide +kernel) (by first | rfl | exact bI_nar _) rfl (Nat.le_of_ble_eq_true rfl) rfl (fun h hM => ?_)
      obtain ⟨Sg, hM, e25, xg⟩ := ops hM
      have hLg := LnH.sf25 hL xg (g' := true) e25
      refine A_aload_n0 d_M_lines_23 ?_
      refine A_iload_n1 d_M_lines_24 ?_
      by_cases hk2 : kN B n q = 2
      · skip
        refine A_aload_n0 d_M_lines_25 ?_
        refine A_getf (kf := 14) d_M_lines_26 hM.o ok_8 (by decide) q_1063 rfl ?_
        refine A_topI hLg.2.2.1.2.2.1 ?_
        refine A_iconst (v := nI 2) d_M_lines_29 (by decide) ?_
        refine A_icmp_ne (tgt := 40) d_M_lines_30 (by decide) (fun c => absurd (congrArg nI hk2) c) (fun c_30 => ?_)
        refine A_aload_n0 d_M_lines_33 ?_
        refine A_getf (kf := 16) d_M_lines_34 hM.o ok_8 (by decide) q_1065 rfl ?_
        refine A_top (congrArg Value.long (LnS.wd hLg hk2)) ?_
        refine A_goto (tgt := 41) d_M_lines_37 (by decide) ?_
        refine A_iload_n3 d_M_lines_41 ?_
        refine A_callV d_M_lines_42 (c_M_lineOf hM hLg hqn hof hTB) hM.o rfl q_1258 q_1260 qs_21 mk_M_lineOf rfl (by decide) rfl (Nat.le_of_ble_eq_true rfl) ⟨Nat.le_of_ble_eq_true rfl, Nat.le_of_ble_eq_true rfl⟩ (fun v h1 hv => ?_)
        rcases hv with ⟨x, hfl, rfl, S8, hM, hK8, e17⟩ | ⟨hfl, rfl, S8, g8, hM, hL8⟩
        · have hle : leN B n of q = some x := by unfold leN; rw [hfl]
          have htx : txF B n of (F + 1) q r = (some x, r) := by
            show (if kN B n q = 0 then (none, r) else match leN B n of q with | some x => (some x, r) | none => _) = _
            rw [if_neg hk0, hle]
          refine A_istore2 d_M_lines_45 trivial ?_
          refine A_iload_n2 d_M_lines_46 ?_
          refine A_if_eqB (tgt := 63) d_M_lines_47 (by decide) (fun c_47 => ?_) (fun c => absurd c (by decide))
          refine A_iload_n2 d_M_lines_63 ?_
          refine A_if_eqB (tgt := 71) d_M_lines_64 (by decide) (fun c_64 => ?_) (fun c => absurd c (by decide))
          refine A_goto (tgt := 2) d_M_lines_71 (by decide) ?_
          refine A_iload_n2 d_M_lines_2 ?_
          refine A_if_eqB (tgt := 74) d_M_lines_3 (by decide) (fun c_3 => ?_) (fun c => absurd c (by decide))
          refine A_iload_n2 d_M_lines_74 ?_
          refine A_zret d_M_lines_75 rfl (by first | rfl | exact bI_nar _ | decide) ⟨Nat.zero_le _, Nat.zero_le _⟩ ?_
          exact Or.inl ⟨x, by rw [htx], rfl, S8, hM, hK8, e17⟩
        · have hkl2 := kN_le B n (itN B n (nxN B n q) (sgN (lkN B n of q)))
          refine A_istore2 d_M_lines_45 trivial ?_
          refine A_iload_n2 d_M_lines_46 ?_
          refine A_if_eqB (tgt := 63) d_M_lines_47 (by decide) (fun c => absurd c (by decide)) (fun c_47 => ?_)
          refine A_aload_n0 d_M_lines_50 ?_
          refine A_getf (kf := 14) d_M_lines_51 hM.o ok_8 (by decide) q_1063 rfl ?_
          refine A_topI hL8.2.2.1.2.2.1 ?_
          refine A_iconst (v := nI 4) d_M_lines_54 (by decide) ?_
          first | refine A_icmp_eqN (tgt := 63) d_M_lines_55 (by decide) (by with_reducible rfl) (by with_reducible rfl) (by omega) (by omega) (fun c_55 => ?_) (fun c_55 => ?_) | refine A_icmp_eq (tgt := 63) d_M_lines_55 (by decide) (fun c_55 => ?_) (fun c_55 => ?_)
          · have hle : leN B n of q = none := by unfold leN; rw [hfl]; exact if_pos c_55
            have htx : txF B n of (F + 1) q r = txF B n of F (nxN B n (itN B n (nxN B n q) (sgN (lkN B n of q)))) (lnF (lkN B n of q) B n q r) := by
              show (if kN B n q = 0 then (none, r) else match leN B n of q with | some x => (some x, r) | none => _) = _
              rw [if_neg hk0, hle]
            obtain ⟨hk12, hnu⟩ := flN_nu hfl
            have hlo := lkN_of hk12
            have hq1 := nxN_lt (B := B) hqn
            have hq2 := itN_bd (B := B) hq1.2 (sgN (lkN B n of q))
            have hq3 : itN B n (nxN B n q) (sgN (lkN B n of q)) < n := kN_lt (by rw [c_55]; decide)
            have hq4 := nxN_lt (B := B) hq3
            have hTB2 : TB of (nxN B n (itN B n (nxN B n q) (sgN (lkN B n of q)))) (lnF (lkN B n of q) B n q (r.1, r.2.1, r.2.2)).1 (lnF (lkN B n of q) B n q (r.1, r.2.1, r.2.2)).2.1 := TB_step (B := B) (n := n) hTB (fun i hi => tvN_le (nuF_k hnu i hi)) (by omega) hlo.1 hlo.2.2.1 hlo.2.2.2 hk12
            refine A_iload_n2 d_M_lines_63 ?_
            refine A_if_eqB (tgt := 71) d_M_lines_64 (by decide) (fun c => absurd c (by decide)) (fun c_64 => ?_)
            refine A_aload_n0 d_M_lines_67 ?_
            refine A_callV d_M_lines_68 (c_M_tokenL hM hL8 (Nat.le_succ _) (kN_lt (by rw [c_55]; decide))) hM.o rfl q_1246 q_1248 qs_18 mk_M_token rfl (by decide) rfl (Nat.le_of_ble_eq_true rfl) ⟨Nat.le_of_ble_eq_true rfl, Nat.le_of_ble_eq_true rfl⟩ (fun v h1 hv => ?_)
            obtain ⟨rfl, S9, hM, hL9, -⟩ := hv
            refine A_goto (tgt := 2) d_M_lines_71 (by decide) ?_
            refine A_drop3 ?_
            rw [htx]
            exact ih _ _ _ _ hM hL9.toH hTB2 (by omega)
          · refine A_aload_n0 d_M_lines_58 ?_
            refine A_callV d_M_lines_59 (c_M_fails hM hL8.2.2.1.2.1) hM.o rfl q_1274 q_1276 qs_23 mk_M_fails rfl (by decide) rfl (Nat.le_of_ble_eq_true rfl) ⟨Nat.le_of_ble_eq_true rfl, Nat.le_of_ble_eq_true rfl⟩ (fun v h1 hv => ?_)
            obtain ⟨rfl, S9, hM, e17, x17⟩ := hv
            refine A_istore2 d_M_lines_62 trivial ?_
            have hle : leN B n of q = some (itN B n (nxN B n q) (sgN (lkN B n of q))) := by unfold leN; rw [hfl]; exact if_neg c_55
            have htx : txF B n of (F + 1) q r = (some (itN B n (nxN B n q) (sgN (lkN B n of q))), r) := by
              show (if kN B n q = 0 then (none, r) else match leN B n of q with | some x => (some x, r) | none => _) = _
              rw [if_neg hk0, hle]
            refine A_iload_n2 d_M_lines_63 ?_
            refine A_if_eqB (tgt := 71) d_M_lines_64 (by decide) (fun c_64 => ?_) (fun c => absurd c (by decide))
            refine A_goto (tgt := 2) d_M_lines_71 (by decide) ?_
            refine A_iload_n2 d_M_lines_2 ?_
            refine A_if_eqB (tgt := 74) d_M_lines_3 (by decide) (fun c_3 => ?_) (fun c => absurd c (by decide))
            refine A_iload_n2 d_M_lines_74 ?_
            refine A_zret d_M_lines_75 rfl (by first | rfl | exact bI_nar _ | decide) ⟨Nat.zero_le _, Nat.zero_le _⟩ ?_
            exact Or.inl ⟨itN B n (nxN B n q) (sgN (lkN B n of q)), by rw [htx], rfl, S9, hM, hL8.1.tr (KT.sf x17 (by decide)), e17⟩
      · skip
        refine A_aload_n0 d_M_lines_25 ?_
        refine A_getf (kf := 14) d_M_lines_26 hM.o ok_8 (by decide) q_1063 rfl ?_
        refine A_topI hLg.2.2.1.2.2.1 ?_
        refine A_iconst (v := nI 2) d_M_lines_29 (by decide) ?_
        refine A_icmp_ne (tgt := 40) d_M_lines_30 (by decide) (fun c_30 => ?_) (fun c => absurd ((nI_eq (by omega) (by decide)).mp c) hk2)
        refine A_lconst (v := 0) d_M_lines_40 (by decide) ?_
        refine A_top (congrArg Value.long (if_neg hk2 : wdW B n q = 0).symm) ?_
        refine A_iload_n3 d_M_lines_41 ?_
        refine A_callV d_M_lines_42 (c_M_lineOf hM hLg hqn hof hTB) hM.o rfl q_1258 q_1260 qs_21 mk_M_lineOf rfl (by decide) rfl (Nat.le_of_ble_eq_true rfl) ⟨Nat.le_of_ble_eq_true rfl, Nat.le_of_ble_eq_true rfl⟩ (fun v h1 hv => ?_)
        rcases hv with ⟨x, hfl, rfl, S8, hM, hK8, e17⟩ | ⟨hfl, rfl, S8, g8, hM, hL8⟩
        · have hle : leN B n of q = some x := by unfold leN; rw [hfl]
          have htx : txF B n of (F + 1) q r = (some x, r) := by
            show (if kN B n q = 0 then (none, r) else match leN B n of q with | some x => (some x, r) | none => _) = _
            rw [if_neg hk0, hle]
          refine A_istore2 d_M_lines_45 trivial ?_
          refine A_iload_n2 d_M_lines_46 ?_
          refine A_if_eqB (tgt := 63) d_M_lines_47 (by decide) (fun c_47 => ?_) (fun c => absurd c (by decide))
          refine A_iload_n2 d_M_lines_63 ?_
          refine A_if_eqB (tgt := 71) d_M_lines_64 (by decide) (fun c_64 => ?_) (fun c => absurd c (by decide))
          refine A_goto (tgt := 2) d_M_lines_71 (by decide) ?_
          refine A_iload_n2 d_M_lines_2 ?_
          refine A_if_eqB (tgt := 74) d_M_lines_3 (by decide) (fun c_3 => ?_) (fun c => absurd c (by decide))
          refine A_iload_n2 d_M_lines_74 ?_
          refine A_zret d_M_lines_75 rfl (by first | rfl | exact bI_nar _ | decide) ⟨Nat.zero_le _, Nat.zero_le _⟩ ?_
          exact Or.inl ⟨x, by rw [htx], rfl, S8, hM, hK8, e17⟩
        · have hkl2 := kN_le B n (itN B n (nxN B n q) (sgN (lkN B n of q)))
          refine A_istore2 d_M_lines_45 trivial ?_
          refine A_iload_n2 d_M_lines_46 ?_
          refine A_if_eqB (tgt := 63) d_M_lines_47 (by decide) (fun c => absurd c (by decide)) (fun c_47 => ?_)
          refine A_aload_n0 d_M_lines_50 ?_
          refine A_getf (kf := 14) d_M_lines_51 hM.o ok_8 (by decide) q_1063 rfl ?_
          refine A_topI hL8.2.2.1.2.2.1 ?_
          refine A_iconst (v := nI 4) d_M_lines_54 (by decide) ?_
          first | refine A_icmp_eqN (tgt := 63) d_M_lines_55 (by decide) (by with_reducible rfl) (by with_reducible rfl) (by omega) (by omega) (fun c_55 => ?_) (fun c_55 => ?_) | refine A_icmp_eq (tgt := 63) d_M_lines_55 (by decide) (fun c_55 => ?_) (fun c_55 => ?_)
          · have hle : leN B n of q = none := by unfold leN; rw [hfl]; exact if_pos c_55
            have htx : txF B n of (F + 1) q r = txF B n of F (nxN B n (itN B n (nxN B n q) (sgN (lkN B n of q)))) (lnF (lkN B n of q) B n q r) := by
              show (if kN B n q = 0 then (none, r) else match leN B n of q with | some x => (some x, r) | none => _) = _
              rw [if_neg hk0, hle]
            obtain ⟨hk12, hnu⟩ := flN_nu hfl
            have hlo := lkN_of hk12
            have hq1 := nxN_lt (B := B) hqn
            have hq2 := itN_bd (B := B) hq1.2 (sgN (lkN B n of q))
            have hq3 : itN B n (nxN B n q) (sgN (lkN B n of q)) < n := kN_lt (by rw [c_55]; decide)
            have hq4 := nxN_lt (B := B) hq3
            have hTB2 : TB of (nxN B n (itN B n (nxN B n q) (sgN (lkN B n of q)))) (lnF (lkN B n of q) B n q (r.1, r.2.1, r.2.2)).1 (lnF (lkN B n of q) B n q (r.1, r.2.1, r.2.2)).2.1 := TB_step (B := B) (n := n) hTB (fun i hi => tvN_le (nuF_k hnu i hi)) (by omega) hlo.1 hlo.2.2.1 hlo.2.2.2 hk12
            refine A_iload_n2 d_M_lines_63 ?_
            refine A_if_eqB (tgt := 71) d_M_lines_64 (by decide) (fun c => absurd c (by decide)) (fun c_64 => ?_)
            refine A_aload_n0 d_M_lines_67 ?_
            refine A_callV d_M_lines_68 (c_M_tokenL hM hL8 (Nat.le_succ _) (kN_lt (by rw [c_55]; decide))) hM.o rfl q_1246 q_1248 qs_18 mk_M_token rfl (by decide) rfl (Nat.le_of_ble_eq_true rfl) ⟨Nat.le_of_ble_eq_true rfl, Nat.le_of_ble_eq_true rfl⟩ (fun v h1 hv => ?_)
            obtain ⟨rfl, S9, hM, hL9, -⟩ := hv
            refine A_goto (tgt := 2) d_M_lines_71 (by decide) ?_
            refine A_drop3 ?_
            rw [htx]
            exact ih _ _ _ _ hM hL9.toH hTB2 (by omega)
          · refine A_aload_n0 d_M_lines_58 ?_
            refine A_callV d_M_lines_59 (c_M_fails hM hL8.2.2.1.2.1) hM.o rfl q_1274 q_1276 qs_23 mk_M_fails rfl (by decide) rfl (Nat.le_of_ble_eq_true rfl) ⟨Nat.le_of_ble_eq_true rfl, Nat.le_of_ble_eq_true rfl⟩ (fun v h1 hv => ?_)
            obtain ⟨rfl, S9, hM, e17, x17⟩ := hv
            refine A_istore2 d_M_lines_62 trivial ?_
            have hle : leN B n of q = some (itN B n (nxN B n q) (sgN (lkN B n of q))) := by unfold leN; rw [hfl]; exact if_neg c_55
            have htx : txF B n of (F + 1) q r = (some (itN B n (nxN B n q) (sgN (lkN B n of q))), r) := by
              show (if kN B n q = 0 then (none, r) else match leN B n of q with | some x => (some x, r) | none => _) = _
              rw [if_neg hk0, hle]
            refine A_iload_n2 d_M_lines_63 ?_
            refine A_if_eqB (tgt := 71) d_M_lines_64 (by decide) (fun c_64 => ?_) (fun c => absurd c (by decide))
            refine A_goto (tgt := 2) d_M_lines_71 (by decide) ?_
            refine A_iload_n2 d_M_lines_2 ?_
            refine A_if_eqB (tgt := 74) d_M_lines_3 (by decide) (fun c_3 => ?_) (fun c => absurd c (by decide))
            refine A_iload_n2 d_M_lines_74 ?_
            refine A_zret d_M_lines_75 rfl (by first | rfl | exact bI_nar _ | decide) ⟨Nat.zero_le _, Nat.zero_le _⟩ ?_
            exact Or.inl ⟨itN B n (nxN B n q) (sgN (lkN B n of q)), by rw [htx], rfl, S9, hM, hL8.1.tr (KT.sf x17 (by decide)), e17⟩
