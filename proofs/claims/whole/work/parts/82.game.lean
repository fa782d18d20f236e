def nlB (g : Nat → Nat) (a b cc : Nat) : Bool := decide (g 1 ≤ a ∧ g 2 ≤ b ∧ g 4 ≤ cc ∧ g 3 ≤ a + b ∧ g 5 ≤ a + cc ∧ g 6 ≤ b + cc)
theorem lackB_1 (g : Nat → Nat) (a b cc : Nat) : lackB g a b cc 1 = !decide (g 1 ≤ a) := by
  unfold lackB wI
  rw [show hasB (nI 1) (nI 0) = true by decide, show hasB (nI 1) (nI 1) = false by decide, show hasB (nI 1) (nI 2) = false by decide, if_neg (by decide)]
  simp [uB]
theorem lackB_2 (g : Nat → Nat) (a b cc : Nat) : lackB g a b cc 2 = !decide (g 2 ≤ b) := by
  unfold lackB wI
  rw [show hasB (nI 2) (nI 0) = false by decide, show hasB (nI 2) (nI 1) = true by decide, show hasB (nI 2) (nI 2) = false by decide, if_neg (by decide)]
  simp [uB]
theorem lackB_3 (g : Nat → Nat) (a b cc : Nat) : lackB g a b cc 3 = !decide (g 3 ≤ a + b) := by
  unfold lackB wI
  rw [show hasB (nI 3) (nI 0) = true by decide, show hasB (nI 3) (nI 1) = true by decide, show hasB (nI 3) (nI 2) = false by decide, if_neg (by decide)]
  simp [uB]
theorem lackB_4 (g : Nat → Nat) (a b cc : Nat) : lackB g a b cc 4 = !decide (g 4 ≤ cc) := by
  unfold lackB wI
  rw [show hasB (nI 4) (nI 0) = false by decide, show hasB (nI 4) (nI 1) = false by decide, show hasB (nI 4) (nI 2) = true by decide, if_neg (by decide)]
  simp [uB]
theorem lackB_5 (g : Nat → Nat) (a b cc : Nat) : lackB g a b cc 5 = !decide (g 5 ≤ a + cc) := by
  unfold lackB wI
  rw [show hasB (nI 5) (nI 0) = true by decide, show hasB (nI 5) (nI 1) = false by decide, show hasB (nI 5) (nI 2) = true by decide, if_neg (by decide)]
  simp [uB]
theorem lackB_6 (g : Nat → Nat) (a b cc : Nat) : lackB g a b cc 6 = !decide (g 6 ≤ b + cc) := by
  unfold lackB wI
  rw [show hasB (nI 6) (nI 0) = false by decide, show hasB (nI 6) (nI 1) = true by decide, show hasB (nI 6) (nI 2) = true by decide, if_neg (by decide)]
  simp [uB]
theorem lackB_7 (g : Nat → Nat) (a b cc : Nat) : lackB g a b cc 7 = !decide (g 7 ≤ a + b + cc) := by
  unfold lackB wI
  rw [show hasB (nI 7) (nI 0) = true by decide, show hasB (nI 7) (nI 1) = true by decide, show hasB (nI 7) (nI 2) = true by decide, if_neg (by decide)]
  simp [uB]
theorem coreB_nl {g : Nat → Nat} {a b cc : Nat} (h : a + b + cc = g 7) : coreB g a b cc = nlB g a b cc := by
  unfold coreB nlB
  rw [firstU_step _ _ _ (by decide), firstU_step _ _ _ (by decide), firstU_step _ _ _ (by decide), firstU_step _ _ _ (by decide), firstU_step _ _ _ (by decide), firstU_step _ _ _ (by decide), firstU_step _ _ _ (by decide), firstU_end, lackB_1, lackB_2, lackB_3, lackB_4, lackB_5, lackB_6, lackB_7]
  rw [decide_eq_true (p := g 7 ≤ a + b + cc) (by omega)]
  by_cases h1 : g 1 ≤ a <;> by_cases h2 : g 2 ≤ b <;> by_cases h3 : g 3 ≤ a + b <;> by_cases h4 : g 4 ≤ cc <;> by_cases h5 : g 5 ≤ a + cc <;> by_cases h6 : g 6 ≤ b + cc <;> simp [h1, h2, h3, h4, h5, h6]
set_option maxHeartbeats 4000000 in
set_option maxRecDepth 100000 in
theorem c_N_nobodyLeaves {G : GE} {h : AH} {w : Nat} {f : Nat → Int32} (hw : h w = some (.inl (0, 8, .inl f))) {g : Nat → Nat} (hf : ∀ x, x < 8 → f x = nI (g x) ∧ g x ≤ 60) (a b cc : Nat) (ha : a ≤ 60) (hb : b ≤ 60) (hc : cc ≤ 60) : Ctr G y_N_nobodyLeaves b_N_nobodyLeaves 4 (some .boolean) r_N_nobodyLeaves [.ref w, .int (nI a), .int (nI b), .int (nI cc)] h (Pu (.int (bI (nlB g a b cc))) h) := by
  refine Ctr.of (by decide +kernel) (by simp) (Nat.le_of_ble_eq_true rfl) (L0 := [some (.ref w), some (.int (nI a)), some (.int (nI b)), some (.int (nI cc))]) rfl ?_
  refine A_iload_n1 d_N_nobodyLeaves_0 ?_
  refine A_aload_n0 d_N_nobodyLeaves_1 ?_
  refine A_iconst (v := nI 1) d_N_nobodyLeaves_2 (by decide) ?_
  refine A_ialdN d_N_nobodyLeaves_3 hw ⟨by decide, by decide⟩ ?_
  refine A_topI (hf 1 (by decide)).1 ?_
  have hg1 := (hf 1 (by decide)).2
  first | refine A_icmp_ltN (tgt := 53) d_N_nobodyLeaves_4 (by decide) (by with_reducible rfl) (by with_reducible rfl) (by omega) (by omega) (fun c_4 => ?_) (fun c_4 => ?_) | refine A_icmp_lt (tgt := 53) d_N_nobodyLeaves_4 (by decide) (fun c_4 => ?_) (fun c_4 => ?_)
  · refine A_iconst (v := nI 0) d_N_nobodyLeaves_53 (by decide) ?_
    refine A_zret d_N_nobodyLeaves_54 rfl (by first | rfl | exact bI_nar _ | decide) ⟨Nat.zero_le _, Nat.zero_le _⟩ ?_
    exact pu (by unfold nlB; first | (rw [decide_eq_true (by omega)]; rfl) | (rw [decide_eq_false (by omega)]; rfl))
  · refine A_iload_n2 d_N_nobodyLeaves_7 ?_
    refine A_aload_n0 d_N_nobodyLeaves_8 ?_
    refine A_iconst (v := nI 2) d_N_nobodyLeaves_9 (by decide) ?_
    refine A_ialdN d_N_nobodyLeaves_10 hw ⟨by decide, by decide⟩ ?_
    refine A_topI (hf 2 (by decide)).1 ?_
    have hg2 := (hf 2 (by decide)).2
    first | refine A_icmp_ltN (tgt := 53) d_N_nobodyLeaves_11 (by decide) (by with_reducible rfl) (by with_reducible rfl) (by omega) (by omega) (fun c_11 => ?_) (fun c_11 => ?_) | refine A_icmp_lt (tgt := 53) d_N_nobodyLeaves_11 (by decide) (fun c_11 => ?_) (fun c_11 => ?_)
    · refine A_iconst (v := nI 0) d_N_nobodyLeaves_53 (by decide) ?_
      refine A_zret d_N_nobodyLeaves_54 rfl (by first | rfl | exact bI_nar _ | decide) ⟨Nat.zero_le _, Nat.zero_le _⟩ ?_
      exact pu (by unfold nlB; first | (rw [decide_eq_true (by omega)]; rfl) | (rw [decide_eq_false (by omega)]; rfl))
    · refine A_iload_n3 d_N_nobodyLeaves_14 ?_
      refine A_aload_n0 d_N_nobodyLeaves_15 ?_
      refine A_iconst (v := nI 4) d_N_nobodyLeaves_16 (by decide) ?_
      refine A_ialdN d_N_nobodyLeaves_17 hw ⟨by decide, by decide⟩ ?_
      refine A_topI (hf 4 (by decide)).1 ?_
      have hg4 := (hf 4 (by decide)).2
      first | refine A_icmp_ltN (tgt := 53) d_N_nobodyLeaves_18 (by decide) (by with_reducible rfl) (by with_reducible rfl) (by omega) (by omega) (fun c_18 => ?_) (fun c_18 => ?_) | refine A_icmp_lt (tgt := 53) d_N_nobodyLeaves_18 (by decide) (fun c_18 => ?_) (fun c_18 => ?_)
      · refine A_iconst (v := nI 0) d_N_nobodyLeaves_53 (by decide) ?_
        refine A_zret d_N_nobodyLeaves_54 rfl (by first | rfl | exact bI_nar _ | decide) ⟨Nat.zero_le _, Nat.zero_le _⟩ ?_
        exact pu (by unfold nlB; first | (rw [decide_eq_true (by omega)]; rfl) | (rw [decide_eq_false (by omega)]; rfl))
      · refine A_iload_n1 d_N_nobodyLeaves_21 ?_
        refine A_iload_n2 d_N_nobodyLeaves_22 ?_
        first | refine A_iaddN d_N_nobodyLeaves_23 (by with_reducible rfl) (by with_reducible rfl) ?_ | refine A_iadd d_N_nobodyLeaves_23 ?_
        refine A_aload_n0 d_N_nobodyLeaves_24 ?_
        refine A_iconst (v := nI 3) d_N_nobodyLeaves_25 (by decide) ?_
        refine A_ialdN d_N_nobodyLeaves_26 hw ⟨by decide, by decide⟩ ?_
        refine A_topI (hf 3 (by decide)).1 ?_
        have hg3 := (hf 3 (by decide)).2
        first | refine A_icmp_ltN (tgt := 53) d_N_nobodyLeaves_27 (by decide) (by with_reducible rfl) (by with_reducible rfl) (by omega) (by omega) (fun c_27 => ?_) (fun c_27 => ?_) | refine A_icmp_lt (tgt := 53) d_N_nobodyLeaves_27 (by decide) (fun c_27 => ?_) (fun c_27 => ?_)
        · refine A_iconst (v := nI 0) d_N_nobodyLeaves_53 (by decide) ?_
          refine A_zret d_N_nobodyLeaves_54 rfl (by first | rfl | exact bI_nar _ | decide) ⟨Nat.zero_le _, Nat.zero_le _⟩ ?_
          exact pu (by unfold nlB; first | (rw [decide_eq_true (by omega)]; rfl) | (rw [decide_eq_false (by omega)]; rfl))
        · refine A_iload_n1 d_N_nobodyLeaves_30 ?_
          refine A_iload_n3 d_N_nobodyLeaves_31 ?_
          first | refine A_iaddN d_N_nobodyLeaves_32 (by with_reducible rfl) (by with_reducible rfl) ?_ | refine A_iadd d_N_nobodyLeaves_32 ?_
          refine A_aload_n0 d_N_nobodyLeaves_33 ?_
          refine A_iconst (v := nI 5) d_N_nobodyLeaves_34 (by decide) ?_
          refine A_ialdN d_N_nobodyLeaves_35 hw ⟨by decide, by decide⟩ ?_
          refine A_topI (hf 5 (by decide)).1 ?_
          have hg5 := (hf 5 (by decide)).2
          first | refine A_icmp_ltN (tgt := 53) d_N_nobodyLeaves_36 (by decide) (by with_reducible rfl) (by with_reducible rfl) (by omega) (by omega) (fun c_36 => ?_) (fun c_36 => ?_) | refine A_icmp_lt (tgt := 53) d_N_nobodyLeaves_36 (by decide) (fun c_36 => ?_) (fun c_36 => ?_)
          · refine A_iconst (v := nI 0) d_N_nobodyLeaves_53 (by decide) ?_
            refine A_zret d_N_nobodyLeaves_54 rfl (by first | rfl | exact bI_nar _ | decide) ⟨Nat.zero_le _, Nat.zero_le _⟩ ?_
            exact pu (by unfold nlB; first | (rw [decide_eq_true (by omega)]; rfl) | (rw [decide_eq_false (by omega)]; rfl))
          · refine A_iload_n2 d_N_nobodyLeaves_39 ?_
            refine A_iload_n3 d_N_nobodyLeaves_40 ?_
            first | refine A_iaddN d_N_nobodyLeaves_41 (by with_reducible rfl) (by with_reducible rfl) ?_ | refine A_iadd d_N_nobodyLeaves_41 ?_
            refine A_aload_n0 d_N_nobodyLeaves_42 ?_
            refine A_bipush (v := nI 6) d_N_nobodyLeaves_43 (by decide) ?_
            refine A_ialdN d_N_nobodyLeaves_45 hw ⟨by decide, by decide⟩ ?_
            refine A_topI (hf 6 (by decide)).1 ?_
            have hg6 := (hf 6 (by decide)).2
            first | refine A_icmp_ltN (tgt := 53) d_N_nobodyLeaves_46 (by decide) (by with_reducible rfl) (by with_reducible rfl) (by omega) (by omega) (fun c_46 => ?_) (fun c_46 => ?_) | refine A_icmp_lt (tgt := 53) d_N_nobodyLeaves_46 (by decide) (fun c_46 => ?_) (fun c_46 => ?_)
            · refine A_iconst (v := nI 0) d_N_nobodyLeaves_53 (by decide) ?_
              refine A_zret d_N_nobodyLeaves_54 rfl (by first | rfl | exact bI_nar _ | decide) ⟨Nat.zero_le _, Nat.zero_le _⟩ ?_
              exact pu (by unfold nlB; first | (rw [decide_eq_true (by omega)]; rfl) | (rw [decide_eq_false (by omega)]; rfl))
            · refine A_iconst (v := nI 1) d_N_nobodyLeaves_49 (by decide) ?_
              refine A_goto (tgt := 54) d_N_nobodyLeaves_50 (by decide) ?_
              refine A_zret d_N_nobodyLeaves_54 rfl (by first | rfl | exact bI_nar _ | decide) ⟨Nat.zero_le _, Nat.zero_le _⟩ ?_
              exact pu (by unfold nlB; first | (rw [decide_eq_true (by omega)]; rfl) | (rw [decide_eq_false (by omega)]; rfl))
def cfE (g : Nat → Nat) (k : Nat) (st : Nat × Nat) : Int32 := if st.1 = 0 then -1 else if k = 1 then nI (st.2 / 100) else if k = 2 then nI (st.2 % 100) else nI (g 7) - nI (st.2 / 100) - nI (st.2 % 100)
theorem crIn_s (g : Nat → Nat) (a : Nat) (st : Nat × Nat) (b : Nat) : crIn g a st (b + 1) = if coreB g a b (wI g 7 - a - b) then ((crIn g a st b).1 + 1, if (crIn g a st b).1 = 0 then 100 * a + b else (crIn g a st b).2) else crIn g a st b := rfl
theorem crInL (g : Nat → Nat) (a : Nat) (st : Nat × Nat) : ∀ b, (crIn g a st b).1 ≤ st.1 + b
  | 0 => Nat.le_refl _
  | b + 1 => by
    have ih := crInL g a st b
    rw [crIn_s]
    split
    · show _ + 1 ≤ _; omega
    · omega
theorem crOutL (g : Nat → Nat) : ∀ a, (crOut g a).1 ≤ a * (g 7 + 1)
  | 0 => Nat.zero_le _
  | a + 1 => by
    have ih := crOutL g a
    have h := crInL g a (crOut g a) (wI g 7 - a + 1)
    show (crIn g a (crOut g a) (wI g 7 - a + 1)).1 ≤ _
    have e : wI g 7 = g 7 := if_neg (by decide)
    rw [e] at h ⊢
    rw [Nat.succ_mul]
    omega
theorem cfE_new {g : Nat → Nat} {k a b n : Nat} (hb : b < 100) (hab : a + b ≤ g 7) (z : Nat × Nat) (hz : z = (n + 1, 100 * a + b)) : cfE g k z = if k = 1 then nI a else if k = 2 then nI b else nI (g 7 - a - b) := by
  subst hz
  unfold cfE
  rw [if_neg (Nat.succ_ne_zero _), show (n + 1, 100 * a + b).2 / 100 = a by show (100 * a + b) / 100 = a; omega, show (n + 1, 100 * a + b).2 % 100 = b by show (100 * a + b) % 100 = b; omega, nI_sub (by omega), nI_sub (by omega)]
theorem cfE_old {g : Nat → Nat} {k n m : Nat} {z q : Nat × Nat} (hq : q.1 = n + 1) (hz : z = (m + 1, q.2)) : cfE g k z = cfE g k q := by
  subst hz
  have e1 : ¬ q.1 = 0 := by omega
  unfold cfE
  simp only [e1, if_false, Nat.succ_ne_zero]
set_option maxHeartbeats 4000000 in
set_option maxRecDepth 100000 in
theorem c_N_core {G : GE} {h : AH} {w : Nat} {f : Nat → Int32} (hw : h w = some (.inl (0, 8, .inl f))) {g : Nat → Nat} (hf : ∀ x, x < 8 → f x = nI (g x) ∧ g x ≤ 60) (k : Nat) (hk : k ≤ 3) : Ctr G y_N_core b_N_core 8 (some .int) r_N_core [.ref w, .int (nI k)] h (Pu (.int (coreV g k)) h) := by
  have hg7 := (hf 7 (by decide)).2
  have key : ∀ i, i ≤ g 7 + 1 → WA G y_N_core b_N_core 8 (some .int) r_N_core 0 0 (Pu (.int (coreV g k)) h) 0 0 13 [some (.ref w), some (.int (nI k)), some (.int (nI (g 7))), some (.int (nI (crOut g i).1)), some (.int (cfE g k (crOut g i))), some (.int (nI i)), none, none] [] h := by
    refine down ?_ (fun i hi ih => ?_)
    · have hol := crOutL g (g 7 + 1)
      refine A_iload5 d_N_core_13 ?_
      refine A_iload_n2 d_N_core_15 ?_
      first | refine A_icmp_gtN (tgt := 96) d_N_core_16 (by decide) (by with_reducible rfl) (by with_reducible rfl) (by omega) (by omega) (fun c_16 => ?_) (fun c_16 => ?_) | refine A_icmp_gt (tgt := 96) d_N_core_16 (by decide) (fun c_16 => ?_) (fun c_16 => ?_)
      · refine A_iload_n1 d_N_core_96 ?_
        first | refine A_if_neN (tgt := 104) d_N_core_97 (by decide) (by with_reducible rfl) (by omega) (fun c_97 => ?_) (fun c_97 => ?_) | refine A_if_ne (tgt := 104) d_N_core_97 (by decide) (fun c_97 => ?_) (fun c_97 => ?_)
        · refine A_iload4 d_N_core_104 ?_
          refine A_iret d_N_core_106 rfl ⟨Nat.zero_le _, Nat.zero_le _⟩ ?_
          refine pu ?_
          unfold coreV
          rw [show wI g 7 = g 7 from if_neg (by decide)]
          first
            | (rw [if_pos c_97]; done)
            | (rw [if_neg c_97]
               unfold cfE
               split
               · rfl
               · rcases (show k = 1 ∨ k = 2 ∨ k = 3 by omega) with rfl | rfl | rfl <;> rfl)
        · refine A_iload_n3 d_N_core_100 ?_
          refine A_goto (tgt := 106) d_N_core_101 (by decide) ?_
          refine A_iret d_N_core_106 rfl ⟨Nat.zero_le _, Nat.zero_le _⟩ ?_
          refine pu ?_
          unfold coreV
          rw [show wI g 7 = g 7 from if_neg (by decide)]
          first
            | (rw [if_pos c_97]; done)
            | (rw [if_neg c_97]
               unfold cfE
               split
               · rfl
               · rcases (show k = 1 ∨ k = 2 ∨ k = 3 by omega) with rfl | rfl | rfl <;> rfl)
      · exact absurd c_16 (by omega)
    · have hoi := crOutL g i
      have hmi : i * (g 7 + 1) ≤ 61 * 61 := Nat.mul_le_mul (by omega) (by omega)
      have h7 : wI g 7 = g 7 := if_neg (by decide)
      generalize hSTd : (fun j => crIn g i (crOut g i) j) = ST at *
      have hST0 : ST 0 = crOut g i := by rw [← hSTd]; rfl
      have hST : ∀ j, ST (j + 1) = if coreB g i j (wI g 7 - i - j) then ((ST j).1 + 1, if (ST j).1 = 0 then 100 * i + j else (ST j).2) else ST j := by intro j; rw [← hSTd]; rfl
      have hSTe : crOut g (i + 1) = ST (g 7 - i + 1) := by rw [← hSTd, ← h7]; rfl
      have hSTl : ∀ j, (ST j).1 ≤ (crOut g i).1 + j := by intro j; rw [← hSTd]; exact crInL _ _ _ j
      rw [hSTe] at ih
      have key2 : ∀ j, j ≤ g 7 - i + 1 → WA G y_N_core b_N_core 8 (some .int) r_N_core 0 0 (Pu (.int (coreV g k)) h) 0 0 22 [some (.ref w), some (.int (nI k)), some (.int (nI (g 7))), some (.int (nI (ST j).1)), some (.int (cfE g k (ST j))), some (.int (nI i)), some (.int (nI j)), none] [] h := by
        refine down ?_ (fun j hj ih2 => ?_)
        · refine A_iload6 d_N_core_22 ?_
          refine A_iload_n2 d_N_core_24 ?_
          refine A_iload5 d_N_core_25 ?_
          first | refine A_isubN d_N_core_27 (by with_reducible rfl) (by with_reducible rfl) (by omega) ?_ | refine A_isub d_N_core_27 ?_
          first | refine A_icmp_gtN (tgt := 90) d_N_core_28 (by decide) (by with_reducible rfl) (by with_reducible rfl) (by omega) (by omega) (fun c_28 => ?_) (fun c_28 => ?_) | refine A_icmp_gt (tgt := 90) d_N_core_28 (by decide) (fun c_28 => ?_) (fun c_28 => ?_)
          · first | refine A_iinc5 d_N_core_90 (nI_1 _) trivial ?_ | refine A_iinc5 d_N_core_90 rfl trivial ?_
            refine A_goto (tgt := 13) d_N_core_93 (by decide) ?_
            refine A_drop6 ?_
            exact ih
          · exact absurd c_28 (by omega)
        · have hsj := hSTl j
          have hst := hST j
          rw [h7, coreB_nl (show i + j + (g 7 - i - j) = g 7 by omega)] at hst
          refine A_iload6 d_N_core_22 ?_
          refine A_iload_n2 d_N_core_24 ?_
          refine A_iload5 d_N_core_25 ?_
          first | refine A_isubN d_N_core_27 (by with_reducible rfl) (by with_reducible rfl) (by omega) ?_ | refine A_isub d_N_core_27 ?_
          first | refine A_icmp_gtN (tgt := 90) d_N_core_28 (by decide) (by with_reducible rfl) (by with_reducible rfl) (by omega) (by omega) (fun c_28 => ?_) (fun c_28 => ?_) | refine A_icmp_gt (tgt := 90) d_N_core_28 (by decide) (fun c_28 => ?_) (fun c_28 => ?_)
          · exact absurd c_28 (by omega)
          · refine A_iload_n2 d_N_core_31 ?_
            refine A_iload5 d_N_core_32 ?_
            first | refine A_isubN d_N_core_34 (by with_reducible rfl) (by with_reducible rfl) (by omega) ?_ | refine A_isub d_N_core_34 ?_
            refine A_iload6 d_N_core_35 ?_
            first | refine A_isubN d_N_core_37 (by with_reducible rfl) (by with_reducible rfl) (by omega) ?_ | refine A_isub d_N_core_37 ?_
            refine A_istore7 d_N_core_38 trivial ?_
            refine A_aload_n0 d_N_core_40 ?_
            refine A_iload5 d_N_core_41 ?_
            refine A_iload6 d_N_core_43 ?_
            refine A_iload7 d_N_core_45 ?_
            refine A_callSP d_N_core_47 (c_N_nobodyLeaves hw hf i j (g 7 - i - j) (by omega) (by omega) (by omega)) q_1007 q_1008 mk_N_nobodyLeaves rfl (by decide) rfl (Nat.le_of_ble_eq_true rfl) ⟨Nat.le_of_ble_eq_true rfl, Nat.le_of_ble_eq_true rfl⟩ ⟨rfl, rfl⟩ ?_
            refine A_if_eqB (tgt := 84) d_N_core_50 (by decide) (fun c_50 => ?_) (fun c_50 => ?_)
            · first | refine A_iinc6 d_N_core_84 (nI_1 _) trivial ?_ | refine A_iinc6 d_N_core_84 rfl trivial ?_
              refine A_goto (tgt := 22) d_N_core_87 (by decide) ?_
              refine A_drop7 ?_
              refine A_loc ?_ ih2
              first
                | (rw [c_50, if_neg (by decide)] at hst
                   rw [hst]
                   done)
                | (rw [c_50, if_pos rfl, if_neg c_54] at hst
                   rw [cfE_old (n := (ST j).1 - 1) (by omega) hst, hst]
                   done)
                | (rw [c_50, if_pos rfl, if_pos c_54] at hst
                   rw [cfE_new (n := (ST j).1) (by omega) (by omega) _ hst, hst]
                   first
                     | (rw [if_pos c_59]; done)
                     | (rw [if_neg c_59, if_pos c_69]; done)
                     | (rw [if_neg c_59, if_neg c_69]; done))
            · refine A_iload_n3 d_N_core_53 ?_
              first | refine A_if_neN (tgt := 81) d_N_core_54 (by decide) (by with_reducible rfl) (by omega) (fun c_54 => ?_) (fun c_54 => ?_) | refine A_if_ne (tgt := 81) d_N_core_54 (by decide) (fun c_54 => ?_) (fun c_54 => ?_)
              · first | refine A_iinc3 d_N_core_81 (nI_1 _) trivial ?_ | refine A_iinc3 d_N_core_81 rfl trivial ?_
                first | refine A_iinc6 d_N_core_84 (nI_1 _) trivial ?_ | refine A_iinc6 d_N_core_84 rfl trivial ?_
                refine A_goto (tgt := 22) d_N_core_87 (by decide) ?_
                refine A_drop7 ?_
                refine A_loc ?_ ih2
                first
                  | (rw [c_50, if_neg (by decide)] at hst
                     rw [hst]
                     done)
                  | (rw [c_50, if_pos rfl, if_neg c_54] at hst
                     rw [cfE_old (n := (ST j).1 - 1) (by omega) hst, hst]
                     done)
                  | (rw [c_50, if_pos rfl, if_pos c_54] at hst
                     rw [cfE_new (n := (ST j).1) (by omega) (by omega) _ hst, hst]
                     first
                       | (rw [if_pos c_59]; done)
                       | (rw [if_neg c_59, if_pos c_69]; done)
                       | (rw [if_neg c_59, if_neg c_69]; done))
              · refine A_iload_n1 d_N_core_57 ?_
                refine A_iconst (v := nI 1) d_N_core_58 (by decide) ?_
                first | refine A_icmp_neN (tgt := 67) d_N_core_59 (by decide) (by with_reducible rfl) (by with_reducible rfl) (by omega) (by omega) (fun c_59 => ?_) (fun c_59 => ?_) | refine A_icmp_ne (tgt := 67) d_N_core_59 (by decide) (fun c_59 => ?_) (fun c_59 => ?_)
                · refine A_iload_n1 d_N_core_67 ?_
                  refine A_iconst (v := nI 2) d_N_core_68 (by decide) ?_
                  first | refine A_icmp_neN (tgt := 77) d_N_core_69 (by decide) (by with_reducible rfl) (by with_reducible rfl) (by omega) (by omega) (fun c_69 => ?_) (fun c_69 => ?_) | refine A_icmp_ne (tgt := 77) d_N_core_69 (by decide) (fun c_69 => ?_) (fun c_69 => ?_)
                  · refine A_iload7 d_N_core_77 ?_
                    refine A_istore4 d_N_core_79 trivial ?_
                    first | refine A_iinc3 d_N_core_81 (nI_1 _) trivial ?_ | refine A_iinc3 d_N_core_81 rfl trivial ?_
                    first | refine A_iinc6 d_N_core_84 (nI_1 _) trivial ?_ | refine A_iinc6 d_N_core_84 rfl trivial ?_
                    refine A_goto (tgt := 22) d_N_core_87 (by decide) ?_
                    refine A_drop7 ?_
                    refine A_loc ?_ ih2
                    first
                      | (rw [c_50, if_neg (by decide)] at hst
                         rw [hst]
                         done)
                      | (rw [c_50, if_pos rfl, if_neg c_54] at hst
                         rw [cfE_old (n := (ST j).1 - 1) (by omega) hst, hst]
                         done)
                      | (rw [c_50, if_pos rfl, if_pos c_54] at hst
                         rw [cfE_new (n := (ST j).1) (by omega) (by omega) _ hst, hst]
                         first
                           | (rw [if_pos c_59]; done)
                           | (rw [if_neg c_59, if_pos c_69]; done)
                           | (rw [if_neg c_59, if_neg c_69]; done))
                  · refine A_iload6 d_N_core_72 ?_
                    refine A_goto (tgt := 79) d_N_core_74 (by decide) ?_
                    refine A_istore4 d_N_core_79 trivial ?_
                    first | refine A_iinc3 d_N_core_81 (nI_1 _) trivial ?_ | refine A_iinc3 d_N_core_81 rfl trivial ?_
                    first | refine A_iinc6 d_N_core_84 (nI_1 _) trivial ?_ | refine A_iinc6 d_N_core_84 rfl trivial ?_
                    refine A_goto (tgt := 22) d_N_core_87 (by decide) ?_
                    refine A_drop7 ?_
                    refine A_loc ?_ ih2
                    first
                      | (rw [c_50, if_neg (by decide)] at hst
                         rw [hst]
                         done)
                      | (rw [c_50, if_pos rfl, if_neg c_54] at hst
                         rw [cfE_old (n := (ST j).1 - 1) (by omega) hst, hst]
                         done)
                      | (rw [c_50, if_pos rfl, if_pos c_54] at hst
                         rw [cfE_new (n := (ST j).1) (by omega) (by omega) _ hst, hst]
                         first
                           | (rw [if_pos c_59]; done)
                           | (rw [if_neg c_59, if_pos c_69]; done)
                           | (rw [if_neg c_59, if_neg c_69]; done))
                · refine A_iload5 d_N_core_62 ?_
                  refine A_goto (tgt := 79) d_N_core_64 (by decide) ?_
                  refine A_istore4 d_N_core_79 trivial ?_
                  first | refine A_iinc3 d_N_core_81 (nI_1 _) trivial ?_ | refine A_iinc3 d_N_core_81 rfl trivial ?_
                  first | refine A_iinc6 d_N_core_84 (nI_1 _) trivial ?_ | refine A_iinc6 d_N_core_84 rfl trivial ?_
                  refine A_goto (tgt := 22) d_N_core_87 (by decide) ?_
                  refine A_drop7 ?_
                  refine A_loc ?_ ih2
                  first
                    | (rw [c_50, if_neg (by decide)] at hst
                       rw [hst]
                       done)
                    | (rw [c_50, if_pos rfl, if_neg c_54] at hst
                       rw [cfE_old (n := (ST j).1 - 1) (by omega) hst, hst]
                       done)
                    | (rw [c_50, if_pos rfl, if_pos c_54] at hst
                       rw [cfE_new (n := (ST j).1) (by omega) (by omega) _ hst, hst]
                       first
                         | (rw [if_pos c_59]; done)
                         | (rw [if_neg c_59, if_pos c_69]; done)
                         | (rw [if_neg c_59, if_neg c_69]; done))
      refine A_iload5 d_N_core_13 ?_
      refine A_iload_n2 d_N_core_15 ?_
      first | refine A_icmp_gtN (tgt := 96) d_N_core_16 (by decide) (by with_reducible rfl) (by with_reducible rfl) (by omega) (by omega) (fun c_16 => ?_) (fun c_16 => ?_) | refine A_icmp_gt (tgt := 96) d_N_core_16 (by decide) (fun c_16 => ?_) (fun c_16 => ?_)
      · exact absurd c_16 (by omega)
      · refine A_iconst (v := nI 0) d_N_core_19 (by decide) ?_
        refine A_istore6 d_N_core_20 trivial ?_
        exact A_loc (by rw [hST0]) (key2 0 (Nat.zero_le _))
  refine Ctr.of (by decide +kernel) (by simp) (Nat.le_of_ble_eq_true rfl) (L0 := [some (.ref w), some (.int (nI k)), none, none, none, none, none, none]) rfl ?_
  refine A_aload_n0 d_N_core_0 ?_
  refine A_bipush (v := nI 7) d_N_core_1 (by decide) ?_
  refine A_ialdN d_N_core_3 hw ⟨by decide, by decide⟩ ?_
  refine A_topI (hf 7 (by decide)).1 ?_
  refine A_istore2 d_N_core_4 trivial ?_
  refine A_iconst (v := nI 0) d_N_core_5 (by decide) ?_
  refine A_istore3 d_N_core_6 trivial ?_
  refine A_iconst (v := (-1)) d_N_core_7 (by decide) ?_
  refine A_istore4 d_N_core_8 trivial ?_
  refine A_iconst (v := nI 0) d_N_core_10 (by decide) ?_
  refine A_istore5 d_N_core_11 trivial ?_
  exact key 0 (Nat.zero_le _)
theorem addI_0 (g : Nat → Nat) : nI (2 * g 1 + g 3) - nI (g 2) + nI (g 5) - nI (g 4) + nI 2 * (nI (g 7) - nI (g 6)) = addI g 0 := by
  have e : addI g 0 = nI 0 + nI 2 * (nI (g 1) - nI 0) + nI 1 * (nI (g 3) - nI (g 2)) + nI 1 * (nI (g 5) - nI (g 4)) + nI 2 * (nI (g 7) - nI (g 6)) := rfl
  rw [e, ← nI_add, ← nI_mul, show nI 0 = 0 from rfl, show nI 1 = 1 from rfl]
  grind
set_option maxHeartbeats 4000000 in
set_option maxRecDepth 100000 in
theorem c_N_power0 {G : GE} {h : AH} {w : Nat} {f : Nat → Int32} (hw : h w = some (.inl (0, 8, .inl f))) {g : Nat → Nat} (hf : ∀ x, x < 8 → f x = nI (g x) ∧ g x ≤ 60)  : Ctr G y_N_power b_N_power 5 (some .int) r_N_power [.ref w, .int (nI 0)] h (Pu (.int (addI g 0)) h) := by
  refine Ctr.of (by decide +kernel) (by simp) (Nat.le_of_ble_eq_true rfl) (L0 := [some (.ref w), some (.int (nI 0)), none, none, none]) rfl ?_
  refine A_iconst (v := nI 1) d_N_power_0 (by decide) ?_
  refine A_iload_n1 d_N_power_1 ?_
  refine A_ishl d_N_power_2 ?_
  refine A_topI (show _ = nI 1 by decide) ?_
  refine A_istore2 d_N_power_3 trivial ?_
  refine A_iload_n1 d_N_power_4 ?_
  refine A_if_ne (tgt := 12) d_N_power_5 (by decide) (fun c => absurd c (by decide)) (fun c_5 => ?_)
  refine A_iconst (v := nI 2) d_N_power_8 (by decide) ?_
  refine A_goto (tgt := 13) d_N_power_9 (by decide) ?_
  refine A_istore3 d_N_power_13 trivial ?_
  refine A_bipush (v := nI 7) d_N_power_14 (by decide) ?_
  refine A_iload_n2 d_N_power_16 ?_
  refine A_iconst (v := (-1)) d_N_power_17 (by decide) ?_
  refine A_ixor d_N_power_18 ?_
  refine A_iand d_N_power_19 ?_
  refine A_iload_n3 d_N_power_20 ?_
  refine A_iconst (v := (-1)) d_N_power_21 (by decide) ?_
  refine A_ixor d_N_power_22 ?_
  refine A_iand d_N_power_23 ?_
  refine A_topI (show _ = nI 4 by decide) ?_
  refine A_istore4 d_N_power_24 trivial ?_
  refine A_iconst (v := nI 2) d_N_power_26 (by decide) ?_
  refine A_aload_n0 d_N_power_27 ?_
  refine A_iload_n2 d_N_power_28 ?_
  refine A_ialdN d_N_power_29 hw ⟨by decide, by decide⟩ ?_
  refine A_topI (hf 1 (by decide)).1 ?_
  first | refine A_imulN d_N_power_30 (by with_reducible rfl) (by with_reducible rfl) ?_ | refine A_imul d_N_power_30 ?_
  refine A_aload_n0 d_N_power_31 ?_
  refine A_iload_n2 d_N_power_32 ?_
  refine A_iload_n3 d_N_power_33 ?_
  refine A_ior d_N_power_34 ?_
  refine A_topI (show _ = nI 3 by decide) ?_
  refine A_ialdN d_N_power_35 hw ⟨by decide, by decide⟩ ?_
  refine A_topI (hf 3 (by decide)).1 ?_
  first | refine A_iaddN d_N_power_36 (by with_reducible rfl) (by with_reducible rfl) ?_ | refine A_iadd d_N_power_36 ?_
  refine A_aload_n0 d_N_power_37 ?_
  refine A_iload_n3 d_N_power_38 ?_
  refine A_ialdN d_N_power_39 hw ⟨by decide, by decide⟩ ?_
  refine A_topI (hf 2 (by decide)).1 ?_
  first | refine A_isubN d_N_power_40 (by with_reducible rfl) (by with_reducible rfl) (by omega) ?_ | refine A_isub d_N_power_40 ?_
  refine A_aload_n0 d_N_power_41 ?_
  refine A_iload_n2 d_N_power_42 ?_
  refine A_iload4 d_N_power_43 ?_
  refine A_ior d_N_power_45 ?_
  refine A_topI (show _ = nI 5 by decide) ?_
  refine A_ialdN d_N_power_46 hw ⟨by decide, by decide⟩ ?_
  refine A_topI (hf 5 (by decide)).1 ?_
  first | refine A_iaddN d_N_power_47 (by with_reducible rfl) (by with_reducible rfl) ?_ | refine A_iadd d_N_power_47 ?_
  refine A_aload_n0 d_N_power_48 ?_
  refine A_iload4 d_N_power_49 ?_
  refine A_ialdN d_N_power_51 hw ⟨by decide, by decide⟩ ?_
  refine A_topI (hf 4 (by decide)).1 ?_
  first | refine A_isubN d_N_power_52 (by with_reducible rfl) (by with_reducible rfl) (by omega) ?_ | refine A_isub d_N_power_52 ?_
  refine A_iconst (v := nI 2) d_N_power_53 (by decide) ?_
  refine A_aload_n0 d_N_power_54 ?_
  refine A_bipush (v := nI 7) d_N_power_55 (by decide) ?_
  refine A_ialdN d_N_power_57 hw ⟨by decide, by decide⟩ ?_
  refine A_topI (hf 7 (by decide)).1 ?_
  refine A_aload_n0 d_N_power_58 ?_
  refine A_iload_n3 d_N_power_59 ?_
  refine A_iload4 d_N_power_60 ?_
  refine A_ior d_N_power_62 ?_
  refine A_topI (show _ = nI 6 by decide) ?_
  refine A_ialdN d_N_power_63 hw ⟨by decide, by decide⟩ ?_
  refine A_topI (hf 6 (by decide)).1 ?_
  first | refine A_isubN d_N_power_64 (by with_reducible rfl) (by with_reducible rfl) (by omega) ?_ | refine A_isub d_N_power_64 ?_
  first | refine A_imulN d_N_power_65 (by with_reducible rfl) (by with_reducible rfl) ?_ | refine A_imul d_N_power_65 ?_
  first | refine A_iaddN d_N_power_66 (by with_reducible rfl) (by with_reducible rfl) ?_ | refine A_iadd d_N_power_66 ?_
  refine A_iret d_N_power_67 rfl ⟨Nat.zero_le _, Nat.zero_le _⟩ ?_
  exact pu (congrArg Value.int (addI_0 g))
theorem addI_1 (g : Nat → Nat) : nI (2 * g 2 + g 3) - nI (g 1) + nI (g 6) - nI (g 4) + nI 2 * (nI (g 7) - nI (g 5)) = addI g 1 := by
  have e : addI g 1 = nI 0 + nI 2 * (nI (g 2) - nI 0) + nI 1 * (nI (g 3) - nI (g 1)) + nI 1 * (nI (g 6) - nI (g 4)) + nI 2 * (nI (g 7) - nI (g 5)) := rfl
  rw [e, ← nI_add, ← nI_mul, show nI 0 = 0 from rfl, show nI 1 = 1 from rfl]
  grind
set_option maxHeartbeats 4000000 in
set_option maxRecDepth 100000 in
theorem c_N_power1 {G : GE} {h : AH} {w : Nat} {f : Nat → Int32} (hw : h w = some (.inl (0, 8, .inl f))) {g : Nat → Nat} (hf : ∀ x, x < 8 → f x = nI (g x) ∧ g x ≤ 60)  : Ctr G y_N_power b_N_power 5 (some .int) r_N_power [.ref w, .int (nI 1)] h (Pu (.int (addI g 1)) h) := by
  refine Ctr.of (by decide +kernel) (by simp) (Nat.le_of_ble_eq_true rfl) (L0 := [some (.ref w), some (.int (nI 1)), none, none, none]) rfl ?_
  refine A_iconst (v := nI 1) d_N_power_0 (by decide) ?_
  refine A_iload_n1 d_N_power_1 ?_
  refine A_ishl d_N_power_2 ?_
  refine A_topI (show _ = nI 2 by decide) ?_
  refine A_istore2 d_N_power_3 trivial ?_
  refine A_iload_n1 d_N_power_4 ?_
  refine A_if_ne (tgt := 12) d_N_power_5 (by decide) (fun c_5 => ?_) (fun c => absurd c (by decide))
  refine A_iconst (v := nI 1) d_N_power_12 (by decide) ?_
  refine A_istore3 d_N_power_13 trivial ?_
  refine A_bipush (v := nI 7) d_N_power_14 (by decide) ?_
  refine A_iload_n2 d_N_power_16 ?_
  refine A_iconst (v := (-1)) d_N_power_17 (by decide) ?_
  refine A_ixor d_N_power_18 ?_
  refine A_iand d_N_power_19 ?_
  refine A_iload_n3 d_N_power_20 ?_
  refine A_iconst (v := (-1)) d_N_power_21 (by decide) ?_
  refine A_ixor d_N_power_22 ?_
  refine A_iand d_N_power_23 ?_
  refine A_topI (show _ = nI 4 by decide) ?_
  refine A_istore4 d_N_power_24 trivial ?_
  refine A_iconst (v := nI 2) d_N_power_26 (by decide) ?_
  refine A_aload_n0 d_N_power_27 ?_
  refine A_iload_n2 d_N_power_28 ?_
  refine A_ialdN d_N_power_29 hw ⟨by decide, by decide⟩ ?_
  refine A_topI (hf 2 (by decide)).1 ?_
  first | refine A_imulN d_N_power_30 (by with_reducible rfl) (by with_reducible rfl) ?_ | refine A_imul d_N_power_30 ?_
  refine A_aload_n0 d_N_power_31 ?_
  refine A_iload_n2 d_N_power_32 ?_
  refine A_iload_n3 d_N_power_33 ?_
  refine A_ior d_N_power_34 ?_
  refine A_topI (show _ = nI 3 by decide) ?_
  refine A_ialdN d_N_power_35 hw ⟨by decide, by decide⟩ ?_
  refine A_topI (hf 3 (by decide)).1 ?_
  first | refine A_iaddN d_N_power_36 (by with_reducible rfl) (by with_reducible rfl) ?_ | refine A_iadd d_N_power_36 ?_
  refine A_aload_n0 d_N_power_37 ?_
  refine A_iload_n3 d_N_power_38 ?_
  refine A_ialdN d_N_power_39 hw ⟨by decide, by decide⟩ ?_
  refine A_topI (hf 1 (by decide)).1 ?_
  first | refine A_isubN d_N_power_40 (by with_reducible rfl) (by with_reducible rfl) (by omega) ?_ | refine A_isub d_N_power_40 ?_
  refine A_aload_n0 d_N_power_41 ?_
  refine A_iload_n2 d_N_power_42 ?_
  refine A_iload4 d_N_power_43 ?_
  refine A_ior d_N_power_45 ?_
  refine A_topI (show _ = nI 6 by decide) ?_
  refine A_ialdN d_N_power_46 hw ⟨by decide, by decide⟩ ?_
  refine A_topI (hf 6 (by decide)).1 ?_
  first | refine A_iaddN d_N_power_47 (by with_reducible rfl) (by with_reducible rfl) ?_ | refine A_iadd d_N_power_47 ?_
  refine A_aload_n0 d_N_power_48 ?_
  refine A_iload4 d_N_power_49 ?_
  refine A_ialdN d_N_power_51 hw ⟨by decide, by decide⟩ ?_
  refine A_topI (hf 4 (by decide)).1 ?_
  first | refine A_isubN d_N_power_52 (by with_reducible rfl) (by with_reducible rfl) (by omega) ?_ | refine A_isub d_N_power_52 ?_
  refine A_iconst (v := nI 2) d_N_power_53 (by decide) ?_
  refine A_aload_n0 d_N_power_54 ?_
  refine A_bipush (v := nI 7) d_N_power_55 (by decide) ?_
  refine A_ialdN d_N_power_57 hw ⟨by decide, by decide⟩ ?_
  refine A_topI (hf 7 (by decide)).1 ?_
  refine A_aload_n0 d_N_power_58 ?_
  refine A_iload_n3 d_N_power_59 ?_
  refine A_iload4 d_N_power_60 ?_
  refine A_ior d_N_power_62 ?_
  refine A_topI (show _ = nI 5 by decide) ?_
  refine A_ialdN d_N_power_63 hw ⟨by decide, by decide⟩ ?_
  refine A_topI (hf 5 (by decide)).1 ?_
  first | refine A_isubN d_N_power_64 (by with_reducible rfl) (by with_reducible rfl) (by omega) ?_ | refine A_isub d_N_power_64 ?_
  first | refine A_imulN d_N_power_65 (by with_reducible rfl) (by with_reducible rfl) ?_ | refine A_imul d_N_power_65 ?_
  first | refine A_iaddN d_N_power_66 (by with_reducible rfl) (by with_reducible rfl) ?_ | refine A_iadd d_N_power_66 ?_
  refine A_iret d_N_power_67 rfl ⟨Nat.zero_le _, Nat.zero_le _⟩ ?_
  exact pu (congrArg Value.int (addI_1 g))
theorem addI_2 (g : Nat → Nat) : nI (2 * g 4 + g 5) - nI (g 1) + nI (g 6) - nI (g 2) + nI 2 * (nI (g 7) - nI (g 3)) = addI g 2 := by
  have e : addI g 2 = nI 0 + nI 2 * (nI (g 4) - nI 0) + nI 1 * (nI (g 5) - nI (g 1)) + nI 1 * (nI (g 6) - nI (g 2)) + nI 2 * (nI (g 7) - nI (g 3)) := rfl
  rw [e, ← nI_add, ← nI_mul, show nI 0 = 0 from rfl, show nI 1 = 1 from rfl]
  grind
set_option maxHeartbeats 4000000 in
set_option maxRecDepth 100000 in
theorem c_N_power2 {G : GE} {h : AH} {w : Nat} {f : Nat → Int32} (hw : h w = some (.inl (0, 8, .inl f))) {g : Nat → Nat} (hf : ∀ x, x < 8 → f x = nI (g x) ∧ g x ≤ 60)  : Ctr G y_N_power b_N_power 5 (some .int) r_N_power [.ref w, .int (nI 2)] h (Pu (.int (addI g 2)) h) := by
  refine Ctr.of (by decide +kernel) (by simp) (Nat.le_of_ble_eq_true rfl) (L0 := [some (.ref w), some (.int (nI 2)), none, none, none]) rfl ?_
  refine A_iconst (v := nI 1) d_N_power_0 (by decide) ?_
  refine A_iload_n1 d_N_power_1 ?_
  refine A_ishl d_N_power_2 ?_
  refine A_topI (show _ = nI 4 by decide) ?_
  refine A_istore2 d_N_power_3 trivial ?_
  refine A_iload_n1 d_N_power_4 ?_
  refine A_if_ne (tgt := 12) d_N_power_5 (by decide) (fun c_5 => ?_) (fun c => absurd c (by decide))
  refine A_iconst (v := nI 1) d_N_power_12 (by decide) ?_
  refine A_istore3 d_N_power_13 trivial ?_
  refine A_bipush (v := nI 7) d_N_power_14 (by decide) ?_
  refine A_iload_n2 d_N_power_16 ?_
  refine A_iconst (v := (-1)) d_N_power_17 (by decide) ?_
  refine A_ixor d_N_power_18 ?_
  refine A_iand d_N_power_19 ?_
  refine A_iload_n3 d_N_power_20 ?_
  refine A_iconst (v := (-1)) d_N_power_21 (by decide) ?_
  refine A_ixor d_N_power_22 ?_
  refine A_iand d_N_power_23 ?_
  refine A_topI (show _ = nI 2 by decide) ?_
  refine A_istore4 d_N_power_24 trivial ?_
  refine A_iconst (v := nI 2) d_N_power_26 (by decide) ?_
  refine A_aload_n0 d_N_power_27 ?_
  refine A_iload_n2 d_N_power_28 ?_
  refine A_ialdN d_N_power_29 hw ⟨by decide, by decide⟩ ?_
  refine A_topI (hf 4 (by decide)).1 ?_
  first | refine A_imulN d_N_power_30 (by with_reducible rfl) (by with_reducible rfl) ?_ | refine A_imul d_N_power_30 ?_
  refine A_aload_n0 d_N_power_31 ?_
  refine A_iload_n2 d_N_power_32 ?_
  refine A_iload_n3 d_N_power_33 ?_
  refine A_ior d_N_power_34 ?_
  refine A_topI (show _ = nI 5 by decide) ?_
  refine A_ialdN d_N_power_35 hw ⟨by decide, by decide⟩ ?_
  refine A_topI (hf 5 (by decide)).1 ?_
  first | refine A_iaddN d_N_power_36 (by with_reducible rfl) (by with_reducible rfl) ?_ | refine A_iadd d_N_power_36 ?_
  refine A_aload_n0 d_N_power_37 ?_
  refine A_iload_n3 d_N_power_38 ?_
  refine A_ialdN d_N_power_39 hw ⟨by decide, by decide⟩ ?_
  refine A_topI (hf 1 (by decide)).1 ?_
  first | refine A_isubN d_N_power_40 (by with_reducible rfl) (by with_reducible rfl) (by omega) ?_ | refine A_isub d_N_power_40 ?_
  refine A_aload_n0 d_N_power_41 ?_
  refine A_iload_n2 d_N_power_42 ?_
  refine A_iload4 d_N_power_43 ?_
  refine A_ior d_N_power_45 ?_
  refine A_topI (show _ = nI 6 by decide) ?_
  refine A_ialdN d_N_power_46 hw ⟨by decide, by decide⟩ ?_
  refine A_topI (hf 6 (by decide)).1 ?_
  first | refine A_iaddN d_N_power_47 (by with_reducible rfl) (by with_reducible rfl) ?_ | refine A_iadd d_N_power_47 ?_
  refine A_aload_n0 d_N_power_48 ?_
  refine A_iload4 d_N_power_49 ?_
  refine A_ialdN d_N_power_51 hw ⟨by decide, by decide⟩ ?_
  refine A_topI (hf 2 (by decide)).1 ?_
  first | refine A_isubN d_N_power_52 (by with_reducible rfl) (by with_reducible rfl) (by omega) ?_ | refine A_isub d_N_power_52 ?_
  refine A_iconst (v := nI 2) d_N_power_53 (by decide) ?_
  refine A_aload_n0 d_N_power_54 ?_
  refine A_bipush (v := nI 7) d_N_power_55 (by decide) ?_
  refine A_ialdN d_N_power_57 hw ⟨by decide, by decide⟩ ?_
  refine A_topI (hf 7 (by decide)).1 ?_
  refine A_aload_n0 d_N_power_58 ?_
  refine A_iload_n3 d_N_power_59 ?_
  refine A_iload4 d_N_power_60 ?_
  refine A_ior d_N_power_62 ?_
  refine A_topI (show _ = nI 3 by decide) ?_
  refine A_ialdN d_N_power_63 hw ⟨by decide, by decide⟩ ?_
  refine A_topI (hf 3 (by decide)).1 ?_
  first | refine A_isubN d_N_power_64 (by with_reducible rfl) (by with_reducible rfl) (by omega) ?_ | refine A_isub d_N_power_64 ?_
  first | refine A_imulN d_N_power_65 (by with_reducible rfl) (by with_reducible rfl) ?_ | refine A_imul d_N_power_65 ?_
  first | refine A_iaddN d_N_power_66 (by with_reducible rfl) (by with_reducible rfl) ?_ | refine A_iadd d_N_power_66 ?_
  refine A_iret d_N_power_67 rfl ⟨Nat.zero_le _, Nat.zero_le _⟩ ?_
  exact pu (congrArg Value.int (addI_2 g))
theorem c_N_power {G : GE} {h : AH} {w : Nat} {f : Nat → Int32} (hw : h w = some (.inl (0, 8, .inl f))) {g : Nat → Nat} (hf : ∀ x, x < 8 → f x = nI (g x) ∧ g x ≤ 60) (k : Nat) (hk : k ≤ 2) : Ctr G y_N_power b_N_power 5 (some .int) r_N_power [.ref w, .int (nI k)] h (Pu (.int (addI g k)) h) := by
  rcases (show k = 0 ∨ k = 1 ∨ k = 2 by omega) with rfl | rfl | rfl
  · exact c_N_power0 hw hf
  · exact c_N_power1 hw hf
  · exact c_N_power2 hw hf
