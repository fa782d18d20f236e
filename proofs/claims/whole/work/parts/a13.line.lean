def FP (F : Nat → Int32) (s : Nat × Nat) : Prop := F 6 = nI s.1 ∧ (s.1 ≠ 0 → F 7 = nI s.2) ∧ s.1 ≤ 4 ∧ (s.1 = 0 → F 7 = -1)
theorem FP.nte {F : Nat → Int32} {s : Nat × Nat} (h : FP F s) {x p : Nat} (hx : 1 ≤ x ∧ x ≤ 4) : FP (if F 6 = 0 then fup (fup F 6 (nI x)) 7 (nI p) else F) (nt x p s) := by
  unfold nt
  by_cases q : s.1 = 0
  · rw [if_pos q, if_pos (by rw [h.1, q]; rfl)]
    exact ⟨(fup_ne _ _ (by decide)).trans (fup_eq _ _ _), fun _ => fup_eq _ _ _, hx.2, fun z => absurd z (by show ¬ x = 0; omega)⟩
  · rw [if_neg q, if_neg (by rw [h.1, show (0 : Int32) = nI 0 from rfl, nI_eq (by have := h.2.2.1; omega) (by decide)]; exact q)]
    exact h
def ckS (k : Nat) (v pl : Nat → Nat) (too : Bool) (q : Nat) (s : Nat × Nat) : Nat → Nat × Nat := foldN (fun i s => ntB (inrN k v i) (pl i) s) (if too = true then nt 3 q s else s)
theorem ckS_s (k : Nat) (v pl : Nat → Nat) (too : Bool) (q : Nat) (s : Nat × Nat) (i : Nat) : ckS k v pl too q s (i + 1) = ntB (inrN k v i) (pl i) (ckS k v pl too q s i) := rfl
set_option maxHeartbeats 4000000 in
set_option maxRecDepth 100000 in
theorem c_Rd_checkLine {G : GE} {h : AH} {r : Nat} {Z : RC} (hR : RdAt h r Z) (hOl : OLD h) {k q : Nat} (hk : k < 12) (h8 : Z.1 8 = nI k) (h9 : Z.1 9 = nI q) {v pl : Nat → Nat} (hv : ∀ i, i < ncN k → Z.2.2.2.2.2.2 2 i = nI (v i) ∧ v i ≤ 99) (hpl : ∀ i, i < ncN k → Z.2.2.2.2.2.2 3 i = nI (pl i)) {s : Nat × Nat} (hFP0 : FP Z.1 s)  : Ctr G y_Rd_checkLine b_Rd_checkLine 2 none r_Rd_checkLine [.ref r] h (fun v' h1 => v' = none ∧ ∃ F1, RdW h h1 r (F1, Z.2) ∧ (∀ j, j ≠ 6 → j ≠ 7 → F1 j = Z.1 j) ∧ FP F1 (ckS k v pl (tooB k Z) q s (ncN k))) := by
  refine Ctr.of (by decide +kernel) (by simp) (Nat.le_of_ble_eq_true rfl) (L0 := [some (.ref r), none]) rfl ?_
  have M := RdW.start hR
  have hnk := num_k k hk
  have key : ∀ i, i ≤ ncN k → ∀ h' F1, RdW h h' r (F1, Z.2) → (∀ j, j ≠ 6 → j ≠ 7 → F1 j = Z.1 j) → FP F1 (ckS k v pl (tooB k Z) q s i) → WA G y_Rd_checkLine b_Rd_checkLine 2 none r_Rd_checkLine 0 0 (fun v' h1 => v' = none ∧ ∃ F1, RdW h h1 r (F1, Z.2) ∧ (∀ j, j ≠ 6 → j ≠ 7 → F1 j = Z.1 j) ∧ FP F1 (ckS k v pl (tooB k Z) q s (ncN k))) 0 0 18 [some (.ref r), some (.int (nI i))] [] h' := by
    refine down ?_ (fun i hi ih => ?_)
    · intro h' F1 M hFj hFP
      refine A_iload_n1 d_Rd_checkLine_18 ?_
      refine A_gets (C := "NightBridge$Reader") (v := .ref 1) d_Rd_checkLine_19 (by decide) q_533 ?_
      refine A_aload_n0 d_Rd_checkLine_22 ?_
      refine A_getf (kf := 8) d_Rd_checkLine_23 M.1.o ok_3 (by decide) q_289 rfl ?_
      refine A_topI ((hFj 8 (by decide) (by decide)).trans h8) ?_
      refine A_ialdN d_Rd_checkLine_26 ((hOl.kept (fun i hi => M.2 i (.inl (by have := hR.ge; omega)))).2.1) ⟨by omega, by decide⟩ ?_
      refine A_topI (num_k k hk).1 ?_
      first | refine A_icmp_geN (tgt := 55) d_Rd_checkLine_27 (by decide) (by with_reducible rfl) (by with_reducible rfl) (by omega) (by omega) (fun c_27 => ?_) (fun c_27 => ?_) | refine A_icmp_ge (tgt := 55) d_Rd_checkLine_27 (by decide) (fun c_27 => ?_) (fun c_27 => ?_)
      · refine A_vret d_Rd_checkLine_55 rfl ⟨Nat.zero_le _, Nat.zero_le _⟩ ?_
        exact ⟨rfl, F1, M, hFj, hFP⟩
      · exact absurd c_27 (by omega)
    · intro h' F1 M hFj hFP
      refine A_iload_n1 d_Rd_checkLine_18 ?_
      refine A_gets (C := "NightBridge$Reader") (v := .ref 1) d_Rd_checkLine_19 (by decide) q_533 ?_
      refine A_aload_n0 d_Rd_checkLine_22 ?_
      refine A_getf (kf := 8) d_Rd_checkLine_23 M.1.o ok_3 (by decide) q_289 rfl ?_
      refine A_topI ((hFj 8 (by decide) (by decide)).trans h8) ?_
      refine A_ialdN d_Rd_checkLine_26 ((hOl.kept (fun i hi => M.2 i (.inl (by have := hR.ge; omega)))).2.1) ⟨by omega, by decide⟩ ?_
      refine A_topI (num_k k hk).1 ?_
      first | refine A_icmp_geN (tgt := 55) d_Rd_checkLine_27 (by decide) (by with_reducible rfl) (by with_reducible rfl) (by omega) (by omega) (fun c_27 => ?_) (fun c_27 => ?_) | refine A_icmp_ge (tgt := 55) d_Rd_checkLine_27 (by decide) (fun c_27 => ?_) (fun c_27 => ?_)
      · exact absurd c_27 (by omega)
      · refine A_aload_n0 d_Rd_checkLine_30 ?_
        refine A_iload_n1 d_Rd_checkLine_31 ?_
        refine A_callVP d_Rd_checkLine_32 (c_Rd_canBe M.1 (hOl.kept (fun i hi => M.2 i (.inl (by have := hR.ge; omega)))) hk ((hFj 8 (by decide) (by decide)).trans h8) hv i hi) M.1.o rfl q_553 q_554 q_555 mk_Rd_canBe rfl (by decide) rfl (Nat.le_of_ble_eq_true rfl) ⟨Nat.le_of_ble_eq_true rfl, Nat.le_of_ble_eq_true rfl⟩ ⟨rfl, rfl⟩ ?_
        refine A_if_neB (tgt := 49) d_Rd_checkLine_35 (by decide) (fun c_35 => ?_) (fun c_35 => ?_)
        · first | refine A_iinc1 d_Rd_checkLine_49 (nI_1 _) trivial ?_ | refine A_iinc1 d_Rd_checkLine_49 rfl trivial ?_
          refine A_goto (tgt := 18) d_Rd_checkLine_52 (by decide) ?_
          rw [ckS_s] at ih
          first
            | (rw [show inrN k v i = true from c_35] at ih
               exact ih _ _ M hFj hFP)
            | (rw [show inrN k v i = false from c_35] at ih
               exact ih _ _ M (fun j h6 h7 => by
                 by_cases e0 : F1 6 = 0
                 · rw [if_pos e0, fup_ne _ _ h7, fup_ne _ _ h6]
                   exact hFj j h6 h7
                 · rw [if_neg e0]
                   exact hFj j h6 h7) (hFP.nte ⟨by decide, by decide⟩))
        · refine A_aload_n0 d_Rd_checkLine_38 ?_
          refine A_iconst (v := nI 2) d_Rd_checkLine_39 (by decide) ?_
          refine A_aload_n0 d_Rd_checkLine_40 ?_
          refine A_getf (kf := 11) d_Rd_checkLine_41 M.1.o ok_3 (by decide) q_292 rfl ?_
          refine A_iload_n1 d_Rd_checkLine_44 ?_
          refine A_ialdN d_Rd_checkLine_45 M.1.pl ⟨by omega, by decide⟩ ?_
          refine A_topI (hpl i hi) ?_
          refine A_callV d_Rd_checkLine_46 (c_Rd_note M.1 (nI 2) (nI (pl i))) M.1.o rfl q_549 q_550 q_551 mk_Rd_note rfl (by decide) rfl (Nat.le_of_ble_eq_true rfl) ⟨Nat.le_of_ble_eq_true rfl, Nat.le_of_ble_eq_true rfl⟩ ?_
          rintro _ h5 ⟨rfl, M5⟩
          replace M := M.trans M5
          clear M5
          first | refine A_iinc1 d_Rd_checkLine_49 (nI_1 _) trivial ?_ | refine A_iinc1 d_Rd_checkLine_49 rfl trivial ?_
          refine A_goto (tgt := 18) d_Rd_checkLine_52 (by decide) ?_
          rw [ckS_s] at ih
          first
            | (rw [show inrN k v i = true from c_35] at ih
               exact ih _ _ M hFj hFP)
            | (rw [show inrN k v i = false from c_35] at ih
               exact ih _ _ M (fun j h6 h7 => by
                 by_cases e0 : F1 6 = 0
                 · rw [if_pos e0, fup_ne _ _ h7, fup_ne _ _ h6]
                   exact hFj j h6 h7
                 · rw [if_neg e0]
                   exact hFj j h6 h7) (hFP.nte ⟨by decide, by decide⟩))
  refine A_aload_n0 d_Rd_checkLine_0 ?_
  refine A_callVP d_Rd_checkLine_1 (c_Rd_isOneTooMany M.1 hk h8) M.1.o rfl q_545 q_546 q_547 mk_Rd_isOneTooMany rfl (by decide) rfl (Nat.le_of_ble_eq_true rfl) ⟨Nat.le_of_ble_eq_true rfl, Nat.le_of_ble_eq_true rfl⟩ ⟨rfl, rfl⟩ ?_
  refine A_if_eqB (tgt := 16) d_Rd_checkLine_4 (by decide) (fun c_4 => ?_) (fun c_4 => ?_)
  · refine A_iconst (v := nI 0) d_Rd_checkLine_16 (by decide) ?_
    refine A_istore1 d_Rd_checkLine_17 trivial ?_
    first
      | (have k0 := key 0 (Nat.zero_le _) _ _ M (fun _ _ _ => rfl)
         refine k0 ?_
         show FP Z.1 (if tooB k Z = true then nt 3 q s else s)
         rw [if_neg (by rw [show tooB k Z = false from c_4]; decide)]
         exact hFP0
         done)
      | (have k0 := key 0 (Nat.zero_le _) _ _ M (fun j h6 h7 => by
           by_cases e0 : Z.1 6 = 0
           · rw [if_pos e0, fup_ne _ _ h7, fup_ne _ _ h6]
           · rw [if_neg e0])
         refine k0 ?_
         show FP _ (if tooB k Z = true then nt 3 q s else s)
         rw [if_pos (show tooB k Z = true from c_4)]
         exact hFP0.nte ⟨by decide, by decide⟩)
  · refine A_aload_n0 d_Rd_checkLine_7 ?_
    refine A_iconst (v := nI 3) d_Rd_checkLine_8 (by decide) ?_
    refine A_aload_n0 d_Rd_checkLine_9 ?_
    refine A_getf (kf := 9) d_Rd_checkLine_10 M.1.o ok_3 (by decide) q_290 rfl ?_
    refine A_topI h9 ?_
    refine A_callV d_Rd_checkLine_13 (c_Rd_note M.1 (nI 3) (nI q)) M.1.o rfl q_549 q_550 q_551 mk_Rd_note rfl (by decide) rfl (Nat.le_of_ble_eq_true rfl) ⟨Nat.le_of_ble_eq_true rfl, Nat.le_of_ble_eq_true rfl⟩ ?_
    rintro _ h5 ⟨rfl, M5⟩
    replace M := M.trans M5
    clear M5
    refine A_iconst (v := nI 0) d_Rd_checkLine_16 (by decide) ?_
    refine A_istore1 d_Rd_checkLine_17 trivial ?_
    first
      | (have k0 := key 0 (Nat.zero_le _) _ _ M (fun _ _ _ => rfl)
         refine k0 ?_
         show FP Z.1 (if tooB k Z = true then nt 3 q s else s)
         rw [if_neg (by rw [show tooB k Z = false from c_4]; decide)]
         exact hFP0
         done)
      | (have k0 := key 0 (Nat.zero_le _) _ _ M (fun j h6 h7 => by
           by_cases e0 : Z.1 6 = 0
           · rw [if_pos e0, fup_ne _ _ h7, fup_ne _ _ h6]
           · rw [if_neg e0])
         refine k0 ?_
         show FP _ (if tooB k Z = true then nt 3 q s else s)
         rw [if_pos (show tooB k Z = true from c_4)]
         exact hFP0.nte ⟨by decide, by decide⟩)
