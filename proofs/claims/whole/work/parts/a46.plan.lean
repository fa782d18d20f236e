set_option maxHeartbeats 4000000 in
set_option maxRecDepth 100000 in
theorem c_Pl_plan {G : GE} {h : AH} {r rx ry : Nat} {Z : PC} (hP : PlAt h r rx ry Z) {a : Nat} {D : LD} (hA : LAt h a D) {V : Nat → Nat} (hV : LVr D V) (har : a + 9 ≤ r ∨ r + 6 ≤ a)  : Ctr G y_Pl_plan b_Pl_plan 5 none r_Pl_plan [.ref r, .ref a] h (fun v' h1 => v' = none ∧ ∃ D1 x1 y1 Z1, LAt h1 a D1 ∧ PlAt h1 r x1 y1 Z1 ∧ (∀ k, k < 13 → D1.1 k = D.1 k) ∧ (∀ j, j < 17 → D1.2 j = D.2 j) ∧ D1.1 13 = bI true ∧ PLq D1 V ∧ ∀ i, (i < a ∨ a + 9 ≤ i) → (i < r ∨ r + 6 ≤ i) → h1 i = h i) := by
  refine Ctr.of (by decide +kernel) (by simp) (Nat.le_of_ble_eq_true rfl) (L0 := [some (.ref r), some (.ref a), none, none, none]) rfl ?_
  have hV0 := hV
  obtain ⟨ok, -⟩ := hV0
  have hH := ok.1.2
  have h4 := ok.1.1
  have hC3 := ok.2.1
  have key : ∀ i, i ≤ 2 + 2 * V 1 → ∀ h' x5 y5 Z5 z, PlW h h' r x5 y5 Z5 → PRI V Z5.1 → PRP V (V 0) Z5 → MX (fun z => False ∨ ∃ first, first < i ∧ CK V first z) z → WA G y_Pl_plan b_Pl_plan 5 none r_Pl_plan 0 0 (fun v' h1 => v' = none ∧ ∃ D1 x1 y1 Z1, LAt h1 a D1 ∧ PlAt h1 r x1 y1 Z1 ∧ (∀ k, k < 13 → D1.1 k = D.1 k) ∧ (∀ j, j < 17 → D1.2 j = D.2 j) ∧ D1.1 13 = bI true ∧ PLq D1 V ∧ ∀ i, (i < a ∨ a + 9 ≤ i) → (i < r ∨ r + 6 ≤ i) → h1 i = h i) 0 0 12 [some (.ref r), some (.ref a), some (.long z), none, some (.int (nI i))] [] h' := by
    refine down ?_ (fun i hi ih => ?_)
    · intro h' x5 y5 Z5 z M hI5 hPR5 hz
      have hz2 : MX (fun z => ∃ first, first < 2 + 2 * V 1 ∧ CK V first z) z := hz.congr (fun z => ⟨fun h => h.elim False.elim id, .inr⟩)
      rcases plan_pure ok hz2 with ⟨hx1, hn⟩ | ⟨v, f, w, hv, hf, hw, rfl, hb, hm, hr⟩
      · refine A_iload4 d_Pl_plan_12 ?_
        refine A_aload_n0 d_Pl_plan_14 ?_
        refine A_getf (kf := 7) d_Pl_plan_15 M.1.o ok_2 (by decide) q_340 rfl ?_
        refine A_topI hI5.2.2.1 ?_
        first | refine A_icmp_geN (tgt := 39) d_Pl_plan_18 (by decide) (by with_reducible rfl) (by with_reducible rfl) (by omega) (by omega) (fun c_18 => ?_) (fun c_18 => ?_) | refine A_icmp_ge (tgt := 39) d_Pl_plan_18 (by decide) (fun c_18 => ?_) (fun c_18 => ?_)
        · have N : LW h' h' a D := LW.start (hA.kept (fun i _ _ => M.2 i (by omega)))
          have hP5 := M.1
          refine A_aload_n1 d_Pl_plan_39 ?_
          refine A_iconst (v := nI 1) d_Pl_plan_40 (by decide) ?_
          refine A_put (kf := 13) (ty := .boolean) d_Pl_plan_41 N.1.o ok_1 (by decide) q_88 (Or.inl rfl) (by decide +kernel) rfl rfl (Nat.le_of_ble_eq_true rfl) N.1.ge ?_
          replace N := N.so (fup D.1 13 (nI 1))
          refine A_aload_n1 d_Pl_plan_44 ?_
          refine A_lload_n2 d_Pl_plan_45 ?_
          refine A_ldc2 d_Pl_plan_46 q_807 ?_
          refine A_lcmp d_Pl_plan_49 ?_
          refine A_if_eq (tgt := 57) d_Pl_plan_50 (by decide) (fun c_50 => ?_) (fun c => absurd (lgc0.mpr hx1) c)
          refine A_iconst (v := nI 0) d_Pl_plan_57 (by decide) ?_
          refine A_put (kf := 14) (ty := .boolean) d_Pl_plan_58 N.1.o ok_1 (by decide) q_91 (Or.inl rfl) (by decide +kernel) rfl rfl (Nat.le_of_ble_eq_true rfl) N.1.ge ?_
          replace N := N.so (fup (fup D.1 13 (nI 1)) 14 (nI 0))
          refine A_lload_n2 d_Pl_plan_61 ?_
          refine A_ldc2 d_Pl_plan_62 q_807 ?_
          refine A_lcmp d_Pl_plan_65 ?_
          refine A_if_eq (tgt := 75) d_Pl_plan_66 (by decide) (fun c_66 => ?_) (fun c => absurd (lgc0.mpr hx1) c)
          refine A_vret d_Pl_plan_75 rfl ⟨Nat.zero_le _, Nat.zero_le _⟩ ?_
          exact ⟨rfl, _, _, _, _, N.1, hP5.far N.2 har, fun k hk => (fup_ne (fup D.1 13 (nI 1)) (nI 0) (show k ≠ 14 by omega)).trans (fup_ne D.1 (nI 1) (show k ≠ 13 by omega)), fun j hj => rfl, (fup_ne (fup D.1 13 (nI 1)) (nI 0) (show (13 : Nat) ≠ 14 by decide)).trans (fup_eq D.1 13 (nI 1)), ⟨(fup_eq (fup D.1 13 (nI 1)) 14 (nI 0)).trans (by rw [hn]; rfl), fun z hz => by rw [hn] at hz; cases hz⟩, fun i h1 h2 => (N.2 i h1).trans (M.2 i h2)⟩
        · exfalso
          omega
      · refine A_iload4 d_Pl_plan_12 ?_
        refine A_aload_n0 d_Pl_plan_14 ?_
        refine A_getf (kf := 7) d_Pl_plan_15 M.1.o ok_2 (by decide) q_340 rfl ?_
        refine A_topI hI5.2.2.1 ?_
        first | refine A_icmp_geN (tgt := 39) d_Pl_plan_18 (by decide) (by with_reducible rfl) (by with_reducible rfl) (by omega) (by omega) (fun c_18 => ?_) (fun c_18 => ?_) | refine A_icmp_ge (tgt := 39) d_Pl_plan_18 (by decide) (fun c_18 => ?_) (fun c_18 => ?_)
        · have N : LW h' h' a D := LW.start (hA.kept (fun i _ _ => M.2 i (by omega)))
          have hP5 := M.1
          refine A_aload_n1 d_Pl_plan_39 ?_
          refine A_iconst (v := nI 1) d_Pl_plan_40 (by decide) ?_
          refine A_put (kf := 13) (ty := .boolean) d_Pl_plan_41 N.1.o ok_1 (by decide) q_88 (Or.inl rfl) (by decide +kernel) rfl rfl (Nat.le_of_ble_eq_true rfl) N.1.ge ?_
          replace N := N.so (fup D.1 13 (nI 1))
          refine A_aload_n1 d_Pl_plan_44 ?_
          refine A_lload_n2 d_Pl_plan_45 ?_
          refine A_ldc2 d_Pl_plan_46 q_807 ?_
          refine A_lcmp d_Pl_plan_49 ?_
          refine A_if_eq (tgt := 57) d_Pl_plan_50 (by decide) (fun c => absurd (lgc0.mp c) (iL_NTH hb)) (fun c_50 => ?_)
          refine A_iconst (v := nI 1) d_Pl_plan_53 (by decide) ?_
          refine A_goto (tgt := 58) d_Pl_plan_54 (by decide) ?_
          refine A_put (kf := 14) (ty := .boolean) d_Pl_plan_58 N.1.o ok_1 (by decide) q_91 (Or.inl rfl) (by decide +kernel) rfl rfl (Nat.le_of_ble_eq_true rfl) N.1.ge ?_
          replace N := N.so (fup (fup D.1 13 (nI 1)) 14 (nI 1))
          refine A_lload_n2 d_Pl_plan_61 ?_
          refine A_ldc2 d_Pl_plan_62 q_807 ?_
          refine A_lcmp d_Pl_plan_65 ?_
          refine A_if_eq (tgt := 75) d_Pl_plan_66 (by decide) (fun c => absurd (lgc0.mp c) (iL_NTH hb)) (fun c_66 => ?_)
          refine A_aload_n0 d_Pl_plan_69 ?_
          refine A_aload_n1 d_Pl_plan_70 ?_
          refine A_lload_n2 d_Pl_plan_71 ?_
          refine A_callV d_Pl_plan_72 (c_Pl_keep (hP5.far N.2 har) N.1 ok har hI5 hPR5 hv hf hw (by omega) (by omega)) (hP5.far N.2 har).o rfl q_856 q_857 q_858 mk_Pl_keep rfl (by decide) rfl (Nat.le_of_ble_eq_true rfl) ⟨Nat.le_of_ble_eq_true rfl, Nat.le_of_ble_eq_true rfl⟩ ?_
          rintro _ h6 ⟨rfl, D1, N1, hq, e15, e16, e17⟩
          replace N := N.trans N1
          refine A_vret d_Pl_plan_75 rfl ⟨Nat.zero_le _, Nat.zero_le _⟩ ?_
          refine ⟨rfl, D1, _, _, _, N.1, hP5.far N.2 har, fun k hk => (hq.1 k (by omega)).trans ((fup_ne (fup D.1 13 (nI 1)) (nI 1) (show k ≠ 14 by omega)).trans (fup_ne D.1 (nI 1) (show k ≠ 13 by omega))), hq.2, (hq.1 13 (by decide)).trans ((fup_ne (fup D.1 13 (nI 1)) (nI 1) (show (13 : Nat) ≠ 14 by decide)).trans (fup_eq D.1 13 (nI 1))), ⟨(hq.1 14 (by decide)).trans ((fup_eq (fup D.1 13 (nI 1)) 14 (nI 1)).trans (by rw [hm]; rfl)), fun z hz => ?_⟩, fun i h1 h2 => (N.2 i h1).trans (M.2 i h2)⟩
          rw [hm] at hz
          cases hz
          have ev : (10000 * (v : Int) - (f : Int) + 9999).toNat / 10000 = v := by omega
          refine ⟨by rw [ev]; exact e15, ?_, fun x hx => ?_⟩
          · rw [ev, e16, ← nI_Zn f]
            exact congrArg Int32.ofInt (by omega)
          · rw [e17 x hx, hr x hx]
        · exfalso
          omega
    · intro h' x5 y5 Z5 z M hI5 hPR5 hz
      refine A_iload4 d_Pl_plan_12 ?_
      refine A_aload_n0 d_Pl_plan_14 ?_
      refine A_getf (kf := 7) d_Pl_plan_15 M.1.o ok_2 (by decide) q_340 rfl ?_
      refine A_topI hI5.2.2.1 ?_
      first | refine A_icmp_geN (tgt := 39) d_Pl_plan_18 (by decide) (by with_reducible rfl) (by with_reducible rfl) (by omega) (by omega) (fun c_18 => ?_) (fun c_18 => ?_) | refine A_icmp_ge (tgt := 39) d_Pl_plan_18 (by decide) (fun c_18 => ?_) (fun c_18 => ?_)
      · exfalso
        omega
      · refine A_lload_n2 d_Pl_plan_21 ?_
        refine A_aload_n0 d_Pl_plan_22 ?_
        refine A_aload_n1 d_Pl_plan_23 ?_
        refine A_iload4 d_Pl_plan_24 ?_
        refine A_callV d_Pl_plan_26 (c_Pl_bestFrom M.1 (hA.kept (fun i _ _ => M.2 i (by omega))) hV har hI5 hPR5 (first := i) (by omega)) M.1.o rfl q_808 q_809 q_810 mk_Pl_bestFrom rfl (by decide) rfl (Nat.le_of_ble_eq_true rfl) ⟨Nat.le_of_ble_eq_true rfl, Nat.le_of_ble_eq_true rfl⟩ ?_
        rintro _ h5 ⟨z1, rfl, hz1, x6, y6, Z6, M6, hI6, hPR6⟩
        replace M := M.trans M6
        clear M6
        refine A_callSP d_Pl_plan_29 (c_JM_max_1 _ _ _) q_840 q_841 mk_JM_max_1 rfl (by decide) rfl (Nat.le_of_ble_eq_true rfl) ⟨Nat.le_of_ble_eq_true rfl, Nat.le_of_ble_eq_true rfl⟩ ⟨rfl, rfl⟩ ?_
        refine A_lstore2 d_Pl_plan_32 trivial ?_
        first | refine A_iinc4 d_Pl_plan_33 (nI_1 _) trivial ?_ | refine A_iinc4 d_Pl_plan_33 rfl trivial ?_
        refine A_goto (tgt := 12) d_Pl_plan_36 (by decide) ?_
        exact ih _ _ _ _ _ M hI6 hPR6 ((hz.max hz1).congr (fun z => orlt (R := fun first => CK V first z)))
  refine A_aload_n0 d_Pl_plan_0 ?_
  refine A_aload_n1 d_Pl_plan_1 ?_
  refine A_callV d_Pl_plan_2 (c_Pl_prepare hP hA hV har) hP.o rfl q_796 q_797 q_798 mk_Pl_prepare rfl (by decide) rfl (Nat.le_of_ble_eq_true rfl) ⟨Nat.le_of_ble_eq_true rfl, Nat.le_of_ble_eq_true rfl⟩ ?_
  rintro _ h5 ⟨rfl, Z1, M, hI1, hPR⟩
  refine A_ldc2 d_Pl_plan_5 q_807 ?_
  refine A_lstore2 d_Pl_plan_8 trivial ?_
  refine A_iconst (v := nI 0) d_Pl_plan_9 (by decide) ?_
  refine A_istore4 d_Pl_plan_10 trivial ?_
  exact key 0 (Nat.zero_le _) _ _ _ _ _ M hI1 hPR (MX.nth.congr (fun z => or0))
