theorem PlW.swap {h0 h : AH} {r x y : Nat} {Z : PC} (M : PlW h0 h r x y Z) : PlW h0 (hset (hset h r (.inr (2, (plfs r x y Z.1 Z.2.1).set 0 (.ref y)))) r (.inr (2, ((plfs r x y Z.1 Z.2.1).set 0 (.ref y)).set 1 (.ref x)))) r y x (Z.1, Z.2.1, Z.2.2.2.1, Z.2.2.1, Z.2.2.2.2) := ⟨⟨M.1.ge, by have := M.1.xy; omega, hset_eq _ _ _, (hset_ne (by have := M.1.xy; omega)).trans ((hset_ne (by have := M.1.xy; omega)).trans M.1.th), (hset_ne (by have := M.1.xy; omega)).trans ((hset_ne (by have := M.1.xy; omega)).trans M.1.be), (hset_ne (by have := M.1.xy; omega)).trans ((hset_ne (by have := M.1.xy; omega)).trans M.1.rk), (hset_ne (by have := M.1.xy; omega)).trans ((hset_ne (by have := M.1.xy; omega)).trans M.1.po), (hset_ne (by have := M.1.xy; omega)).trans ((hset_ne (by have := M.1.xy; omega)).trans M.1.fe)⟩, fun i hi => (hset_ne (by have := M.1.xy; omega)).trans ((hset_ne (by have := M.1.xy; omega)).trans (M.2 i hi))⟩
def plCn (V : Nat → Nat) : Nat := min 1400 ((2 + 2 * V 1) * (V 0 + 1) * carD V)
theorem carD_pos (V : Nat → Nat) : 0 < carD V := by
  unfold carD
  split
  · exact Nat.succ_pos _
  · decide
theorem plCn_le (V : Nat → Nat) : plCn V ≤ 1400 := Nat.min_le_left _ _
set_option maxHeartbeats 4000000 in
set_option maxRecDepth 100000 in
theorem c_Pl_bestFrom {G : GE} {h : AH} {r rx ry : Nat} {Z : PC} (hP : PlAt h r rx ry Z) {a : Nat} {D : LD} (hA : LAt h a D) {V : Nat → Nat} (hV : LVr D V) (har : a + 9 ≤ r ∨ r + 6 ≤ a) (hI1 : PRI V Z.1) (hPR : PRP V (V 0) Z) {first : Nat} (hfi : first < 2 + 2 * V 1)  : Ctr G y_Pl_bestFrom b_Pl_bestFrom 5 (some .long) r_Pl_bestFrom [.ref r, .ref a, .int (nI first)] h (fun v' h1 => ∃ z, v' = some (.long z) ∧ MX (CK V first) z ∧ ∃ x1 y1 Z1, PlW h h1 r x1 y1 Z1 ∧ PRI V Z1.1 ∧ PRP V (V 0) Z1) := by
  refine Ctr.of (by decide +kernel) (by simp) (Nat.le_of_ble_eq_true rfl) (L0 := [some (.ref r), some (.ref a), some (.int (nI first)), none, none]) rfl ?_
  have hV0 := hV
  obtain ⟨ok, -⟩ := hV0
  have hH := ok.1.2
  have h4 := ok.1.1
  have hC3 := ok.2.1
  have key : ∀ i, i ≤ V 0 → 1 ≤ i → ∀ h' x5 y5 Z5 x4, PlW h h' r x5 y5 Z5 → PRI V Z5.1 → PRP V (V 0) Z5 → ISB V first (i - 1) Z5.2.2.1 → WA G y_Pl_bestFrom b_Pl_bestFrom 5 (some .long) r_Pl_bestFrom 0 0 (fun v' h1 => ∃ z, v' = some (.long z) ∧ MX (CK V first) z ∧ ∃ x1 y1 Z1, PlW h h1 r x1 y1 Z1 ∧ PRI V Z1.1 ∧ PRP V (V 0) Z1) 0 0 46 [some (.ref r), some (.ref a), some (.int (nI first)), some (.int (nI i)), x4] [] h' := by
    refine down ?_ (fun i hi ih => ?_)
    · intro hi1 h' x5 y5 Z5 x4 M hI5 hPR5 hB
      refine A_iload_n3 d_Pl_bestFrom_46 ?_
      refine A_aload_n0 d_Pl_bestFrom_47 ?_
      refine A_getf (kf := 5) d_Pl_bestFrom_48 M.1.o ok_2 (by decide) q_338 rfl ?_
      refine A_topI hI5.1 ?_
      first | refine A_icmp_geN (tgt := 100) d_Pl_bestFrom_51 (by decide) (by with_reducible rfl) (by with_reducible rfl) (by omega) (by omega) (fun c_51 => ?_) (fun c_51 => ?_) | refine A_icmp_ge (tgt := 100) d_Pl_bestFrom_51 (by decide) (fun c_51 => ?_) (fun c_51 => ?_)
      · refine A_aload_n0 d_Pl_bestFrom_100 ?_
        refine A_aload_n1 d_Pl_bestFrom_101 ?_
        refine A_iload_n2 d_Pl_bestFrom_102 ?_
        refine A_callVP d_Pl_bestFrom_103 (c_Pl_bestClosed M.1 (hA.kept (fun i _ _ => M.2 i (by omega))) hV hI5 hfi (ISB_hD ok hfi hB)) M.1.o rfl q_847 q_848 q_849 mk_Pl_bestClosed rfl (by decide) rfl (Nat.le_of_ble_eq_true rfl) ⟨Nat.le_of_ble_eq_true rfl, Nat.le_of_ble_eq_true rfl⟩ ⟨rfl, rfl⟩ ?_
        refine A_lret d_Pl_bestFrom_106 rfl ⟨Nat.zero_le _, Nat.zero_le _⟩ ?_
        exact ⟨_, rfl, bcS_MX ok hPR5 hfi hB, x5, y5, Z5, M, hI5, hPR5⟩
      · exfalso
        omega
    · intro hi1 h' x5 y5 Z5 x4 M hI5 hPR5 hB
      refine A_iload_n3 d_Pl_bestFrom_46 ?_
      refine A_aload_n0 d_Pl_bestFrom_47 ?_
      refine A_getf (kf := 5) d_Pl_bestFrom_48 M.1.o ok_2 (by decide) q_338 rfl ?_
      refine A_topI hI5.1 ?_
      first | refine A_icmp_geN (tgt := 100) d_Pl_bestFrom_51 (by decide) (by with_reducible rfl) (by with_reducible rfl) (by omega) (by omega) (fun c_51 => ?_) (fun c_51 => ?_) | refine A_icmp_ge (tgt := 100) d_Pl_bestFrom_51 (by decide) (fun c_51 => ?_) (fun c_51 => ?_)
      · exfalso
        omega
      · refine A_aload_n0 d_Pl_bestFrom_54 ?_
        refine A_getf (kf := 1) d_Pl_bestFrom_55 M.1.o ok_2 (by decide) q_334 rfl ?_
        refine A_iconst (v := nI 0) d_Pl_bestFrom_58 (by decide) ?_
        refine A_aload_n0 d_Pl_bestFrom_59 ?_
        refine A_getf (kf := 9) d_Pl_bestFrom_60 M.1.o ok_2 (by decide) q_342 rfl ?_
        refine A_topI hI5.2.2.2.2 ?_
        refine A_ldc2 d_Pl_bestFrom_63 q_807 ?_
        refine A_callS d_Pl_bestFrom_66 (c_JA_fill_2 M.1.th (by have := M.1.ge; have := M.1.xy; omega) (by decide) 0 (plCn V) ⟨Nat.zero_le _, plCn_le V⟩ NTH) q_812 q_813 mk_JA_fill_2 rfl (by decide) rfl (Nat.le_of_ble_eq_true rfl) ⟨Nat.le_of_ble_eq_true rfl, Nat.le_of_ble_eq_true rfl⟩ ?_
        rintro _ h5 ⟨rfl, rfl⟩
        replace M := M.sth (filF Z5.2.2.2.1 NTH 0 (plCn V))
        refine A_aload_n0 d_Pl_bestFrom_69 ?_
        refine A_iload_n3 d_Pl_bestFrom_70 ?_
        refine A_callV d_Pl_bestFrom_71 (c_Pl_advance M.1 ok hI5 (hr := i) (by omega)) M.1.o rfl q_825 q_826 q_827 mk_Pl_advance rfl (by decide) rfl (Nat.le_of_ble_eq_true rfl) ⟨Nat.le_of_ble_eq_true rfl, Nat.le_of_ble_eq_true rfl⟩ ?_
        rintro _ h5 ⟨rfl, M5⟩
        replace M := M.trans M5
        clear M5
        refine A_aload_n0 d_Pl_bestFrom_74 ?_
        refine A_getf (kf := 0) d_Pl_bestFrom_75 M.1.o ok_2 (by decide) q_333 rfl ?_
        refine A_astore4 d_Pl_bestFrom_78 trivial ?_
        refine A_aload_n0 d_Pl_bestFrom_80 ?_
        refine A_aload_n0 d_Pl_bestFrom_81 ?_
        refine A_getf (kf := 1) d_Pl_bestFrom_82 M.1.o ok_2 (by decide) q_334 rfl ?_
        refine A_put (kf := 0) (ty := .array .long) d_Pl_bestFrom_85 M.1.o ok_2 (by decide) q_333 (Or.inl rfl) (by decide +kernel) rfl rfl (Nat.le_of_ble_eq_true rfl) M.1.ge ?_
        refine A_aload_n0 d_Pl_bestFrom_88 ?_
        refine A_aload4 d_Pl_bestFrom_89 ?_
        refine A_put (kf := 1) (ty := .array .long) d_Pl_bestFrom_91 (hset_eq _ _ _) ok_2 (by decide) q_334 (Or.inl rfl) (by decide +kernel) rfl rfl (Nat.le_of_ble_eq_true rfl) M.1.ge ?_
        first | refine A_iinc3 d_Pl_bestFrom_94 (nI_1 _) trivial ?_ | refine A_iinc3 d_Pl_bestFrom_94 rfl trivial ?_
        refine A_goto (tgt := 46) d_Pl_bestFrom_97 (by decide) ?_
        have hB2 : ISB V first i (adA V (zTh Z5 (filF Z5.2.2.2.1 NTH 0 (plCn V))) i (filF Z5.2.2.2.1 NTH 0 (plCn V)) (2 + 2 * V 1)) := by
          have := ISB_step (Z := zTh Z5 (filF Z5.2.2.2.1 NTH 0 (plCn V))) ok hPR5 hfi (g := i - 1) (by omega) hB (L := filF Z5.2.2.2.1 NTH 0 (plCn V)) (fun j hj => if_pos ⟨Nat.zero_le _, hj⟩)
          rwa [show i - 1 + 1 = i by omega] at this
        exact ih (by omega) _ _ _ _ _ M.swap hI5 hPR5 hB2
  have M : PlW h h r rx ry Z := PlW.start hP
  by_cases hz : first = 0
  · refine A_aload_n0 d_Pl_bestFrom_0 ?_
    refine A_getf (kf := 0) d_Pl_bestFrom_1 M.1.o ok_2 (by decide) q_333 rfl ?_
    refine A_iconst (v := nI 0) d_Pl_bestFrom_4 (by decide) ?_
    refine A_aload_n0 d_Pl_bestFrom_5 ?_
    refine A_getf (kf := 9) d_Pl_bestFrom_6 M.1.o ok_2 (by decide) q_342 rfl ?_
    refine A_topI hI1.2.2.2.2 ?_
    refine A_ldc2 d_Pl_bestFrom_9 q_807 ?_
    refine A_callS d_Pl_bestFrom_12 (c_JA_fill_2 M.1.be (by have := M.1.ge; have := M.1.xy; omega) (by decide) 0 (plCn V) ⟨Nat.zero_le _, plCn_le V⟩ NTH) q_812 q_813 mk_JA_fill_2 rfl (by decide) rfl (Nat.le_of_ble_eq_true rfl) ⟨Nat.le_of_ble_eq_true rfl, Nat.le_of_ble_eq_true rfl⟩ ?_
    rintro _ h5 ⟨rfl, rfl⟩
    replace M := M.sbe (filF Z.2.2.1 NTH 0 (plCn V))
    refine A_aload_n0 d_Pl_bestFrom_15 ?_
    refine A_getf (kf := 0) d_Pl_bestFrom_16 M.1.o ok_2 (by decide) q_333 rfl ?_
    refine A_aload_n0 d_Pl_bestFrom_19 ?_
    refine A_iload_n2 d_Pl_bestFrom_20 ?_
    refine A_iload_n2 d_Pl_bestFrom_21 ?_
    refine A_if_ne (tgt := 29) d_Pl_bestFrom_22 (by decide) (fun c => absurd (by rw [hz]; rfl) c) (fun c_22 => ?_)
    refine A_iconst (v := nI 1) d_Pl_bestFrom_25 (by decide) ?_
    refine A_goto (tgt := 30) d_Pl_bestFrom_26 (by decide) ?_
    refine A_callSNP d_Pl_bestFrom_30 (c_N_one1 _) q_815 q_591 mk_N_oneIf rfl (by decide) rfl (Nat.le_of_ble_eq_true rfl) ⟨Nat.le_of_ble_eq_true rfl, Nat.le_of_ble_eq_true rfl⟩ ⟨rfl, rfl⟩ ?_
    refine A_iconst (v := nI 0) d_Pl_bestFrom_33 (by decide) ?_
    refine A_callVP d_Pl_bestFrom_34 (c_Pl_cell M.1 hI1.1 hI1.2.2.2.1 first 1 0) M.1.o rfl q_816 q_817 q_818 mk_Pl_cell rfl (by decide) rfl (Nat.le_of_ble_eq_true rfl) ⟨Nat.le_of_ble_eq_true rfl, Nat.le_of_ble_eq_true rfl⟩ ⟨rfl, rfl⟩ ?_
    refine A_aload_n0 d_Pl_bestFrom_37 ?_
    refine A_iload_n2 d_Pl_bestFrom_38 ?_
    refine A_iconst (v := nI 0) d_Pl_bestFrom_39 (by decide) ?_
    refine A_callVP d_Pl_bestFrom_40 (c_Pl_scoreOf M.1 first 0 (by omega) (by omega)) M.1.o rfl q_820 q_821 q_822 mk_Pl_scoreOf rfl (by decide) rfl (Nat.le_of_ble_eq_true rfl) ⟨Nat.le_of_ble_eq_true rfl, Nat.le_of_ble_eq_true rfl⟩ ⟨rfl, rfl⟩ ?_
    refine A_plBe d_Pl_bestFrom_43 M (cl_lt (s := first) (d := 1) (k := 0) ok hfi (by omega) (carD_pos V)) (fun h' M' => ?_)
    replace M := M'
    clear M'
    refine A_iconst (v := nI 1) d_Pl_bestFrom_44 (by decide) ?_
    refine A_istore3 d_Pl_bestFrom_45 trivial ?_
    have hB : ISB V first 0 (fup (filF Z.2.2.1 NTH 0 (plCn V)) (clN (V 0) (carD V) first 1 0) (scI Z first 0)) := by
      have := ISB_0 ok hfi (L := filF Z.2.2.1 NTH 0 (plCn V)) (fun j hj => if_pos ⟨Nat.zero_le _, hj⟩)
      rwa [show moN first 0 = 1 from if_pos hz, ← scI_i ok hPR (s := first) (h := 0) (by omega) (by omega)] at this
    exact key 1 (by omega) (Nat.le_refl _) _ _ _ _ none M hI1 hPR hB
  · refine A_aload_n0 d_Pl_bestFrom_0 ?_
    refine A_getf (kf := 0) d_Pl_bestFrom_1 M.1.o ok_2 (by decide) q_333 rfl ?_
    refine A_iconst (v := nI 0) d_Pl_bestFrom_4 (by decide) ?_
    refine A_aload_n0 d_Pl_bestFrom_5 ?_
    refine A_getf (kf := 9) d_Pl_bestFrom_6 M.1.o ok_2 (by decide) q_342 rfl ?_
    refine A_topI hI1.2.2.2.2 ?_
    refine A_ldc2 d_Pl_bestFrom_9 q_807 ?_
    refine A_callS d_Pl_bestFrom_12 (c_JA_fill_2 M.1.be (by have := M.1.ge; have := M.1.xy; omega) (by decide) 0 (plCn V) ⟨Nat.zero_le _, plCn_le V⟩ NTH) q_812 q_813 mk_JA_fill_2 rfl (by decide) rfl (Nat.le_of_ble_eq_true rfl) ⟨Nat.le_of_ble_eq_true rfl, Nat.le_of_ble_eq_true rfl⟩ ?_
    rintro _ h5 ⟨rfl, rfl⟩
    replace M := M.sbe (filF Z.2.2.1 NTH 0 (plCn V))
    refine A_aload_n0 d_Pl_bestFrom_15 ?_
    refine A_getf (kf := 0) d_Pl_bestFrom_16 M.1.o ok_2 (by decide) q_333 rfl ?_
    refine A_aload_n0 d_Pl_bestFrom_19 ?_
    refine A_iload_n2 d_Pl_bestFrom_20 ?_
    refine A_iload_n2 d_Pl_bestFrom_21 ?_
    refine A_if_ne (tgt := 29) d_Pl_bestFrom_22 (by decide) (fun c_22 => ?_) (fun c => absurd ((nI_eq (b := 0) (by omega) (by decide)).mp c) hz)
    refine A_iconst (v := nI 0) d_Pl_bestFrom_29 (by decide) ?_
    refine A_callSNP d_Pl_bestFrom_30 (c_N_one0 _) q_815 q_591 mk_N_oneIf rfl (by decide) rfl (Nat.le_of_ble_eq_true rfl) ⟨Nat.le_of_ble_eq_true rfl, Nat.le_of_ble_eq_true rfl⟩ ⟨rfl, rfl⟩ ?_
    refine A_iconst (v := nI 0) d_Pl_bestFrom_33 (by decide) ?_
    refine A_callVP d_Pl_bestFrom_34 (c_Pl_cell M.1 hI1.1 hI1.2.2.2.1 first 0 0) M.1.o rfl q_816 q_817 q_818 mk_Pl_cell rfl (by decide) rfl (Nat.le_of_ble_eq_true rfl) ⟨Nat.le_of_ble_eq_true rfl, Nat.le_of_ble_eq_true rfl⟩ ⟨rfl, rfl⟩ ?_
    refine A_aload_n0 d_Pl_bestFrom_37 ?_
    refine A_iload_n2 d_Pl_bestFrom_38 ?_
    refine A_iconst (v := nI 0) d_Pl_bestFrom_39 (by decide) ?_
    refine A_callVP d_Pl_bestFrom_40 (c_Pl_scoreOf M.1 first 0 (by omega) (by omega)) M.1.o rfl q_820 q_821 q_822 mk_Pl_scoreOf rfl (by decide) rfl (Nat.le_of_ble_eq_true rfl) ⟨Nat.le_of_ble_eq_true rfl, Nat.le_of_ble_eq_true rfl⟩ ⟨rfl, rfl⟩ ?_
    refine A_plBe d_Pl_bestFrom_43 M (cl_lt (s := first) (d := 0) (k := 0) ok hfi (by omega) (carD_pos V)) (fun h' M' => ?_)
    replace M := M'
    clear M'
    refine A_iconst (v := nI 1) d_Pl_bestFrom_44 (by decide) ?_
    refine A_istore3 d_Pl_bestFrom_45 trivial ?_
    have hB : ISB V first 0 (fup (filF Z.2.2.1 NTH 0 (plCn V)) (clN (V 0) (carD V) first 0 0) (scI Z first 0)) := by
      have := ISB_0 ok hfi (L := filF Z.2.2.1 NTH 0 (plCn V)) (fun j hj => if_pos ⟨Nat.zero_le _, hj⟩)
      rwa [show moN first 0 = 0 from if_neg hz, ← scI_i ok hPR (s := first) (h := 0) (by omega) (by omega)] at this
    exact key 1 (by omega) (Nat.le_refl _) _ _ _ _ none M hI1 hPR hB
