theorem gr0 {a b : Nat} (ha : a < 2 ^ 30) (hb : b < 2 ^ 30) : (if nI 0 ≤ nI a - nI b then nI a - nI b else nI 0) = nI (a - b) := by
  by_cases q : b ≤ a
  · rw [nI_sub q, if_pos ((nI_leI (by decide) (by omega)).mpr (Nat.zero_le _))]
  · rw [if_neg (show ¬ nI 0 ≤ nI a - nI b from fun z => Int32.not_le.mpr (pk_sneg (a := a) (b := b) hb (by omega)) z), show a - b = 0 by omega]
theorem bestQ_3 (V : Nat → Nat) : bestQ V 3 = nI (needN V 0 + needN V 1 - V 0) := if_pos rfl
theorem bestQ_0n {V : Nat → Nat} (h : allB true V (2 + 2 * V 1) = none) : bestQ V 0 = -1 := by
  unfold bestQ
  rw [if_neg (by decide), if_pos rfl, h]
theorem bestQ_0s {V : Nat → Nat} {z : Int} (h : allB true V (2 + 2 * V 1) = some z) : bestQ V 0 = -(encZ (some z)) := by
  unfold bestQ
  rw [if_neg (by decide), if_pos rfl, h]
  exact (Int32.ofInt_neg z)
theorem bestQ_n {V : Nat → Nat} {x : Nat} (h3 : ¬ x = 3) (h0 : ¬ x = 0) (h : allB false V (2 + 2 * V 1) = none) : bestQ V x = -1 := by
  unfold bestQ
  rw [if_neg h3, if_neg h0, h]
theorem bestQ_s {V : Nat → Nat} {x y : Nat} {z : Int} (h3 : ¬ x = 3) (h0 : ¬ x = 0) (h : allB false V (2 + 2 * V 1) = some z) (hy : z + 9999 = (y : Int)) : bestQ V x = if x = 1 then nI (y / 10000) else if x = 2 then Int32.ofInt (10000 * ((y / 10000 : Nat) : Int) - z) else nI (frowN V (some z) (2 + 2 * V 1) (x - 10)) := by
  unfold bestQ
  rw [if_neg h3, if_neg h0, h]
  have hy2 : (z + 9999).toNat = y := by omega
  simp only [hy2]
theorem bq1 {z : Int} {y : Nat} (e : z + 9999 = (y : Int)) : encZ (some z) + nI 10000 - nI 1 = nI y := by
  have h : nI y = Int32.ofInt (z + 10000 - 1) := by
    rw [show z + 10000 - 1 = (y : Int) by omega]
    exact Int32.ofInt_eq_ofNat.symm
  rw [h, Int32.ofInt_sub, Int32.ofInt_add]
  rfl
theorem bq2 {z : Int} {a : Nat} : nI (10000 * a) - encZ (some z) = Int32.ofInt (10000 * (a : Int) - z) := by
  rw [Int32.ofInt_sub]
  congr 1
set_option maxHeartbeats 4000000 in
set_option maxRecDepth 100000 in
theorem c_M_best2 {G : GE} {h0 h : AH} {m : Nat} {S0 S : MS} (hM : MW h0 h m S) (hk : Keep S0 S) {l : Nat} {V : Nat → Nat} (hS : HS S l V) (la : Int32) {k : Nat} (hkk : k ≤ 3 ∨ (10 ≤ k ∧ k ≤ 9 + V 0)) : WA G y_M_best b_M_best 5 (some .int) r_M_best 0 0 (TK h0 m S0 (.int (bestQ V k))) 0 0 40 [some (.ref m), some (.int la), some (.int (nI k)), none, none] [] h := by
  have ok := hS.ok
  have hH := ok.1
  have hC := ok.2.1
  have hn0 := needN_le ok 0
  have hn1 := needN_le ok 1
  by_cases hk3a : k = 3
  · subst hk3a
    refine A_aload_n0 d_M_best_40 ?_
    refine A_callV d_M_best_41 (c_M_layNeeds hM hS) hM.o rfl q_1464 q_1466 qs_58 mk_M_layNeeds rfl (by decide) rfl (Nat.le_of_ble_eq_true rfl) ⟨Nat.le_of_ble_eq_true rfl, Nat.le_of_ble_eq_true rfl⟩ (fun v h1 hv => ?_)
    obtain ⟨rfl, S2, hM, hN, hf, ha⟩ := hv
    have hS2 : HS S2 l V := hS.keepF (fun k hk => ha k (by omega)) (fun j a b => hf j (by omega))
    have hk2 : Keep S0 S2 := hk.tr (fun k hk => ha k (by omega))
    refine A_iload_n2 d_M_best_44 ?_
    refine A_iconst (v := nI 3) d_M_best_45 (by decide) ?_
    refine A_icmp_ne (tgt := 68) d_M_best_46 (by decide) (fun c => absurd rfl c) (fun c_46 => ?_)
    refine A_iconst (v := nI 0) d_M_best_49 (by decide) ?_
    refine A_aload_n0 d_M_best_50 ?_
    refine A_getf (kf := 41) d_M_best_51 hM.o ok_8 (by decide) q_1090 rfl ?_
    refine A_topI hN.1 ?_
    refine A_aload_n0 d_M_best_54 ?_
    refine A_getf (kf := 42) d_M_best_55 hM.o ok_8 (by decide) q_1091 rfl ?_
    refine A_topI hN.2.1 ?_
    first | refine A_iaddN d_M_best_58 (by with_reducible rfl) (by with_reducible rfl) ?_ | refine A_iadd d_M_best_58 ?_
    refine A_aload_n0 d_M_best_59 ?_
    refine A_getf (kf := 27) d_M_best_60 hM.o ok_8 (by decide) q_1076 rfl ?_
    refine A_topI hS2.hours ?_
    first | refine A_isubN d_M_best_63 (by with_reducible rfl) (by with_reducible rfl) (by omega) ?_ | refine A_isub d_M_best_63 ?_
    refine A_callSP d_M_best_64 (c_M_greater _ _ _) q_1294 q_1295 mk_M_greater rfl (by decide) rfl (Nat.le_of_ble_eq_true rfl) ⟨Nat.le_of_ble_eq_true rfl, Nat.le_of_ble_eq_true rfl⟩ ⟨rfl, rfl⟩ ?_
    refine A_topI (gr0 (by omega) (by omega)) ?_
    refine A_iret d_M_best_67 rfl ⟨Nat.zero_le _, Nat.zero_le _⟩ ?_
    exact tk hM hk2 (by rw [bestQ_3])
  by_cases hk0a : k = 0
  · subst hk0a
    refine A_aload_n0 d_M_best_40 ?_
    refine A_callV d_M_best_41 (c_M_layNeeds hM hS) hM.o rfl q_1464 q_1466 qs_58 mk_M_layNeeds rfl (by decide) rfl (Nat.le_of_ble_eq_true rfl) ⟨Nat.le_of_ble_eq_true rfl, Nat.le_of_ble_eq_true rfl⟩ (fun v h1 hv => ?_)
    obtain ⟨rfl, S2, hM, hN, hf, ha⟩ := hv
    have hS2 : HS S2 l V := hS.keepF (fun k hk => ha k (by omega)) (fun j a b => hf j (by omega))
    have hk2 : Keep S0 S2 := hk.tr (fun k hk => ha k (by omega))
    refine A_iload_n2 d_M_best_44 ?_
    refine A_iconst (v := nI 3) d_M_best_45 (by decide) ?_
    refine A_icmp_ne (tgt := 68) d_M_best_46 (by decide) (fun c_46 => ?_) (fun c => absurd c (by decide))
    refine A_aload_n0 d_M_best_68 ?_
    refine A_iload_n2 d_M_best_69 ?_
    refine A_if_ne (tgt := 77) d_M_best_70 (by decide) (fun c => absurd rfl c) (fun c_70 => ?_)
    refine A_iconst (v := nI 1) d_M_best_73 (by decide) ?_
    refine A_goto (tgt := 78) d_M_best_74 (by decide) ?_
    refine A_topI (show nI 1 = bI true from rfl) ?_
    refine A_callV d_M_best_78 (c_M_bestAll hM hS2 hN true) hM.o rfl q_1504 q_1506 qs_67 mk_M_bestAll rfl (by decide) rfl (Nat.le_of_ble_eq_true rfl) ⟨Nat.le_of_ble_eq_true rfl, Nat.le_of_ble_eq_true rfl⟩ (fun v h1 hv => ?_)
    obtain ⟨rfl, S3, hM, h45, hf3, ha3⟩ := hv
    have hk3 : Keep S0 S3 := hk2.tr (fun k hk => ha3 k (by omega))
    have hbz := bdO.wide2 (allB_bd (few := true) ok (2 + 2 * V 1))
    cases ho : allB true V (2 + 2 * V 1)
    · refine A_istore3 d_M_best_81 trivial ?_
      refine A_iload_n3 d_M_best_82 ?_
      refine A_ldcw d_M_best_83 q_1508 ?_
      refine A_icmp_ne (tgt := 91) d_M_best_86 (by decide) (fun c => absurd rfl c) (fun c_86 => ?_)
      refine A_iconst (v := (-1)) d_M_best_89 (by decide) ?_
      refine A_iret d_M_best_90 rfl ⟨Nat.zero_le _, Nat.zero_le _⟩ ?_
      exact tk hM hk3 (by rw [bestQ_0n ho])
    · rename_i z
      rw [ho] at hbz
      refine A_istore3 d_M_best_81 trivial ?_
      refine A_iload_n3 d_M_best_82 ?_
      refine A_ldcw d_M_best_83 q_1508 ?_
      refine A_icmp_ne (tgt := 91) d_M_best_86 (by decide) (fun c_86 => ?_) (fun c => absurd ((encZ_none hbz).mp c) (by simp))
      refine A_iload_n2 d_M_best_91 ?_
      refine A_if_ne (tgt := 98) d_M_best_92 (by decide) (fun c => absurd rfl c) (fun c_92 => ?_)
      refine A_iload_n3 d_M_best_95 ?_
      refine A_ineg d_M_best_96 ?_
      refine A_iret d_M_best_97 rfl ⟨Nat.zero_le _, Nat.zero_le _⟩ ?_
      exact tk hM hk3 (by rw [bestQ_0s ho])
  refine A_aload_n0 d_M_best_40 ?_
  refine A_callV d_M_best_41 (c_M_layNeeds hM hS) hM.o rfl q_1464 q_1466 qs_58 mk_M_layNeeds rfl (by decide) rfl (Nat.le_of_ble_eq_true rfl) ⟨Nat.le_of_ble_eq_true rfl, Nat.le_of_ble_eq_true rfl⟩ (fun v h1 hv => ?_)
  obtain ⟨rfl, S2, hM, hN, hf, ha⟩ := hv
  have hS2 : HS S2 l V := hS.keepF (fun k hk => ha k (by omega)) (fun j a b => hf j (by omega))
  have hk2 : Keep S0 S2 := hk.tr (fun k hk => ha k (by omega))
  refine A_iload_n2 d_M_best_44 ?_
  refine A_iconst (v := nI 3) d_M_best_45 (by decide) ?_
  refine A_icmp_ne (tgt := 68) d_M_best_46 (by decide) (fun c_46 => ?_) (fun c => absurd ((nI_eq (by omega) (by decide)).mp c) hk3a)
  refine A_aload_n0 d_M_best_68 ?_
  refine A_iload_n2 d_M_best_69 ?_
  refine A_if_ne (tgt := 77) d_M_best_70 (by decide) (fun c_70 => ?_) (fun c => absurd ((nI_eq (b := 0) (by omega) (by decide)).mp c) hk0a)
  refine A_iconst (v := nI 0) d_M_best_77 (by decide) ?_
  refine A_topI (show nI 0 = bI false from rfl) ?_
  refine A_callV d_M_best_78 (c_M_bestAll hM hS2 hN false) hM.o rfl q_1504 q_1506 qs_67 mk_M_bestAll rfl (by decide) rfl (Nat.le_of_ble_eq_true rfl) ⟨Nat.le_of_ble_eq_true rfl, Nat.le_of_ble_eq_true rfl⟩ (fun v h1 hv => ?_)
  obtain ⟨rfl, S3, hM, h45, hf3, ha3⟩ := hv
  have hk3 : Keep S0 S3 := hk2.tr (fun k hk => ha3 k (by omega))
  have hbz := bdO.wide2 (allB_bd (few := false) ok (2 + 2 * V 1))
  cases ho : allB false V (2 + 2 * V 1)
  · refine A_istore3 d_M_best_81 trivial ?_
    refine A_iload_n3 d_M_best_82 ?_
    refine A_ldcw d_M_best_83 q_1508 ?_
    refine A_icmp_ne (tgt := 91) d_M_best_86 (by decide) (fun c => absurd rfl c) (fun c_86 => ?_)
    refine A_iconst (v := (-1)) d_M_best_89 (by decide) ?_
    refine A_iret d_M_best_90 rfl ⟨Nat.zero_le _, Nat.zero_le _⟩ ?_
    exact tk hM hk3 (by rw [bestQ_n hk3a hk0a ho])
  · rename_i z
    have hz := allB_bd (few := false) ok (2 + 2 * V 1) z ho
    rw [ho] at hbz
    obtain ⟨y9, hy9⟩ : ∃ y9 : Nat, z + 9999 = (y9 : Int) := ⟨(z + 9999).toNat, by omega⟩
    have hS3 : HS S3 l V := hS2.keepF (fun k hk => ha3 k (by omega)) (fun j a b => hf3 j (by omega))
    have hN3 : ND S3 V := ⟨by rw [hf3 41 (by decide)]; exact hN.1, by rw [hf3 42 (by decide)]; exact hN.2.1, by rw [hf3 43 (by decide)]; exact hN.2.2.1, by rw [hf3 44 (by decide)]; exact hN.2.2.2.1, fun h hh => by rw [ha3 40 (by decide)]; exact hN.2.2.2.2 h hh⟩
    refine A_istore3 d_M_best_81 trivial ?_
    refine A_iload_n3 d_M_best_82 ?_
    refine A_ldcw d_M_best_83 q_1508 ?_
    refine A_icmp_ne (tgt := 91) d_M_best_86 (by decide) (fun c_86 => ?_) (fun c => absurd ((encZ_none hbz).mp c) (by simp))
    refine A_iload_n2 d_M_best_91 ?_
    refine A_if_ne (tgt := 98) d_M_best_92 (by decide) (fun c_92 => ?_) (fun c => absurd ((nI_eq (b := 0) (by omega) (by decide)).mp c) hk0a)
    refine A_iload_n3 d_M_best_98 ?_
    refine A_sipush (v := nI 10000) d_M_best_99 (by decide) ?_
    first | refine A_iaddN d_M_best_102 (by with_reducible rfl) (by with_reducible rfl) ?_ | refine A_iadd d_M_best_102 ?_
    refine A_iconst (v := nI 1) d_M_best_103 (by decide) ?_
    first | refine A_isubN d_M_best_104 (by with_reducible rfl) (by with_reducible rfl) (by omega) ?_ | refine A_isub d_M_best_104 ?_
    refine A_topI (bq1 hy9) ?_
    refine A_sipush (v := nI 10000) d_M_best_105 (by decide) ?_
    refine A_idivN d_M_best_108 (by with_reducible rfl) (by with_reducible rfl) (by omega) ?_
    refine A_istore4 d_M_best_109 trivial ?_
    refine A_iload_n2 d_M_best_111 ?_
    refine A_iconst (v := nI 1) d_M_best_112 (by decide) ?_
    first | refine A_icmp_neN (tgt := 119) d_M_best_113 (by decide) (by with_reducible rfl) (by with_reducible rfl) (by omega) (by omega) (fun c_113 => ?_) (fun c_113 => ?_) | refine A_icmp_ne (tgt := 119) d_M_best_113 (by decide) (fun c_113 => ?_) (fun c_113 => ?_)
    · refine A_iload_n2 d_M_best_119 ?_
      refine A_iconst (v := nI 2) d_M_best_120 (by decide) ?_
      first | refine A_icmp_neN (tgt := 133) d_M_best_121 (by decide) (by with_reducible rfl) (by with_reducible rfl) (by omega) (by omega) (fun c_121 => ?_) (fun c_121 => ?_) | refine A_icmp_ne (tgt := 133) d_M_best_121 (by decide) (fun c_121 => ?_) (fun c_121 => ?_)
      · refine A_aload_n0 d_M_best_133 ?_
        refine A_iload_n3 d_M_best_134 ?_
        refine A_callV d_M_best_135 (c_M_findRow hM (zM := z) h45 hS3 hN3 (by omega) (by omega)) hM.o rfl q_1529 q_1531 qs_73 mk_M_findRow rfl (by decide) rfl (Nat.le_of_ble_eq_true rfl) ⟨Nat.le_of_ble_eq_true rfl, Nat.le_of_ble_eq_true rfl⟩ (fun v h1 hv => ?_)
        obtain ⟨rfl, S4, hM, hb4, h46⟩ := hv
        refine A_aload_n0 d_M_best_138 ?_
        refine A_getf (kf := 46) d_M_best_139 hM.o ok_8 (by decide) q_1095 rfl ?_
        refine A_iload_n2 d_M_best_142 ?_
        refine A_bipush (v := nI 10) d_M_best_143 (by decide) ?_
        first | refine A_isubN d_M_best_145 (by with_reducible rfl) (by with_reducible rfl) (by omega) ?_ | refine A_isub d_M_best_145 ?_
        refine A_ialdN d_M_best_146 hM.a46 ⟨by omega, by decide⟩ ?_
        refine A_topI (h46 (k - 10) (by omega)) ?_
        refine A_iret d_M_best_147 rfl ⟨Nat.zero_le _, Nat.zero_le _⟩ ?_
        exact tk hM (hk3.tr (fun k q => hb4.2 k (by omega) (by omega) (by omega))) (by rw [bestQ_s hk3a hk0a ho hy9, if_neg c_113, if_neg c_121])
      · refine A_sipush (v := nI 10000) d_M_best_124 (by decide) ?_
        refine A_iload4 d_M_best_127 ?_
        first | refine A_imulN d_M_best_129 (by with_reducible rfl) (by with_reducible rfl) ?_ | refine A_imul d_M_best_129 ?_
        refine A_iload_n3 d_M_best_130 ?_
        first | refine A_isubN d_M_best_131 (by with_reducible rfl) (by with_reducible rfl) (by omega) ?_ | refine A_isub d_M_best_131 ?_
        refine A_topI bq2 ?_
        refine A_iret d_M_best_132 rfl ⟨Nat.zero_le _, Nat.zero_le _⟩ ?_
        exact tk hM hk3 (by rw [bestQ_s hk3a hk0a ho hy9, if_neg c_113, if_pos c_121])
    · refine A_iload4 d_M_best_116 ?_
      refine A_iret d_M_best_118 rfl ⟨Nat.zero_le _, Nat.zero_le _⟩ ?_
      exact tk hM hk3 (by rw [bestQ_s hk3a hk0a ho hy9, if_pos c_113])
set_option maxHeartbeats 4000000 in
set_option maxRecDepth 100000 in
theorem c_M_best {G : GE} {h0 h : AH} {m : Nat} {S : MS} (hM : MW h0 h m S) {c : Nat → Nat} {VL WT BK SG GM : Nat → Nat → Nat} (hp : MP S c VL WT BK SG GM) (la x : Int32) : Ctr G y_M_best b_M_best 5 (some .int) r_M_best [.ref m, .int la, .int x] h (TK h0 m S (.int (pick (c 0) la (fun l => bestV (VL l) x) (-1)))) := by
  have hc0 := (hp.1 0 (by decide)).2
  refine Ctr.of (by decide +kernel) (by simp) (Nat.le_of_ble_eq_true rfl) (L0 := [some (.ref m), some (.int la), some (.int x), none, none]) rfl ?_
  refine A_aload_n0 d_M_best_0 ?_
  refine A_iconst (v := nI 0) d_M_best_1 (by decide) ?_
  refine A_putM hM (kf := 0) (ty := .int) d_M_best_2 (by decide) q_1049 rfl (by decide +kernel) (by first | rfl | exact bI_nar _) rfl (Nat.le_of_ble_eq_true rfl) rfl (fun h hM => ?_)
  have hp := hp.keep (Keep.sf _ 0 (nI 0))
  refine A_aload_n0 d_M_best_5 ?_
  refine A_iload_n1 d_M_best_6 ?_
  refine A_callV d_M_best_7 (c_M_hand hM (hp.1 0 (by decide)).1 (hp.1 0 (by decide)).2 hp.2.1 la) hM.o rfl q_1339 q_1341 qs_35 mk_M_hand rfl (by decide) rfl (Nat.le_of_ble_eq_true rfl) ⟨Nat.le_of_ble_eq_true rfl, Nat.le_of_ble_eq_true rfl⟩ (fun v h1 hv => ?_)
  rcases hv with ⟨l', rfl, hl, rfl, hM⟩ | ⟨q, rfl, rfl⟩
  · have hVl := hp.2.1 l' hl
    have hS := HS_hand hVl
    obtain ⟨b0, b1, b2, b3, b4, b5, bp, bb, bt⟩ := hVl.2.1
    refine A_if_eqB (tgt := 38) d_M_best_10 (by decide) (fun c => absurd c (by decide)) (fun c_10 => ?_)
    refine A_iload_n2 d_M_best_13 ?_
    refine A_iconst (v := nI 0) d_M_best_14 (by decide) ?_
    refine A_iconst (v := nI 3) d_M_best_15 (by decide) ?_
    refine A_callSP d_M_best_16 (c_M_in _ _ _ _) q_1231 q_1232 mk_M_in rfl (by decide) rfl (Nat.le_of_ble_eq_true rfl) ⟨Nat.le_of_ble_eq_true rfl, Nat.le_of_ble_eq_true rfl⟩ ⟨rfl, rfl⟩ ?_
    refine A_if_neB (tgt := 40) d_M_best_19 (by decide) (fun c_19 => ?_) (fun c_19 => ?_)
    · rw [pick_in hl (by omega)]
      first
        | (obtain ⟨k, rfl, hk1, hk2⟩ := inB_ex (by omega) c_35
           rw [bestV, rg_out c_19, rg_in ⟨hk1, hk2⟩ (by omega)]
           exact c_M_best2 hM (fun _ _ => rfl) hS _ (Or.inr ⟨hk1, hk2⟩))
        | (obtain ⟨k, rfl, hk1, hk2⟩ := inB_ex (by decide) c_19
           rw [bestV, rg_in ⟨hk1, hk2⟩ (by decide)]
           exact c_M_best2 hM (fun _ _ => rfl) hS _ (Or.inl hk2))
    · refine A_iload_n2 d_M_best_22 ?_
      refine A_bipush (v := nI 10) d_M_best_23 (by decide) ?_
      refine A_bipush (v := nI 9) d_M_best_25 (by decide) ?_
      refine A_aload_n0 d_M_best_27 ?_
      refine A_getf (kf := 27) d_M_best_28 hM.o ok_8 (by decide) q_1076 rfl ?_
      refine A_topI hS.hours ?_
      first | refine A_iaddN d_M_best_31 (by with_reducible rfl) (by with_reducible rfl) ?_ | refine A_iadd d_M_best_31 ?_
      refine A_callSP d_M_best_32 (c_M_in _ _ _ _) q_1231 q_1232 mk_M_in rfl (by decide) rfl (Nat.le_of_ble_eq_true rfl) ⟨Nat.le_of_ble_eq_true rfl, Nat.le_of_ble_eq_true rfl⟩ ⟨rfl, rfl⟩ ?_
      refine A_if_neB (tgt := 40) d_M_best_35 (by decide) (fun c_35 => ?_) (fun c_35 => ?_)
      · rw [pick_in hl (by omega)]
        first
          | (obtain ⟨k, rfl, hk1, hk2⟩ := inB_ex (by omega) c_35
             rw [bestV, rg_out c_19, rg_in ⟨hk1, hk2⟩ (by omega)]
             exact c_M_best2 hM (fun _ _ => rfl) hS _ (Or.inr ⟨hk1, hk2⟩))
          | (obtain ⟨k, rfl, hk1, hk2⟩ := inB_ex (by decide) c_19
             rw [bestV, rg_in ⟨hk1, hk2⟩ (by decide)]
             exact c_M_best2 hM (fun _ _ => rfl) hS _ (Or.inl hk2))
      · refine A_iconst (v := (-1)) d_M_best_38 (by decide) ?_
        refine A_iret d_M_best_39 rfl ⟨Nat.zero_le _, Nat.zero_le _⟩ ?_
        first | exact tk hM (fun _ _ => rfl) (by rw [pick_out q]) | exact tk hM (fun _ _ => rfl) (by rw [pick_in hl (by omega), bestV, rg_out c_19, rg_out c_35])
  · refine A_if_eqB (tgt := 38) d_M_best_10 (by decide) (fun c_10 => ?_) (fun c => absurd c (by decide))
    refine A_iconst (v := (-1)) d_M_best_38 (by decide) ?_
    refine A_iret d_M_best_39 rfl ⟨Nat.zero_le _, Nat.zero_le _⟩ ?_
    first | exact tk hM (fun _ _ => rfl) (by rw [pick_out q]) | exact tk hM (fun _ _ => rfl) (by rw [pick_in hl (by omega), bestV, rg_out c_19, rg_out c_35])
