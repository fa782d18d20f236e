theorem moN2 (t : Nat) : moN t 0 + moN t 1 ≤ 1 := by unfold moN; split <;> split <;> omega
theorem maxO_none (a : Option Int) : maxO a none = a := by cases a <;> rfl
/-- what one way from a state brings -/
def stpO (few : Bool) (V : Nat → Nat) (first n s d0 d1 y : Nat) : Option Int := if 2 ≤ s ∧ y = 1 then none else addO (bestB few V first n (nextN (V 1) s y) (d0 + moN (nextN (V 1) s y) 0) (d1 + moN (nextN (V 1) s y) 1)) (gainsZ few V s (nextN (V 1) s y) (V 0 - 1 - n))
def stpM (few : Bool) (V : Nat → Nat) (first n s d0 d1 : Nat) : Nat → Option Int := foldN (fun y q => maxO q (stpO few V first n s d0 d1 y)) none
theorem stpM_2 {few : Bool} {V : Nat → Nat} {first n s d0 d1 : Nat} : stpM few V first n s d0 d1 2 = bestB few V first (n + 1) s d0 d1 := by
  show maxO (maxO none (stpO few V first n s d0 d1 0)) (stpO few V first n s d0 d1 1) = _
  unfold stpO
  rw [if_neg (by omega)]
  show maxO _ _ = maxO _ _
  congr 1
  by_cases q : 2 ≤ s
  · rw [if_pos ⟨q, rfl⟩, if_pos q]
  · rw [if_neg (fun z => q z.1), if_neg q]
theorem stpM_bd {few : Bool} {V : Nat → Nat} (ok : VOK V) {first n s d0 d1 : Nat} (hn : n < 23) : ∀ y, bdO (stpM few V first n s d0 d1 y) (-1000000) 30000000
  | 0 => fun z hz => by cases hz
  | y + 1 => by
    refine bdO.max (stpM_bd ok hn y) ?_
    unfold stpO
    split
    · intro z hz; cases hz
    · have h0 := ok.1
      have g := gainsZ_bd (few := few) (s := s) (to := nextN (V 1) s y) (h := V 0 - 1 - n) ok (by omega)
      refine bdO.add (bestB_bd ok n (by omega) _ _ _) ?_ ?_ <;> omega
set_option maxHeartbeats 4000000 in
set_option maxRecDepth 100000 in
theorem c_M_bestAt2 {G : GE} {h0 h : AH} {m : Nat} {S : MS} (hM : MW h0 h m S) {few : Bool} (hw : S.1 45 = bI few) {l : Nat} {V : Nat → Nat} (hS : HS S l V) (hN : ND S V) {first n9 h9 s d0 d1 : Nat} (hh : n9 + h9 + 2 = V 0) (hs : s < 2 + 2 * V 1) (hd : d0 + d1 ≤ h9 + 1) (hBA : BA S few V first (h9 + 1)) : ∀ y, y ≤ 2 → WA G y_M_bestAt b_M_bestAt 10 (some .int) r_M_bestAt 0 0 (Pu (.int (encZ (bestB few V first (n9 + 1) s d0 d1))) h) 0 0 52 [some (.ref m), some (.int (nI first)), some (.int (nI h9)), some (.int (nI s)), some (.int (nI d0)), some (.int (nI d1)), some (.int (encZ (stpM few V first n9 s d0 d1 y))), some (.int (nI y)), none, none] [] h := by
  have ok := hS.ok
  have hH := ok.1
  have hC := ok.2.1
  refine down ?_ (fun y hy ih => ?_)
  · refine A_iload7 d_M_bestAt_52 ?_
    refine A_iconst (v := nI 2) d_M_bestAt_54 (by decide) ?_
    first | refine A_icmp_geN (tgt := 153) d_M_bestAt_55 (by decide) (by with_reducible rfl) (by with_reducible rfl) (by omega) (by omega) (fun c_55 => ?_) (fun c_55 => ?_) | refine A_icmp_ge (tgt := 153) d_M_bestAt_55 (by decide) (fun c_55 => ?_) (fun c_55 => ?_)
    · refine A_iload6 d_M_bestAt_153 ?_
      refine A_iret d_M_bestAt_155 rfl ⟨Nat.zero_le _, Nat.zero_le _⟩ ?_
      exact pu (by rw [stpM_2])
    · exact absurd c_55 (by omega)
  · refine A_iload7 d_M_bestAt_52 ?_
    refine A_iconst (v := nI 2) d_M_bestAt_54 (by decide) ?_
    first | refine A_icmp_geN (tgt := 153) d_M_bestAt_55 (by decide) (by with_reducible rfl) (by with_reducible rfl) (by omega) (by omega) (fun c_55 => ?_) (fun c_55 => ?_) | refine A_icmp_ge (tgt := 153) d_M_bestAt_55 (by decide) (fun c_55 => ?_) (fun c_55 => ?_)
    · exact absurd c_55 (by omega)
    · refine A_aload_n0 d_M_bestAt_58 ?_
      refine A_iload_n3 d_M_bestAt_59 ?_
      refine A_iload7 d_M_bestAt_60 ?_
      refine A_callVP d_M_bestAt_62 (c_M_nextOf hM hS.cross hC s y hs (by omega)) hM.o rfl q_1488 q_1490 qs_64 mk_M_nextOf rfl (by decide) rfl (Nat.le_of_ble_eq_true rfl) ⟨Nat.le_of_ble_eq_true rfl, Nat.le_of_ble_eq_true rfl⟩ ⟨rfl, rfl⟩ ?_
      by_cases hv : 2 ≤ s ∧ y = 1
      · rw [show nextI (V 1) s y = -1 from if_pos hv]
        refine A_istore8 d_M_bestAt_65 trivial ?_
        refine A_iload8 d_M_bestAt_67 ?_
        refine A_iconst (v := (-1)) d_M_bestAt_69 (by decide) ?_
        refine A_icmp_eq (tgt := 147) d_M_bestAt_70 (by decide) (fun c_70 => ?_) (fun c => absurd rfl c)
        first | refine A_iinc7 d_M_bestAt_147 (nI_1 _) trivial ?_ | refine A_iinc7 d_M_bestAt_147 rfl trivial ?_
        refine A_goto (tgt := 52) d_M_bestAt_150 (by decide) ?_
        refine A_drop8 (A_drop9 (A_loc ?_ ih))
        rw [show stpM few V first n9 s d0 d1 (y + 1) = maxO (stpM few V first n9 s d0 d1 y) (stpO few V first n9 s d0 d1 y) from rfl, show stpO few V first n9 s d0 d1 y = none from if_pos hv, maxO_none]
      obtain ⟨t, ht⟩ : ∃ t, t = nextN (V 1) s y := ⟨_, rfl⟩
      have ht1 : t < 2 + 2 * V 1 := by have := nextN_lt (way := y) hs; omega
      rw [show nextI (V 1) s y = nI t from (if_neg hv).trans (congrArg nI ht.symm)]
      refine A_istore8 d_M_bestAt_65 trivial ?_
      refine A_iload8 d_M_bestAt_67 ?_
      refine A_iconst (v := (-1)) d_M_bestAt_69 (by decide) ?_
      refine A_icmp_eq (tgt := 147) d_M_bestAt_70 (by decide) (fun c => absurd c (nI_neM1 (by omega))) (fun c_70 => ?_)
      refine A_aload_n0 d_M_bestAt_73 ?_
      refine A_getf (kf := 39) d_M_bestAt_74 hM.o ok_8 (by decide) q_1088 rfl ?_
      refine A_sipush (v := nI 5000) d_M_bestAt_77 (by decide) ?_
      refine A_iload_n2 d_M_bestAt_80 ?_
      refine A_iconst (v := nI 1) d_M_bestAt_81 (by decide) ?_
      first | refine A_iaddN d_M_bestAt_82 (by with_reducible rfl) (by with_reducible rfl) ?_ | refine A_iadd d_M_bestAt_82 ?_
      first | refine A_imulN d_M_bestAt_83 (by with_reducible rfl) (by with_reducible rfl) ?_ | refine A_imul d_M_bestAt_83 ?_
      refine A_aload_n0 d_M_bestAt_84 ?_
      refine A_iload8 d_M_bestAt_85 ?_
      refine A_iload4 d_M_bestAt_87 ?_
      refine A_aload_n0 d_M_bestAt_89 ?_
      refine A_iload8 d_M_bestAt_90 ?_
      refine A_iconst (v := nI 0) d_M_bestAt_92 (by decide) ?_
      refine A_callVP d_M_bestAt_93 (c_M_more hM (nI t) (nI 0)) hM.o rfl q_1476 q_1478 qs_61 mk_M_more rfl (by decide) rfl (Nat.le_of_ble_eq_true rfl) ⟨Nat.le_of_ble_eq_true rfl, Nat.le_of_ble_eq_true rfl⟩ ⟨rfl, rfl⟩ ?_
      refine A_topI (moI (by omega) (by decide)) ?_
      first | refine A_iaddN d_M_bestAt_96 (by with_reducible rfl) (by with_reducible rfl) ?_ | refine A_iadd d_M_bestAt_96 ?_
      refine A_iload5 d_M_bestAt_97 ?_
      refine A_aload_n0 d_M_bestAt_99 ?_
      refine A_iload8 d_M_bestAt_100 ?_
      refine A_iconst (v := nI 1) d_M_bestAt_102 (by decide) ?_
      refine A_callVP d_M_bestAt_103 (c_M_more hM (nI t) (nI 1)) hM.o rfl q_1476 q_1478 qs_61 mk_M_more rfl (by decide) rfl (Nat.le_of_ble_eq_true rfl) ⟨Nat.le_of_ble_eq_true rfl, Nat.le_of_ble_eq_true rfl⟩ ⟨rfl, rfl⟩ ?_
      refine A_topI (moI (by omega) (by decide)) ?_
      have m0 := moN_le t 0
      have m1 := moN_le t 1
      first | refine A_iaddN d_M_bestAt_106 (by with_reducible rfl) (by with_reducible rfl) ?_ | refine A_iadd d_M_bestAt_106 ?_
      refine A_callVP d_M_bestAt_107 (c_M_grid hM t (d0 + moN t 0) (d1 + moN t 1)) hM.o rfl q_1480 q_1482 qs_62 mk_M_grid rfl (by decide) rfl (Nat.le_of_ble_eq_true rfl) ⟨Nat.le_of_ble_eq_true rfl, Nat.le_of_ble_eq_true rfl⟩ ⟨rfl, rfl⟩ ?_
      first | refine A_iaddN d_M_bestAt_110 (by with_reducible rfl) (by with_reducible rfl) ?_ | refine A_iadd d_M_bestAt_110 ?_
      refine A_ialdN d_M_bestAt_111 hM.a39 ⟨by omega, by decide⟩ ?_
      have m01 : moN t 0 + moN t 1 ≤ 1 := moN2 t
      have hq1 : (25 * (d0 + moN t 0) + (d1 + moN t 1)) / 25 = d0 + moN t 0 := by omega
      have hq2 : (25 * (d0 + moN t 0) + (d1 + moN t 1)) % 25 = d1 + moN t 1 := by omega
      have hq3 := hBA t (25 * (d0 + moN t 0) + (d1 + moN t 1)) ht1 (by omega)
      rw [hq1, hq2, if_neg (by omega), show V 0 - 1 - (h9 + 1) = n9 by omega, show 5000 * (h9 + 1) + 625 * t + (25 * (d0 + moN t 0) + (d1 + moN t 1)) = 5000 * (h9 + 1) + (625 * t + 25 * (d0 + moN t 0) + (d1 + moN t 1)) by omega] at hq3
      refine A_topI hq3 ?_
      have hbz : bdO (bestB few V first n9 t (d0 + moN t 0) (d1 + moN t 1)) (-1073741824) 1073741824 := bdO.wide (bestB_bd2 ok (by omega))
      have hgz := gainsZ_bd (few := few) (s := s) (to := t) (h := h9 + 1) ok (by omega)
      cases ho : bestB few V first n9 t (d0 + moN t 0) (d1 + moN t 1)
      · refine A_istore9 d_M_bestAt_112 trivial ?_
        refine A_iload9 d_M_bestAt_114 ?_
        refine A_ldcw d_M_bestAt_116 q_1508 ?_
        refine A_icmp_ne (tgt := 127) d_M_bestAt_119 (by decide) (fun c => absurd rfl c) (fun c_119 => ?_)
        refine A_iload6 d_M_bestAt_122 ?_
        refine A_goto (tgt := 145) d_M_bestAt_124 (by decide) ?_
        refine A_istore6 d_M_bestAt_145 trivial ?_
        first | refine A_iinc7 d_M_bestAt_147 (nI_1 _) trivial ?_ | refine A_iinc7 d_M_bestAt_147 rfl trivial ?_
        refine A_goto (tgt := 52) d_M_bestAt_150 (by decide) ?_
        refine A_drop8 (A_drop9 (A_loc ?_ ih))
        rw [show stpM few V first n9 s d0 d1 (y + 1) = maxO (stpM few V first n9 s d0 d1 y) (stpO few V first n9 s d0 d1 y) from rfl, show stpO few V first n9 s d0 d1 y = none from (by unfold stpO; rw [if_neg hv, ← ht, ho]; rfl), maxO_none]
      · rename_i z
        have hz := bestB_bd2 ok (show n9 < 24 by omega) z ho
        refine A_istore9 d_M_bestAt_112 trivial ?_
        refine A_iload9 d_M_bestAt_114 ?_
        refine A_ldcw d_M_bestAt_116 q_1508 ?_
        refine A_icmp_ne (tgt := 127) d_M_bestAt_119 (by decide) (fun c_119 => ?_) (fun c => absurd c (fun q => by have q2 := (encZ_none (a := some z) (fun w hw => hbz w (ho.trans hw))).mp q; cases q2))
        refine A_iload6 d_M_bestAt_127 ?_
        refine A_iload9 d_M_bestAt_129 ?_
        refine A_aload_n0 d_M_bestAt_131 ?_
        refine A_iload_n3 d_M_bestAt_132 ?_
        refine A_iload8 d_M_bestAt_133 ?_
        refine A_iload_n2 d_M_bestAt_135 ?_
        refine A_iconst (v := nI 1) d_M_bestAt_136 (by decide) ?_
        first | refine A_iaddN d_M_bestAt_137 (by with_reducible rfl) (by with_reducible rfl) ?_ | refine A_iadd d_M_bestAt_137 ?_
        refine A_callVP d_M_bestAt_138 (c_M_gains hM hw hS hN s t (h9 + 1) (by omega) (by omega) (by omega)) hM.o rfl q_1521 q_1523 qs_71 mk_M_gains rfl (by decide) rfl (Nat.le_of_ble_eq_true rfl) ⟨Nat.le_of_ble_eq_true rfl, Nat.le_of_ble_eq_true rfl⟩ ⟨rfl, rfl⟩ ?_
        first | refine A_iaddN d_M_bestAt_141 (by with_reducible rfl) (by with_reducible rfl) ?_ | refine A_iadd d_M_bestAt_141 ?_
        refine A_topI (Int32.ofInt_add z (gainsZ few V s t (h9 + 1))).symm ?_
        refine A_callSP d_M_bestAt_142 (c_M_greater _ _ _) q_1294 q_1295 mk_M_greater rfl (by decide) rfl (Nat.le_of_ble_eq_true rfl) ⟨Nat.le_of_ble_eq_true rfl, Nat.le_of_ble_eq_true rfl⟩ ⟨rfl, rfl⟩ ?_
        refine A_topI (encZ_max (bdO.wide (stpM_bd ok (by omega) _)) (by omega) (by omega)) ?_
        refine A_istore6 d_M_bestAt_145 trivial ?_
        first | refine A_iinc7 d_M_bestAt_147 (nI_1 _) trivial ?_ | refine A_iinc7 d_M_bestAt_147 rfl trivial ?_
        refine A_goto (tgt := 52) d_M_bestAt_150 (by decide) ?_
        refine A_drop8 (A_drop9 (A_loc ?_ ih))
        rw [show stpM few V first n9 s d0 d1 (y + 1) = maxO (stpM few V first n9 s d0 d1 y) (stpO few V first n9 s d0 d1 y) from rfl, show stpO few V first n9 s d0 d1 y = some (z + gainsZ few V s t (h9 + 1)) from (by unfold stpO; rw [if_neg hv, ← ht, ho, show V 0 - 1 - n9 = h9 + 1 by omega]; rfl)]
set_option maxHeartbeats 4000000 in
set_option maxRecDepth 100000 in
theorem c_M_bestAt {G : GE} {h0 h : AH} {m : Nat} {S : MS} (hM : MW h0 h m S) {few : Bool} (hw : S.1 45 = bI few) {l : Nat} {V : Nat → Nat} (hS : HS S l V) (hN : ND S V) (first : Nat) (hfi : first < 2 + 2 * V 1) (n : Nat) (hn : n < V 0) (s d0 d1 : Nat) (hs : s < 2 + 2 * V 1) (hd : d0 + d1 ≤ V 0 - n) (hBA : ∀ n9, n = n9 + 1 → BA S few V first (V 0 - 1 - n9)) : Ctr G y_M_bestAt b_M_bestAt 10 (some .int) r_M_bestAt [.ref m, .int (nI first), .int (nI (V 0 - 1 - n)), .int (nI s), .int (nI d0), .int (nI d1)] h (Pu (.int (encZ (bestB few V first n s d0 d1))) h) := by
  have ok := hS.ok
  have hH := ok.1
  have hC := ok.2.1
  refine Ctr.of (by decide +kernel) (by simp) (Nat.le_of_ble_eq_true rfl) (L0 := [some (.ref m), some (.int (nI first)), some (.int (nI (V 0 - 1 - n))), some (.int (nI s)), some (.int (nI d0)), some (.int (nI d1)), none, none, none, none]) rfl ?_
  refine A_iload_n2 d_M_bestAt_0 ?_
  refine A_aload_n0 d_M_bestAt_1 ?_
  refine A_getf (kf := 27) d_M_bestAt_2 hM.o ok_8 (by decide) q_1076 rfl ?_
  refine A_topI hS.hours ?_
  refine A_iconst (v := nI 1) d_M_bestAt_5 (by decide) ?_
  first | refine A_isubN d_M_bestAt_6 (by with_reducible rfl) (by with_reducible rfl) (by omega) ?_ | refine A_isub d_M_bestAt_6 ?_
  first | refine A_icmp_neN (tgt := 44) d_M_bestAt_7 (by decide) (by with_reducible rfl) (by with_reducible rfl) (by omega) (by omega) (fun c_7 => ?_) (fun c_7 => ?_) | refine A_icmp_ne (tgt := 44) d_M_bestAt_7 (by decide) (fun c_7 => ?_) (fun c_7 => ?_)
  · refine A_ldcw d_M_bestAt_44 q_1508 ?_
    refine A_istore6 d_M_bestAt_47 trivial ?_
    refine A_iconst (v := nI 0) d_M_bestAt_49 (by decide) ?_
    refine A_istore7 d_M_bestAt_50 trivial ?_
    obtain ⟨n9, rfl⟩ : ∃ n9, n = n9 + 1 := ⟨n - 1, by omega⟩
    exact c_M_bestAt2 hM hw hS hN (by omega) hs (by omega) (by rw [show V 0 - 1 - (n9 + 1) + 1 = V 0 - 1 - n9 by omega]; exact hBA n9 rfl) 0 (Nat.zero_le _)
  · refine A_aload_n0 d_M_bestAt_10 ?_
    refine A_iload_n3 d_M_bestAt_11 ?_
    refine A_iload_n1 d_M_bestAt_12 ?_
    refine A_callVP d_M_bestAt_13 (c_M_goesTo hM hS.cross hC s first hs hfi) hM.o rfl q_1492 q_1494 qs_65 mk_M_goesTo rfl (by decide) rfl (Nat.le_of_ble_eq_true rfl) ⟨Nat.le_of_ble_eq_true rfl, Nat.le_of_ble_eq_true rfl⟩ ⟨rfl, rfl⟩ ?_
    refine A_if_eqB (tgt := 40) d_M_bestAt_16 (by decide) (fun c_16 => ?_) (fun c_16 => ?_)
    · refine A_ldcw d_M_bestAt_40 q_1508 ?_
      refine A_iret d_M_bestAt_43 rfl ⟨Nat.zero_le _, Nat.zero_le _⟩ ?_
      exact pu (by rw [show n = 0 by omega]; simp only [bestB, c_7, c_16, and_self, reduceIte, Bool.false_eq_true, false_and, and_false]; rfl)
    · refine A_aload_n0 d_M_bestAt_19 ?_
      refine A_iload4 d_M_bestAt_20 ?_
      refine A_iload5 d_M_bestAt_22 ?_
      refine A_callVP d_M_bestAt_24 (c_M_fitsDark hM hS.ok hN d0 d1 (by omega) (by omega)) hM.o rfl q_1496 q_1498 qs_66 mk_M_fitsDark rfl (by decide) rfl (Nat.le_of_ble_eq_true rfl) ⟨Nat.le_of_ble_eq_true rfl, Nat.le_of_ble_eq_true rfl⟩ ⟨rfl, rfl⟩ ?_
      refine A_if_eqB (tgt := 40) d_M_bestAt_27 (by decide) (fun c_27 => ?_) (fun c_27 => ?_)
      · refine A_ldcw d_M_bestAt_40 q_1508 ?_
        refine A_iret d_M_bestAt_43 rfl ⟨Nat.zero_le _, Nat.zero_le _⟩ ?_
        exact pu (by rw [show n = 0 by omega]; simp only [bestB, c_7, c_16, c_27, and_self, reduceIte, Bool.false_eq_true, false_and, and_false]; rfl)
      · refine A_aload_n0 d_M_bestAt_30 ?_
        refine A_iload_n3 d_M_bestAt_31 ?_
        refine A_iload_n1 d_M_bestAt_32 ?_
        refine A_iconst (v := nI 0) d_M_bestAt_33 (by decide) ?_
        refine A_callVP d_M_bestAt_34 (c_M_gains hM hw hS hN s first 0 (by omega) (by omega) (by omega)) hM.o rfl q_1521 q_1523 qs_71 mk_M_gains rfl (by decide) rfl (Nat.le_of_ble_eq_true rfl) ⟨Nat.le_of_ble_eq_true rfl, Nat.le_of_ble_eq_true rfl⟩ ⟨rfl, rfl⟩ ?_
        refine A_goto (tgt := 43) d_M_bestAt_37 (by decide) ?_
        refine A_iret d_M_bestAt_43 rfl ⟨Nat.zero_le _, Nat.zero_le _⟩ ?_
        exact pu (by rw [show n = 0 by omega]; simp only [bestB, c_7, c_16, c_27, and_self, reduceIte, Bool.false_eq_true, false_and, and_false]; rfl)
set_option maxHeartbeats 4000000 in
set_option maxRecDepth 100000 in
theorem c_M_bestAtH {G : GE} {h0 h : AH} {m : Nat} {S : MS} (hM : MW h0 h m S) {few : Bool} (hw : S.1 45 = bI few) {l : Nat} {V : Nat → Nat} (hS : HS S l V) (hN : ND S V) (first : Nat) (hfi : first < 2 + 2 * V 1) {h9 : Nat} (n : Nat) (e : h9 = V 0 - 1 - n) (hn : n < V 0) (s d0 d1 : Nat) (hs : s < 2 + 2 * V 1) (hd : d0 + d1 ≤ V 0 - n) (hBA : ∀ n9, n = n9 + 1 → BA S few V first (V 0 - 1 - n9)) : Ctr G y_M_bestAt b_M_bestAt 10 (some .int) r_M_bestAt [.ref m, .int (nI first), .int (nI h9), .int (nI s), .int (nI d0), .int (nI d1)] h (Pu (.int (encZ (bestB few V first n s d0 d1))) h) := by
  subst e
  exact c_M_bestAt hM hw hS hN first hfi n hn s d0 d1 hs hd hBA
def hI (t : Nat) : Int32 := if t = 0 then -1 else nI (t - 1)
/-- a place of the reference's table stands -/
def BE (S : MS) (few : Bool) (V : Nat → Nat) (first h s d : Nat) : Prop := S.2.2.1 39 (5000 * h + 625 * s + d) = if h + 1 < d / 25 + d % 25 then -2000000000 else encZ (bestB few V first (V 0 - 1 - h) s (d / 25) (d % 25))
theorem BE.put {S S1 : MS} {few : Bool} {V : Nat → Nat} {first h s d h2 s2 d2 : Nat} {x : Int32} (he : S1.2.2.1 39 = fup (S.2.2.1 39) (5000 * h + 625 * s + d) x) (b : BE S few V first h2 s2 d2) (h1 : s < 8) (h3 : s2 < 8) (h4 : d < 625) (h5 : d2 < 625) (hn : h2 ≠ h ∨ s2 ≠ s ∨ d2 ≠ d) : BE S1 few V first h2 s2 d2 := by
  unfold BE
  rw [he, fup_ne _ _ (by omega)]
  exact b
theorem hI_dec (t : Nat) : nI t + Int32.ofInt (-1) = hI t := by
  unfold hI
  by_cases q : t = 0
  · subst q; rfl
  · rw [if_neg q]; exact sb_m1 (by omega)
set_option maxHeartbeats 4000000 in
set_option maxRecDepth 100000 in
theorem c_M_findBest {G : GE} {h0 h : AH} {m : Nat} {S : MS} (hM : MW h0 h m S) {few : Bool} (hw : S.1 45 = bI few) {l : Nat} {V : Nat → Nat} (hS : HS S l V) (hN : ND S V) (first : Nat) (hfi : first < 2 + 2 * V 1) : Ctr G y_M_findBest b_M_findBest 5 none r_M_findBest [.ref m, .int (nI first)] h (fun v h' => v = none ∧ ∃ S1, MW h0 h' m S1 ∧ SA9 S S1 ∧ ∀ h9, h9 < V 0 → BA S1 few V first h9) := by
  have ok := hS.ok
  have hH := ok.1
  have hC := ok.2.1
  have key : ∀ t, t ≤ V 0 → ∀ (h : AH) (S1 : MS), MW h0 h m S1 → SA9 S S1 → (∀ h9, t ≤ h9 → h9 < V 0 → BA S1 few V first h9) → WA G y_M_findBest b_M_findBest 5 none r_M_findBest 0 0 (fun v h' => v = none ∧ ∃ S1, MW h0 h' m S1 ∧ SA9 S S1 ∧ ∀ h9, h9 < V 0 → BA S1 few V first h9) 0 0 7 [some (.ref m), some (.int (nI first)), some (.int (hI t)), none, none] [] h := by
    intro t
    induction t with
    | zero =>
      intro _ h S1 hM hb hA
      refine A_iload_n2 d_M_findBest_7 ?_
      refine A_if_lt (tgt := 112) d_M_findBest_8 (by decide) (fun c_8 => ?_) (fun c => absurd (by decide) c)
      refine A_vret d_M_findBest_112 rfl ⟨Nat.zero_le _, Nat.zero_le _⟩ ?_
      exact ⟨rfl, S1, hM, hb, fun h9 q => hA h9 (Nat.zero_le _) q⟩
    | succ t ih =>
      intro htl
      replace ih := ih (by omega)
      intro h S1 hM hb hA
      refine A_iload_n2 d_M_findBest_7 ?_
      refine A_topI (show hI (t + 1) = nI t from rfl) ?_
      refine A_if_lt (tgt := 112) d_M_findBest_8 (by decide) (fun c => absurd c (nI_pos (by omega))) (fun c_8 => ?_)
      refine A_iconst (v := nI 0) d_M_findBest_11 (by decide) ?_
      refine A_istore3 d_M_findBest_12 trivial ?_
      refine A_loc (L' := [some (.ref m), some (.int (nI first)), some (.int (nI t)), some (.int (nI 0)), none]) rfl ?_
      have keys : ∀ s, s ≤ 2 + 2 * V 1 → ∀ (h : AH) (S1 : MS), MW h0 h m S1 → SA9 S S1 → (∀ h9, t + 1 ≤ h9 → h9 < V 0 → BA S1 few V first h9) → (∀ s2 d2, s2 < s → d2 < 625 → BE S1 few V first t s2 d2) → WA G y_M_findBest b_M_findBest 5 none r_M_findBest 0 0 (fun v h' => v = none ∧ ∃ S1, MW h0 h' m S1 ∧ SA9 S S1 ∧ ∀ h9, h9 < V 0 → BA S1 few V first h9) 0 0 13 [some (.ref m), some (.int (nI first)), some (.int (nI t)), some (.int (nI s)), none] [] h := by
        refine down ?_ (fun s hs ihs => ?_)
        · intro h S1 hM hb hA hs2
          refine A_iload_n3 d_M_findBest_13 ?_
          refine A_aload_n0 d_M_findBest_14 ?_
          refine A_callVP d_M_findBest_15 (c_M_stateMany hM) hM.o rfl q_1468 q_1470 qs_59 mk_M_stateMany rfl (by decide) rfl (Nat.le_of_ble_eq_true rfl) ⟨Nat.le_of_ble_eq_true rfl, Nat.le_of_ble_eq_true rfl⟩ ⟨rfl, rfl⟩ ?_
          refine A_topI (show nI 2 + nI 2 * S1.1 28 = nI (2 + 2 * V 1) by rw [hb.1, hS.cross, nI_mul, nI_add]) ?_
          first | refine A_icmp_geN (tgt := 106) d_M_findBest_18 (by decide) (by with_reducible rfl) (by with_reducible rfl) (by omega) (by omega) (fun c_18 => ?_) (fun c_18 => ?_) | refine A_icmp_ge (tgt := 106) d_M_findBest_18 (by decide) (fun c_18 => ?_) (fun c_18 => ?_)
          · refine A_iinc2 d_M_findBest_106 rfl trivial ?_
            refine A_goto (tgt := 7) d_M_findBest_109 (by decide) ?_
            refine A_drop3 (A_loc (by rw [show nI t + Int32.ofInt (-1) = hI t from hI_dec t]) (ih _ _ hM hb (fun h9 q1 q2 => ?_)))
            by_cases r : h9 = t
            · subst r; exact fun s2 d2 q3 q4 => hs2 s2 d2 q3 q4
            · exact hA h9 (by omega) q2
          · exact absurd c_18 (by omega)
        · intro h S1 hM hb hA hs2
          refine A_iload_n3 d_M_findBest_13 ?_
          refine A_aload_n0 d_M_findBest_14 ?_
          refine A_callVP d_M_findBest_15 (c_M_stateMany hM) hM.o rfl q_1468 q_1470 qs_59 mk_M_stateMany rfl (by decide) rfl (Nat.le_of_ble_eq_true rfl) ⟨Nat.le_of_ble_eq_true rfl, Nat.le_of_ble_eq_true rfl⟩ ⟨rfl, rfl⟩ ?_
          refine A_topI (show nI 2 + nI 2 * S1.1 28 = nI (2 + 2 * V 1) by rw [hb.1, hS.cross, nI_mul, nI_add]) ?_
          first | refine A_icmp_geN (tgt := 106) d_M_findBest_18 (by decide) (by with_reducible rfl) (by with_reducible rfl) (by omega) (by omega) (fun c_18 => ?_) (fun c_18 => ?_) | refine A_icmp_ge (tgt := 106) d_M_findBest_18 (by decide) (fun c_18 => ?_) (fun c_18 => ?_)
          · exact absurd c_18 (by omega)
          · refine A_iconst (v := nI 0) d_M_findBest_21 (by decide) ?_
            refine A_istore4 d_M_findBest_22 trivial ?_
            have keyd : ∀ d, d ≤ 625 → ∀ (h : AH) (S1 : MS), MW h0 h m S1 → SA9 S S1 → (∀ h9, t + 1 ≤ h9 → h9 < V 0 → BA S1 few V first h9) → (∀ s2 d2, s2 < s → d2 < 625 → BE S1 few V first t s2 d2) → (∀ d2, d2 < d → BE S1 few V first t s d2) → WA G y_M_findBest b_M_findBest 5 none r_M_findBest 0 0 (fun v h' => v = none ∧ ∃ S1, MW h0 h' m S1 ∧ SA9 S S1 ∧ ∀ h9, h9 < V 0 → BA S1 few V first h9) 0 0 24 [some (.ref m), some (.int (nI first)), some (.int (nI t)), some (.int (nI s)), some (.int (nI d))] [] h := by
              refine down ?_ (fun d hd ihd => ?_)
              · intro h S1 hM hb hA hs2 hd2
                refine A_iload4 d_M_findBest_24 ?_
                refine A_sipush (v := nI 625) d_M_findBest_26 (by decide) ?_
                first | refine A_icmp_geN (tgt := 100) d_M_findBest_29 (by decide) (by with_reducible rfl) (by with_reducible rfl) (by omega) (by omega) (fun c_29 => ?_) (fun c_29 => ?_) | refine A_icmp_ge (tgt := 100) d_M_findBest_29 (by decide) (fun c_29 => ?_) (fun c_29 => ?_)
                · first | refine A_iinc3 d_M_findBest_100 (nI_1 _) trivial ?_ | refine A_iinc3 d_M_findBest_100 rfl trivial ?_
                  refine A_goto (tgt := 13) d_M_findBest_103 (by decide) ?_
                  refine A_drop4 (ihs _ _ hM hb hA (fun s2 d2 q1 q2 => ?_))
                  by_cases r : s2 = s
                  · subst r; exact hd2 d2 q2
                  · exact hs2 s2 d2 (by omega) q2
                · exact absurd c_29 (by omega)
              · intro h S1 hM hb hA hs2 hd2
                refine A_iload4 d_M_findBest_24 ?_
                refine A_sipush (v := nI 625) d_M_findBest_26 (by decide) ?_
                first | refine A_icmp_geN (tgt := 100) d_M_findBest_29 (by decide) (by with_reducible rfl) (by with_reducible rfl) (by omega) (by omega) (fun c_29 => ?_) (fun c_29 => ?_) | refine A_icmp_ge (tgt := 100) d_M_findBest_29 (by decide) (fun c_29 => ?_) (fun c_29 => ?_)
                · exact absurd c_29 (by omega)
                · refine A_aload_n0 d_M_findBest_32 ?_
                  refine A_getf (kf := 39) d_M_findBest_33 hM.o ok_8 (by decide) q_1088 rfl ?_
                  refine A_sipush (v := nI 5000) d_M_findBest_36 (by decide) ?_
                  refine A_iload_n2 d_M_findBest_39 ?_
                  refine A_bipush (v := nI 25) d_M_findBest_40 (by decide) ?_
                  refine A_iremN d_M_findBest_42 (by with_reducible rfl) (by with_reducible rfl) (by omega) ?_
                  first | refine A_imulN d_M_findBest_43 (by with_reducible rfl) (by with_reducible rfl) ?_ | refine A_imul d_M_findBest_43 ?_
                  refine A_sipush (v := nI 625) d_M_findBest_44 (by decide) ?_
                  refine A_iload_n3 d_M_findBest_47 ?_
                  first | refine A_imulN d_M_findBest_48 (by with_reducible rfl) (by with_reducible rfl) ?_ | refine A_imul d_M_findBest_48 ?_
                  first | refine A_iaddN d_M_findBest_49 (by with_reducible rfl) (by with_reducible rfl) ?_ | refine A_iadd d_M_findBest_49 ?_
                  refine A_iload4 d_M_findBest_50 ?_
                  first | refine A_iaddN d_M_findBest_52 (by with_reducible rfl) (by with_reducible rfl) ?_ | refine A_iadd d_M_findBest_52 ?_
                  refine A_iload4 d_M_findBest_53 ?_
                  refine A_bipush (v := nI 25) d_M_findBest_55 (by decide) ?_
                  refine A_idivN d_M_findBest_57 (by with_reducible rfl) (by with_reducible rfl) (by omega) ?_
                  refine A_iload4 d_M_findBest_58 ?_
                  refine A_bipush (v := nI 25) d_M_findBest_60 (by decide) ?_
                  refine A_iremN d_M_findBest_62 (by with_reducible rfl) (by with_reducible rfl) (by omega) ?_
                  first | refine A_iaddN d_M_findBest_63 (by with_reducible rfl) (by with_reducible rfl) ?_ | refine A_iadd d_M_findBest_63 ?_
                  refine A_iload_n2 d_M_findBest_64 ?_
                  refine A_iconst (v := nI 1) d_M_findBest_65 (by decide) ?_
                  first | refine A_iaddN d_M_findBest_66 (by with_reducible rfl) (by with_reducible rfl) ?_ | refine A_iadd d_M_findBest_66 ?_
                  first | refine A_icmp_leN (tgt := 76) d_M_findBest_67 (by decide) (by with_reducible rfl) (by with_reducible rfl) (by omega) (by omega) (fun c_67 => ?_) (fun c_67 => ?_) | refine A_icmp_le (tgt := 76) d_M_findBest_67 (by decide) (fun c_67 => ?_) (fun c_67 => ?_)
                  · refine A_aload_n0 d_M_findBest_76 ?_
                    refine A_iload_n1 d_M_findBest_77 ?_
                    refine A_iload_n2 d_M_findBest_78 ?_
                    refine A_iload_n3 d_M_findBest_79 ?_
                    refine A_iload4 d_M_findBest_80 ?_
                    refine A_bipush (v := nI 25) d_M_findBest_82 (by decide) ?_
                    refine A_idivN d_M_findBest_84 (by with_reducible rfl) (by with_reducible rfl) (by omega) ?_
                    refine A_iload4 d_M_findBest_85 ?_
                    refine A_bipush (v := nI 25) d_M_findBest_87 (by decide) ?_
                    refine A_iremN d_M_findBest_89 (by with_reducible rfl) (by with_reducible rfl) (by omega) ?_
                    refine A_callVP d_M_findBest_90 (c_M_bestAtH hM (by rw [hb.1]; exact hw) (hb.hs hS) (hb.nd hN) first hfi (h9 := t) (V 0 - 1 - t) (by omega) (by omega) s (d / 25) (d % 25) hs (by omega) (fun n9 e => by have z := hA (t + 1) (Nat.le_refl _) (by omega); rw [show V 0 - 1 - n9 = t + 1 by omega]; exact z)) hM.o rfl q_1517 q_1519 qs_70 mk_M_bestAt rfl (by decide) rfl (Nat.le_of_ble_eq_true rfl) ⟨Nat.le_of_ble_eq_true rfl, Nat.le_of_ble_eq_true rfl⟩ ⟨rfl, rfl⟩ ?_
                    refine A_st39 hM d_M_findBest_93 (by omega) (fun h hM => ?_)
                    obtain ⟨S3, hM, e39, sb⟩ := opa9 hM
                    have e39 : S3.2.2.1 39 = fup (S1.2.2.1 39) (5000 * t + 625 * s + d) (encZ (bestB few V first (V 0 - 1 - t) s (d / 25) (d % 25))) := by rw [e39, show 5000 * (t % 25) + 625 * s + d = 5000 * t + 625 * s + d by omega]
                    first | refine A_iinc4 d_M_findBest_94 (nI_1 _) trivial ?_ | refine A_iinc4 d_M_findBest_94 rfl trivial ?_
                    refine A_goto (tgt := 24) d_M_findBest_97 (by decide) ?_
                    refine ihd _ _ hM (hb.tr sb) (fun h9 q1 q2 s2 d2 q3 q4 => (hA h9 q1 q2 s2 d2 q3 q4 |> fun z => BE.put e39 z (by omega) (by omega) hd q4 (Or.inl (by omega)))) (fun s2 d2 q1 q2 => BE.put e39 (hs2 s2 d2 q1 q2) (by omega) (by omega) hd q2 (Or.inr (Or.inl (by omega)))) (fun d2 q1 => ?_)
                    by_cases r : d2 = d
                    · rw [r]
                      unfold BE
                      rw [e39, fup_eq]
                      first | rw [if_pos (show t + 1 < d / 25 + d % 25 by omega)] | rw [if_neg (show ¬ t + 1 < d / 25 + d % 25 by omega)]
                    · exact BE.put e39 (hd2 d2 (by omega)) (by omega) (by omega) hd (by omega) (Or.inr (Or.inr r))
                  · refine A_ldcw d_M_findBest_70 q_1508 ?_
                    refine A_goto (tgt := 93) d_M_findBest_73 (by decide) ?_
                    refine A_st39 hM d_M_findBest_93 (by omega) (fun h hM => ?_)
                    obtain ⟨S3, hM, e39, sb⟩ := opa9 hM
                    have e39 : S3.2.2.1 39 = fup (S1.2.2.1 39) (5000 * t + 625 * s + d) (-2000000000) := by rw [e39, show 5000 * (t % 25) + 625 * s + d = 5000 * t + 625 * s + d by omega]
                    first | refine A_iinc4 d_M_findBest_94 (nI_1 _) trivial ?_ | refine A_iinc4 d_M_findBest_94 rfl trivial ?_
                    refine A_goto (tgt := 24) d_M_findBest_97 (by decide) ?_
                    refine ihd _ _ hM (hb.tr sb) (fun h9 q1 q2 s2 d2 q3 q4 => (hA h9 q1 q2 s2 d2 q3 q4 |> fun z => BE.put e39 z (by omega) (by omega) hd q4 (Or.inl (by omega)))) (fun s2 d2 q1 q2 => BE.put e39 (hs2 s2 d2 q1 q2) (by omega) (by omega) hd q2 (Or.inr (Or.inl (by omega)))) (fun d2 q1 => ?_)
                    by_cases r : d2 = d
                    · rw [r]
                      unfold BE
                      rw [e39, fup_eq]
                      first | rw [if_pos (show t + 1 < d / 25 + d % 25 by omega)] | rw [if_neg (show ¬ t + 1 < d / 25 + d % 25 by omega)]
                    · exact BE.put e39 (hd2 d2 (by omega)) (by omega) (by omega) hd (by omega) (Or.inr (Or.inr r))
            exact keyd 0 (Nat.zero_le _) _ _ hM hb hA hs2 (fun d2 q => absurd q (Nat.not_lt_zero _))
      exact keys 0 (Nat.zero_le _) _ _ hM hb hA (fun s2 d2 q => absurd q (Nat.not_lt_zero _))
  refine Ctr.of (by decide +kernel) (by simp) (Nat.le_of_ble_eq_true rfl) (L0 := [some (.ref m), some (.int (nI first)), none, none, none]) rfl ?_
  refine A_aload_n0 d_M_findBest_0 ?_
  refine A_getf (kf := 27) d_M_findBest_1 hM.o ok_8 (by decide) q_1076 rfl ?_
  refine A_topI hS.hours ?_
  refine A_iconst (v := nI 1) d_M_findBest_4 (by decide) ?_
  first | refine A_isubN d_M_findBest_5 (by with_reducible rfl) (by with_reducible rfl) (by omega) ?_ | refine A_isub d_M_findBest_5 ?_
  refine A_istore2 d_M_findBest_6 trivial ?_
  exact A_loc (by rw [show hI (V 0) = nI (V 0 - 1) from if_neg (by omega)]) (key (V 0) (Nat.le_refl _) _ _ hM (SA9.rf S) (fun h9 q1 q2 => absurd q2 (by omega)))
