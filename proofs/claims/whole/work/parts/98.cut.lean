set_option maxHeartbeats 4000000 in
set_option maxRecDepth 100000 in
theorem w_N_even2 {G : GE} {h : AH} {n a : Nat} (hO : h n = some (.inr (7, nfs n))) (hn : 1000 ≤ n) {D : LD} (hA : LAt h a D) {V : Nat → Nat} (hV : LVr D V) (ha : a + 9 ≤ n + 78) {f : Nat → Int32} (hL : h (n + 79) = some (.inl (0, 48, .inl f))) (hk : HWq V f (V 0)) (h14 : V 0 ≤ 14) : WA G y_N_evenCut b_N_evenCut 10 (some .int) r_N_evenCut 0 0 (Pu (.int (evenV V)) h) 0 0 5 [some (.ref n), some (.ref a), none, none, none, none, none, none, none, none] [] h := by
  have hV0 := hV
  obtain ⟨ok, ⟨f0, f1, f2, f3, f4, f9⟩, hP, hBe, hTo⟩ := hV
  have hH := ok.1
  have h4 := ok.2.2.2.2.1
  have h2p : 2 ^ V 0 ≤ 2 ^ 14 := Nat.pow_le_pow_right (by decide) h14
  have h2q : 1 ≤ 2 ^ V 0 := Nat.one_le_two_pow
  have key : ∀ i, i ≤ 2 ^ V 0 - 1 → WA G y_N_evenCut b_N_evenCut 10 (some .int) r_N_evenCut 0 0 (Pu (.int (evenV V)) h) 0 0 26 [some (.ref n), some (.ref a), some (.int (nI (otE V i (V 0)))), some (.int (nI (byE V i (V 0)))), some (.int (nI (evS V (i + 1)).1)), some (.int (nI (evS V (i + 1)).2)), some (.int (nI (i + 1))), none, none, none] [] h := by
    refine down ?_ (fun i hi ih => ?_)
    · rw [show 2 ^ V 0 - 1 + 1 = 2 ^ V 0 by omega]
      refine A_iload6 d_N_evenCut_26 ?_
      refine A_aload_n1 d_N_evenCut_28 ?_
      refine A_callVP d_N_evenCut_29 (c_Ld_allHours hA hV0) hA.o rfl q_888 q_889 q_890 mk_Ld_allHours rfl (by decide) rfl (Nat.le_of_ble_eq_true rfl) ⟨Nat.le_of_ble_eq_true rfl, Nat.le_of_ble_eq_true rfl⟩ ⟨rfl, rfl⟩ ?_
      refine A_topI (allI_N (V 0) (by omega)) ?_
      first | refine A_icmp_gtN (tgt := 144) d_N_evenCut_32 (by decide) (by with_reducible rfl) (by with_reducible rfl) (by omega) (by omega) (fun c_32 => ?_) (fun c_32 => ?_) | refine A_icmp_gt (tgt := 144) d_N_evenCut_32 (by decide) (fun c_32 => ?_) (fun c_32 => ?_)
      · refine A_iload4 d_N_evenCut_144 ?_
        refine A_iret d_N_evenCut_146 rfl ⟨Nat.zero_le _, Nat.zero_le _⟩ ?_
        exact pu rfl
      · exact absurd c_32 (by omega)
    · have hb := byE_le ok (i + 1) (n := V 0) (by omega)
      have hot := otE_le ok (i + 1) (n := V 0) (by omega)
      have hev := evS_le ok (i + 1)
      have es : evS V (i + 1 + 1) = if (evS V (i + 1)).2 < evF V (i + 1) then (i + 1, evF V (i + 1)) else evS V (i + 1) := rfl
      have hmin : min (otE V (i + 1) (V 0)) (byE V (i + 1) (V 0)) = evF V (i + 1) := Nat.min_comm _ _
      have h117 : WA G y_N_evenCut b_N_evenCut 10 (some .int) r_N_evenCut 0 0 (Pu (.int (evenV V)) h) 0 0 117 [some (.ref n), some (.ref a), some (.int (nI (otE V (i + 1) (V 0)))), some (.int (nI (byE V (i + 1) (V 0)))), some (.int (nI (evS V (i + 1)).1)), some (.int (nI (evS V (i + 1)).2)), some (.int (nI (i + 1))), none, none, none] [] h := by
        refine A_iload_n2 d_N_evenCut_117 ?_
        refine A_iload_n3 d_N_evenCut_118 ?_
        refine A_callSP d_N_evenCut_119 (c_JM_min _ _ _) q_892 q_438 mk_JM_min rfl (by decide) rfl (Nat.le_of_ble_eq_true rfl) ⟨Nat.le_of_ble_eq_true rfl, Nat.le_of_ble_eq_true rfl⟩ ⟨rfl, rfl⟩ ?_
        refine A_topI (show _ = nI (evF V (i + 1)) from (nI_minJ (by omega) (by omega)).trans (congrArg nI hmin)) ?_
        have hevf : evF V (i + 1) ≤ 2160 := by rw [← hmin]; omega
        refine A_iload5 d_N_evenCut_122 ?_
        first | refine A_icmp_leN (tgt := 138) d_N_evenCut_124 (by decide) (by with_reducible rfl) (by with_reducible rfl) (by omega) (by omega) (fun c_124 => ?_) (fun c_124 => ?_) | refine A_icmp_le (tgt := 138) d_N_evenCut_124 (by decide) (fun c_124 => ?_) (fun c_124 => ?_)
        · first | refine A_iinc6 d_N_evenCut_138 (nI_1 _) trivial ?_ | refine A_iinc6 d_N_evenCut_138 rfl trivial ?_
          refine A_goto (tgt := 26) d_N_evenCut_141 (by decide) ?_
          first
            | (rw [if_pos (show (evS V (i + 1)).2 < evF V (i + 1) from c_124)] at es
               rw [es] at ih
               exact ih)
            | (rw [if_neg (show ¬ (evS V (i + 1)).2 < evF V (i + 1) from Nat.not_lt.mpr c_124)] at es
               rw [es] at ih
               exact ih)
        · refine A_iload_n2 d_N_evenCut_127 ?_
          refine A_iload_n3 d_N_evenCut_128 ?_
          refine A_callSP d_N_evenCut_129 (c_JM_min _ _ _) q_892 q_438 mk_JM_min rfl (by decide) rfl (Nat.le_of_ble_eq_true rfl) ⟨Nat.le_of_ble_eq_true rfl, Nat.le_of_ble_eq_true rfl⟩ ⟨rfl, rfl⟩ ?_
          refine A_topI (show _ = nI (evF V (i + 1)) from (nI_minJ (by omega) (by omega)).trans (congrArg nI hmin)) ?_
          have hevf : evF V (i + 1) ≤ 2160 := by rw [← hmin]; omega
          refine A_istore5 d_N_evenCut_132 trivial ?_
          refine A_iload6 d_N_evenCut_134 ?_
          refine A_istore4 d_N_evenCut_136 trivial ?_
          first | refine A_iinc6 d_N_evenCut_138 (nI_1 _) trivial ?_ | refine A_iinc6 d_N_evenCut_138 rfl trivial ?_
          refine A_goto (tgt := 26) d_N_evenCut_141 (by decide) ?_
          first
            | (rw [if_pos (show (evS V (i + 1)).2 < evF V (i + 1) from c_124)] at es
               rw [es] at ih
               exact ih)
            | (rw [if_neg (show ¬ (evS V (i + 1)).2 < evF V (i + 1) from Nat.not_lt.mpr c_124)] at es
               rw [es] at ih
               exact ih)
      have hxl : (i + 1) ^^^ i < 2 ^ 31 := Nat.xor_lt_two_pow (by omega) (by omega)
      have key2 : ∀ j, j ≤ V 0 → WA G y_N_evenCut b_N_evenCut 10 (some .int) r_N_evenCut 0 0 (Pu (.int (evenV V)) h) 0 0 47 [some (.ref n), some (.ref a), some (.int (nI (mxO V i j))), some (.int (nI (mxB V i j))), some (.int (nI (evS V (i + 1)).1)), some (.int (nI (evS V (i + 1)).2)), some (.int (nI (i + 1))), some (.int (nI ((i + 1) ^^^ i))), some (.int (nI j)), none] [] h := by
        refine down ?_ (fun j hj ih2 => ?_)
        · refine A_iload8 d_N_evenCut_47 ?_
          refine A_aload_n1 d_N_evenCut_49 ?_
          refine A_getf (kf := 0) d_N_evenCut_50 hA.o ok_1 (by decide) q_49 rfl ?_
          refine A_topI f0 ?_
          first | refine A_icmp_geN (tgt := 117) d_N_evenCut_53 (by decide) (by with_reducible rfl) (by with_reducible rfl) (by omega) (by omega) (fun c_53 => ?_) (fun c_53 => ?_) | refine A_icmp_ge (tgt := 117) d_N_evenCut_53 (by decide) (fun c_53 => ?_) (fun c_53 => ?_)
          · have me := mx_e (V := V) (k := i) (j := V 0) (by omega) (.inl (Nat.le_refl _))
            rw [me.1, me.2]
            exact A_drop8 (A_drop7 h117)
          · exact absurd c_53 (by omega)
        · refine A_iload8 d_N_evenCut_47 ?_
          refine A_aload_n1 d_N_evenCut_49 ?_
          refine A_getf (kf := 0) d_N_evenCut_50 hA.o ok_1 (by decide) q_49 rfl ?_
          refine A_topI f0 ?_
          first | refine A_icmp_geN (tgt := 117) d_N_evenCut_53 (by decide) (by with_reducible rfl) (by with_reducible rfl) (by omega) (by omega) (fun c_53 => ?_) (fun c_53 => ?_) | refine A_icmp_ge (tgt := 117) d_N_evenCut_53 (by decide) (fun c_53 => ?_) (fun c_53 => ?_)
          · first
              | (exfalso; omega)
              | (have me := mx_e (V := V) (k := i) (j := j) (by omega) (.inr c_61)
                 rw [me.1, me.2]
                 exact A_drop8 (A_drop7 h117))
          · refine A_iload7 d_N_evenCut_56 ?_
            refine A_iload8 d_N_evenCut_58 ?_
            refine A_ishr d_N_evenCut_60 ?_
            have hsl : ((i + 1) ^^^ i) >>> j ≤ (i + 1) ^^^ i := Nat.shiftRight_le _ _
            refine A_topN (k := ((i + 1) ^^^ i) >>> j) (nI_shr hxl (by omega)) ?_
            first | refine A_if_eqN (tgt := 117) d_N_evenCut_61 (by decide) (by with_reducible rfl) (by omega) (fun c_61 => ?_) (fun c_61 => ?_) | refine A_if_eq (tgt := 117) d_N_evenCut_61 (by decide) (fun c_61 => ?_) (fun c_61 => ?_)
            · first
                | (exfalso; omega)
                | (have me := mx_e (V := V) (k := i) (j := j) (by omega) (.inr c_61)
                   rw [me.1, me.2]
                   exact A_drop8 (A_drop7 h117))
            · refine A_iload6 d_N_evenCut_64 ?_
              refine A_iload8 d_N_evenCut_66 ?_
              refine A_ishr d_N_evenCut_68 ?_
              refine A_iconst (v := nI 1) d_N_evenCut_69 (by decide) ?_
              refine A_iand d_N_evenCut_70 ?_
              refine A_iconst (v := nI 1) d_N_evenCut_71 (by decide) ?_
              first | refine A_icmp_neN (tgt := 79) d_N_evenCut_72 (by decide) (by with_reducible rfl) (by with_reducible rfl) (by omega) (by omega) (fun c_72 => ?_) (fun c_72 => ?_) | refine A_icmp_ne (tgt := 79) d_N_evenCut_72 (by decide) (fun c_72 => ?_) (fun c_72 => ?_)
              · have hbt : (i + 1).testBit j = false := by
                  rw [← hasB_tb (show j < 32 by omega)]
                  exact decide_eq_false c_72
                have hm := mx_s (V := V) (k := i) (j := j) hj (by omega)
                rw [hbt, if_neg (by decide)] at hm
                refine A_iconst (v := (-1)) d_N_evenCut_79 (by decide) ?_
                refine A_istore9 d_N_evenCut_80 trivial ?_
                refine A_iload_n3 d_N_evenCut_82 ?_
                refine A_iload9 d_N_evenCut_83 ?_
                refine A_aload_n0 d_N_evenCut_85 ?_
                refine A_getf (kf := 5) d_N_evenCut_86 hO ok_7 (by decide) q_373 rfl ?_
                refine A_bipush (v := nI 24) d_N_evenCut_89 (by decide) ?_
                refine A_iload8 d_N_evenCut_91 ?_
                first | refine A_iaddN d_N_evenCut_93 (by with_reducible rfl) (by with_reducible rfl) ?_ | refine A_iadd d_N_evenCut_93 ?_
                refine A_ialdN d_N_evenCut_94 hL ⟨by omega, by decide⟩ ?_
                refine A_topI (hk j hj).2 ?_
                first | refine A_imulN d_N_evenCut_95 (by with_reducible rfl) (by with_reducible rfl) ?_ | refine A_imul d_N_evenCut_95 ?_
                first | refine A_iaddN d_N_evenCut_96 (by with_reducible rfl) (by with_reducible rfl) ?_ | refine A_iadd d_N_evenCut_96 ?_
                first
                  | refine A_topN (k := mxB V i (j + 1)) (by rw [hm.1, Nat.one_mul]) ?_
                  | refine A_topN (k := mxB V i (j + 1)) (sg_add hm.1) ?_
                refine A_istore3 d_N_evenCut_97 trivial ?_
                refine A_iload_n2 d_N_evenCut_98 ?_
                refine A_iload9 d_N_evenCut_99 ?_
                refine A_aload_n0 d_N_evenCut_101 ?_
                refine A_getf (kf := 5) d_N_evenCut_102 hO ok_7 (by decide) q_373 rfl ?_
                refine A_iload8 d_N_evenCut_105 ?_
                have hm2 := hm.2
                have hm1 := hm.1
                refine A_ialdN d_N_evenCut_107 hL ⟨by omega, by decide⟩ ?_
                refine A_topI (hk j hj).1 ?_
                first | refine A_imulN d_N_evenCut_108 (by with_reducible rfl) (by with_reducible rfl) ?_ | refine A_imul d_N_evenCut_108 ?_
                first | refine A_isubN d_N_evenCut_109 (by with_reducible rfl) (by with_reducible rfl) (by omega) ?_ | refine A_isub d_N_evenCut_109 ?_
                first
                  | refine A_topN (k := mxO V i (j + 1)) (congrArg nI (by have := hm.2; omega)) ?_
                  | refine A_topN (k := mxO V i (j + 1)) (sg_sub.trans (congrArg nI hm.2.symm)) ?_
                refine A_istore2 d_N_evenCut_110 trivial ?_
                first | refine A_iinc8 d_N_evenCut_111 (nI_1 _) trivial ?_ | refine A_iinc8 d_N_evenCut_111 rfl trivial ?_
                refine A_goto (tgt := 47) d_N_evenCut_114 (by decide) ?_
                exact A_drop9 ih2
              · have hbt : (i + 1).testBit j = true := by
                  rw [← hasB_tb (show j < 32 by omega)]
                  exact decide_eq_true c_72
                have hm := mx_s (V := V) (k := i) (j := j) hj (by omega)
                rw [hbt, if_pos rfl] at hm
                refine A_iconst (v := nI 1) d_N_evenCut_75 (by decide) ?_
                refine A_goto (tgt := 80) d_N_evenCut_76 (by decide) ?_
                refine A_istore9 d_N_evenCut_80 trivial ?_
                refine A_iload_n3 d_N_evenCut_82 ?_
                refine A_iload9 d_N_evenCut_83 ?_
                refine A_aload_n0 d_N_evenCut_85 ?_
                refine A_getf (kf := 5) d_N_evenCut_86 hO ok_7 (by decide) q_373 rfl ?_
                refine A_bipush (v := nI 24) d_N_evenCut_89 (by decide) ?_
                refine A_iload8 d_N_evenCut_91 ?_
                first | refine A_iaddN d_N_evenCut_93 (by with_reducible rfl) (by with_reducible rfl) ?_ | refine A_iadd d_N_evenCut_93 ?_
                refine A_ialdN d_N_evenCut_94 hL ⟨by omega, by decide⟩ ?_
                refine A_topI (hk j hj).2 ?_
                first | refine A_imulN d_N_evenCut_95 (by with_reducible rfl) (by with_reducible rfl) ?_ | refine A_imul d_N_evenCut_95 ?_
                first | refine A_iaddN d_N_evenCut_96 (by with_reducible rfl) (by with_reducible rfl) ?_ | refine A_iadd d_N_evenCut_96 ?_
                first
                  | refine A_topN (k := mxB V i (j + 1)) (by rw [hm.1, Nat.one_mul]) ?_
                  | refine A_topN (k := mxB V i (j + 1)) (sg_add hm.1) ?_
                refine A_istore3 d_N_evenCut_97 trivial ?_
                refine A_iload_n2 d_N_evenCut_98 ?_
                refine A_iload9 d_N_evenCut_99 ?_
                refine A_aload_n0 d_N_evenCut_101 ?_
                refine A_getf (kf := 5) d_N_evenCut_102 hO ok_7 (by decide) q_373 rfl ?_
                refine A_iload8 d_N_evenCut_105 ?_
                have hm2 := hm.2
                have hm1 := hm.1
                refine A_ialdN d_N_evenCut_107 hL ⟨by omega, by decide⟩ ?_
                refine A_topI (hk j hj).1 ?_
                first | refine A_imulN d_N_evenCut_108 (by with_reducible rfl) (by with_reducible rfl) ?_ | refine A_imul d_N_evenCut_108 ?_
                first | refine A_isubN d_N_evenCut_109 (by with_reducible rfl) (by with_reducible rfl) (by omega) ?_ | refine A_isub d_N_evenCut_109 ?_
                first
                  | refine A_topN (k := mxO V i (j + 1)) (congrArg nI (by have := hm.2; omega)) ?_
                  | refine A_topN (k := mxO V i (j + 1)) (sg_sub.trans (congrArg nI hm.2.symm)) ?_
                refine A_istore2 d_N_evenCut_110 trivial ?_
                first | refine A_iinc8 d_N_evenCut_111 (nI_1 _) trivial ?_ | refine A_iinc8 d_N_evenCut_111 rfl trivial ?_
                refine A_goto (tgt := 47) d_N_evenCut_114 (by decide) ?_
                exact A_drop9 ih2
      refine A_iload6 d_N_evenCut_26 ?_
      refine A_aload_n1 d_N_evenCut_28 ?_
      refine A_callVP d_N_evenCut_29 (c_Ld_allHours hA hV0) hA.o rfl q_888 q_889 q_890 mk_Ld_allHours rfl (by decide) rfl (Nat.le_of_ble_eq_true rfl) ⟨Nat.le_of_ble_eq_true rfl, Nat.le_of_ble_eq_true rfl⟩ ⟨rfl, rfl⟩ ?_
      refine A_topI (allI_N (V 0) (by omega)) ?_
      first | refine A_icmp_gtN (tgt := 144) d_N_evenCut_32 (by decide) (by with_reducible rfl) (by with_reducible rfl) (by omega) (by omega) (fun c_32 => ?_) (fun c_32 => ?_) | refine A_icmp_gt (tgt := 144) d_N_evenCut_32 (by decide) (fun c_32 => ?_) (fun c_32 => ?_)
      · exact absurd c_32 (by omega)
      · refine A_iload6 d_N_evenCut_35 ?_
        refine A_iload6 d_N_evenCut_37 ?_
        refine A_iconst (v := nI 1) d_N_evenCut_39 (by decide) ?_
        first | refine A_isubN d_N_evenCut_40 (by with_reducible rfl) (by with_reducible rfl) (by omega) ?_ | refine A_isub d_N_evenCut_40 ?_
        refine A_ixor d_N_evenCut_41 ?_
        refine A_topN (k := (i + 1) ^^^ i) ((nI_xor _ _).trans (congrArg nI (congrArg (fun z => (i + 1) ^^^ z) (show i + 1 - 1 = i by omega)))) ?_
        refine A_istore7 d_N_evenCut_42 trivial ?_
        refine A_iconst (v := nI 0) d_N_evenCut_44 (by decide) ?_
        refine A_istore8 d_N_evenCut_45 trivial ?_
        have m0 := mx_0 (V := V) i (by omega)
        rw [← m0.1, ← m0.2]
        exact key2 0 (Nat.zero_le _)
  refine A_aload_n1 d_N_evenCut_5 ?_
  refine A_iconst (v := nI 0) d_N_evenCut_6 (by decide) ?_
  refine A_aload_n1 d_N_evenCut_7 ?_
  refine A_callVP d_N_evenCut_8 (c_Ld_allHours hA hV0) hA.o rfl q_888 q_889 q_890 mk_Ld_allHours rfl (by decide) rfl (Nat.le_of_ble_eq_true rfl) ⟨Nat.le_of_ble_eq_true rfl, Nat.le_of_ble_eq_true rfl⟩ ⟨rfl, rfl⟩ ?_
  refine A_callVP d_N_evenCut_11 (c_Ld_worthOf hA hV0 0 (by decide) _) hA.o rfl q_871 q_803 q_804 mk_Ld_worthOf rfl (by decide) rfl (Nat.le_of_ble_eq_true rfl) ⟨Nat.le_of_ble_eq_true rfl, Nat.le_of_ble_eq_true rfl⟩ ⟨rfl, rfl⟩ ?_
  refine A_topI (congrArg nI (otE_all (by omega))) ?_
  refine A_istore2 d_N_evenCut_14 trivial ?_
  refine A_iconst (v := nI 0) d_N_evenCut_15 (by decide) ?_
  refine A_istore3 d_N_evenCut_16 trivial ?_
  refine A_iconst (v := nI 0) d_N_evenCut_17 (by decide) ?_
  refine A_istore4 d_N_evenCut_18 trivial ?_
  refine A_iconst (v := nI 0) d_N_evenCut_20 (by decide) ?_
  refine A_istore5 d_N_evenCut_21 trivial ?_
  refine A_iconst (v := nI 1) d_N_evenCut_23 (by decide) ?_
  refine A_istore6 d_N_evenCut_24 trivial ?_
  have k0 := key 0 (Nat.zero_le _)
  have e1 : evS V (0 + 1) = (0, 0) := by
    show (if (0 : Nat) < evF V 0 then (0, evF V 0) else (0, 0)) = _
    rw [evF_0 (by omega), if_neg (Nat.lt_irrefl _)]
  rw [e1, byE_0 V _ (by omega)] at k0
  exact k0
theorem WA.post {G : GE} {y : MethodName} {cc : ByteArray} {nL : Nat} {ret : Option FieldType} {R : Room} {mc ms : Nat} {K K' : Option Value → AH → Prop} {u n pc : Nat} {L : List (Option Value)} {st : List Value} {h : AH} (hk : ∀ v h1, K v h1 → K' v h1) (k : WA G y cc nL ret R mc ms K u n pc L st h) : WA G y cc nL ret R mc ms K' u n pc L st h := by
  intro l p e s m args below meth c H locs ls a r hl hf T hT X
  obtain ⟨t, a1, o, b1, b2, b3, b4⟩ := k l p e s m args below meth c H locs ls a r hl hf T hT X
  refine ⟨t, a1, o, b1, b2, ?_, b4⟩
  obtain ⟨v, h', c1, c2, c3⟩ := b3
  exact ⟨v, h', c1, c2, hk v h' c3⟩
set_option maxHeartbeats 4000000 in
set_option maxRecDepth 100000 in
theorem c_N_evenCut {G : GE} {h : AH} {n a : Nat} (hO : h n = some (.inr (7, nfs n))) (hn : 1000 ≤ n) {D : LD} (hA : LAt h a D) {V : Nat → Nat} (hV : LVr D V) (ha : a + 9 ≤ n + 78) {f0' : Nat → Int32} (hL : h (n + 79) = some (.inl (0, 48, .inl f0'))) (h14 : V 0 ≤ 14)  : Ctr G y_N_evenCut b_N_evenCut 10 (some .int) r_N_evenCut [.ref n, .ref a] h (fun v h1 => v = some (.int (evenV V)) ∧ ∃ f, h1 = (hset h (n + 79) (.inl (0, 48, .inl f)))) := by
  refine Ctr.of (by decide +kernel) (by simp) (Nat.le_of_ble_eq_true rfl) (L0 := [some (.ref n), some (.ref a), none, none, none, none, none, none, none, none]) rfl ?_
  refine A_aload_n0 d_N_evenCut_0 ?_
  refine A_aload_n1 d_N_evenCut_1 ?_
  refine A_callV d_N_evenCut_2 (c_N_weighHours hO hn hA hV (by omega) hL) hO rfl q_884 q_886 qs_5 mk_N_weighHours rfl (by decide) rfl (Nat.le_of_ble_eq_true rfl) ⟨Nat.le_of_ble_eq_true rfl, Nat.le_of_ble_eq_true rfl⟩ ?_
  rintro _ h1 ⟨rfl, f, rfl, hk0⟩
  refine WA.post ?_ (w_N_even2 ((hset_ne (by omega)).trans hO) hn (hA.hs (by omega)) hV (by omega) (hset_eq _ _ _) hk0 h14)
  rintro v h1 ⟨rfl, rfl⟩
  exact ⟨rfl, f, rfl⟩
