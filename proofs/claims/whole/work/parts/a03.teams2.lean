theorem SCR.ht {h : AH} {n : Nat} (hs : SCR h n) (T U : Nat → Int32) : SCR (HT2 h n T U) n := by
  obtain ⟨⟨f1, h1⟩, ⟨f2, h2⟩, _, _⟩ := hs
  exact ⟨⟨f1, (HT2.far (by omega)).trans h1⟩, ⟨f2, (HT2.far (by omega)).trans h2⟩, ⟨T, HT2.c80⟩, ⟨U, HT2.c81⟩⟩
theorem sxHT {h : AH} {n : Nat} {r r' : Int32} (hs : SCR h n) (T U : Nat → Int32) (e : r' = r) : SX h n r (some (.int r')) (HT2 h n T U) := ⟨by rw [e], hs.ht T U, fun _ _ => HT2.far (by omega)⟩
theorem hI_p {x : Nat} (h : 1 ≤ x) : hI x = nI (x - 1) := if_neg (by omega)
set_option maxHeartbeats 4000000 in
set_option maxRecDepth 100000 in
theorem c_N_teams {G : GE} {h : AH} {n : Nat} {W : TD} {c : Nat → Nat} {VL WT BK SG GM : Nat → Nat → Nat} (hN : NT h n W c VL WT BK SG GM) (hn : 1000 ≤ n) (hs : SCR h n) (la ka x : Int32) : Ctr G y_N_teams b_N_teams 11 (some .int) r_N_teams [.ref n, .int la, .int ka, .int x] h (SX h n (pick (c 0) la (fun l => rg x 0 2 (fun w => rg ka 1 (VL l 5) (fun k => teamsV (VL l) k w) (-1)) (-1)) (-1))) := by
  refine Ctr.of (by decide +kernel) (by simp) (Nat.le_of_ble_eq_true rfl) (L0 := [some (.ref n), some (.int la), some (.int ka), some (.int x), none, none, none, none, none, none, none]) rfl ?_
  have hc0 := (hN.r.n 0 (by decide)).2
  rcases told_c (n := c 0) (by omega) la with ⟨l, hl, rfl⟩ | hno
  · rw [pick_in hl (by omega)]
    have hA := hN.a.l l (by omega)
    have hV := hN.r.l l hl
    have hV0 := hV
    obtain ⟨ok, ⟨f0, f1, f2, f3, f4, f9⟩, hP, hBe, hTo⟩ := hV
    have hH := ok.1
    have h4 := ok.2.2.2.2.1
    have h5 := ok.2.2.2.2.2.1
    obtain ⟨_, _, ⟨T0, hT0⟩, ⟨U0, hU0⟩⟩ := id hs
    rcases rg_c (lo := 0) (hi := 2) (by decide) (by decide) x with ⟨w, -, hw2, rfl⟩ | hrx
    · rw [rg_in ⟨by omega, hw2⟩ (by decide)]
      rcases rg_c (lo := 1) (hi := VL l 5) (by decide) (by omega) ka with ⟨k, hk1, hk2, rfl⟩ | hrk
      · rw [rg_in ⟨hk1, hk2⟩ (by omega)]
        have hkp : k ^ (VL l 5 - 1) ≤ 6 ^ 5 := Nat.le_trans (Nat.pow_le_pow_left (by omega) _) (Nat.pow_le_pow_right (by decide) (by omega))
        have hkp1 : 1 ≤ k ^ (VL l 5 - 1) := Nat.one_le_pow _ _ (by omega)
        have h10 : 10 ^ VL l 5 ≤ 10 ^ 6 := Nat.pow_le_pow_right (by decide) h5
        have h10p : 0 < 10 ^ VL l 5 := Nat.pow_pos (by decide)
        have keyB : ∀ z, z ≤ k ^ (VL l 5 - 1) → ∀ T U, WA G y_N_teams b_N_teams 11 (some .int) r_N_teams 0 0 (SX h n (teamsV (VL l) k w)) 0 0 100 [some (.ref n), some (.int (nI l)), some (.int (nI k)), some (.int (nI w)), some (.ref (n + 1 + 12 + 17 * l)), some (.int (nI (k ^ (VL l 5 - 1)))), some (.int (nI (10 ^ VL l 5))), some (.int (nI (tmC (VL l) k z).2)), some (.int (hI (tmC (VL l) k z).1)), some (.int (nI z)), none] [] (HT2 h n T U) := by
          refine down ?_ (fun z hz ih => ?_)
          · intro T U
            have e1 := tmC_S (VL l) k (k ^ (VL l 5 - 1))
            have hx1 := tmS_pos ok hk1 hk2
            rw [tmS_end hk1 (by omega), e1.1] at hx1
            have hx2 := tmS_le ok k (k ^ (VL l 5 - 1))
            rw [e1.1] at hx2
            have hfl := tmC_lt (V := VL l) (k := k) (k ^ (VL l 5 - 1)) (by omega)
            have hg1 := Nat.gcd_pos_of_pos_left ((tmC (VL l) k (k ^ (VL l 5 - 1))).1 - 1) h10p
            have hg2 := Nat.gcd_le_left ((tmC (VL l) k (k ^ (VL l 5 - 1))).1 - 1) h10p
            have hgc := Nat.gcd_comm (10 ^ VL l 5) ((tmC (VL l) k (k ^ (VL l 5 - 1))).1 - 1)
            have hc1 : (tmC (VL l) k (k ^ (VL l 5 - 1))).1 - 1 < 2 ^ 31 := by omega
            rw [hI_p hx1]
            rcases (show w = 0 ∨ w = 1 ∨ w = 2 by omega) with rfl | rfl | rfl
            · refine A_iload9 d_N_teams_100 ?_
              refine A_iload5 d_N_teams_102 ?_
              first | refine A_icmp_geN (tgt := 139) d_N_teams_104 (by decide) (by with_reducible rfl) (by with_reducible rfl) (by omega) (by omega) (fun c_104 => ?_) (fun c_104 => ?_) | refine A_icmp_ge (tgt := 139) d_N_teams_104 (by decide) (fun c_104 => ?_) (fun c_104 => ?_)
              · refine A_iload6 d_N_teams_139 ?_
                refine A_iload8 d_N_teams_141 ?_
                refine A_callSP d_N_teams_143 (c_N_commonDivisor _ (10 ^ VL l 5) ((tmC (VL l) k (k ^ (VL l 5 - 1))).1 - 1) h10p (by omega) hc1) q_965 q_966 mk_N_commonDivisor rfl (by decide) rfl (Nat.le_of_ble_eq_true rfl) ⟨Nat.le_of_ble_eq_true rfl, Nat.le_of_ble_eq_true rfl⟩ ⟨rfl, rfl⟩ ?_
                refine A_istore9 d_N_teams_146 trivial ?_
                refine A_iload_n3 d_N_teams_148 ?_
                refine A_iconst (v := nI 2) d_N_teams_149 (by decide) ?_
                refine A_icmp_ne (tgt := 165) d_N_teams_150 (by decide) (fun c_150 => ?_) (fun c => absurd c (by decide))
                refine A_iload_n3 d_N_teams_165 ?_
                refine A_if_ne (tgt := 174) d_N_teams_166 (by decide) (fun c => absurd rfl c) (fun c_166 => ?_)
                refine A_iload8 d_N_teams_169 ?_
                refine A_goto (tgt := 176) d_N_teams_171 (by decide) ?_
                refine A_iload9 d_N_teams_176 ?_
                refine A_idivN d_N_teams_178 (by with_reducible rfl) (by with_reducible rfl) (by omega) ?_
                refine A_iret d_N_teams_179 rfl ⟨Nat.zero_le _, Nat.zero_le _⟩ ?_
                exact sxHT hs T U (by unfold teamsV; rw [if_pos rfl, tmS_end hk1 (by omega), e1.1, ← hgc])
              · exact absurd c_104 (by omega)
            · refine A_iload9 d_N_teams_100 ?_
              refine A_iload5 d_N_teams_102 ?_
              first | refine A_icmp_geN (tgt := 139) d_N_teams_104 (by decide) (by with_reducible rfl) (by with_reducible rfl) (by omega) (by omega) (fun c_104 => ?_) (fun c_104 => ?_) | refine A_icmp_ge (tgt := 139) d_N_teams_104 (by decide) (fun c_104 => ?_) (fun c_104 => ?_)
              · refine A_iload6 d_N_teams_139 ?_
                refine A_iload8 d_N_teams_141 ?_
                refine A_callSP d_N_teams_143 (c_N_commonDivisor _ (10 ^ VL l 5) ((tmC (VL l) k (k ^ (VL l 5 - 1))).1 - 1) h10p (by omega) hc1) q_965 q_966 mk_N_commonDivisor rfl (by decide) rfl (Nat.le_of_ble_eq_true rfl) ⟨Nat.le_of_ble_eq_true rfl, Nat.le_of_ble_eq_true rfl⟩ ⟨rfl, rfl⟩ ?_
                refine A_istore9 d_N_teams_146 trivial ?_
                refine A_iload_n3 d_N_teams_148 ?_
                refine A_iconst (v := nI 2) d_N_teams_149 (by decide) ?_
                refine A_icmp_ne (tgt := 165) d_N_teams_150 (by decide) (fun c_150 => ?_) (fun c => absurd c (by decide))
                refine A_iload_n3 d_N_teams_165 ?_
                refine A_if_ne (tgt := 174) d_N_teams_166 (by decide) (fun c_166 => ?_) (fun c => absurd c (by decide))
                refine A_iload6 d_N_teams_174 ?_
                refine A_iload9 d_N_teams_176 ?_
                refine A_idivN d_N_teams_178 (by with_reducible rfl) (by with_reducible rfl) (by omega) ?_
                refine A_iret d_N_teams_179 rfl ⟨Nat.zero_le _, Nat.zero_le _⟩ ?_
                exact sxHT hs T U (by unfold teamsV; rw [if_neg (by decide), if_pos rfl, tmS_end hk1 (by omega), e1.1, ← hgc])
              · exact absurd c_104 (by omega)
            · refine A_iload9 d_N_teams_100 ?_
              refine A_iload5 d_N_teams_102 ?_
              first | refine A_icmp_geN (tgt := 139) d_N_teams_104 (by decide) (by with_reducible rfl) (by with_reducible rfl) (by omega) (by omega) (fun c_104 => ?_) (fun c_104 => ?_) | refine A_icmp_ge (tgt := 139) d_N_teams_104 (by decide) (fun c_104 => ?_) (fun c_104 => ?_)
              · refine A_iload6 d_N_teams_139 ?_
                refine A_iload8 d_N_teams_141 ?_
                refine A_callSP d_N_teams_143 (c_N_commonDivisor _ (10 ^ VL l 5) ((tmC (VL l) k (k ^ (VL l 5 - 1))).1 - 1) h10p (by omega) hc1) q_965 q_966 mk_N_commonDivisor rfl (by decide) rfl (Nat.le_of_ble_eq_true rfl) ⟨Nat.le_of_ble_eq_true rfl, Nat.le_of_ble_eq_true rfl⟩ ⟨rfl, rfl⟩ ?_
                refine A_istore9 d_N_teams_146 trivial ?_
                refine A_iload_n3 d_N_teams_148 ?_
                refine A_iconst (v := nI 2) d_N_teams_149 (by decide) ?_
                refine A_icmp_ne (tgt := 165) d_N_teams_150 (by decide) (fun c => absurd rfl c) (fun c_150 => ?_)
                refine A_iload7 d_N_teams_153 ?_
                refine A_iload_n2 d_N_teams_155 ?_
                refine A_aload4 d_N_teams_156 ?_
                refine A_getf (kf := 9) d_N_teams_158 (hA.kept (fun i _ _ => HT2.far (h := h) (n := n) (T := T) (U := U) (by omega))).o ok_1 (by decide) q_78 rfl ?_
                refine A_topI f9 ?_
                refine A_callSP d_N_teams_161 (c_N_inBaseEight _ _ k (VL l 5) (by omega) hk1 (by omega) h5) q_968 q_969 mk_N_inBaseEight rfl (by decide) rfl (Nat.le_of_ble_eq_true rfl) ⟨Nat.le_of_ble_eq_true rfl, Nat.le_of_ble_eq_true rfl⟩ ⟨rfl, rfl⟩ ?_
                refine A_iret d_N_teams_164 rfl ⟨Nat.zero_le _, Nat.zero_le _⟩ ?_
                exact sxHT hs T U (by unfold teamsV; rw [if_neg (by decide), if_neg (by decide), tmS_end hk1 (by omega), e1.2, fig_end])
              · exact absurd c_104 (by omega)
          · intro T U
            have ho := o1_le ok (tm := digN k (VL l 5) z) (t := k)
            have hx2 := tmS_le ok k z
            rw [(tmC_S (VL l) k z).1] at hx2
            have es : tmC (VL l) k (z + 1) = if (tmC (VL l) k z).1 < o1 (chT (VL l) (digN k (VL l 5) z) k) then (o1 (chT (VL l) (digN k (VL l 5) z) k), z) else tmC (VL l) k z := rfl
            have hle := hI_le (a := o1 (chT (VL l) (digN k (VL l 5) z) k)) (b := (tmC (VL l) k z).1) (by omega) (by omega)
            refine A_iload9 d_N_teams_100 ?_
            refine A_iload5 d_N_teams_102 ?_
            first | refine A_icmp_geN (tgt := 139) d_N_teams_104 (by decide) (by with_reducible rfl) (by with_reducible rfl) (by omega) (by omega) (fun c_104 => ?_) (fun c_104 => ?_) | refine A_icmp_ge (tgt := 139) d_N_teams_104 (by decide) (fun c_104 => ?_) (fun c_104 => ?_)
            · exact absurd c_104 (by omega)
            · refine A_aload_n0 d_N_teams_107 ?_
              refine A_aload4 d_N_teams_108 ?_
              refine A_iload_n2 d_N_teams_110 ?_
              refine A_iload9 d_N_teams_111 ?_
              refine A_callV d_N_teams_113 (c_N_chanceOf ((HT2.far (by omega)).trans hN.o) hn (hA.kept (fun i _ _ => HT2.far (h := h) (n := n) (T := T) (U := U) (by omega))) hV0 (by omega) HT2.c80 HT2.c81 k z hk1 hk2 (by omega)) ((HT2.far (by omega)).trans hN.o) rfl q_960 q_962 qs_14 mk_N_chanceOf rfl (by decide) rfl (Nat.le_of_ble_eq_true rfl) ⟨Nat.le_of_ble_eq_true rfl, Nat.le_of_ble_eq_true rfl⟩ ?_
              rintro _ h1 ⟨rfl, T', U', rfl⟩
              rw [HT2.tw]
              refine A_topI (encN_hI _) ?_
              refine A_istore10 d_N_teams_116 trivial ?_
              refine A_iload10 d_N_teams_118 ?_
              refine A_iload8 d_N_teams_120 ?_
              first | refine A_icmp_leN (tgt := 133) d_N_teams_122 (by decide) (by with_reducible rfl) (by with_reducible rfl) (by omega) (by omega) (fun c_122 => ?_) (fun c_122 => ?_) | refine A_icmp_le (tgt := 133) d_N_teams_122 (by decide) (fun c_122 => ?_) (fun c_122 => ?_)
              · first | refine A_iinc9 d_N_teams_133 (nI_1 _) trivial ?_ | refine A_iinc9 d_N_teams_133 rfl trivial ?_
                refine A_goto (tgt := 100) d_N_teams_136 (by decide) ?_
                first
                  | (rw [if_neg (show ¬ (tmC (VL l) k z).1 < o1 (chT (VL l) (digN k (VL l 5) z) k) from Nat.not_lt.mpr (hle.mp c_122))] at es
                     rw [es] at ih
                     exact A_drop10 (ih T' U'))
                  | (rw [if_pos (show (tmC (VL l) k z).1 < o1 (chT (VL l) (digN k (VL l 5) z) k) from Nat.not_le.mp (fun y => c_122 (hle.mpr y)))] at es
                     rw [es] at ih
                     exact A_drop10 (ih T' U'))
                  | (rw [if_pos (show (tmC (VL l) k z).1 < o1 (chT (VL l) (digN k (VL l 5) z) k) from Nat.not_le.mp (fun y => absurd (hle.mpr y) (Int32.not_le.mpr c_122)))] at es
                     rw [es] at ih
                     exact A_drop10 (ih T' U'))
              · refine A_iload10 d_N_teams_125 ?_
                refine A_istore8 d_N_teams_127 trivial ?_
                refine A_iload9 d_N_teams_129 ?_
                refine A_istore7 d_N_teams_131 trivial ?_
                first | refine A_iinc9 d_N_teams_133 (nI_1 _) trivial ?_ | refine A_iinc9 d_N_teams_133 rfl trivial ?_
                refine A_goto (tgt := 100) d_N_teams_136 (by decide) ?_
                first
                  | (rw [if_neg (show ¬ (tmC (VL l) k z).1 < o1 (chT (VL l) (digN k (VL l 5) z) k) from Nat.not_lt.mpr (hle.mp c_122))] at es
                     rw [es] at ih
                     exact A_drop10 (ih T' U'))
                  | (rw [if_pos (show (tmC (VL l) k z).1 < o1 (chT (VL l) (digN k (VL l 5) z) k) from Nat.not_le.mp (fun y => c_122 (hle.mpr y)))] at es
                     rw [es] at ih
                     exact A_drop10 (ih T' U'))
                  | (rw [if_pos (show (tmC (VL l) k z).1 < o1 (chT (VL l) (digN k (VL l 5) z) k) from Nat.not_le.mp (fun y => absurd (hle.mpr y) (Int32.not_le.mpr c_122)))] at es
                     rw [es] at ih
                     exact A_drop10 (ih T' U'))
        have key : ∀ i, i ≤ VL l 5 - 1 → WA G y_N_teams b_N_teams 11 (some .int) r_N_teams 0 0 (SX h n (teamsV (VL l) k w)) 0 0 62 [some (.ref n), some (.int (nI l)), some (.int (nI k)), some (.int (nI w)), some (.ref (n + 1 + 12 + 17 * l)), some (.int (nI (k ^ i))), some (.int (nI (10 ^ (i + 1)))), some (.int (nI (i + 1))), none, none, none] [] h := by
          refine down ?_ (fun i hi ih => ?_)
          · rw [show VL l 5 - 1 + 1 = VL l 5 by omega]
            refine A_iload7 d_N_teams_62 ?_
            refine A_aload4 d_N_teams_64 ?_
            refine A_getf (kf := 9) d_N_teams_66 hA.o ok_1 (by decide) q_78 rfl ?_
            refine A_topI f9 ?_
            first | refine A_icmp_geN (tgt := 91) d_N_teams_69 (by decide) (by with_reducible rfl) (by with_reducible rfl) (by omega) (by omega) (fun c_69 => ?_) (fun c_69 => ?_) | refine A_icmp_ge (tgt := 91) d_N_teams_69 (by decide) (fun c_69 => ?_) (fun c_69 => ?_)
            · refine A_iconst (v := nI 0) d_N_teams_91 (by decide) ?_
              refine A_istore7 d_N_teams_92 trivial ?_
              refine A_iconst (v := (-1)) d_N_teams_94 (by decide) ?_
              refine A_istore8 d_N_teams_95 trivial ?_
              refine A_iconst (v := nI 0) d_N_teams_97 (by decide) ?_
              refine A_istore9 d_N_teams_98 trivial ?_
              have k0 := keyB 0 (Nat.zero_le _) T0 U0
              rw [HT2.same hT0 hU0] at k0
              exact k0
            · exact absurd c_69 (by omega)
          · refine A_iload7 d_N_teams_62 ?_
            refine A_aload4 d_N_teams_64 ?_
            refine A_getf (kf := 9) d_N_teams_66 hA.o ok_1 (by decide) q_78 rfl ?_
            refine A_topI f9 ?_
            first | refine A_icmp_geN (tgt := 91) d_N_teams_69 (by decide) (by with_reducible rfl) (by with_reducible rfl) (by omega) (by omega) (fun c_69 => ?_) (fun c_69 => ?_) | refine A_icmp_ge (tgt := 91) d_N_teams_69 (by decide) (fun c_69 => ?_) (fun c_69 => ?_)
            · exact absurd c_69 (by omega)
            · refine A_iload5 d_N_teams_72 ?_
              refine A_iload_n2 d_N_teams_74 ?_
              first | refine A_imulN d_N_teams_75 (by with_reducible rfl) (by with_reducible rfl) ?_ | refine A_imul d_N_teams_75 ?_
              refine A_istore5 d_N_teams_76 trivial ?_
              refine A_iload6 d_N_teams_78 ?_
              refine A_bipush (v := nI 10) d_N_teams_80 (by decide) ?_
              first | refine A_imulN d_N_teams_82 (by with_reducible rfl) (by with_reducible rfl) ?_ | refine A_imul d_N_teams_82 ?_
              refine A_istore6 d_N_teams_83 trivial ?_
              first | refine A_iinc7 d_N_teams_85 (nI_1 _) trivial ?_ | refine A_iinc7 d_N_teams_85 rfl trivial ?_
              refine A_goto (tgt := 62) d_N_teams_88 (by decide) ?_
              rw [Nat.pow_succ, Nat.pow_succ 10 (i + 1)] at ih
              exact ih
        refine A_aload_n0 d_N_teams_0 ?_
        refine A_iconst (v := nI 0) d_N_teams_1 (by decide) ?_
        refine A_iload_n1 d_N_teams_2 ?_
        refine A_callVP d_N_teams_3 (c_N_isToldT hN (by decide) hl) hN.o rfl q_644 q_646 qs_2 mk_N_isTold rfl (by decide) rfl (Nat.le_of_ble_eq_true rfl) ⟨Nat.le_of_ble_eq_true rfl, Nat.le_of_ble_eq_true rfl⟩ ⟨rfl, rfl⟩ ?_
        refine A_if_eqB (tgt := 39) d_N_teams_6 (by decide) (fun c => absurd c (by decide)) (fun c_6 => ?_)
        refine A_iload_n2 d_N_teams_9 ?_
        refine A_iconst (v := nI 1) d_N_teams_10 (by decide) ?_
        refine A_icmp_lt (tgt := 39) d_N_teams_11 (by decide) (fun c => absurd c (by rw [nI_ltI (by omega) (by decide)]; omega)) (fun c_11 => ?_)
        refine A_iload_n2 d_N_teams_14 ?_
        refine A_aload_n0 d_N_teams_15 ?_
        refine A_getf (kf := 0) d_N_teams_16 hN.o ok_7 (by decide) q_368 rfl ?_
        refine A_getf (kf := 5) d_N_teams_19 hN.a.o ok_6 (by decide) q_203 rfl ?_
        refine A_iload_n1 d_N_teams_22 ?_
        refine A_aaldN d_N_teams_23 hN.a.lands rfl rfl ⟨by omega, by decide⟩ (show va_rf (two (n + 1 + 12) (n + 1 + 29) l) = .ref (n + 1 + 12 + 17 * l) by rw [two_at rfl (by omega)]; rfl) ?_
        refine A_getf (kf := 9) d_N_teams_24 hA.o ok_1 (by decide) q_78 rfl ?_
        refine A_topI f9 ?_
        first | refine A_icmp_gtN (tgt := 39) d_N_teams_27 (by decide) (by with_reducible rfl) (by with_reducible rfl) (by omega) (by omega) (fun c_27 => ?_) (fun c_27 => ?_) | refine A_icmp_gt (tgt := 39) d_N_teams_27 (by decide) (fun c_27 => ?_) (fun c_27 => ?_)
        · exfalso; omega
        · refine A_iload_n3 d_N_teams_30 ?_
          refine A_if_lt (tgt := 39) d_N_teams_31 (by decide) (fun c => absurd c (nI_pos (by omega))) (fun c_31 => ?_)
          refine A_iload_n3 d_N_teams_34 ?_
          refine A_iconst (v := nI 2) d_N_teams_35 (by decide) ?_
          first | refine A_icmp_leN (tgt := 41) d_N_teams_36 (by decide) (by with_reducible rfl) (by with_reducible rfl) (by omega) (by omega) (fun c_36 => ?_) (fun c_36 => ?_) | refine A_icmp_le (tgt := 41) d_N_teams_36 (by decide) (fun c_36 => ?_) (fun c_36 => ?_)
          · refine A_aload_n0 d_N_teams_41 ?_
            refine A_getf (kf := 0) d_N_teams_42 hN.o ok_7 (by decide) q_368 rfl ?_
            refine A_getf (kf := 5) d_N_teams_45 hN.a.o ok_6 (by decide) q_203 rfl ?_
            refine A_iload_n1 d_N_teams_48 ?_
            refine A_aaldN d_N_teams_49 hN.a.lands rfl rfl ⟨by omega, by decide⟩ (show va_rf (two (n + 1 + 12) (n + 1 + 29) l) = .ref (n + 1 + 12 + 17 * l) by rw [two_at rfl (by omega)]; rfl) ?_
            refine A_astore4 d_N_teams_50 trivial ?_
            refine A_iconst (v := nI 1) d_N_teams_52 (by decide) ?_
            refine A_istore5 d_N_teams_53 trivial ?_
            refine A_bipush (v := nI 10) d_N_teams_55 (by decide) ?_
            refine A_istore6 d_N_teams_57 trivial ?_
            refine A_iconst (v := nI 1) d_N_teams_59 (by decide) ?_
            refine A_istore7 d_N_teams_60 trivial ?_
            have k0 := key 0 (Nat.zero_le _)
            rw [Nat.pow_zero, Nat.zero_add, Nat.pow_one] at k0
            exact k0
          · exfalso; omega
      · rw [rg_out hrk]
        by_cases hx : ka < 0
        · refine A_aload_n0 d_N_teams_0 ?_
          refine A_iconst (v := nI 0) d_N_teams_1 (by decide) ?_
          refine A_iload_n1 d_N_teams_2 ?_
          refine A_callVP d_N_teams_3 (c_N_isToldT hN (by decide) hl) hN.o rfl q_644 q_646 qs_2 mk_N_isTold rfl (by decide) rfl (Nat.le_of_ble_eq_true rfl) ⟨Nat.le_of_ble_eq_true rfl, Nat.le_of_ble_eq_true rfl⟩ ⟨rfl, rfl⟩ ?_
          refine A_if_eqB (tgt := 39) d_N_teams_6 (by decide) (fun c => absurd c (by decide)) (fun c_6 => ?_)
          refine A_iload_n2 d_N_teams_9 ?_
          refine A_iconst (v := nI 1) d_N_teams_10 (by decide) ?_
          refine A_icmp_lt (tgt := 39) d_N_teams_11 (by decide) (fun c_11 => ?_) (fun c => absurd (neg_lt hx (k := 1) (by decide)) c)
          refine A_iconst (v := (-1)) d_N_teams_39 (by decide) ?_
          refine A_iret d_N_teams_40 rfl ⟨Nat.zero_le _, Nat.zero_le _⟩ ?_
          exact sx0 hs rfl
        · obtain ⟨j, hj, rfl⟩ := nI_of hx
          rw [inB_N hj (by decide) (by omega)] at hrk
          refine A_aload_n0 d_N_teams_0 ?_
          refine A_iconst (v := nI 0) d_N_teams_1 (by decide) ?_
          refine A_iload_n1 d_N_teams_2 ?_
          refine A_callVP d_N_teams_3 (c_N_isToldT hN (by decide) hl) hN.o rfl q_644 q_646 qs_2 mk_N_isTold rfl (by decide) rfl (Nat.le_of_ble_eq_true rfl) ⟨Nat.le_of_ble_eq_true rfl, Nat.le_of_ble_eq_true rfl⟩ ⟨rfl, rfl⟩ ?_
          refine A_if_eqB (tgt := 39) d_N_teams_6 (by decide) (fun c => absurd c (by decide)) (fun c_6 => ?_)
          refine A_iload_n2 d_N_teams_9 ?_
          refine A_iconst (v := nI 1) d_N_teams_10 (by decide) ?_
          first | refine A_icmp_ltN (tgt := 39) d_N_teams_11 (by decide) (by with_reducible rfl) (by with_reducible rfl) (by omega) (by omega) (fun c_11 => ?_) (fun c_11 => ?_) | refine A_icmp_lt (tgt := 39) d_N_teams_11 (by decide) (fun c_11 => ?_) (fun c_11 => ?_)
          · refine A_iconst (v := (-1)) d_N_teams_39 (by decide) ?_
            refine A_iret d_N_teams_40 rfl ⟨Nat.zero_le _, Nat.zero_le _⟩ ?_
            exact sx0 hs rfl
          · refine A_iload_n2 d_N_teams_14 ?_
            refine A_aload_n0 d_N_teams_15 ?_
            refine A_getf (kf := 0) d_N_teams_16 hN.o ok_7 (by decide) q_368 rfl ?_
            refine A_getf (kf := 5) d_N_teams_19 hN.a.o ok_6 (by decide) q_203 rfl ?_
            refine A_iload_n1 d_N_teams_22 ?_
            refine A_aaldN d_N_teams_23 hN.a.lands rfl rfl ⟨by omega, by decide⟩ (show va_rf (two (n + 1 + 12) (n + 1 + 29) l) = .ref (n + 1 + 12 + 17 * l) by rw [two_at rfl (by omega)]; rfl) ?_
            refine A_getf (kf := 9) d_N_teams_24 hA.o ok_1 (by decide) q_78 rfl ?_
            refine A_topI f9 ?_
            first | refine A_icmp_gtN (tgt := 39) d_N_teams_27 (by decide) (by with_reducible rfl) (by with_reducible rfl) (by omega) (by omega) (fun c_27 => ?_) (fun c_27 => ?_) | refine A_icmp_gt (tgt := 39) d_N_teams_27 (by decide) (fun c_27 => ?_) (fun c_27 => ?_)
            · refine A_iconst (v := (-1)) d_N_teams_39 (by decide) ?_
              refine A_iret d_N_teams_40 rfl ⟨Nat.zero_le _, Nat.zero_le _⟩ ?_
              exact sx0 hs rfl
            · exact absurd hrk (by rw [decide_eq_true (p := 1 ≤ j) (by omega), decide_eq_true (p := j ≤ VL l 5) (by omega)]; decide)
    · rw [rg_out hrx]
      by_cases hx : x < 0
      · by_cases hk : ka < 0
        · refine A_aload_n0 d_N_teams_0 ?_
          refine A_iconst (v := nI 0) d_N_teams_1 (by decide) ?_
          refine A_iload_n1 d_N_teams_2 ?_
          refine A_callVP d_N_teams_3 (c_N_isToldT hN (by decide) hl) hN.o rfl q_644 q_646 qs_2 mk_N_isTold rfl (by decide) rfl (Nat.le_of_ble_eq_true rfl) ⟨Nat.le_of_ble_eq_true rfl, Nat.le_of_ble_eq_true rfl⟩ ⟨rfl, rfl⟩ ?_
          refine A_if_eqB (tgt := 39) d_N_teams_6 (by decide) (fun c => absurd c (by decide)) (fun c_6 => ?_)
          refine A_iload_n2 d_N_teams_9 ?_
          refine A_iconst (v := nI 1) d_N_teams_10 (by decide) ?_
          refine A_icmp_lt (tgt := 39) d_N_teams_11 (by decide) (fun c_11 => ?_) (fun c => absurd (neg_lt hk (k := 1) (by decide)) c)
          refine A_iconst (v := (-1)) d_N_teams_39 (by decide) ?_
          refine A_iret d_N_teams_40 rfl ⟨Nat.zero_le _, Nat.zero_le _⟩ ?_
          exact sx0 hs rfl
        · obtain ⟨j2, hj2, rfl⟩ := nI_of hk
          refine A_aload_n0 d_N_teams_0 ?_
          refine A_iconst (v := nI 0) d_N_teams_1 (by decide) ?_
          refine A_iload_n1 d_N_teams_2 ?_
          refine A_callVP d_N_teams_3 (c_N_isToldT hN (by decide) hl) hN.o rfl q_644 q_646 qs_2 mk_N_isTold rfl (by decide) rfl (Nat.le_of_ble_eq_true rfl) ⟨Nat.le_of_ble_eq_true rfl, Nat.le_of_ble_eq_true rfl⟩ ⟨rfl, rfl⟩ ?_
          refine A_if_eqB (tgt := 39) d_N_teams_6 (by decide) (fun c => absurd c (by decide)) (fun c_6 => ?_)
          refine A_iload_n2 d_N_teams_9 ?_
          refine A_iconst (v := nI 1) d_N_teams_10 (by decide) ?_
          first | refine A_icmp_ltN (tgt := 39) d_N_teams_11 (by decide) (by with_reducible rfl) (by with_reducible rfl) (by omega) (by omega) (fun c_11 => ?_) (fun c_11 => ?_) | refine A_icmp_lt (tgt := 39) d_N_teams_11 (by decide) (fun c_11 => ?_) (fun c_11 => ?_)
          · refine A_iconst (v := (-1)) d_N_teams_39 (by decide) ?_
            refine A_iret d_N_teams_40 rfl ⟨Nat.zero_le _, Nat.zero_le _⟩ ?_
            exact sx0 hs rfl
          · refine A_iload_n2 d_N_teams_14 ?_
            refine A_aload_n0 d_N_teams_15 ?_
            refine A_getf (kf := 0) d_N_teams_16 hN.o ok_7 (by decide) q_368 rfl ?_
            refine A_getf (kf := 5) d_N_teams_19 hN.a.o ok_6 (by decide) q_203 rfl ?_
            refine A_iload_n1 d_N_teams_22 ?_
            refine A_aaldN d_N_teams_23 hN.a.lands rfl rfl ⟨by omega, by decide⟩ (show va_rf (two (n + 1 + 12) (n + 1 + 29) l) = .ref (n + 1 + 12 + 17 * l) by rw [two_at rfl (by omega)]; rfl) ?_
            refine A_getf (kf := 9) d_N_teams_24 hA.o ok_1 (by decide) q_78 rfl ?_
            refine A_topI f9 ?_
            first | refine A_icmp_gtN (tgt := 39) d_N_teams_27 (by decide) (by with_reducible rfl) (by with_reducible rfl) (by omega) (by omega) (fun c_27 => ?_) (fun c_27 => ?_) | refine A_icmp_gt (tgt := 39) d_N_teams_27 (by decide) (fun c_27 => ?_) (fun c_27 => ?_)
            · refine A_iconst (v := (-1)) d_N_teams_39 (by decide) ?_
              refine A_iret d_N_teams_40 rfl ⟨Nat.zero_le _, Nat.zero_le _⟩ ?_
              exact sx0 hs rfl
            · refine A_iload_n3 d_N_teams_30 ?_
              refine A_if_lt (tgt := 39) d_N_teams_31 (by decide) (fun c_31 => ?_) (fun c => absurd hx c)
              refine A_iconst (v := (-1)) d_N_teams_39 (by decide) ?_
              refine A_iret d_N_teams_40 rfl ⟨Nat.zero_le _, Nat.zero_le _⟩ ?_
              exact sx0 hs rfl
      · obtain ⟨j, hj, rfl⟩ := nI_of hx
        rw [inB_N hj (by decide) (by decide)] at hrx
        by_cases hk : ka < 0
        · refine A_aload_n0 d_N_teams_0 ?_
          refine A_iconst (v := nI 0) d_N_teams_1 (by decide) ?_
          refine A_iload_n1 d_N_teams_2 ?_
          refine A_callVP d_N_teams_3 (c_N_isToldT hN (by decide) hl) hN.o rfl q_644 q_646 qs_2 mk_N_isTold rfl (by decide) rfl (Nat.le_of_ble_eq_true rfl) ⟨Nat.le_of_ble_eq_true rfl, Nat.le_of_ble_eq_true rfl⟩ ⟨rfl, rfl⟩ ?_
          refine A_if_eqB (tgt := 39) d_N_teams_6 (by decide) (fun c => absurd c (by decide)) (fun c_6 => ?_)
          refine A_iload_n2 d_N_teams_9 ?_
          refine A_iconst (v := nI 1) d_N_teams_10 (by decide) ?_
          refine A_icmp_lt (tgt := 39) d_N_teams_11 (by decide) (fun c_11 => ?_) (fun c => absurd (neg_lt hk (k := 1) (by decide)) c)
          refine A_iconst (v := (-1)) d_N_teams_39 (by decide) ?_
          refine A_iret d_N_teams_40 rfl ⟨Nat.zero_le _, Nat.zero_le _⟩ ?_
          exact sx0 hs rfl
        · obtain ⟨j2, hj2, rfl⟩ := nI_of hk
          refine A_aload_n0 d_N_teams_0 ?_
          refine A_iconst (v := nI 0) d_N_teams_1 (by decide) ?_
          refine A_iload_n1 d_N_teams_2 ?_
          refine A_callVP d_N_teams_3 (c_N_isToldT hN (by decide) hl) hN.o rfl q_644 q_646 qs_2 mk_N_isTold rfl (by decide) rfl (Nat.le_of_ble_eq_true rfl) ⟨Nat.le_of_ble_eq_true rfl, Nat.le_of_ble_eq_true rfl⟩ ⟨rfl, rfl⟩ ?_
          refine A_if_eqB (tgt := 39) d_N_teams_6 (by decide) (fun c => absurd c (by decide)) (fun c_6 => ?_)
          refine A_iload_n2 d_N_teams_9 ?_
          refine A_iconst (v := nI 1) d_N_teams_10 (by decide) ?_
          first | refine A_icmp_ltN (tgt := 39) d_N_teams_11 (by decide) (by with_reducible rfl) (by with_reducible rfl) (by omega) (by omega) (fun c_11 => ?_) (fun c_11 => ?_) | refine A_icmp_lt (tgt := 39) d_N_teams_11 (by decide) (fun c_11 => ?_) (fun c_11 => ?_)
          · refine A_iconst (v := (-1)) d_N_teams_39 (by decide) ?_
            refine A_iret d_N_teams_40 rfl ⟨Nat.zero_le _, Nat.zero_le _⟩ ?_
            exact sx0 hs rfl
          · refine A_iload_n2 d_N_teams_14 ?_
            refine A_aload_n0 d_N_teams_15 ?_
            refine A_getf (kf := 0) d_N_teams_16 hN.o ok_7 (by decide) q_368 rfl ?_
            refine A_getf (kf := 5) d_N_teams_19 hN.a.o ok_6 (by decide) q_203 rfl ?_
            refine A_iload_n1 d_N_teams_22 ?_
            refine A_aaldN d_N_teams_23 hN.a.lands rfl rfl ⟨by omega, by decide⟩ (show va_rf (two (n + 1 + 12) (n + 1 + 29) l) = .ref (n + 1 + 12 + 17 * l) by rw [two_at rfl (by omega)]; rfl) ?_
            refine A_getf (kf := 9) d_N_teams_24 hA.o ok_1 (by decide) q_78 rfl ?_
            refine A_topI f9 ?_
            first | refine A_icmp_gtN (tgt := 39) d_N_teams_27 (by decide) (by with_reducible rfl) (by with_reducible rfl) (by omega) (by omega) (fun c_27 => ?_) (fun c_27 => ?_) | refine A_icmp_gt (tgt := 39) d_N_teams_27 (by decide) (fun c_27 => ?_) (fun c_27 => ?_)
            · refine A_iconst (v := (-1)) d_N_teams_39 (by decide) ?_
              refine A_iret d_N_teams_40 rfl ⟨Nat.zero_le _, Nat.zero_le _⟩ ?_
              exact sx0 hs rfl
            · refine A_iload_n3 d_N_teams_30 ?_
              refine A_if_lt (tgt := 39) d_N_teams_31 (by decide) (fun c => absurd c hx) (fun c_31 => ?_)
              refine A_iload_n3 d_N_teams_34 ?_
              refine A_iconst (v := nI 2) d_N_teams_35 (by decide) ?_
              first | refine A_icmp_leN (tgt := 41) d_N_teams_36 (by decide) (by with_reducible rfl) (by with_reducible rfl) (by omega) (by omega) (fun c_36 => ?_) (fun c_36 => ?_) | refine A_icmp_le (tgt := 41) d_N_teams_36 (by decide) (fun c_36 => ?_) (fun c_36 => ?_)
              · exact absurd hrx (by rw [decide_eq_true (p := 0 ≤ j) (by omega), decide_eq_true (p := j ≤ 2) (by omega)]; decide)
              · refine A_iconst (v := (-1)) d_N_teams_39 (by decide) ?_
                refine A_iret d_N_teams_40 rfl ⟨Nat.zero_le _, Nat.zero_le _⟩ ?_
                exact sx0 hs rfl
  · rw [pick_out hno]
    refine A_aload_n0 d_N_teams_0 ?_
    refine A_iconst (v := nI 0) d_N_teams_1 (by decide) ?_
    refine A_iload_n1 d_N_teams_2 ?_
    refine A_callVP d_N_teams_3 (c_N_isToldF hN (by decide) hno) hN.o rfl q_644 q_646 qs_2 mk_N_isTold rfl (by decide) rfl (Nat.le_of_ble_eq_true rfl) ⟨Nat.le_of_ble_eq_true rfl, Nat.le_of_ble_eq_true rfl⟩ ⟨rfl, rfl⟩ ?_
    refine A_if_eqB (tgt := 39) d_N_teams_6 (by decide) (fun c_6 => ?_) (fun c => absurd c (by decide))
    refine A_iconst (v := (-1)) d_N_teams_39 (by decide) ?_
    refine A_iret d_N_teams_40 rfl ⟨Nat.zero_le _, Nat.zero_le _⟩ ?_
    exact sx0 hs rfl
