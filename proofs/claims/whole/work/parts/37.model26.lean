def SA31 (S S1 : MS) : Prop := S1.1 = S.1 ∧ ∀ k, k ≠ 31 → S1.2.2.1 k = S.2.2.1 k
theorem SA31.rf (S : MS) : SA31 S S := ⟨rfl, fun _ _ => rfl⟩
theorem SA31.tr {S S1 S2 : MS} (a : SA31 S S1) (b : SA31 S1 S2) : SA31 S S2 := ⟨b.1.trans a.1, fun k hk => (b.2 k hk).trans (a.2 k hk)⟩
theorem SA31.hs {S S1 : MS} (a : SA31 S S1) {l : Nat} {V : Nat → Nat} (h : HS S l V) : HS S1 l V := h.keepF (fun k hk => a.2 k (by omega)) (fun j _ _ => by rw [a.1])
theorem SA31.nd {S S1 : MS} (a : SA31 S S1) {V : Nat → Nat} (h : ND S V) : ND S1 V := by
  obtain ⟨n1, n2, n3, n4, n5⟩ := h
  exact ⟨by rw [a.1]; exact n1, by rw [a.1]; exact n2, by rw [a.1]; exact n3, by rw [a.1]; exact n4, fun h hh => by rw [a.2 40 (by decide)]; exact n5 h hh⟩
theorem opa31 {h0 h : AH} {m : Nat} {S : MS} {g : Nat → Int32} (hM : MW h0 h m (S.sa 31 g)) : ∃ S2 : MS, MW h0 h m S2 ∧ S2.2.2.1 31 = g ∧ SA31 S S2 := ⟨_, hM, fup_eq S.2.2.1 31 g, rfl, fun j hj => fup_ne S.2.2.1 g hj⟩
theorem encZ_eq {z : Int} {q : Option Int} (h1 : -1073741824 ≤ z) (h2 : z ≤ 1073741824) (hq : bdO q (-1073741824) 1073741824) : Int32.ofInt z = encZ q ↔ some z = q := by
  refine ⟨fun e => ?_, fun e => by rw [← e]; rfl⟩
  cases q with
  | none => exact absurd ((encZ_none (a := some z) (fun w hw => by cases hw; exact ⟨h1, h2⟩)).mp e) (by simp)
  | some w =>
    have e2 := congrArg Int32.toInt e
    rw [ofInt_toInt h1 h2, show encZ (some w) = Int32.ofInt w from rfl, ofInt_toInt (hq w rfl).1 (hq w rfl).2] at e2
    rw [e2]
theorem tO_no {few : Bool} {V : Nat → Nat} {first n s d0 d1 y : Nat} (h : stpO few V first n s d0 d1 y ≠ bestB few V first (n + 1) s d0 d1) : tO few V first n s d0 d1 (y + 1) = tO few V first n s d0 d1 y := if_neg h
theorem tO_yes0 {few : Bool} {V : Nat → Nat} {first n s d0 d1 y : Nat} (h : stpO few V first n s d0 d1 y = bestB few V first (n + 1) s d0 d1) (e : tO few V first n s d0 d1 y = none) : tO few V first n s d0 d1 (y + 1) = some (nextN (V 1) s y) := by
  show (if _ then _ else _) = _
  rw [if_pos h, e]
theorem tO_yes1 {few : Bool} {V : Nat → Nat} {first n s d0 d1 y : Nat} {t : Nat} (h : stpO few V first n s d0 d1 y = bestB few V first (n + 1) s d0 d1) (e : tO few V first n s d0 d1 y = some t) : tO few V first n s d0 d1 (y + 1) = if ciN (nextN (V 1) s y) < ciN t then some (nextN (V 1) s y) else some t := by
  show (if _ then _ else _) = _
  rw [if_pos h, e]
set_option maxHeartbeats 4000000 in
set_option maxRecDepth 100000 in
theorem c_M_walk2 {G : GE} {h0 h : AH} {m : Nat} {S : MS} (hM : MW h0 h m S) {few : Bool} (hw : S.1 45 = bI few) {l : Nat} {V : Nat → Nat} (hS : HS S l V) (hN : ND S V) {K : Option Value → AH → Prop} {first n9 h9 s d0 d1 : Nat} (hh : n9 + h9 + 1 = V 0) (h91 : 0 < h9) (hs : s < 2 + 2 * V 1) (hd : d0 + d1 ≤ h9) (hA : ∀ h9, h9 < V 0 → BA S few V first h9) {zL : Int} (hL : bestB few V first (n9 + 1) s d0 d1 = some zL) (hk : WA G y_M_walkFrom b_M_walkFrom 12 none r_M_walkFrom 0 0 K 0 0 203 [some (.ref m), some (.int (nI first)), some (.int (nI s)), some (.int (nI d0)), some (.int (nI d1)), some (.int (nI h9)), none, some (.int (encN (tO few V first n9 s d0 d1 2))), none, none, none, none] [] h) : ∀ y, y ≤ 2 → WA G y_M_walkFrom b_M_walkFrom 12 none r_M_walkFrom 0 0 K 0 0 70 [some (.ref m), some (.int (nI first)), some (.int (nI s)), some (.int (nI d0)), some (.int (nI d1)), some (.int (nI h9)), some (.int (encZ (bestB few V first (n9 + 1) s d0 d1))), some (.int (encN (tO few V first n9 s d0 d1 y))), some (.int (nI y)), none, none, none] [] h := by
  have ok := hS.ok
  have hH := ok.1
  have hC := ok.2.1
  refine down ?_ (fun y hy ih => ?_)
  · refine A_iload8 d_M_walkFrom_70 ?_
    refine A_iconst (v := nI 2) d_M_walkFrom_72 (by decide) ?_
    first | refine A_icmp_geN (tgt := 203) d_M_walkFrom_73 (by decide) (by with_reducible rfl) (by with_reducible rfl) (by omega) (by omega) (fun c_73 => ?_) (fun c_73 => ?_) | refine A_icmp_ge (tgt := 203) d_M_walkFrom_73 (by decide) (fun c_73 => ?_) (fun c_73 => ?_)
    · exact A_drop6 (A_drop8 hk)
    · exact absurd c_73 (by omega)
  · refine A_iload8 d_M_walkFrom_70 ?_
    refine A_iconst (v := nI 2) d_M_walkFrom_72 (by decide) ?_
    first | refine A_icmp_geN (tgt := 203) d_M_walkFrom_73 (by decide) (by with_reducible rfl) (by with_reducible rfl) (by omega) (by omega) (fun c_73 => ?_) (fun c_73 => ?_) | refine A_icmp_ge (tgt := 203) d_M_walkFrom_73 (by decide) (fun c_73 => ?_) (fun c_73 => ?_)
    · exact absurd c_73 (by omega)
    · refine A_aload_n0 d_M_walkFrom_76 ?_
      refine A_iload_n2 d_M_walkFrom_77 ?_
      refine A_iload8 d_M_walkFrom_78 ?_
      refine A_callVP d_M_walkFrom_80 (c_M_nextOf hM hS.cross hC s y hs (by omega)) hM.o rfl q_1488 q_1490 qs_64 mk_M_nextOf rfl (by decide) rfl (Nat.le_of_ble_eq_true rfl) ⟨Nat.le_of_ble_eq_true rfl, Nat.le_of_ble_eq_true rfl⟩ ⟨rfl, rfl⟩ ?_
      by_cases hv : 2 ≤ s ∧ y = 1
      · rw [show nextI (V 1) s y = -1 from if_pos hv]
        refine A_istore9 d_M_walkFrom_83 trivial ?_
        refine A_iload9 d_M_walkFrom_85 ?_
        refine A_iconst (v := (-1)) d_M_walkFrom_87 (by decide) ?_
        refine A_icmp_eq (tgt := 197) d_M_walkFrom_88 (by decide) (fun c_88 => ?_) (fun c => absurd rfl c)
        first | refine A_iinc8 d_M_walkFrom_197 (nI_1 _) trivial ?_ | refine A_iinc8 d_M_walkFrom_197 rfl trivial ?_
        refine A_goto (tgt := 70) d_M_walkFrom_200 (by decide) ?_
        refine A_drop9 (A_loc ?_ ih)
        rw [tO_no (by unfold stpO; rw [if_pos hv, hL]; simp)]
      obtain ⟨t, ht⟩ : ∃ t, t = nextN (V 1) s y := ⟨_, rfl⟩
      have ht1 : t < 2 + 2 * V 1 := by have := nextN_lt (way := y) hs; omega
      rw [show nextI (V 1) s y = nI t from (if_neg hv).trans (congrArg nI ht.symm)]
      refine A_istore9 d_M_walkFrom_83 trivial ?_
      refine A_iload9 d_M_walkFrom_85 ?_
      refine A_iconst (v := (-1)) d_M_walkFrom_87 (by decide) ?_
      refine A_icmp_eq (tgt := 197) d_M_walkFrom_88 (by decide) (fun c => absurd c (nI_neM1 (by omega))) (fun c_88 => ?_)
      refine A_aload_n0 d_M_walkFrom_91 ?_
      refine A_getf (kf := 39) d_M_walkFrom_92 hM.o ok_8 (by decide) q_1088 rfl ?_
      refine A_sipush (v := nI 5000) d_M_walkFrom_95 (by decide) ?_
      refine A_iload5 d_M_walkFrom_98 ?_
      first | refine A_imulN d_M_walkFrom_100 (by with_reducible rfl) (by with_reducible rfl) ?_ | refine A_imul d_M_walkFrom_100 ?_
      refine A_aload_n0 d_M_walkFrom_101 ?_
      refine A_iload9 d_M_walkFrom_102 ?_
      refine A_iload_n3 d_M_walkFrom_104 ?_
      refine A_aload_n0 d_M_walkFrom_105 ?_
      refine A_iload9 d_M_walkFrom_106 ?_
      refine A_iconst (v := nI 0) d_M_walkFrom_108 (by decide) ?_
      refine A_callVP d_M_walkFrom_109 (c_M_more hM (nI t) (nI 0)) hM.o rfl q_1476 q_1478 qs_61 mk_M_more rfl (by decide) rfl (Nat.le_of_ble_eq_true rfl) ⟨Nat.le_of_ble_eq_true rfl, Nat.le_of_ble_eq_true rfl⟩ ⟨rfl, rfl⟩ ?_
      refine A_topI (moI (by omega) (by decide)) ?_
      first | refine A_iaddN d_M_walkFrom_112 (by with_reducible rfl) (by with_reducible rfl) ?_ | refine A_iadd d_M_walkFrom_112 ?_
      refine A_iload4 d_M_walkFrom_113 ?_
      refine A_aload_n0 d_M_walkFrom_115 ?_
      refine A_iload9 d_M_walkFrom_116 ?_
      refine A_iconst (v := nI 1) d_M_walkFrom_118 (by decide) ?_
      refine A_callVP d_M_walkFrom_119 (c_M_more hM (nI t) (nI 1)) hM.o rfl q_1476 q_1478 qs_61 mk_M_more rfl (by decide) rfl (Nat.le_of_ble_eq_true rfl) ⟨Nat.le_of_ble_eq_true rfl, Nat.le_of_ble_eq_true rfl⟩ ⟨rfl, rfl⟩ ?_
      refine A_topI (moI (by omega) (by decide)) ?_
      have m0 := moN_le t 0
      have m1 := moN_le t 1
      first | refine A_iaddN d_M_walkFrom_122 (by with_reducible rfl) (by with_reducible rfl) ?_ | refine A_iadd d_M_walkFrom_122 ?_
      refine A_callVP d_M_walkFrom_123 (c_M_grid hM t (d0 + moN t 0) (d1 + moN t 1)) hM.o rfl q_1480 q_1482 qs_62 mk_M_grid rfl (by decide) rfl (Nat.le_of_ble_eq_true rfl) ⟨Nat.le_of_ble_eq_true rfl, Nat.le_of_ble_eq_true rfl⟩ ⟨rfl, rfl⟩ ?_
      first | refine A_iaddN d_M_walkFrom_126 (by with_reducible rfl) (by with_reducible rfl) ?_ | refine A_iadd d_M_walkFrom_126 ?_
      refine A_ialdN d_M_walkFrom_127 hM.a39 ⟨by omega, by decide⟩ ?_
      have m01 : moN t 0 + moN t 1 ≤ 1 := moN2 t
      have hq1 : (25 * (d0 + moN t 0) + (d1 + moN t 1)) / 25 = d0 + moN t 0 := by omega
      have hq2 : (25 * (d0 + moN t 0) + (d1 + moN t 1)) % 25 = d1 + moN t 1 := by omega
      have hq3 := hA h9 (by omega) t (25 * (d0 + moN t 0) + (d1 + moN t 1)) ht1 (by omega)
      rw [hq1, hq2, if_neg (by omega), show V 0 - 1 - h9 = n9 by omega, show 5000 * h9 + 625 * t + (25 * (d0 + moN t 0) + (d1 + moN t 1)) = 5000 * h9 + (625 * t + 25 * (d0 + moN t 0) + (d1 + moN t 1)) by omega] at hq3
      refine A_topI hq3 ?_
      have hbz : bdO (bestB few V first n9 t (d0 + moN t 0) (d1 + moN t 1)) (-1073741824) 1073741824 := bdO.wide (bestB_bd2 ok (by omega))
      have hgz := gainsZ_bd (few := few) (s := s) (to := t) (h := h9) ok (by omega)
      cases ho : bestB few V first n9 t (d0 + moN t 0) (d1 + moN t 1)
      · refine A_istore10 d_M_walkFrom_128 trivial ?_
        refine A_iload10 d_M_walkFrom_130 ?_
        refine A_ldcw d_M_walkFrom_132 q_1508 ?_
        refine A_icmp_eq (tgt := 159) d_M_walkFrom_135 (by decide) (fun c_135 => ?_) (fun c => absurd rfl c)
        refine A_iconst (v := nI 0) d_M_walkFrom_159 (by decide) ?_
        refine A_istore11 d_M_walkFrom_160 trivial ?_
        refine A_iload11 d_M_walkFrom_162 ?_
        refine A_if_eq (tgt := 193) d_M_walkFrom_164 (by decide) (fun c_164 => ?_) (fun c => absurd (by decide) c)
        refine A_iload7 d_M_walkFrom_193 ?_
        refine A_istore7 d_M_walkFrom_195 trivial ?_
        first | refine A_iinc8 d_M_walkFrom_197 (nI_1 _) trivial ?_ | refine A_iinc8 d_M_walkFrom_197 rfl trivial ?_
        refine A_goto (tgt := 70) d_M_walkFrom_200 (by decide) ?_
        refine A_drop9 (A_drop10 (A_drop11 (A_loc ?_ ih)))
        rw [tO_no (by unfold stpO; rw [if_neg hv, ← ht, ho, hL]; simp [addO])]
      · rename_i z
        have hz := bestB_bd2 ok (show n9 < 24 by omega) z ho
        have hst : stpO few V first n9 s d0 d1 y = some (z + gainsZ few V s t h9) := by unfold stpO; rw [if_neg hv, ← ht, ho, show V 0 - 1 - n9 = h9 by omega]; rfl
        refine A_istore10 d_M_walkFrom_128 trivial ?_
        refine A_iload10 d_M_walkFrom_130 ?_
        refine A_ldcw d_M_walkFrom_132 q_1508 ?_
        refine A_icmp_eq (tgt := 159) d_M_walkFrom_135 (by decide) (fun c => absurd c (fun q => by have q2 := (encZ_none (a := some z) (fun w hw => hbz w (ho.trans hw))).mp q; cases q2)) (fun c_135 => ?_)
        refine A_iload10 d_M_walkFrom_138 ?_
        refine A_aload_n0 d_M_walkFrom_140 ?_
        refine A_iload_n2 d_M_walkFrom_141 ?_
        refine A_iload9 d_M_walkFrom_142 ?_
        refine A_iload5 d_M_walkFrom_144 ?_
        refine A_callVP d_M_walkFrom_146 (c_M_gains hM hw hS hN s t h9 (by omega) (by omega) (by omega)) hM.o rfl q_1521 q_1523 qs_71 mk_M_gains rfl (by decide) rfl (Nat.le_of_ble_eq_true rfl) ⟨Nat.le_of_ble_eq_true rfl, Nat.le_of_ble_eq_true rfl⟩ ⟨rfl, rfl⟩ ?_
        first | refine A_iaddN d_M_walkFrom_149 (by with_reducible rfl) (by with_reducible rfl) ?_ | refine A_iadd d_M_walkFrom_149 ?_
        refine A_topI (Int32.ofInt_add z (gainsZ few V s t h9)).symm ?_
        refine A_iload6 d_M_walkFrom_150 ?_
        by_cases heq2 : some (z + gainsZ few V s t h9) = bestB few V first (n9 + 1) s d0 d1
        · cases hq : tO few V first n9 s d0 d1 y
          · refine A_icmp_ne (tgt := 159) d_M_walkFrom_152 (by decide) (fun c => absurd ((encZ_eq (z := z + gainsZ few V s t h9) (q := bestB few V first (n9 + 1) s d0 d1) (by omega) (by omega) (bdO.wide (bestB_bd2 ok (by omega)))).mpr heq2) c) (fun c_152 => ?_)
            refine A_iconst (v := nI 1) d_M_walkFrom_155 (by decide) ?_
            refine A_goto (tgt := 160) d_M_walkFrom_156 (by decide) ?_
            refine A_istore11 d_M_walkFrom_160 trivial ?_
            refine A_iload11 d_M_walkFrom_162 ?_
            refine A_if_eq (tgt := 193) d_M_walkFrom_164 (by decide) (fun c => absurd c (by decide)) (fun c_164 => ?_)
            refine A_iload7 d_M_walkFrom_167 ?_
            refine A_topI (show encN none = -1 from rfl) ?_
            refine A_iconst (v := (-1)) d_M_walkFrom_169 (by decide) ?_
            refine A_icmp_eq (tgt := 188) d_M_walkFrom_170 (by decide) (fun c_170 => ?_) (fun c => absurd rfl c)
            refine A_iload9 d_M_walkFrom_188 ?_
            refine A_goto (tgt := 195) d_M_walkFrom_190 (by decide) ?_
            refine A_istore7 d_M_walkFrom_195 trivial ?_
            first | refine A_iinc8 d_M_walkFrom_197 (nI_1 _) trivial ?_ | refine A_iinc8 d_M_walkFrom_197 rfl trivial ?_
            refine A_goto (tgt := 70) d_M_walkFrom_200 (by decide) ?_
            refine A_drop9 (A_drop10 (A_drop11 (A_loc ?_ ih)))
            rw [tO_yes0 (hst.trans heq2) hq, ht]; rfl
          · rename_i t1
            have ht1b := tO_lt hs _ _ hq
            refine A_icmp_ne (tgt := 159) d_M_walkFrom_152 (by decide) (fun c => absurd ((encZ_eq (z := z + gainsZ few V s t h9) (q := bestB few V first (n9 + 1) s d0 d1) (by omega) (by omega) (bdO.wide (bestB_bd2 ok (by omega)))).mpr heq2) c) (fun c_152 => ?_)
            refine A_iconst (v := nI 1) d_M_walkFrom_155 (by decide) ?_
            refine A_goto (tgt := 160) d_M_walkFrom_156 (by decide) ?_
            refine A_istore11 d_M_walkFrom_160 trivial ?_
            refine A_iload11 d_M_walkFrom_162 ?_
            refine A_if_eq (tgt := 193) d_M_walkFrom_164 (by decide) (fun c => absurd c (by decide)) (fun c_164 => ?_)
            refine A_iload7 d_M_walkFrom_167 ?_
            refine A_topI (show encN (some t1) = nI t1 from rfl) ?_
            refine A_iconst (v := (-1)) d_M_walkFrom_169 (by decide) ?_
            refine A_icmp_eq (tgt := 188) d_M_walkFrom_170 (by decide) (fun c => absurd c (nI_neM1 (by omega))) (fun c_170 => ?_)
            refine A_aload_n0 d_M_walkFrom_173 ?_
            refine A_iload9 d_M_walkFrom_174 ?_
            refine A_callVP d_M_walkFrom_176 (c_M_cityOf hM (nI t)) hM.o rfl q_1537 q_1539 qs_75 mk_M_cityOf rfl (by decide) rfl (Nat.le_of_ble_eq_true rfl) ⟨Nat.le_of_ble_eq_true rfl, Nat.le_of_ble_eq_true rfl⟩ ⟨rfl, rfl⟩ ?_
            refine A_topI (ciI (by omega)) ?_
            refine A_aload_n0 d_M_walkFrom_179 ?_
            refine A_iload7 d_M_walkFrom_180 ?_
            refine A_topI (show encN (some t1) = nI t1 from rfl) ?_
            refine A_callVP d_M_walkFrom_182 (c_M_cityOf hM (nI t1)) hM.o rfl q_1537 q_1539 qs_75 mk_M_cityOf rfl (by decide) rfl (Nat.le_of_ble_eq_true rfl) ⟨Nat.le_of_ble_eq_true rfl, Nat.le_of_ble_eq_true rfl⟩ ⟨rfl, rfl⟩ ?_
            refine A_topI (ciI (by omega)) ?_
            have ci0 := ciN_le t
            have ci1 := ciN_le t1
            first | refine A_icmp_geN (tgt := 193) d_M_walkFrom_185 (by decide) (by with_reducible rfl) (by with_reducible rfl) (by omega) (by omega) (fun c_185 => ?_) (fun c_185 => ?_) | refine A_icmp_ge (tgt := 193) d_M_walkFrom_185 (by decide) (fun c_185 => ?_) (fun c_185 => ?_)
            · refine A_iload7 d_M_walkFrom_193 ?_
              refine A_istore7 d_M_walkFrom_195 trivial ?_
              first | refine A_iinc8 d_M_walkFrom_197 (nI_1 _) trivial ?_ | refine A_iinc8 d_M_walkFrom_197 rfl trivial ?_
              refine A_goto (tgt := 70) d_M_walkFrom_200 (by decide) ?_
              refine A_drop9 (A_drop10 (A_drop11 (A_loc ?_ ih)))
              rw [tO_yes1 (hst.trans heq2) hq, ← ht]
              first
                | (rw [if_pos (by omega)]; rfl)
                | (rw [if_neg (by omega)]; done)
            · refine A_iload9 d_M_walkFrom_188 ?_
              refine A_goto (tgt := 195) d_M_walkFrom_190 (by decide) ?_
              refine A_istore7 d_M_walkFrom_195 trivial ?_
              first | refine A_iinc8 d_M_walkFrom_197 (nI_1 _) trivial ?_ | refine A_iinc8 d_M_walkFrom_197 rfl trivial ?_
              refine A_goto (tgt := 70) d_M_walkFrom_200 (by decide) ?_
              refine A_drop9 (A_drop10 (A_drop11 (A_loc ?_ ih)))
              rw [tO_yes1 (hst.trans heq2) hq, ← ht]
              first
                | (rw [if_pos (by omega)]; rfl)
                | (rw [if_neg (by omega)]; done)
        · have hne2 := heq2
          refine A_icmp_ne (tgt := 159) d_M_walkFrom_152 (by decide) (fun c_152 => ?_) (fun c => absurd ((encZ_eq (z := z + gainsZ few V s t h9) (q := bestB few V first (n9 + 1) s d0 d1) (by omega) (by omega) (bdO.wide (bestB_bd2 ok (by omega)))).mp c) hne2)
          refine A_iconst (v := nI 0) d_M_walkFrom_159 (by decide) ?_
          refine A_istore11 d_M_walkFrom_160 trivial ?_
          refine A_iload11 d_M_walkFrom_162 ?_
          refine A_if_eq (tgt := 193) d_M_walkFrom_164 (by decide) (fun c_164 => ?_) (fun c => absurd (by decide) c)
          refine A_iload7 d_M_walkFrom_193 ?_
          refine A_istore7 d_M_walkFrom_195 trivial ?_
          first | refine A_iinc8 d_M_walkFrom_197 (nI_1 _) trivial ?_ | refine A_iinc8 d_M_walkFrom_197 rfl trivial ?_
          refine A_goto (tgt := 70) d_M_walkFrom_200 (by decide) ?_
          refine A_drop9 (A_drop10 (A_drop11 (A_loc ?_ ih)))
          rw [tO_no (by rw [hst]; exact hne2)]
set_option maxHeartbeats 4000000 in
set_option maxRecDepth 100000 in
theorem c_M_walkFrom {G : GE} {h0 h : AH} {m : Nat} {S : MS} (hM : MW h0 h m S) {few : Bool} (hw : S.1 45 = bI few) {l : Nat} {V : Nat → Nat} (hS : HS S l V) (hN : ND S V) (first : Nat) (hfi : first < 2 + 2 * V 1) (hA : ∀ h9, h9 < V 0 → BA S few V first h9) {z0 : Int} (hz0 : bestF few V first = some z0) : Ctr G y_M_walkFrom b_M_walkFrom 12 none r_M_walkFrom [.ref m, .int (nI first)] h (fun v h' => v = none ∧ ∃ S1, MW h0 h' m S1 ∧ SA31 S S1 ∧ ∀ k, k < V 0 → S1.2.2.1 31 k = nI (rowW few V first k)) := by
  have ok := hS.ok
  have hH := ok.1
  have hC := ok.2.1
  have key : ∀ k9, k9 ≤ V 0 - 1 → ∀ (h : AH) (S1 : MS), MW h0 h m S1 → SA31 S S1 → (∀ k, k < k9 + 1 → S1.2.2.1 31 k = nI (rowW few V first k)) → ∀ s d0 d1, walkS few V first k9 = (s, d0, d1) → s < 2 + 2 * V 1 → d0 + d1 ≤ k9 + 1 → (∃ z, bestB few V first (V 0 - 1 - k9) s d0 d1 = some z) → WA G y_M_walkFrom b_M_walkFrom 12 none r_M_walkFrom 0 0 (fun v h' => v = none ∧ ∃ S1, MW h0 h' m S1 ∧ SA31 S S1 ∧ ∀ k, k < V 0 → S1.2.2.1 31 k = nI (rowW few V first k)) 0 0 31 [some (.ref m), some (.int (nI first)), some (.int (nI s)), some (.int (nI d0)), some (.int (nI d1)), some (.int (nI (k9 + 1))), none, none, none, none, none, none] [] h := by
    refine down ?_ (fun k9 hi ih => ?_)
    · obtain ⟨k9, hk9⟩ : ∃ k9, k9 = V 0 - 1 := ⟨_, rfl⟩
      rw [← hk9]
      intro h S1 hM hb hr s d0 d1 hws hs hd hz
      refine A_iload5 d_M_walkFrom_31 ?_
      refine A_aload_n0 d_M_walkFrom_33 ?_
      refine A_getf (kf := 27) d_M_walkFrom_34 hM.o ok_8 (by decide) q_1076 rfl ?_
      refine A_topI (hb.hs hS).hours ?_
      first | refine A_icmp_geN (tgt := 244) d_M_walkFrom_37 (by decide) (by with_reducible rfl) (by with_reducible rfl) (by omega) (by omega) (fun c_37 => ?_) (fun c_37 => ?_) | refine A_icmp_ge (tgt := 244) d_M_walkFrom_37 (by decide) (fun c_37 => ?_) (fun c_37 => ?_)
      · refine A_vret d_M_walkFrom_244 rfl ⟨Nat.zero_le _, Nat.zero_le _⟩ ?_
        exact ⟨rfl, S1, hM, hb, fun k hk => hr k (by omega)⟩
      · exact absurd c_37 (by omega)
    · intro h S1 hM hb hr s d0 d1 hws hs hd hz
      refine A_iload5 d_M_walkFrom_31 ?_
      refine A_aload_n0 d_M_walkFrom_33 ?_
      refine A_getf (kf := 27) d_M_walkFrom_34 hM.o ok_8 (by decide) q_1076 rfl ?_
      refine A_topI (hb.hs hS).hours ?_
      first | refine A_icmp_geN (tgt := 244) d_M_walkFrom_37 (by decide) (by with_reducible rfl) (by with_reducible rfl) (by omega) (by omega) (fun c_37 => ?_) (fun c_37 => ?_) | refine A_icmp_ge (tgt := 244) d_M_walkFrom_37 (by decide) (fun c_37 => ?_) (fun c_37 => ?_)
      · exact absurd c_37 (by omega)
      · refine A_aload_n0 d_M_walkFrom_40 ?_
        refine A_getf (kf := 39) d_M_walkFrom_41 hM.o ok_8 (by decide) q_1088 rfl ?_
        refine A_sipush (v := nI 5000) d_M_walkFrom_44 (by decide) ?_
        refine A_iload5 d_M_walkFrom_47 ?_
        refine A_iconst (v := nI 1) d_M_walkFrom_49 (by decide) ?_
        first | refine A_isubN d_M_walkFrom_50 (by with_reducible rfl) (by with_reducible rfl) (by omega) ?_ | refine A_isub d_M_walkFrom_50 ?_
        first | refine A_imulN d_M_walkFrom_51 (by with_reducible rfl) (by with_reducible rfl) ?_ | refine A_imul d_M_walkFrom_51 ?_
        refine A_aload_n0 d_M_walkFrom_52 ?_
        refine A_iload_n2 d_M_walkFrom_53 ?_
        refine A_iload_n3 d_M_walkFrom_54 ?_
        refine A_iload4 d_M_walkFrom_55 ?_
        refine A_callVP d_M_walkFrom_57 (c_M_grid hM s d0 d1) hM.o rfl q_1480 q_1482 qs_62 mk_M_grid rfl (by decide) rfl (Nat.le_of_ble_eq_true rfl) ⟨Nat.le_of_ble_eq_true rfl, Nat.le_of_ble_eq_true rfl⟩ ⟨rfl, rfl⟩ ?_
        first | refine A_iaddN d_M_walkFrom_60 (by with_reducible rfl) (by with_reducible rfl) ?_ | refine A_iadd d_M_walkFrom_60 ?_
        refine A_ialdN d_M_walkFrom_61 hM.a39 ⟨by omega, by decide⟩ ?_
        have hq1 : (25 * d0 + d1) / 25 = d0 := by omega
        have hq2 : (25 * d0 + d1) % 25 = d1 := by omega
        have hq3 := hA k9 (by omega) s (25 * d0 + d1) hs (by omega)
        rw [hq1, hq2, if_neg (by omega), show 5000 * k9 + 625 * s + (25 * d0 + d1) = 5000 * (k9 + 1 - 1) + (625 * s + 25 * d0 + d1) by omega, ← hb.2 39 (by decide)] at hq3
        refine A_topI hq3 ?_
        refine A_istore6 d_M_walkFrom_62 trivial ?_
        refine A_iconst (v := (-1)) d_M_walkFrom_64 (by decide) ?_
        refine A_istore7 d_M_walkFrom_65 trivial ?_
        refine A_iconst (v := nI 0) d_M_walkFrom_67 (by decide) ?_
        refine A_istore8 d_M_walkFrom_68 trivial ?_
        obtain ⟨n9, hn9⟩ : ∃ n9, n9 + 1 = V 0 - 1 - k9 := ⟨V 0 - 2 - k9, by omega⟩
        rw [← hn9] at hz ⊢
        obtain ⟨zL, hz⟩ := hz
        have hA1 : ∀ h9, h9 < V 0 → BA S1 few V first h9 := fun h9 q s2 d2 q1 q2 => by rw [hb.2 39 (by decide)]; exact hA h9 q s2 d2 q1 q2
        refine c_M_walk2 hM (by rw [hb.1]; exact hw) (hb.hs hS) (hb.nd hN) (n9 := n9) (h9 := k9 + 1) (by omega) (by omega) hs hd hA1 hz ?_ 0 (Nat.zero_le _)
        obtain ⟨t, ht⟩ := tO_2 hz
        have htl := tO_lt hs _ _ ht
        obtain ⟨w, hw2, ht2, ht3⟩ := tO_some ht
        have m01 := moN2 t
        have hws2 : walkS few V first (k9 + 1) = (t, d0 + moN t 0, d1 + moN t 1) := by
          simp only [walkS, hws, show V 0 - 2 - k9 = n9 by omega, ht, Option.getD_some]
        have hchild : ∃ z, bestB few V first (V 0 - 1 - (k9 + 1)) t (d0 + moN t 0) (d1 + moN t 1) = some z := by
          rw [hz, show stpO few V first n9 s d0 d1 w = (if 2 ≤ s ∧ w = 1 then none else addO (bestB few V first n9 (nextN (V 1) s w) (d0 + moN (nextN (V 1) s w) 0) (d1 + moN (nextN (V 1) s w) 1)) (gainsZ few V s (nextN (V 1) s w) (V 0 - 1 - n9))) from rfl] at ht3
          split at ht3
          · cases ht3
          · rw [← ht2] at ht3
            rw [show V 0 - 1 - (k9 + 1) = n9 by omega]
            generalize bestB few V first n9 t (d0 + moN t 0) (d1 + moN t 1) = q at ht3 ⊢
            cases q with
            | none => cases ht3
            | some z => exact ⟨z, rfl⟩
        refine A_loc (by rw [ht]) ?_
        refine A_iload7 d_M_walkFrom_203 ?_
        refine A_istore2 d_M_walkFrom_205 trivial ?_
        refine A_iload_n3 d_M_walkFrom_206 ?_
        refine A_aload_n0 d_M_walkFrom_207 ?_
        refine A_iload_n2 d_M_walkFrom_208 ?_
        refine A_iconst (v := nI 0) d_M_walkFrom_209 (by decide) ?_
        refine A_callVP d_M_walkFrom_210 (c_M_more hM (nI t) (nI 0)) hM.o rfl q_1476 q_1478 qs_61 mk_M_more rfl (by decide) rfl (Nat.le_of_ble_eq_true rfl) ⟨Nat.le_of_ble_eq_true rfl, Nat.le_of_ble_eq_true rfl⟩ ⟨rfl, rfl⟩ ?_
        refine A_topI (moI (by omega) (by decide)) ?_
        first | refine A_iaddN d_M_walkFrom_213 (by with_reducible rfl) (by with_reducible rfl) ?_ | refine A_iadd d_M_walkFrom_213 ?_
        refine A_istore3 d_M_walkFrom_214 trivial ?_
        refine A_iload4 d_M_walkFrom_215 ?_
        refine A_aload_n0 d_M_walkFrom_217 ?_
        refine A_iload_n2 d_M_walkFrom_218 ?_
        refine A_iconst (v := nI 1) d_M_walkFrom_219 (by decide) ?_
        refine A_callVP d_M_walkFrom_220 (c_M_more hM (nI t) (nI 1)) hM.o rfl q_1476 q_1478 qs_61 mk_M_more rfl (by decide) rfl (Nat.le_of_ble_eq_true rfl) ⟨Nat.le_of_ble_eq_true rfl, Nat.le_of_ble_eq_true rfl⟩ ⟨rfl, rfl⟩ ?_
        refine A_topI (moI (by omega) (by decide)) ?_
        first | refine A_iaddN d_M_walkFrom_223 (by with_reducible rfl) (by with_reducible rfl) ?_ | refine A_iadd d_M_walkFrom_223 ?_
        refine A_istore4 d_M_walkFrom_224 trivial ?_
        refine A_aload_n0 d_M_walkFrom_226 ?_
        refine A_getf (kf := 31) d_M_walkFrom_227 hM.o ok_8 (by decide) q_1080 rfl ?_
        refine A_iload5 d_M_walkFrom_230 ?_
        refine A_aload_n0 d_M_walkFrom_232 ?_
        refine A_iload_n2 d_M_walkFrom_233 ?_
        refine A_callVP d_M_walkFrom_234 (c_M_cityOf hM (nI t)) hM.o rfl q_1537 q_1539 qs_75 mk_M_cityOf rfl (by decide) rfl (Nat.le_of_ble_eq_true rfl) ⟨Nat.le_of_ble_eq_true rfl, Nat.le_of_ble_eq_true rfl⟩ ⟨rfl, rfl⟩ ?_
        refine A_topI (ciI (by omega)) ?_
        refine A_st31 hM d_M_walkFrom_237 (by omega) (fun h hM => ?_)
        obtain ⟨S3, hM, e31, sb⟩ := opa31 hM
        first | refine A_iinc5 d_M_walkFrom_238 (nI_1 _) trivial ?_ | refine A_iinc5 d_M_walkFrom_238 rfl trivial ?_
        refine A_goto (tgt := 31) d_M_walkFrom_241 (by decide) ?_
        refine A_drop7 (ih _ _ hM (hb.tr sb) (fun k hk => ?_) t _ _ hws2 htl (by omega) hchild)
        rw [e31]
        by_cases r : k = k9 + 1
        · rw [r, fup_eq]; unfold rowW; rw [hws2]
        · rw [fup_ne _ _ r]; exact hr k (by omega)
  refine Ctr.of (by decide +kernel) (by simp) (Nat.le_of_ble_eq_true rfl) (L0 := [some (.ref m), some (.int (nI first)), none, none, none, none, none, none, none, none, none, none]) rfl ?_
  refine A_iload_n1 d_M_walkFrom_0 ?_
  refine A_istore2 d_M_walkFrom_1 trivial ?_
  refine A_aload_n0 d_M_walkFrom_2 ?_
  refine A_iload_n1 d_M_walkFrom_3 ?_
  refine A_iconst (v := nI 0) d_M_walkFrom_4 (by decide) ?_
  refine A_callVP d_M_walkFrom_5 (c_M_more hM (nI first) (nI 0)) hM.o rfl q_1476 q_1478 qs_61 mk_M_more rfl (by decide) rfl (Nat.le_of_ble_eq_true rfl) ⟨Nat.le_of_ble_eq_true rfl, Nat.le_of_ble_eq_true rfl⟩ ⟨rfl, rfl⟩ ?_
  refine A_topI (moI (by omega) (by decide)) ?_
  refine A_istore3 d_M_walkFrom_8 trivial ?_
  refine A_aload_n0 d_M_walkFrom_9 ?_
  refine A_iload_n1 d_M_walkFrom_10 ?_
  refine A_iconst (v := nI 1) d_M_walkFrom_11 (by decide) ?_
  refine A_callVP d_M_walkFrom_12 (c_M_more hM (nI first) (nI 1)) hM.o rfl q_1476 q_1478 qs_61 mk_M_more rfl (by decide) rfl (Nat.le_of_ble_eq_true rfl) ⟨Nat.le_of_ble_eq_true rfl, Nat.le_of_ble_eq_true rfl⟩ ⟨rfl, rfl⟩ ?_
  refine A_topI (moI (by omega) (by decide)) ?_
  refine A_istore4 d_M_walkFrom_15 trivial ?_
  refine A_aload_n0 d_M_walkFrom_17 ?_
  refine A_getf (kf := 31) d_M_walkFrom_18 hM.o ok_8 (by decide) q_1080 rfl ?_
  refine A_iconst (v := nI 0) d_M_walkFrom_21 (by decide) ?_
  refine A_aload_n0 d_M_walkFrom_22 ?_
  refine A_iload_n1 d_M_walkFrom_23 ?_
  refine A_callVP d_M_walkFrom_24 (c_M_cityOf hM (nI first)) hM.o rfl q_1537 q_1539 qs_75 mk_M_cityOf rfl (by decide) rfl (Nat.le_of_ble_eq_true rfl) ⟨Nat.le_of_ble_eq_true rfl, Nat.le_of_ble_eq_true rfl⟩ ⟨rfl, rfl⟩ ?_
  refine A_topI (ciI (by omega)) ?_
  refine A_st31 hM d_M_walkFrom_27 (by omega) (fun h hM => ?_)
  obtain ⟨S3, hM, e31, sb⟩ := opa31 hM
  refine A_iconst (v := nI 1) d_M_walkFrom_28 (by decide) ?_
  refine A_istore5 d_M_walkFrom_29 trivial ?_
  have m01 := moN2 first
  exact key 0 (Nat.zero_le _) _ _ hM sb (fun k hk => by rw [e31, show k = 0 by omega, fup_eq]; rfl) first _ _ rfl hfi (by omega) ⟨z0, by rw [Nat.sub_zero]; exact hz0⟩
