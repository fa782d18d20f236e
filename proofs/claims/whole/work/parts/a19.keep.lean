theorem RdAt.kept {h h1 : AH} {r : Nat} {Z : RC} (A : RdAt h r Z) (f : ∀ i, r ≤ i → i < r + 24 → h1 i = h i) : RdAt h1 r Z :=
  ⟨A.ge, (f _ (by omega) (by omega)).trans A.o, (f _ (by omega) (by omega)).trans A.tk, A.ld.kept (fun i _ _ => f i (by omega) (by omega)), (f _ (by omega) (by omega)).trans A.tr, A.bk.kept (fun i _ _ => f i (by omega) (by omega)), A.sg.kept (fun i _ _ => f i (by omega) (by omega)), (f _ (by omega) (by omega)).trans A.gm, (f _ (by omega) (by omega)).trans A.nu, (f _ (by omega) (by omega)).trans A.pl⟩
/-- one text's content laid in its slot, the counts C1 -/
def KPQ (of k : Nat) (C1 : Nat → Int32) (Z : RC) (W W1 : TD) : Prop :=
  W1.1 = W.1 ∧ W1.2.1 0 = W.2.1 0 ∧ W1.2.1 1 = C1 ∧ (of = 0 → ∃ D, W1.2.2.1 = fup W.2.2.1 k D ∧ esLq D Z.2.2.2.1) ∧ (of ≠ 0 → W1.2.2.1 = W.2.2.1) ∧ (of = 1 → ∀ x, x < 24 → W1.2.1 (2 + k) x = Z.2.2.2.2.2.2 0 x) ∧ (∀ j, j = 2 ∨ j = 3 → (of = 1 → j ≠ 2 + k) → W1.2.1 j = W.2.1 j) ∧ (of = 2 → ∃ D, W1.2.2.2.1 = fup W.2.2.2.1 k D ∧ esBq D Z.2.2.2.2.1) ∧ (of ≠ 2 → W1.2.2.2.1 = W.2.2.2.1) ∧ (of = 3 → ∃ D, W1.2.2.2.2 = fup W.2.2.2.2 k D ∧ esSq D Z.2.2.2.2.2.1) ∧ (of ≠ 3 → W1.2.2.2.2 = W.2.2.2.2) ∧ (of = 4 → ∀ x, x < 8 → W1.2.1 (4 + k) x = Z.2.2.2.2.2.2 1 x) ∧ (∀ j, j = 4 ∨ j = 5 → (of = 4 → j ≠ 4 + k) → W1.2.1 j = W.2.1 j)
theorem KPQ.cnt {of k : Nat} {C1 g : Nat → Int32} {Z : RC} {W W1 : TD} (h : KPQ of k C1 Z W W1) : KPQ of k g Z W (W1.1, fup W1.2.1 1 g, W1.2.2) := by
  obtain ⟨a0, a1, a2, a3, a4, a5, a6, a7, a8, a9, a10, a11, a12⟩ := h
  refine ⟨a0, (fup_ne W1.2.1 g (show (0 : Nat) ≠ 1 by decide)).trans a1, fup_eq W1.2.1 1 g, a3, a4, fun w x hx => ?_, fun j hj w => ?_, a7, a8, a9, a10, fun w x hx => ?_, fun j hj w => ?_⟩
  · dsimp only
    rw [show fup W1.2.1 1 g (2 + k) = W1.2.1 (2 + k) from fup_ne _ _ (by omega)]
    exact a5 w x hx
  · dsimp only
    rw [show fup W1.2.1 1 g j = W1.2.1 j from fup_ne _ _ (by omega)]
    exact a6 j hj w
  · dsimp only
    rw [show fup W1.2.1 1 g (4 + k) = W1.2.1 (4 + k) from fup_ne _ _ (by omega)]
    exact a11 w x hx
  · dsimp only
    rw [show fup W1.2.1 1 g j = W1.2.1 j from fup_ne _ _ (by omega)]
    exact a12 j hj w
set_option maxHeartbeats 4000000 in
set_option maxRecDepth 100000 in
theorem c_N_keep {G : GE} {h : AH} {n : Nat} {W : TD} {Z : RC} (hO : h n = some (.inr (7, nfs n))) (hA : TdAt h (n + 1) W) (hR : RdAt h (n + 48) Z) {of k : Nat} (hof : of ≤ 4) (hk : k < 2) {c : Nat → Nat} (hc : W.2.1 1 of = nI (c of)) (hcc : c of ≤ 2) (h13 : of = 0 → Z.2.2.2.1.1 13 = bI false) {z14 : Bool} (h14 : Z.2.2.2.1.1 14 = bI z14)  : Ctr G y_N_keep b_N_keep 3 none r_N_keep [.ref n, .int (nI of), .int (nI k)] h (fun v h1 => v = none ∧ ∃ W1, TW h h1 (n + 1) W1 ∧ KPQ of k (if k = c of then fup (W.2.1 1) of (nI (c of + 1)) else W.2.1 1) Z W W1) := by
  refine Ctr.of (by decide +kernel) (by simp) (Nat.le_of_ble_eq_true rfl) (L0 := [some (.ref n), some (.int (nI of)), some (.int (nI k))]) rfl ?_
  have M := TW.start hA
  have key : ∀ h' W1, TW h h' (n + 1) W1 → KPQ of k (W.2.1 1) Z W W1 → WA G y_N_keep b_N_keep 3 none r_N_keep 0 0 (fun v h1 => v = none ∧ ∃ W1, TW h h1 (n + 1) W1 ∧ KPQ of k (if k = c of then fup (W.2.1 1) of (nI (c of + 1)) else W.2.1 1) Z W W1) 0 0 147 [some (.ref n), some (.int (nI of)), some (.int (nI k))] [] h' := by
    intro h' W1 M hK
    refine A_iload_n2 d_N_keep_147 ?_
    refine A_aload_n0 d_N_keep_148 ?_
    refine A_getf (kf := 0) d_N_keep_149 ((M.2 _ (by omega)).trans hO) ok_7 (by decide) q_368 rfl ?_
    refine A_getf (kf := 4) d_N_keep_152 M.1.o ok_6 (by decide) q_201 rfl ?_
    refine A_iload_n1 d_N_keep_155 ?_
    refine A_ialdN d_N_keep_156 M.1.counts ⟨by omega, by decide⟩ ?_
    refine A_topI (show W1.2.1 1 of = nI (c of) by rw [hK.2.2.1]; exact hc) ?_
    first | refine A_icmp_neN (tgt := 173) d_N_keep_157 (by decide) (by with_reducible rfl) (by with_reducible rfl) (by omega) (by omega) (fun c_157 => ?_) (fun c_157 => ?_) | refine A_icmp_ne (tgt := 173) d_N_keep_157 (by decide) (fun c_157 => ?_) (fun c_157 => ?_)
    · refine A_vret d_N_keep_173 rfl ⟨Nat.zero_le _, Nat.zero_le _⟩ ?_
      first
        | (rw [if_neg c_157]; exact ⟨rfl, _, M, hK⟩)
        | (rw [if_pos c_157, show fup (W.2.1 1) of (nI (c of + 1)) = fup (W1.2.1 1) of (nI (c of + 1)) by rw [hK.2.2.1]]; exact ⟨rfl, _, M, hK.cnt⟩)
        | (rw [if_pos (Decidable.not_not.mp c_157), show fup (W.2.1 1) of (nI (c of + 1)) = fup (W1.2.1 1) of (nI (c of + 1)) by rw [hK.2.2.1]]; exact ⟨rfl, _, M, hK.cnt⟩)
    · refine A_aload_n0 d_N_keep_160 ?_
      refine A_getf (kf := 0) d_N_keep_161 ((M.2 _ (by omega)).trans hO) ok_7 (by decide) q_368 rfl ?_
      refine A_getf (kf := 4) d_N_keep_164 M.1.o ok_6 (by decide) q_201 rfl ?_
      refine A_iload_n1 d_N_keep_167 ?_
      refine A_dup2IR d_N_keep_168 ?_
      refine A_ialdN d_N_keep_169 M.1.counts ⟨by omega, by decide⟩ ?_
      refine A_topI (show W1.2.1 1 of = nI (c of) by rw [hK.2.2.1]; exact hc) ?_
      refine A_iconst (v := nI 1) d_N_keep_170 (by decide) ?_
      first | refine A_iaddN d_N_keep_171 (by with_reducible rfl) (by with_reducible rfl) ?_ | refine A_iadd d_N_keep_171 ?_
      refine A_twCnt d_N_keep_172 M (by omega) (fun h' M' => ?_)
      replace M := M'
      clear M'
      refine A_vret d_N_keep_173 rfl ⟨Nat.zero_le _, Nat.zero_le _⟩ ?_
      first
        | (rw [if_neg c_157]; exact ⟨rfl, _, M, hK⟩)
        | (rw [if_pos c_157, show fup (W.2.1 1) of (nI (c of + 1)) = fup (W1.2.1 1) of (nI (c of + 1)) by rw [hK.2.2.1]]; exact ⟨rfl, _, M, hK.cnt⟩)
        | (rw [if_pos (Decidable.not_not.mp c_157), show fup (W.2.1 1) of (nI (c of + 1)) = fup (W1.2.1 1) of (nI (c of + 1)) by rw [hK.2.2.1]]; exact ⟨rfl, _, M, hK.cnt⟩)
  rcases (show of = 0 ∨ of = 1 ∨ of = 2 ∨ of = 3 ∨ of = 4 by omega) with rfl | rfl | rfl | rfl | rfl
  · refine A_iload_n1 d_N_keep_0 ?_
    refine A_tableIn (tgt := 32) d_N_keep_1 (by decide) (by decide) rfl (by decide) ?_
    refine A_aload_n0 d_N_keep_32 ?_
    refine A_getf (kf := 0) d_N_keep_33 ((M.2 _ (by omega)).trans hO) ok_7 (by decide) q_368 rfl ?_
    refine A_getf (kf := 5) d_N_keep_36 M.1.o ok_6 (by decide) q_203 rfl ?_
    refine A_iload_n2 d_N_keep_39 ?_
    refine A_aaldN d_N_keep_40 M.1.lands rfl rfl ⟨by omega, by decide⟩ (show va_rf (two (n + 1 + 12) (n + 1 + 29) k) = .ref (n + 1 + 12 + 17 * k) by rw [two_at rfl (by omega)]; rfl) ?_
    refine A_aload_n0 d_N_keep_41 ?_
    refine A_getf (kf := 2) d_N_keep_42 ((M.2 _ (by omega)).trans hO) ok_7 (by decide) q_370 rfl ?_
    refine A_getf (kf := 1) d_N_keep_45 (hR.kept (fun j _ _ => M.2 j (by omega))).o ok_3 (by decide) q_276 rfl ?_
    refine A_callV d_N_keep_48 (c_Ld_copyFrom (M.1.l k hk) (hR.kept (fun j _ _ => M.2 j (by omega))).ld (h13 rfl) h14 (by omega)) (M.1.l k hk).o rfl q_597 q_598 q_599 mk_Ld_copyFrom rfl (by decide) rfl (Nat.le_of_ble_eq_true rfl) ⟨Nat.le_of_ble_eq_true rfl, Nat.le_of_ble_eq_true rfl⟩ ?_
    rintro _ h' ⟨rfl, F1, hQ, hF1⟩
    replace M := M.pl hk hQ
    clear hQ
    refine A_goto (tgt := 147) d_N_keep_51 (by decide) ?_
    exact key _ _ M ⟨rfl, rfl, rfl, fun _ => ⟨F1, rfl, hF1⟩, fun w => absurd rfl w, fun w => absurd w (by decide), fun _ _ _ => rfl, fun w => absurd w (by decide), fun _ => rfl, fun w => absurd w (by decide), fun _ => rfl, fun w => absurd w (by decide), fun _ _ _ => rfl⟩
  · refine A_iload_n1 d_N_keep_0 ?_
    refine A_tableIn (tgt := 54) d_N_keep_1 (by decide) (by decide) rfl (by decide) ?_
    refine A_aload_n0 d_N_keep_54 ?_
    refine A_getf (kf := 2) d_N_keep_55 ((M.2 _ (by omega)).trans hO) ok_7 (by decide) q_370 rfl ?_
    refine A_getf (kf := 2) d_N_keep_58 (hR.kept (fun j _ _ => M.2 j (by omega))).o ok_3 (by decide) q_278 rfl ?_
    refine A_iconst (v := nI 0) d_N_keep_61 (by decide) ?_
    refine A_aload_n0 d_N_keep_62 ?_
    refine A_getf (kf := 0) d_N_keep_63 ((M.2 _ (by omega)).trans hO) ok_7 (by decide) q_368 rfl ?_
    refine A_getf (kf := 6) d_N_keep_66 M.1.o ok_6 (by decide) q_205 rfl ?_
    refine A_iload_n2 d_N_keep_69 ?_
    refine A_aaldN d_N_keep_70 M.1.treaties rfl rfl ⟨by omega, by decide⟩ (show va_rf (if k < 2 then some (n + 1 + 5 + k) else none) = .ref (n + 1 + 5 + k) by rw [if_pos (by omega)]; rfl) ?_
    refine A_iconst (v := nI 0) d_N_keep_71 (by decide) ?_
    refine A_bipush (v := nI 24) d_N_keep_72 (by decide) ?_
    refine A_twCpR d_N_keep_74 q_604 q_603 q_602 q_16 hk (hR.kept (fun j _ _ => M.2 j (by omega))).tr M (Nat.le_of_ble_eq_true rfl) (by decide +kernel) (fun h' M' => ?_)
    replace M := M'
    clear M'
    refine A_goto (tgt := 147) d_N_keep_77 (by decide) ?_
    exact key _ _ M ⟨rfl, fup_ne _ _ (by omega), fup_ne _ _ (by omega), fun w => absurd w (by decide), fun _ => rfl, fun _ x hx => (congrFun (fup_eq W.2.1 (2 + k) _) x).trans (va_cpy0 _ _ hx), fun j _ w => fup_ne _ _ (w rfl), fun w => absurd w (by decide), fun _ => rfl, fun w => absurd w (by decide), fun _ => rfl, fun w => absurd w (by decide), fun j _ _ => fup_ne _ _ (by omega)⟩
  · refine A_iload_n1 d_N_keep_0 ?_
    refine A_tableIn (tgt := 80) d_N_keep_1 (by decide) (by decide) rfl (by decide) ?_
    refine A_aload_n0 d_N_keep_80 ?_
    refine A_getf (kf := 0) d_N_keep_81 ((M.2 _ (by omega)).trans hO) ok_7 (by decide) q_368 rfl ?_
    refine A_getf (kf := 7) d_N_keep_84 M.1.o ok_6 (by decide) q_207 rfl ?_
    refine A_iload_n2 d_N_keep_87 ?_
    refine A_aaldN d_N_keep_88 M.1.books rfl rfl ⟨by omega, by decide⟩ (show va_rf (two (n + 1 + 21) (n + 1 + 38) k) = .ref (n + 1 + 21 + 17 * k) by rw [two_at rfl (by omega)]; rfl) ?_
    refine A_aload_n0 d_N_keep_89 ?_
    refine A_getf (kf := 2) d_N_keep_90 ((M.2 _ (by omega)).trans hO) ok_7 (by decide) q_370 rfl ?_
    refine A_getf (kf := 3) d_N_keep_93 (hR.kept (fun j _ _ => M.2 j (by omega))).o ok_3 (by decide) q_280 rfl ?_
    refine A_callV d_N_keep_96 (c_Bk_copyFrom (M.1.b k hk) (hR.kept (fun j _ _ => M.2 j (by omega))).bk (by omega)) (M.1.b k hk).o rfl q_605 q_606 q_607 mk_Bk_copyFrom rfl (by decide) rfl (Nat.le_of_ble_eq_true rfl) ⟨Nat.le_of_ble_eq_true rfl, Nat.le_of_ble_eq_true rfl⟩ ?_
    rintro _ h' ⟨rfl, F1, hQ, hF1⟩
    replace M := M.pb hk hQ
    clear hQ
    refine A_goto (tgt := 147) d_N_keep_99 (by decide) ?_
    exact key _ _ M ⟨rfl, rfl, rfl, fun w => absurd w (by decide), fun _ => rfl, fun w => absurd w (by decide), fun _ _ _ => rfl, fun _ => ⟨F1, rfl, hF1⟩, fun w => absurd rfl w, fun w => absurd w (by decide), fun _ => rfl, fun w => absurd w (by decide), fun _ _ _ => rfl⟩
  · refine A_iload_n1 d_N_keep_0 ?_
    refine A_tableIn (tgt := 102) d_N_keep_1 (by decide) (by decide) rfl (by decide) ?_
    refine A_aload_n0 d_N_keep_102 ?_
    refine A_getf (kf := 0) d_N_keep_103 ((M.2 _ (by omega)).trans hO) ok_7 (by decide) q_368 rfl ?_
    refine A_getf (kf := 8) d_N_keep_106 M.1.o ok_6 (by decide) q_209 rfl ?_
    refine A_iload_n2 d_N_keep_109 ?_
    refine A_aaldN d_N_keep_110 M.1.sights rfl rfl ⟨by omega, by decide⟩ (show va_rf (two (n + 1 + 25) (n + 1 + 42) k) = .ref (n + 1 + 25 + 17 * k) by rw [two_at rfl (by omega)]; rfl) ?_
    refine A_aload_n0 d_N_keep_111 ?_
    refine A_getf (kf := 2) d_N_keep_112 ((M.2 _ (by omega)).trans hO) ok_7 (by decide) q_370 rfl ?_
    refine A_getf (kf := 4) d_N_keep_115 (hR.kept (fun j _ _ => M.2 j (by omega))).o ok_3 (by decide) q_282 rfl ?_
    refine A_callV d_N_keep_118 (c_Si_copyFrom (M.1.s k hk) (hR.kept (fun j _ _ => M.2 j (by omega))).sg (by omega)) (M.1.s k hk).o rfl q_610 q_611 q_612 mk_Si_copyFrom rfl (by decide) rfl (Nat.le_of_ble_eq_true rfl) ⟨Nat.le_of_ble_eq_true rfl, Nat.le_of_ble_eq_true rfl⟩ ?_
    rintro _ h' ⟨rfl, F1, hQ, hF1⟩
    replace M := M.ps hk hQ
    clear hQ
    refine A_goto (tgt := 147) d_N_keep_121 (by decide) ?_
    exact key _ _ M ⟨rfl, rfl, rfl, fun w => absurd w (by decide), fun _ => rfl, fun w => absurd w (by decide), fun _ _ _ => rfl, fun w => absurd w (by decide), fun _ => rfl, fun _ => ⟨F1, rfl, hF1⟩, fun w => absurd rfl w, fun w => absurd w (by decide), fun _ _ _ => rfl⟩
  · refine A_iload_n1 d_N_keep_0 ?_
    refine A_tableOut (tgt := 124) d_N_keep_1 (by decide) (by decide) ?_
    refine A_aload_n0 d_N_keep_124 ?_
    refine A_getf (kf := 2) d_N_keep_125 ((M.2 _ (by omega)).trans hO) ok_7 (by decide) q_370 rfl ?_
    refine A_getf (kf := 5) d_N_keep_128 (hR.kept (fun j _ _ => M.2 j (by omega))).o ok_3 (by decide) q_284 rfl ?_
    refine A_iconst (v := nI 0) d_N_keep_131 (by decide) ?_
    refine A_aload_n0 d_N_keep_132 ?_
    refine A_getf (kf := 0) d_N_keep_133 ((M.2 _ (by omega)).trans hO) ok_7 (by decide) q_368 rfl ?_
    refine A_getf (kf := 9) d_N_keep_136 M.1.o ok_6 (by decide) q_211 rfl ?_
    refine A_iload_n2 d_N_keep_139 ?_
    refine A_aaldN d_N_keep_140 M.1.games rfl rfl ⟨by omega, by decide⟩ (show va_rf (if k < 2 then some (n + 1 + 10 + k) else none) = .ref (n + 1 + 10 + k) by rw [if_pos (by omega)]; rfl) ?_
    refine A_iconst (v := nI 0) d_N_keep_141 (by decide) ?_
    refine A_bipush (v := nI 8) d_N_keep_142 (by decide) ?_
    refine A_twCpG d_N_keep_144 q_604 q_603 q_602 q_16 hk (hR.kept (fun j _ _ => M.2 j (by omega))).gm M (Nat.le_of_ble_eq_true rfl) (by decide +kernel) (fun h' M' => ?_)
    replace M := M'
    clear M'
    exact key _ _ M ⟨rfl, fup_ne _ _ (by omega), fup_ne _ _ (by omega), fun w => absurd w (by decide), fun _ => rfl, fun w => absurd w (by decide), fun j _ _ => fup_ne _ _ (by omega), fun w => absurd w (by decide), fun _ => rfl, fun w => absurd w (by decide), fun _ => rfl, fun _ x hx => (congrFun (fup_eq W.2.1 (4 + k) _) x).trans (va_cpy0 _ _ hx), fun j _ w => fup_ne _ _ (w rfl)⟩
