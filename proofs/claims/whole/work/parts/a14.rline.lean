theorem TPB.kept {h h1 : AH} {tp : Nat} {B : Nat → Nat} (A : TPB h tp B) (e : h1 tp = h tp) : TPB h1 tp B := by
  obtain ⟨⟨f, hf, hfB⟩, hB2⟩ := A
  exact ⟨⟨f, e.trans hf, hfB⟩, hB2⟩
theorem kcN_2 (k : Nat) : kcN k = 2 ↔ k = 3 := by
  unfold kcN
  split
  · omega
  · split <;> omega
theorem kcN_3 (k : Nat) : kcN k = 3 ↔ k = 4 := by
  unfold kcN
  split
  · omega
  · split <;> omega
theorem kcN_le {k : Nat} (h : k ≤ 4) : kcN k ≤ 4 := by
  unfold kcN
  split
  · omega
  · split <;> omega
/-- a line read: only the line's own cells and the tokens change -/
def LKP (Z Z1 : RC) : Prop := (∀ j, j ≠ 8 → j ≠ 9 → j ≠ 12 → Z1.1 j = Z.1 j) ∧ Z1.2.2.1 = Z.2.2.1 ∧ Z1.2.2.2.1 = Z.2.2.2.1 ∧ Z1.2.2.2.2.1 = Z.2.2.2.2.1 ∧ Z1.2.2.2.2.2.1 = Z.2.2.2.2.2.1 ∧ ∀ j, j < 2 → Z1.2.2.2.2.2.2 j = Z.2.2.2.2.2.2 j
theorem LKP.rf (Z : RC) : LKP Z Z := ⟨fun _ _ _ _ => rfl, rfl, rfl, rfl, rfl, fun _ _ => rfl⟩
theorem LKP.fl {Z Z1 : RC} (h : LKP Z Z1) {k : Nat} (hk : k = 8 ∨ k = 9 ∨ k = 12) (x : Int32) (E : Nat → Int32) : LKP Z (fup Z1.1 k x, E, Z1.2.2) :=
  ⟨fun j h8 h9 h12 => (fup_ne _ _ (by omega)).trans (h.1 j h8 h9 h12), h.2⟩
theorem LKP.ar {Z Z1 : RC} (h : LKP Z Z1) {k : Nat} (hk : 2 ≤ k) (g E : Nat → Int32) : LKP Z (Z1.1, E, Z1.2.2.1, Z1.2.2.2.1, Z1.2.2.2.2.1, Z1.2.2.2.2.2.1, fup Z1.2.2.2.2.2.2 k g) :=
  ⟨h.1, h.2.1, h.2.2.1, h.2.2.2.1, h.2.2.2.2.1, fun j hj => (fup_ne _ _ (by omega)).trans (h.2.2.2.2.2 j hj)⟩
theorem le_fl {B : Nat → Nat} {n of q x : Nat} (h : flN B n (lkN B n of q) q = some x) : leN B n of q = some x := by
  unfold leN
  rw [h]
theorem le_ok {B : Nat → Nat} {n of q : Nat} (h : flN B n (lkN B n of q) q = none) (h4 : kN B n (itN B n (nxN B n q) (sgN (lkN B n of q))) = 4) : leN B n of q = none := by
  unfold leN
  rw [h]
  exact if_pos h4
theorem le_no {B : Nat → Nat} {n of q : Nat} (h : flN B n (lkN B n of q) q = none) (h4 : kN B n (itN B n (nxN B n q) (sgN (lkN B n of q))) ≠ 4) : leN B n of q = some (itN B n (nxN B n q) (sgN (lkN B n of q))) := by
  unfold leN
  rw [h]
  exact if_neg h4
theorem fl_d1 {B : Nat → Nat} {n k q : Nat} (hk : k = 10) (h : nuF B n (nxN B n q) (ncN k) = none) (hd : isW B n (itN B n (nxN B n q) 2) wd_dark = false) (hl : isW B n (itN B n (nxN B n q) 2) wd_light = false) : flN B n k q = some (itN B n (nxN B n q) 2) := by
  unfold flN
  rw [if_neg (show ¬ k = 12 by omega), h]
  exact if_pos ⟨hk, hd, hl⟩
theorem fl_d2 {B : Nat → Nat} {n k q : Nat} (hk : k = 10) (h : nuF B n (nxN B n q) (ncN k) = none) (hd : isW B n (itN B n (nxN B n q) 2) wd_dark = true ∨ isW B n (itN B n (nxN B n q) 2) wd_light = true) : flN B n k q = none := by
  unfold flN
  rw [if_neg (show ¬ k = 12 by omega), h]
  refine if_neg ?_
  rintro ⟨-, h1, h2⟩
  rcases hd with hd | hd
  · rw [hd] at h1; cases h1
  · rw [hd] at h2; cases h2
/-- what a good line leaves -/
def LNO (B : Nat → Nat) (n of q : Nat) (Z1 : RC) : Prop := Z1.1 8 = nI (lkN B n of q) ∧ Z1.1 9 = nI q ∧ (∀ j, j < ncN (lkN B n of q) → Z1.2.2.2.2.2.2 2 j = nI (lnV B n (nxN B n q) j) ∧ Z1.2.2.2.2.2.2 3 j = nI (itN B n (nxN B n q) j)) ∧ (lkN B n of q = 10 → Z1.1 12 = bI (isW B n (itN B n (nxN B n q) 2) wd_dark)) ∧ TKn B n (nxN B n (itN B n (nxN B n q) (sgN (lkN B n of q)))) Z1.2.1
theorem lkN_lt (B : Nat → Nat) (n of q : Nat) : lkN B n of q ≤ 12 := by
  unfold lkN
  repeat' split
  all_goals omega
set_option maxHeartbeats 4000000 in
set_option maxRecDepth 100000 in
theorem c_Rd_readLine {G : GE} {h : AH} {r : Nat} {Z : RC} (hR : RdAt h r Z) (hOl : OLD h) {B : Nat → Nat} (hB : TPB h Z.2.2.1 B) (htp : Z.2.2.1 < r) {n : Nat} (hn : n ≤ 600) {q : Nat} (hT : TKn B n q Z.2.1) (of : Nat) (hof : of ≤ 4)  : Ctr G y_Rd_readLine b_Rd_readLine 3 (some .boolean) r_Rd_readLine [.ref r, .int (nI of)] h (fun v h1 => ∃ Z1, RdW h h1 r Z1 ∧ LKP Z Z1 ∧ ((∃ x, leN B n of q = some x ∧ v = some (.int (bI false)) ∧ Z1.2.1 2 = nI x) ∨ (leN B n of q = none ∧ v = some (.int (bI true)) ∧ LNO B n of q Z1))) := by
  refine Ctr.of (by decide +kernel) (by simp) (Nat.le_of_ble_eq_true rfl) (L0 := [some (.ref r), some (.int (nI of)), none]) rfl ?_
  have M := RdW.start hR
  have hnk : lkN B n of q ≠ 12 → _ := fun hh => num_k (lkN B n of q) (by have := lkN_lt B n of q; omega)
  by_cases h12 : lkN B n of q = 12
  · refine A_aload_n0 d_Rd_readLine_0 ?_
    refine A_aload_n0 d_Rd_readLine_1 ?_
    refine A_iload_n1 d_Rd_readLine_2 ?_
    refine A_callVP d_Rd_readLine_3 (c_Rd_lineHere M.1 hOl hB htp hn hT of hof) M.1.o rfl q_460 q_461 q_462 mk_Rd_lineHere rfl (by decide) rfl (Nat.le_of_ble_eq_true rfl) ⟨Nat.le_of_ble_eq_true rfl, Nat.le_of_ble_eq_true rfl⟩ ⟨rfl, rfl⟩ ?_
    refine A_rdInt (kf := 8) d_Rd_readLine_6 (by decide) q_289 (Or.inl rfl) (by decide +kernel) M rfl (fun h' M' => ?_)
    replace M := M'
    clear M'
    refine A_aload_n0 d_Rd_readLine_9 ?_
    refine A_getf (kf := 8) d_Rd_readLine_10 M.1.o ok_3 (by decide) q_289 rfl ?_
    refine A_topI ((fup_eq Z.1 8 _).trans (show lkI (lkN B n of q) = -1 by rw [h12]; rfl)) ?_
    refine A_iconst (v := (-1)) d_Rd_readLine_13 (by decide) ?_
    first | refine A_icmp_neN (tgt := 19) d_Rd_readLine_14 (by decide) (by with_reducible rfl) (by with_reducible rfl) (by omega) (by omega) (fun c_14 => ?_) (fun c_14 => ?_) | refine A_icmp_ne (tgt := 19) d_Rd_readLine_14 (by decide) (fun c_14 => ?_) (fun c_14 => ?_)
    · exact absurd rfl c_14
    · refine A_iconst (v := nI 0) d_Rd_readLine_17 (by decide) ?_
      refine A_zret d_Rd_readLine_18 rfl (by first | rfl | exact bI_nar _ | decide) ⟨Nat.zero_le _, Nat.zero_le _⟩ ?_
      exact ⟨_, M, (LKP.rf Z).fl (.inl rfl) _ _, .inl ⟨q, le_fl (by unfold flN; exact if_pos h12), rfl, hT.2.1⟩⟩
  · skip
    have key2 : ∀ i h' Z1, RdW h h' r Z1 → LKP Z Z1 → TKn B n (itN B n (nxN B n q) (sgN (lkN B n of q))) Z1.2.1 → Z1.1 8 = nI (lkN B n of q) → Z1.1 9 = nI q → (∀ j, j < ncN (lkN B n of q) → Z1.2.2.2.2.2.2 2 j = nI (lnV B n (nxN B n q) j) ∧ Z1.2.2.2.2.2.2 3 j = nI (itN B n (nxN B n q) j)) → (lkN B n of q = 10 → Z1.1 12 = bI (isW B n (itN B n (nxN B n q) 2) wd_dark)) → flN B n (lkN B n of q) q = none → WA G y_Rd_readLine b_Rd_readLine 3 (some .boolean) r_Rd_readLine 0 0 (fun v h1 => ∃ Z1, RdW h h1 r Z1 ∧ LKP Z Z1 ∧ ((∃ x, leN B n of q = some x ∧ v = some (.int (bI false)) ∧ Z1.2.1 2 = nI x) ∨ (leN B n of q = none ∧ v = some (.int (bI true)) ∧ LNO B n of q Z1))) 0 0 121 [some (.ref r), some (.int (nI of)), some (.int (nI i))] [] h' := by
      intro i h' Z1 M hK hT h8 h9 hA hD hfl
      have hB1 : TPB h' Z1.2.2.1 B := by rw [hK.2.1]; exact hB.kept (M.2 _ (.inl htp))
      have hlt1 : Z1.2.2.1 < r := by rw [hK.2.1]; exact htp
      have hkc := kcN_le (kN_le B n (itN B n (nxN B n q) (sgN (lkN B n of q))))
      refine A_aload_n0 d_Rd_readLine_121 ?_
      refine A_getf (kf := 0) d_Rd_readLine_122 M.1.o ok_3 (by decide) q_274 rfl ?_
      refine A_getf (kf := 4) d_Rd_readLine_125 M.1.tk ok_5 (by decide) q_251 rfl ?_
      refine A_topI hT.2.2.2.1 ?_
      refine A_iconst (v := nI 3) d_Rd_readLine_128 (by decide) ?_
      first | refine A_icmp_eqN (tgt := 134) d_Rd_readLine_129 (by decide) (by with_reducible rfl) (by with_reducible rfl) (by omega) (by omega) (fun c_129 => ?_) (fun c_129 => ?_) | refine A_icmp_eq (tgt := 134) d_Rd_readLine_129 (by decide) (fun c_129 => ?_) (fun c_129 => ?_)
      · refine A_aload_n0 d_Rd_readLine_134 ?_
        refine A_getf (kf := 0) d_Rd_readLine_135 M.1.o ok_3 (by decide) q_274 rfl ?_
        refine A_callV d_Rd_readLine_138 (c_To_step (by have := hR.ge; omega) M.1.tk hB1 (show Z1.2.2.1 ≠ r + 1 by omega) hn hT.1 (e0 := eN B n (itN B n (nxN B n q) (sgN (lkN B n of q)))) (eN_le B hT.2.2.2.2.2) hT.2.2.1) M.1.tk rfl q_532 q_441 q_442 mk_To_step rfl (by decide) rfl (Nat.le_of_ble_eq_true rfl) ⟨Nat.le_of_ble_eq_true rfl, Nat.le_of_ble_eq_true rfl⟩ ?_
        rintro _ h5 ⟨rfl, E5, M5, hT5⟩
        replace M := M.tok M5
        clear M5
        refine A_iconst (v := nI 1) d_Rd_readLine_141 (by decide) ?_
        refine A_zret d_Rd_readLine_142 rfl (by first | rfl | exact bI_nar _ | decide) ⟨Nat.zero_le _, Nat.zero_le _⟩ ?_
        exact ⟨_, M, hK, .inr ⟨le_ok hfl ((kcN_3 _).mp c_129), rfl, h8, h9, hA, hD, hT5⟩⟩
      · refine A_iconst (v := nI 0) d_Rd_readLine_132 (by decide) ?_
        refine A_zret d_Rd_readLine_133 rfl (by first | rfl | exact bI_nar _ | decide) ⟨Nat.zero_le _, Nat.zero_le _⟩ ?_
        exact ⟨_, M, hK, .inl ⟨_, le_no hfl (fun e => c_129 ((kcN_3 _).mpr e)), rfl, hT.2.1⟩⟩
    have key : ∀ i, i ≤ ncN (lkN B n of q) → ∀ h' Z1, RdW h h' r Z1 → LKP Z Z1 → TKn B n (itN B n (nxN B n q) i) Z1.2.1 → Z1.1 8 = nI (lkN B n of q) → Z1.1 9 = nI q → (∀ j, j < i → kN B n (itN B n (nxN B n q) j) = 3 ∧ Z1.2.2.2.2.2.2 2 j = nI (lnV B n (nxN B n q) j) ∧ Z1.2.2.2.2.2.2 3 j = nI (itN B n (nxN B n q) j)) → WA G y_Rd_readLine b_Rd_readLine 3 (some .boolean) r_Rd_readLine 0 0 (fun v h1 => ∃ Z1, RdW h h1 r Z1 ∧ LKP Z Z1 ∧ ((∃ x, leN B n of q = some x ∧ v = some (.int (bI false)) ∧ Z1.2.1 2 = nI x) ∨ (leN B n of q = none ∧ v = some (.int (bI true)) ∧ LNO B n of q Z1))) 0 0 39 [some (.ref r), some (.int (nI of)), some (.int (nI i))] [] h' := by
      have hnk1 := (hnk h12).1
      have hnk2 := (hnk h12).2
      have hk12 : lkN B n of q < 12 := by have := lkN_lt B n of q; omega
      refine down ?_ (fun i hi ih => ?_)
      · intro h' Z1 M hK hT h8 h9 hA
        have M0 := M
        have hB1 : TPB h' Z1.2.2.1 B := by rw [hK.2.1]; exact hB.kept (M.2 _ (.inl htp))
        have hlt1 : Z1.2.2.1 < r := by rw [hK.2.1]; exact htp
        have hnu : nuF B n (nxN B n q) (ncN (lkN B n of q)) = none := nuF_n (fun j hj => (hA j hj).1)
        refine A_iload_n2 d_Rd_readLine_39 ?_
        refine A_gets (C := "NightBridge$Reader") (v := .ref 1) d_Rd_readLine_40 (by decide) q_533 ?_
        refine A_aload_n0 d_Rd_readLine_43 ?_
        refine A_getf (kf := 8) d_Rd_readLine_44 M.1.o ok_3 (by decide) q_289 rfl ?_
        refine A_topI h8 ?_
        refine A_ialdN d_Rd_readLine_47 (hOl.kept (fun i hi => M.2 i (.inl (by have := hR.ge; omega)))).2.1 ⟨by omega, by decide⟩ ?_
        refine A_topI hnk1 ?_
        first | refine A_icmp_geN (tgt := 103) d_Rd_readLine_48 (by decide) (by with_reducible rfl) (by with_reducible rfl) (by omega) (by omega) (fun c_48 => ?_) (fun c_48 => ?_) | refine A_icmp_ge (tgt := 103) d_Rd_readLine_48 (by decide) (fun c_48 => ?_) (fun c_48 => ?_)
        · refine A_aload_n0 d_Rd_readLine_103 ?_
          refine A_getf (kf := 8) d_Rd_readLine_104 M.1.o ok_3 (by decide) q_289 rfl ?_
          refine A_topI h8 ?_
          refine A_bipush (v := nI 10) d_Rd_readLine_107 (by decide) ?_
          first | refine A_icmp_neN (tgt := 121) d_Rd_readLine_109 (by decide) (by with_reducible rfl) (by with_reducible rfl) (by omega) (by omega) (fun c_109 => ?_) (fun c_109 => ?_) | refine A_icmp_ne (tgt := 121) d_Rd_readLine_109 (by decide) (fun c_109 => ?_) (fun c_109 => ?_)
          · first
              | exact key2 _ _ _ M hK (by rw [show sgN (lkN B n of q) = ncN (lkN B n of q) from if_neg c_109]; exact hT) h8 h9 (fun j hj => (hA j hj).2) (fun e => absurd e c_109) (flN_n h12 c_109 hnu)
              | exact key2 _ _ _ M (show LKP Z Z5 by rw [hZ5]; exact hK.fl (.inr (.inr rfl)) _ _) (by rw [show sgN (lkN B n of q) = 3 from if_pos c_109]; exact hT5) (by rw [e5]; exact (fup_ne _ _ (by decide)).trans h8) (by rw [e5]; exact (fup_ne _ _ (by decide)).trans h9) (fun j hj => by rw [e6]; exact (hA j hj).2) (fun _ => by rw [e5]; exact fup_eq _ _ _) (fl_d2 c_109 hnu hdl)
          · have hT2 : TKn B n (itN B n (nxN B n q) 2) Z1.2.1 := by
              rw [show ncN (lkN B n of q) = 2 by rw [c_109]; rfl] at hT
              exact hT
            refine A_aload_n0 d_Rd_readLine_112 ?_
            refine A_callV d_Rd_readLine_113 (c_Rd_readDark M.1 (hOl.kept (fun i hi => M.2 i (.inl (by have := hR.ge; omega)))) hB1 hlt1 hn (q := itN B n (nxN B n q) 2) hT2) M.1.o rfl q_535 q_536 q_537 mk_Rd_readDark rfl (by decide) rfl (Nat.le_of_ble_eq_true rfl) ⟨Nat.le_of_ble_eq_true rfl, Nat.le_of_ble_eq_true rfl⟩ ?_
            rintro v5 h5 ⟨Z5, M5, e5, e6, hor⟩
            replace M := M.trans M5
            clear M5
            have hZ5 : Z5 = (fup Z1.1 12 (bI (isW B n (itN B n (nxN B n q) 2) wd_dark)), Z5.2.1, Z1.2.2) := by
              obtain ⟨a, b, c⟩ := Z5
              subst e5
              subst e6
              rfl
            rcases hor with ⟨hd, hl, rfl, hE5⟩ | ⟨hdl, rfl, hT5⟩
            · refine A_if_neB (tgt := 121) d_Rd_readLine_116 (by decide) (fun e => absurd e (by decide)) (fun c_116 => ?_)
              refine A_iconst (v := nI 0) d_Rd_readLine_119 (by decide) ?_
              refine A_zret d_Rd_readLine_120 rfl (by first | rfl | exact bI_nar _ | decide) ⟨Nat.zero_le _, Nat.zero_le _⟩ ?_
              exact ⟨_, M, by rw [hZ5]; exact hK.fl (.inr (.inr rfl)) _ _, .inl ⟨_, le_fl (fl_d1 c_109 hnu hd hl), rfl, by rw [hE5]; exact hT2.2.1⟩⟩
            · refine A_if_neB (tgt := 121) d_Rd_readLine_116 (by decide) (fun c_116 => ?_) (fun e => absurd e (by decide))
              first
                | exact key2 _ _ _ M hK (by rw [show sgN (lkN B n of q) = ncN (lkN B n of q) from if_neg c_109]; exact hT) h8 h9 (fun j hj => (hA j hj).2) (fun e => absurd e c_109) (flN_n h12 c_109 hnu)
                | exact key2 _ _ _ M (show LKP Z Z5 by rw [hZ5]; exact hK.fl (.inr (.inr rfl)) _ _) (by rw [show sgN (lkN B n of q) = 3 from if_pos c_109]; exact hT5) (by rw [e5]; exact (fup_ne _ _ (by decide)).trans h8) (by rw [e5]; exact (fup_ne _ _ (by decide)).trans h9) (fun j hj => by rw [e6]; exact (hA j hj).2) (fun _ => by rw [e5]; exact fup_eq _ _ _) (fl_d2 c_109 hnu hdl)
        · exact absurd c_48 (by omega)
      · intro h' Z1 M hK hT h8 h9 hA
        have M0 := M
        have hB1 : TPB h' Z1.2.2.1 B := by rw [hK.2.1]; exact hB.kept (M.2 _ (.inl htp))
        have hlt1 : Z1.2.2.1 < r := by rw [hK.2.1]; exact htp
        have hkc := kcN_le (kN_le B n (itN B n (nxN B n q) i))
        refine A_iload_n2 d_Rd_readLine_39 ?_
        refine A_gets (C := "NightBridge$Reader") (v := .ref 1) d_Rd_readLine_40 (by decide) q_533 ?_
        refine A_aload_n0 d_Rd_readLine_43 ?_
        refine A_getf (kf := 8) d_Rd_readLine_44 M.1.o ok_3 (by decide) q_289 rfl ?_
        refine A_topI h8 ?_
        refine A_ialdN d_Rd_readLine_47 (hOl.kept (fun i hi => M.2 i (.inl (by have := hR.ge; omega)))).2.1 ⟨by omega, by decide⟩ ?_
        refine A_topI hnk1 ?_
        first | refine A_icmp_geN (tgt := 103) d_Rd_readLine_48 (by decide) (by with_reducible rfl) (by with_reducible rfl) (by omega) (by omega) (fun c_48 => ?_) (fun c_48 => ?_) | refine A_icmp_ge (tgt := 103) d_Rd_readLine_48 (by decide) (fun c_48 => ?_) (fun c_48 => ?_)
        · exact absurd c_48 (by omega)
        · refine A_aload_n0 d_Rd_readLine_51 ?_
          refine A_getf (kf := 0) d_Rd_readLine_52 M.1.o ok_3 (by decide) q_274 rfl ?_
          refine A_getf (kf := 4) d_Rd_readLine_55 M.1.tk ok_5 (by decide) q_251 rfl ?_
          refine A_topI hT.2.2.2.1 ?_
          refine A_iconst (v := nI 2) d_Rd_readLine_58 (by decide) ?_
          first | refine A_icmp_eqN (tgt := 64) d_Rd_readLine_59 (by decide) (by with_reducible rfl) (by with_reducible rfl) (by omega) (by omega) (fun c_59 => ?_) (fun c_59 => ?_) | refine A_icmp_eq (tgt := 64) d_Rd_readLine_59 (by decide) (fun c_59 => ?_) (fun c_59 => ?_)
          · have c3 : kN B n (itN B n (nxN B n q) i) = 3 := (kcN_2 _).mp c_59
            refine A_aload_n0 d_Rd_readLine_64 ?_
            refine A_getf (kf := 10) d_Rd_readLine_65 M.1.o ok_3 (by decide) q_291 rfl ?_
            refine A_iload_n2 d_Rd_readLine_68 ?_
            refine A_aload_n0 d_Rd_readLine_69 ?_
            refine A_getf (kf := 0) d_Rd_readLine_70 M.1.o ok_3 (by decide) q_274 rfl ?_
            refine A_getf (kf := 5) d_Rd_readLine_73 M.1.tk ok_5 (by decide) q_253 rfl ?_
            refine A_topI (hT.2.2.2.2.1 c3) ?_
            refine A_rdNu d_Rd_readLine_76 M (by omega) (fun h' M' => ?_)
            replace M := M'
            clear M'
            refine A_aload_n0 d_Rd_readLine_77 ?_
            refine A_getf (kf := 11) d_Rd_readLine_78 M.1.o ok_3 (by decide) q_292 rfl ?_
            refine A_iload_n2 d_Rd_readLine_81 ?_
            refine A_aload_n0 d_Rd_readLine_82 ?_
            refine A_getf (kf := 0) d_Rd_readLine_83 M.1.o ok_3 (by decide) q_274 rfl ?_
            refine A_getf (kf := 2) d_Rd_readLine_86 M.1.tk ok_5 (by decide) q_248 rfl ?_
            refine A_topI hT.2.1 ?_
            refine A_rdPl d_Rd_readLine_89 M (by omega) (fun h' M' => ?_)
            replace M := M'
            clear M'
            refine A_aload_n0 d_Rd_readLine_90 ?_
            refine A_getf (kf := 0) d_Rd_readLine_91 M.1.o ok_3 (by decide) q_274 rfl ?_
            refine A_callV d_Rd_readLine_94 (c_To_step (by have := hR.ge; omega) M.1.tk (hB1.kept ((M.2 _ (.inl hlt1)).trans (M0.2 _ (.inl hlt1)).symm)) (show Z1.2.2.1 ≠ r + 1 by omega) hn hT.1 (e0 := eN B n (itN B n (nxN B n q) i)) (eN_le B hT.2.2.2.2.2) hT.2.2.1) M.1.tk rfl q_532 q_441 q_442 mk_To_step rfl (by decide) rfl (Nat.le_of_ble_eq_true rfl) ⟨Nat.le_of_ble_eq_true rfl, Nat.le_of_ble_eq_true rfl⟩ ?_
            rintro _ h5 ⟨rfl, E5, M5, hT5⟩
            replace M := M.tok M5
            clear M5
            first | refine A_iinc2 d_Rd_readLine_97 (nI_1 _) trivial ?_ | refine A_iinc2 d_Rd_readLine_97 rfl trivial ?_
            refine A_goto (tgt := 39) d_Rd_readLine_100 (by decide) ?_
            exact ih _ _ M ((hK.ar (k := 2) (by decide) _ Z1.2.1).ar (k := 3) (by decide) _ E5) hT5 h8 h9 (fun j hj => by
              rcases Nat.lt_or_ge j i with hji | hji
              · refine ⟨(hA j hji).1, ?_, ?_⟩
                · show fup (fup Z1.2.2.2.2.2.2 2 (fup (Z1.2.2.2.2.2.2 2) i (nI (tvN B n (itN B n (nxN B n q) i))))) 3 (fup (fup Z1.2.2.2.2.2.2 2 (fup (Z1.2.2.2.2.2.2 2) i (nI (tvN B n (itN B n (nxN B n q) i)))) 3) i (nI (itN B n (nxN B n q) i))) 2 j = _
                  rw [fup_ne _ _ (by decide), fup_eq, fup_ne _ _ (by omega)]
                  exact (hA j hji).2.1
                · show fup (fup Z1.2.2.2.2.2.2 2 (fup (Z1.2.2.2.2.2.2 2) i (nI (tvN B n (itN B n (nxN B n q) i))))) 3 (fup (fup Z1.2.2.2.2.2.2 2 (fup (Z1.2.2.2.2.2.2 2) i (nI (tvN B n (itN B n (nxN B n q) i)))) 3) i (nI (itN B n (nxN B n q) i))) 3 j = _
                  rw [fup_eq, fup_ne _ _ (by omega), fup_ne _ _ (by decide)]
                  exact (hA j hji).2.2
              · have hji : j = i := by omega
                subst hji
                refine ⟨c3, ?_, ?_⟩
                · show fup (fup Z1.2.2.2.2.2.2 2 (fup (Z1.2.2.2.2.2.2 2) j (nI (tvN B n (itN B n (nxN B n q) j))))) 3 (fup (fup Z1.2.2.2.2.2.2 2 (fup (Z1.2.2.2.2.2.2 2) j (nI (tvN B n (itN B n (nxN B n q) j)))) 3) j (nI (itN B n (nxN B n q) j))) 2 j = _
                  rw [fup_ne _ _ (by decide), fup_eq, fup_eq]
                  rfl
                · show fup (fup Z1.2.2.2.2.2.2 2 (fup (Z1.2.2.2.2.2.2 2) j (nI (tvN B n (itN B n (nxN B n q) j))))) 3 (fup (fup Z1.2.2.2.2.2.2 2 (fup (Z1.2.2.2.2.2.2 2) j (nI (tvN B n (itN B n (nxN B n q) j)))) 3) j (nI (itN B n (nxN B n q) j))) 3 j = _
                  rw [fup_eq, fup_eq])
          · refine A_iconst (v := nI 0) d_Rd_readLine_62 (by decide) ?_
            refine A_zret d_Rd_readLine_63 rfl (by first | rfl | exact bI_nar _ | decide) ⟨Nat.zero_le _, Nat.zero_le _⟩ ?_
            exact ⟨_, M, hK, .inl ⟨_, le_fl (flN_s h12 (nuF_s hi (fun j hj => (hA j hj).1) (fun e => c_59 ((kcN_2 _).mpr e)))), rfl, hT.2.1⟩⟩
    refine A_aload_n0 d_Rd_readLine_0 ?_
    refine A_aload_n0 d_Rd_readLine_1 ?_
    refine A_iload_n1 d_Rd_readLine_2 ?_
    refine A_callVP d_Rd_readLine_3 (c_Rd_lineHere M.1 hOl hB htp hn hT of hof) M.1.o rfl q_460 q_461 q_462 mk_Rd_lineHere rfl (by decide) rfl (Nat.le_of_ble_eq_true rfl) ⟨Nat.le_of_ble_eq_true rfl, Nat.le_of_ble_eq_true rfl⟩ ⟨rfl, rfl⟩ ?_
    refine A_rdInt (kf := 8) d_Rd_readLine_6 (by decide) q_289 (Or.inl rfl) (by decide +kernel) M rfl (fun h' M' => ?_)
    replace M := M'
    clear M'
    refine A_aload_n0 d_Rd_readLine_9 ?_
    refine A_getf (kf := 8) d_Rd_readLine_10 M.1.o ok_3 (by decide) q_289 rfl ?_
    refine A_topI ((fup_eq Z.1 8 _).trans (show lkI (lkN B n of q) = nI (lkN B n of q) from if_neg h12)) ?_
    refine A_iconst (v := (-1)) d_Rd_readLine_13 (by decide) ?_
    first | refine A_icmp_neN (tgt := 19) d_Rd_readLine_14 (by decide) (by with_reducible rfl) (by with_reducible rfl) (by omega) (by omega) (fun c_14 => ?_) (fun c_14 => ?_) | refine A_icmp_ne (tgt := 19) d_Rd_readLine_14 (by decide) (fun c_14 => ?_) (fun c_14 => ?_)
    · refine A_aload_n0 d_Rd_readLine_19 ?_
      refine A_aload_n0 d_Rd_readLine_20 ?_
      refine A_getf (kf := 0) d_Rd_readLine_21 M.1.o ok_3 (by decide) q_274 rfl ?_
      refine A_getf (kf := 2) d_Rd_readLine_24 M.1.tk ok_5 (by decide) q_248 rfl ?_
      refine A_topI hT.2.1 ?_
      refine A_rdInt (kf := 9) d_Rd_readLine_27 (by decide) q_290 (Or.inl rfl) (by decide +kernel) M rfl (fun h' M' => ?_)
      replace M := M'
      clear M'
      refine A_aload_n0 d_Rd_readLine_30 ?_
      refine A_getf (kf := 0) d_Rd_readLine_31 M.1.o ok_3 (by decide) q_274 rfl ?_
      refine A_callV d_Rd_readLine_34 (c_To_step (by have := hR.ge; omega) M.1.tk (hB.kept (M.2 _ (.inl htp))) (show Z.2.2.1 ≠ r + 1 by omega) hn hT.1 (e0 := eN B n (q)) (eN_le B hT.2.2.2.2.2) hT.2.2.1) M.1.tk rfl q_532 q_441 q_442 mk_To_step rfl (by decide) rfl (Nat.le_of_ble_eq_true rfl) ⟨Nat.le_of_ble_eq_true rfl, Nat.le_of_ble_eq_true rfl⟩ ?_
      rintro _ h5 ⟨rfl, E5, M5, hT5⟩
      replace M := M.tok M5
      clear M5
      refine A_iconst (v := nI 0) d_Rd_readLine_37 (by decide) ?_
      refine A_istore2 d_Rd_readLine_38 trivial ?_
      exact key 0 (Nat.zero_le _) _ _ M (((LKP.rf Z).fl (k := 8) (.inl rfl) _ Z.2.1).fl (k := 9) (.inr (.inl rfl)) _ E5) hT5 (show fup (fup Z.1 8 (lkI (lkN B n of q))) 9 (nI q) 8 = nI (lkN B n of q) by rw [fup_ne _ _ (by decide), fup_eq]; exact if_neg h12) (fup_eq (fup Z.1 8 (lkI (lkN B n of q))) 9 (nI q)) (fun j hj => absurd hj (Nat.not_lt_zero _))
    · exact absurd c_14 (nI_neM1 (by have := lkN_lt B n of q; omega))
