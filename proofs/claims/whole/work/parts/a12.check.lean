theorem OLD.kept {h h1 : AH} (A : OLD h) (f : ∀ i, i < 1000 → h1 i = h i) : OLD h1 :=
  ⟨fun i hi => (f _ (by omega)).trans (A.1 i hi), (f _ (by decide)).trans A.2.1, (f _ (by decide)).trans A.2.2.1, (f _ (by decide)).trans A.2.2.2⟩
set_option maxHeartbeats 4000000 in
set_option maxRecDepth 100000 in
theorem c_Rd_readDark {G : GE} {h : AH} {r : Nat} {Z : RC} (hR : RdAt h r Z) (hOl : OLD h) {B : Nat → Nat} (hB : TPB h Z.2.2.1 B) (htp : Z.2.2.1 < r) {n : Nat} (hn : n ≤ 600) {q : Nat} (hT : TKn B n q Z.2.1)  : Ctr G y_Rd_readDark b_Rd_readDark 1 (some .boolean) r_Rd_readDark [.ref r] h (fun v h1 => ∃ Z1, RdW h h1 r Z1 ∧ Z1.1 = fup Z.1 12 (bI (isW B n q wd_dark)) ∧ Z1.2.2 = Z.2.2 ∧ ((isW B n q wd_dark = false ∧ isW B n q wd_light = false ∧ v = some (.int (bI false)) ∧ Z1.2.1 = Z.2.1) ∨ ((isW B n q wd_dark = true ∨ isW B n q wd_light = true) ∧ v = some (.int (bI true)) ∧ TKn B n (nxN B n q) Z1.2.1))) := by
  refine Ctr.of (by decide +kernel) (by simp) (Nat.le_of_ble_eq_true rfl) (L0 := [some (.ref r)]) rfl ?_
  have M := RdW.start hR
  obtain ⟨⟨f, hf, hfB⟩, hB2⟩ := hB
  refine A_aload_n0 d_Rd_readDark_0 ?_
  refine A_aload_n0 d_Rd_readDark_1 ?_
  refine A_getf (kf := 0) d_Rd_readDark_2 M.1.o ok_3 (by decide) q_274 rfl ?_
  refine A_ldcS (tx := "dark") (cell := 22) d_Rd_readDark_5 (by decide) ?_
  refine A_callVP d_Rd_readDark_7 (c_To_isWord (by have := hR.ge; omega) M.1.tk ⟨⟨f, (M.2 _ (.inl htp)).trans hf, hfB⟩, hB2⟩ (show Z.2.2.1 ≠ r + 1 by omega) hn (hOl.kept (fun i hi => M.2 i (.inl (by have := hR.ge; omega)))) hT (i := 12) (by decide)) M.1.tk rfl q_469 q_470 q_471 mk_To_isWord rfl (by decide) rfl (Nat.le_of_ble_eq_true rfl) ⟨Nat.le_of_ble_eq_true rfl, Nat.le_of_ble_eq_true rfl⟩ ⟨rfl, rfl⟩ ?_
  refine A_topI (show bI (isW B n q (WDl.getD 12 [])) = bI (isW B n q wd_dark) from rfl) ?_
  refine A_rdBool d_Rd_readDark_10 q_293 M (fun h' M' => ?_)
  replace M := M'
  clear M'
  refine A_aload_n0 d_Rd_readDark_13 ?_
  refine A_getf (kf := 12) d_Rd_readDark_14 M.1.o ok_3 (by decide) q_293 rfl ?_
  refine A_topI (fup_eq Z.1 12 (bI (isW B n q wd_dark))) ?_
  refine A_if_neB (tgt := 34) d_Rd_readDark_17 (by decide) (fun c_17 => ?_) (fun c_17 => ?_)
  · refine A_aload_n0 d_Rd_readDark_34 ?_
    refine A_getf (kf := 0) d_Rd_readDark_35 M.1.o ok_3 (by decide) q_274 rfl ?_
    refine A_callV d_Rd_readDark_38 (c_To_step (by have := hR.ge; omega) M.1.tk ⟨⟨f, (M.2 _ (.inl htp)).trans hf, hfB⟩, hB2⟩ (show Z.2.2.1 ≠ r + 1 by omega) hn hT.1 (e0 := eN B n q) (eN_le B hT.2.2.2.2.2) hT.2.2.1) M.1.tk rfl q_532 q_441 q_442 mk_To_step rfl (by decide) rfl (Nat.le_of_ble_eq_true rfl) ⟨Nat.le_of_ble_eq_true rfl, Nat.le_of_ble_eq_true rfl⟩ ?_
    rintro _ h5 ⟨rfl, E5, M5, hT5⟩
    replace M := M.tok M5
    refine A_iconst (v := nI 1) d_Rd_readDark_41 (by decide) ?_
    refine A_zret d_Rd_readDark_42 rfl (by first | rfl | exact bI_nar _ | decide) ⟨Nat.zero_le _, Nat.zero_le _⟩ ?_
    first
      | exact ⟨_, M, rfl, rfl, .inr ⟨.inl c_17, rfl, hT5⟩⟩
      | exact ⟨_, M, rfl, rfl, .inr ⟨.inr c_29, rfl, hT5⟩⟩
  · refine A_aload_n0 d_Rd_readDark_20 ?_
    refine A_getf (kf := 0) d_Rd_readDark_21 M.1.o ok_3 (by decide) q_274 rfl ?_
    refine A_ldcS (tx := "light") (cell := 23) d_Rd_readDark_24 (by decide) ?_
    refine A_callVP d_Rd_readDark_26 (c_To_isWord (by have := hR.ge; omega) M.1.tk ⟨⟨f, (M.2 _ (.inl htp)).trans hf, hfB⟩, hB2⟩ (show Z.2.2.1 ≠ r + 1 by omega) hn (hOl.kept (fun i hi => M.2 i (.inl (by have := hR.ge; omega)))) hT (i := 13) (by decide)) M.1.tk rfl q_469 q_470 q_471 mk_To_isWord rfl (by decide) rfl (Nat.le_of_ble_eq_true rfl) ⟨Nat.le_of_ble_eq_true rfl, Nat.le_of_ble_eq_true rfl⟩ ⟨rfl, rfl⟩ ?_
    refine A_if_neB (tgt := 34) d_Rd_readDark_29 (by decide) (fun c_29 => ?_) (fun c_29 => ?_)
    · refine A_aload_n0 d_Rd_readDark_34 ?_
      refine A_getf (kf := 0) d_Rd_readDark_35 M.1.o ok_3 (by decide) q_274 rfl ?_
      refine A_callV d_Rd_readDark_38 (c_To_step (by have := hR.ge; omega) M.1.tk ⟨⟨f, (M.2 _ (.inl htp)).trans hf, hfB⟩, hB2⟩ (show Z.2.2.1 ≠ r + 1 by omega) hn hT.1 (e0 := eN B n q) (eN_le B hT.2.2.2.2.2) hT.2.2.1) M.1.tk rfl q_532 q_441 q_442 mk_To_step rfl (by decide) rfl (Nat.le_of_ble_eq_true rfl) ⟨Nat.le_of_ble_eq_true rfl, Nat.le_of_ble_eq_true rfl⟩ ?_
      rintro _ h5 ⟨rfl, E5, M5, hT5⟩
      replace M := M.tok M5
      refine A_iconst (v := nI 1) d_Rd_readDark_41 (by decide) ?_
      refine A_zret d_Rd_readDark_42 rfl (by first | rfl | exact bI_nar _ | decide) ⟨Nat.zero_le _, Nat.zero_le _⟩ ?_
      first
        | exact ⟨_, M, rfl, rfl, .inr ⟨.inl c_17, rfl, hT5⟩⟩
        | exact ⟨_, M, rfl, rfl, .inr ⟨.inr c_29, rfl, hT5⟩⟩
    · refine A_iconst (v := nI 0) d_Rd_readDark_32 (by decide) ?_
      refine A_zret d_Rd_readDark_33 rfl (by first | rfl | exact bI_nar _ | decide) ⟨Nat.zero_le _, Nat.zero_le _⟩ ?_
      exact ⟨_, M, rfl, rfl, .inl ⟨c_17, c_29, rfl, rfl⟩⟩
def tooB (k : Nat) (Z : RC) : Bool := if k = 4 then !decide (Z.2.2.2.1.1 4 < nI 10) else if k = 6 then !decide (Z.2.2.2.1.1 9 < nI 6) else if k = 9 then !decide (Z.2.2.2.2.1.1 0 < nI 30) else if k = 10 then !decide (Z.2.2.2.2.2.1.1 0 < nI 20) else false
set_option maxHeartbeats 4000000 in
set_option maxRecDepth 100000 in
theorem c_Rd_isOneTooMany {G : GE} {h : AH} {r : Nat} {Z : RC} (hR : RdAt h r Z) {k : Nat} (hk : k < 12) (h8 : Z.1 8 = nI k)  : Ctr G y_Rd_isOneTooMany b_Rd_isOneTooMany 1 (some .boolean) r_Rd_isOneTooMany [.ref r] h (Pu (.int (bI (tooB k Z))) h) := by
  refine Ctr.of (by decide +kernel) (by simp) (Nat.le_of_ble_eq_true rfl) (L0 := [some (.ref r)]) rfl ?_
  rcases (show k = 0 ∨ k = 1 ∨ k = 2 ∨ k = 3 ∨ k = 4 ∨ k = 5 ∨ k = 6 ∨ k = 7 ∨ k = 8 ∨ k = 9 ∨ k = 10 ∨ k = 11 by omega) with rfl | rfl | rfl | rfl | rfl | rfl | rfl | rfl | rfl | rfl | rfl | rfl
  · refine A_aload_n0 d_Rd_isOneTooMany_0 ?_
    refine A_getf (kf := 8) d_Rd_isOneTooMany_1 hR.o ok_3 (by decide) q_289 rfl ?_
    refine A_topI h8 ?_
    refine A_tableOut (tgt := 120) d_Rd_isOneTooMany_4 (by decide) (by decide) ?_
    refine A_iconst (v := nI 0) d_Rd_isOneTooMany_120 (by decide) ?_
    refine A_zret d_Rd_isOneTooMany_121 rfl (by first | rfl | exact bI_nar _ | decide) ⟨Nat.zero_le _, Nat.zero_le _⟩ ?_
    exact pu rfl
  · refine A_aload_n0 d_Rd_isOneTooMany_0 ?_
    refine A_getf (kf := 8) d_Rd_isOneTooMany_1 hR.o ok_3 (by decide) q_289 rfl ?_
    refine A_topI h8 ?_
    refine A_tableOut (tgt := 120) d_Rd_isOneTooMany_4 (by decide) (by decide) ?_
    refine A_iconst (v := nI 0) d_Rd_isOneTooMany_120 (by decide) ?_
    refine A_zret d_Rd_isOneTooMany_121 rfl (by first | rfl | exact bI_nar _ | decide) ⟨Nat.zero_le _, Nat.zero_le _⟩ ?_
    exact pu rfl
  · refine A_aload_n0 d_Rd_isOneTooMany_0 ?_
    refine A_getf (kf := 8) d_Rd_isOneTooMany_1 hR.o ok_3 (by decide) q_289 rfl ?_
    refine A_topI h8 ?_
    refine A_tableOut (tgt := 120) d_Rd_isOneTooMany_4 (by decide) (by decide) ?_
    refine A_iconst (v := nI 0) d_Rd_isOneTooMany_120 (by decide) ?_
    refine A_zret d_Rd_isOneTooMany_121 rfl (by first | rfl | exact bI_nar _ | decide) ⟨Nat.zero_le _, Nat.zero_le _⟩ ?_
    exact pu rfl
  · refine A_aload_n0 d_Rd_isOneTooMany_0 ?_
    refine A_getf (kf := 8) d_Rd_isOneTooMany_1 hR.o ok_3 (by decide) q_289 rfl ?_
    refine A_topI h8 ?_
    refine A_tableOut (tgt := 120) d_Rd_isOneTooMany_4 (by decide) (by decide) ?_
    refine A_iconst (v := nI 0) d_Rd_isOneTooMany_120 (by decide) ?_
    refine A_zret d_Rd_isOneTooMany_121 rfl (by first | rfl | exact bI_nar _ | decide) ⟨Nat.zero_le _, Nat.zero_le _⟩ ?_
    exact pu rfl
  · refine A_aload_n0 d_Rd_isOneTooMany_0 ?_
    refine A_getf (kf := 8) d_Rd_isOneTooMany_1 hR.o ok_3 (by decide) q_289 rfl ?_
    refine A_topI h8 ?_
    refine A_tableIn (tgt := 48) d_Rd_isOneTooMany_4 (by decide) (by decide) rfl (by decide) ?_
    refine A_aload_n0 d_Rd_isOneTooMany_48 ?_
    refine A_getf (kf := 1) d_Rd_isOneTooMany_49 hR.o ok_3 (by decide) q_275 rfl ?_
    refine A_getf (kf := 4) d_Rd_isOneTooMany_52 hR.ld.o ok_1 (by decide) q_61 rfl ?_
    refine A_bipush (v := nI 10) d_Rd_isOneTooMany_55 (by decide) ?_
    first | refine A_icmp_ltN (tgt := 64) d_Rd_isOneTooMany_57 (by decide) (by with_reducible rfl) (by with_reducible rfl) (by omega) (by omega) (fun c_57 => ?_) (fun c_57 => ?_) | refine A_icmp_lt (tgt := 64) d_Rd_isOneTooMany_57 (by decide) (fun c_57 => ?_) (fun c_57 => ?_)
    · refine A_iconst (v := nI 0) d_Rd_isOneTooMany_64 (by decide) ?_
      refine A_zret d_Rd_isOneTooMany_65 rfl (by first | rfl | exact bI_nar _ | decide) ⟨Nat.zero_le _, Nat.zero_le _⟩ ?_
      exact pu (by
        unfold tooB
        rw [if_pos rfl]
        first
          | (rw [decide_eq_true c_57]; rfl)
          | (rw [decide_eq_false c_57]; rfl)
          | (rw [decide_eq_false (Int32.not_lt.mpr c_57)]; rfl))
    · refine A_iconst (v := nI 1) d_Rd_isOneTooMany_60 (by decide) ?_
      refine A_goto (tgt := 65) d_Rd_isOneTooMany_61 (by decide) ?_
      refine A_zret d_Rd_isOneTooMany_65 rfl (by first | rfl | exact bI_nar _ | decide) ⟨Nat.zero_le _, Nat.zero_le _⟩ ?_
      exact pu (by
        unfold tooB
        rw [if_pos rfl]
        first
          | (rw [decide_eq_true c_57]; rfl)
          | (rw [decide_eq_false c_57]; rfl)
          | (rw [decide_eq_false (Int32.not_lt.mpr c_57)]; rfl))
  · refine A_aload_n0 d_Rd_isOneTooMany_0 ?_
    refine A_getf (kf := 8) d_Rd_isOneTooMany_1 hR.o ok_3 (by decide) q_289 rfl ?_
    refine A_topI h8 ?_
    refine A_tableIn (tgt := 120) d_Rd_isOneTooMany_4 (by decide) (by decide) rfl (by decide) ?_
    refine A_iconst (v := nI 0) d_Rd_isOneTooMany_120 (by decide) ?_
    refine A_zret d_Rd_isOneTooMany_121 rfl (by first | rfl | exact bI_nar _ | decide) ⟨Nat.zero_le _, Nat.zero_le _⟩ ?_
    exact pu rfl
  · refine A_aload_n0 d_Rd_isOneTooMany_0 ?_
    refine A_getf (kf := 8) d_Rd_isOneTooMany_1 hR.o ok_3 (by decide) q_289 rfl ?_
    refine A_topI h8 ?_
    refine A_tableIn (tgt := 66) d_Rd_isOneTooMany_4 (by decide) (by decide) rfl (by decide) ?_
    refine A_aload_n0 d_Rd_isOneTooMany_66 ?_
    refine A_getf (kf := 1) d_Rd_isOneTooMany_67 hR.o ok_3 (by decide) q_275 rfl ?_
    refine A_getf (kf := 9) d_Rd_isOneTooMany_70 hR.ld.o ok_1 (by decide) q_77 rfl ?_
    refine A_bipush (v := nI 6) d_Rd_isOneTooMany_73 (by decide) ?_
    first | refine A_icmp_ltN (tgt := 82) d_Rd_isOneTooMany_75 (by decide) (by with_reducible rfl) (by with_reducible rfl) (by omega) (by omega) (fun c_75 => ?_) (fun c_75 => ?_) | refine A_icmp_lt (tgt := 82) d_Rd_isOneTooMany_75 (by decide) (fun c_75 => ?_) (fun c_75 => ?_)
    · refine A_iconst (v := nI 0) d_Rd_isOneTooMany_82 (by decide) ?_
      refine A_zret d_Rd_isOneTooMany_83 rfl (by first | rfl | exact bI_nar _ | decide) ⟨Nat.zero_le _, Nat.zero_le _⟩ ?_
      exact pu (by
        unfold tooB
        rw [if_neg (by decide), if_pos rfl]
        first
          | (rw [decide_eq_true c_75]; rfl)
          | (rw [decide_eq_false c_75]; rfl)
          | (rw [decide_eq_false (Int32.not_lt.mpr c_75)]; rfl))
    · refine A_iconst (v := nI 1) d_Rd_isOneTooMany_78 (by decide) ?_
      refine A_goto (tgt := 83) d_Rd_isOneTooMany_79 (by decide) ?_
      refine A_zret d_Rd_isOneTooMany_83 rfl (by first | rfl | exact bI_nar _ | decide) ⟨Nat.zero_le _, Nat.zero_le _⟩ ?_
      exact pu (by
        unfold tooB
        rw [if_neg (by decide), if_pos rfl]
        first
          | (rw [decide_eq_true c_75]; rfl)
          | (rw [decide_eq_false c_75]; rfl)
          | (rw [decide_eq_false (Int32.not_lt.mpr c_75)]; rfl))
  · refine A_aload_n0 d_Rd_isOneTooMany_0 ?_
    refine A_getf (kf := 8) d_Rd_isOneTooMany_1 hR.o ok_3 (by decide) q_289 rfl ?_
    refine A_topI h8 ?_
    refine A_tableIn (tgt := 120) d_Rd_isOneTooMany_4 (by decide) (by decide) rfl (by decide) ?_
    refine A_iconst (v := nI 0) d_Rd_isOneTooMany_120 (by decide) ?_
    refine A_zret d_Rd_isOneTooMany_121 rfl (by first | rfl | exact bI_nar _ | decide) ⟨Nat.zero_le _, Nat.zero_le _⟩ ?_
    exact pu rfl
  · refine A_aload_n0 d_Rd_isOneTooMany_0 ?_
    refine A_getf (kf := 8) d_Rd_isOneTooMany_1 hR.o ok_3 (by decide) q_289 rfl ?_
    refine A_topI h8 ?_
    refine A_tableIn (tgt := 120) d_Rd_isOneTooMany_4 (by decide) (by decide) rfl (by decide) ?_
    refine A_iconst (v := nI 0) d_Rd_isOneTooMany_120 (by decide) ?_
    refine A_zret d_Rd_isOneTooMany_121 rfl (by first | rfl | exact bI_nar _ | decide) ⟨Nat.zero_le _, Nat.zero_le _⟩ ?_
    exact pu rfl
  · refine A_aload_n0 d_Rd_isOneTooMany_0 ?_
    refine A_getf (kf := 8) d_Rd_isOneTooMany_1 hR.o ok_3 (by decide) q_289 rfl ?_
    refine A_topI h8 ?_
    refine A_tableIn (tgt := 84) d_Rd_isOneTooMany_4 (by decide) (by decide) rfl (by decide) ?_
    refine A_aload_n0 d_Rd_isOneTooMany_84 ?_
    refine A_getf (kf := 3) d_Rd_isOneTooMany_85 hR.o ok_3 (by decide) q_279 rfl ?_
    refine A_getf (kf := 0) d_Rd_isOneTooMany_88 hR.bk.o ok_0 (by decide) q_147 rfl ?_
    refine A_bipush (v := nI 30) d_Rd_isOneTooMany_91 (by decide) ?_
    first | refine A_icmp_ltN (tgt := 100) d_Rd_isOneTooMany_93 (by decide) (by with_reducible rfl) (by with_reducible rfl) (by omega) (by omega) (fun c_93 => ?_) (fun c_93 => ?_) | refine A_icmp_lt (tgt := 100) d_Rd_isOneTooMany_93 (by decide) (fun c_93 => ?_) (fun c_93 => ?_)
    · refine A_iconst (v := nI 0) d_Rd_isOneTooMany_100 (by decide) ?_
      refine A_zret d_Rd_isOneTooMany_101 rfl (by first | rfl | exact bI_nar _ | decide) ⟨Nat.zero_le _, Nat.zero_le _⟩ ?_
      exact pu (by
        unfold tooB
        rw [if_neg (by decide), if_neg (by decide), if_pos rfl]
        first
          | (rw [decide_eq_true c_93]; rfl)
          | (rw [decide_eq_false c_93]; rfl)
          | (rw [decide_eq_false (Int32.not_lt.mpr c_93)]; rfl))
    · refine A_iconst (v := nI 1) d_Rd_isOneTooMany_96 (by decide) ?_
      refine A_goto (tgt := 101) d_Rd_isOneTooMany_97 (by decide) ?_
      refine A_zret d_Rd_isOneTooMany_101 rfl (by first | rfl | exact bI_nar _ | decide) ⟨Nat.zero_le _, Nat.zero_le _⟩ ?_
      exact pu (by
        unfold tooB
        rw [if_neg (by decide), if_neg (by decide), if_pos rfl]
        first
          | (rw [decide_eq_true c_93]; rfl)
          | (rw [decide_eq_false c_93]; rfl)
          | (rw [decide_eq_false (Int32.not_lt.mpr c_93)]; rfl))
  · refine A_aload_n0 d_Rd_isOneTooMany_0 ?_
    refine A_getf (kf := 8) d_Rd_isOneTooMany_1 hR.o ok_3 (by decide) q_289 rfl ?_
    refine A_topI h8 ?_
    refine A_tableIn (tgt := 102) d_Rd_isOneTooMany_4 (by decide) (by decide) rfl (by decide) ?_
    refine A_aload_n0 d_Rd_isOneTooMany_102 ?_
    refine A_getf (kf := 4) d_Rd_isOneTooMany_103 hR.o ok_3 (by decide) q_281 rfl ?_
    refine A_getf (kf := 0) d_Rd_isOneTooMany_106 hR.sg.o ok_4 (by decide) q_175 rfl ?_
    refine A_bipush (v := nI 20) d_Rd_isOneTooMany_109 (by decide) ?_
    first | refine A_icmp_ltN (tgt := 118) d_Rd_isOneTooMany_111 (by decide) (by with_reducible rfl) (by with_reducible rfl) (by omega) (by omega) (fun c_111 => ?_) (fun c_111 => ?_) | refine A_icmp_lt (tgt := 118) d_Rd_isOneTooMany_111 (by decide) (fun c_111 => ?_) (fun c_111 => ?_)
    · refine A_iconst (v := nI 0) d_Rd_isOneTooMany_118 (by decide) ?_
      refine A_zret d_Rd_isOneTooMany_119 rfl (by first | rfl | exact bI_nar _ | decide) ⟨Nat.zero_le _, Nat.zero_le _⟩ ?_
      exact pu (by
        unfold tooB
        rw [if_neg (by decide), if_neg (by decide), if_neg (by decide), if_pos rfl]
        first
          | (rw [decide_eq_true c_111]; rfl)
          | (rw [decide_eq_false c_111]; rfl)
          | (rw [decide_eq_false (Int32.not_lt.mpr c_111)]; rfl))
    · refine A_iconst (v := nI 1) d_Rd_isOneTooMany_114 (by decide) ?_
      refine A_goto (tgt := 119) d_Rd_isOneTooMany_115 (by decide) ?_
      refine A_zret d_Rd_isOneTooMany_119 rfl (by first | rfl | exact bI_nar _ | decide) ⟨Nat.zero_le _, Nat.zero_le _⟩ ?_
      exact pu (by
        unfold tooB
        rw [if_neg (by decide), if_neg (by decide), if_neg (by decide), if_pos rfl]
        first
          | (rw [decide_eq_true c_111]; rfl)
          | (rw [decide_eq_false c_111]; rfl)
          | (rw [decide_eq_false (Int32.not_lt.mpr c_111)]; rfl))
  · refine A_aload_n0 d_Rd_isOneTooMany_0 ?_
    refine A_getf (kf := 8) d_Rd_isOneTooMany_1 hR.o ok_3 (by decide) q_289 rfl ?_
    refine A_topI h8 ?_
    refine A_tableOut (tgt := 120) d_Rd_isOneTooMany_4 (by decide) (by decide) ?_
    refine A_iconst (v := nI 0) d_Rd_isOneTooMany_120 (by decide) ?_
    refine A_zret d_Rd_isOneTooMany_121 rfl (by first | rfl | exact bI_nar _ | decide) ⟨Nat.zero_le _, Nat.zero_le _⟩ ?_
    exact pu rfl
def lo0 (k i : Nat) : Nat := loN k (fun _ => 0) i
theorem low_k : ∀ k, k < 12 → ∀ i, i < 4 → LOWl.getD (k * 4 + i) 0 = nI (lo0 k i) := by decide +kernel
theorem high_k : ∀ k, k < 12 → ∀ i, i < ncN k → HIGHl.getD (k * 4 + i) 0 = nI (hiN k i) := by decide +kernel
theorem num_k : ∀ k, k < 12 → NUMl.getD k 0 = nI (ncN k) ∧ 1 ≤ ncN k ∧ ncN k ≤ 4 := by decide +kernel
theorem hl_k : ∀ k, k < 12 → ∀ i, i < 4 → lo0 k i ≤ 4 ∧ hiN k i ≤ 99 := by decide +kernel
theorem lo_no {k i : Nat} (v : Nat → Nat) (h : ¬ (i = 2 ∧ (k = 5 ∨ k = 8))) : loN k v i = lo0 k i := by
  unfold lo0 loN
  rw [if_neg h, if_neg h]
theorem lo_ye {k i : Nat} (v : Nat → Nat) (h : i = 2 ∧ (k = 5 ∨ k = 8)) : loN k v i = v 1 ∧ lo0 k i = 0 := by
  unfold lo0 loN
  rw [if_pos h, if_pos h]
  exact ⟨rfl, rfl⟩
set_option maxHeartbeats 4000000 in
set_option maxRecDepth 100000 in
theorem c_Rd_canBe {G : GE} {h : AH} {r : Nat} {Z : RC} (hR : RdAt h r Z) (hOl : OLD h) {k : Nat} (hk : k < 12) (h8 : Z.1 8 = nI k) {v : Nat → Nat} (hv : ∀ i, i < ncN k → Z.2.2.2.2.2.2 2 i = nI (v i) ∧ v i ≤ 99) (i : Nat) (hi : i < ncN k)  : Ctr G y_Rd_canBe b_Rd_canBe 3 (some .boolean) r_Rd_canBe [.ref r, .int (nI i)] h (Pu (.int (bI (inrN k v i))) h) := by
  refine Ctr.of (by decide +kernel) (by simp) (Nat.le_of_ble_eq_true rfl) (L0 := [some (.ref r), some (.int (nI i)), none]) rfl ?_
  have hnk := num_k k hk
  have hn5 : i = 2 → k = 5 ∨ k = 8 → 3 ≤ ncN k := by rintro - (rfl | rfl) <;> decide
  refine A_iload_n1 d_Rd_canBe_0 ?_
  refine A_iconst (v := nI 2) d_Rd_canBe_1 (by decide) ?_
  first | refine A_icmp_neN (tgt := 26) d_Rd_canBe_2 (by decide) (by with_reducible rfl) (by with_reducible rfl) (by omega) (by omega) (fun c_2 => ?_) (fun c_2 => ?_) | refine A_icmp_ne (tgt := 26) d_Rd_canBe_2 (by decide) (fun c_2 => ?_) (fun c_2 => ?_)
  · refine A_iconst (v := nI 0) d_Rd_canBe_26 (by decide) ?_
    refine A_istore2 d_Rd_canBe_27 trivial ?_
    refine A_iload_n2 d_Rd_canBe_28 ?_
    first | refine A_if_eqN (tgt := 49) d_Rd_canBe_29 (by decide) (by with_reducible rfl) (by omega) (fun c_29 => ?_) (fun c_29 => ?_) | refine A_if_eq (tgt := 49) d_Rd_canBe_29 (by decide) (fun c_29 => ?_) (fun c_29 => ?_)
    · refine A_aload_n0 d_Rd_canBe_49 ?_
      refine A_getf (kf := 10) d_Rd_canBe_50 hR.o ok_3 (by decide) q_291 rfl ?_
      refine A_iload_n1 d_Rd_canBe_53 ?_
      refine A_ialdN d_Rd_canBe_54 hR.nu ⟨by omega, by decide⟩ ?_
      refine A_topI (hv i (by omega)).1 ?_
      have hvbi := (hv i (by omega)).2
      refine A_gets (C := "NightBridge$Reader") (v := .ref 2) d_Rd_canBe_55 (by decide) q_557 ?_
      refine A_aload_n0 d_Rd_canBe_58 ?_
      refine A_getf (kf := 8) d_Rd_canBe_59 hR.o ok_3 (by decide) q_289 rfl ?_
      refine A_topI h8 ?_
      refine A_iconst (v := nI 4) d_Rd_canBe_62 (by decide) ?_
      first | refine A_imulN d_Rd_canBe_63 (by with_reducible rfl) (by with_reducible rfl) ?_ | refine A_imul d_Rd_canBe_63 ?_
      refine A_iload_n1 d_Rd_canBe_64 ?_
      first | refine A_iaddN d_Rd_canBe_65 (by with_reducible rfl) (by with_reducible rfl) ?_ | refine A_iadd d_Rd_canBe_65 ?_
      refine A_ialdN d_Rd_canBe_66 hOl.2.2.1 ⟨by omega, by decide⟩ ?_
      refine A_topI (low_k k hk i (by omega)) ?_
      have hlo := (hl_k k hk i (by omega)).1
      first | refine A_icmp_ltN (tgt := 95) d_Rd_canBe_67 (by decide) (by with_reducible rfl) (by with_reducible rfl) (by omega) (by omega) (fun c_67 => ?_) (fun c_67 => ?_) | refine A_icmp_lt (tgt := 95) d_Rd_canBe_67 (by decide) (fun c_67 => ?_) (fun c_67 => ?_)
      · refine A_iconst (v := nI 0) d_Rd_canBe_95 (by decide) ?_
        refine A_zret d_Rd_canBe_96 rfl (by first | rfl | exact bI_nar _ | decide) ⟨Nat.zero_le _, Nat.zero_le _⟩ ?_
        first
          | (exfalso; omega)
          | exact pu (by
              unfold inrN inN
              by_cases hs : i = 2 ∧ (k = 5 ∨ k = 8)
              · obtain ⟨e1, e2⟩ := lo_ye v hs
                rw [e1]
                first
                  | (exfalso; omega)
                  | (rw [decide_eq_true (show v 1 ≤ v i by have := hs.1; subst this; omega), decide_eq_true (show v i ≤ hiN k i by omega)]; rfl)
                  | (rw [decide_eq_false (show ¬ v i ≤ hiN k i by omega), Bool.and_false]; rfl)
                  | (rw [decide_eq_false (show ¬ v 1 ≤ v i by have := hs.1; subst this; omega)]; rfl)
              · rw [lo_no v hs]
                first
                  | (exfalso; omega)
                  | (rw [decide_eq_true (show lo0 k i ≤ v i by omega), decide_eq_true (show v i ≤ hiN k i by omega)]; rfl)
                  | (rw [decide_eq_false (show ¬ lo0 k i ≤ v i by omega)]; rfl)
                  | (rw [decide_eq_false (show ¬ v i ≤ hiN k i by omega), Bool.and_false]; rfl))
      · refine A_aload_n0 d_Rd_canBe_70 ?_
        refine A_getf (kf := 10) d_Rd_canBe_71 hR.o ok_3 (by decide) q_291 rfl ?_
        refine A_iload_n1 d_Rd_canBe_74 ?_
        refine A_ialdN d_Rd_canBe_75 hR.nu ⟨by omega, by decide⟩ ?_
        refine A_topI (hv i (by omega)).1 ?_
        have hvbj := (hv i (by omega)).2
        refine A_gets (C := "NightBridge$Reader") (v := .ref 3) d_Rd_canBe_76 (by decide) q_559 ?_
        refine A_aload_n0 d_Rd_canBe_79 ?_
        refine A_getf (kf := 8) d_Rd_canBe_80 hR.o ok_3 (by decide) q_289 rfl ?_
        refine A_topI h8 ?_
        refine A_iconst (v := nI 4) d_Rd_canBe_83 (by decide) ?_
        first | refine A_imulN d_Rd_canBe_84 (by with_reducible rfl) (by with_reducible rfl) ?_ | refine A_imul d_Rd_canBe_84 ?_
        refine A_iload_n1 d_Rd_canBe_85 ?_
        first | refine A_iaddN d_Rd_canBe_86 (by with_reducible rfl) (by with_reducible rfl) ?_ | refine A_iadd d_Rd_canBe_86 ?_
        refine A_ialdN d_Rd_canBe_87 hOl.2.2.2 ⟨by omega, by decide⟩ ?_
        refine A_topI (high_k k hk i hi) ?_
        have hhi := (hl_k k hk i (by omega)).2
        first | refine A_icmp_gtN (tgt := 95) d_Rd_canBe_88 (by decide) (by with_reducible rfl) (by with_reducible rfl) (by omega) (by omega) (fun c_88 => ?_) (fun c_88 => ?_) | refine A_icmp_gt (tgt := 95) d_Rd_canBe_88 (by decide) (fun c_88 => ?_) (fun c_88 => ?_)
        · refine A_iconst (v := nI 0) d_Rd_canBe_95 (by decide) ?_
          refine A_zret d_Rd_canBe_96 rfl (by first | rfl | exact bI_nar _ | decide) ⟨Nat.zero_le _, Nat.zero_le _⟩ ?_
          first
            | (exfalso; omega)
            | exact pu (by
                unfold inrN inN
                by_cases hs : i = 2 ∧ (k = 5 ∨ k = 8)
                · obtain ⟨e1, e2⟩ := lo_ye v hs
                  rw [e1]
                  first
                    | (exfalso; omega)
                    | (rw [decide_eq_true (show v 1 ≤ v i by have := hs.1; subst this; omega), decide_eq_true (show v i ≤ hiN k i by omega)]; rfl)
                    | (rw [decide_eq_false (show ¬ v i ≤ hiN k i by omega), Bool.and_false]; rfl)
                    | (rw [decide_eq_false (show ¬ v 1 ≤ v i by have := hs.1; subst this; omega)]; rfl)
                · rw [lo_no v hs]
                  first
                    | (exfalso; omega)
                    | (rw [decide_eq_true (show lo0 k i ≤ v i by omega), decide_eq_true (show v i ≤ hiN k i by omega)]; rfl)
                    | (rw [decide_eq_false (show ¬ lo0 k i ≤ v i by omega)]; rfl)
                    | (rw [decide_eq_false (show ¬ v i ≤ hiN k i by omega), Bool.and_false]; rfl))
        · refine A_iconst (v := nI 1) d_Rd_canBe_91 (by decide) ?_
          refine A_goto (tgt := 96) d_Rd_canBe_92 (by decide) ?_
          refine A_zret d_Rd_canBe_96 rfl (by first | rfl | exact bI_nar _ | decide) ⟨Nat.zero_le _, Nat.zero_le _⟩ ?_
          first
            | (exfalso; omega)
            | exact pu (by
                unfold inrN inN
                by_cases hs : i = 2 ∧ (k = 5 ∨ k = 8)
                · obtain ⟨e1, e2⟩ := lo_ye v hs
                  rw [e1]
                  first
                    | (exfalso; omega)
                    | (rw [decide_eq_true (show v 1 ≤ v i by have := hs.1; subst this; omega), decide_eq_true (show v i ≤ hiN k i by omega)]; rfl)
                    | (rw [decide_eq_false (show ¬ v i ≤ hiN k i by omega), Bool.and_false]; rfl)
                    | (rw [decide_eq_false (show ¬ v 1 ≤ v i by have := hs.1; subst this; omega)]; rfl)
                · rw [lo_no v hs]
                  first
                    | (exfalso; omega)
                    | (rw [decide_eq_true (show lo0 k i ≤ v i by omega), decide_eq_true (show v i ≤ hiN k i by omega)]; rfl)
                    | (rw [decide_eq_false (show ¬ lo0 k i ≤ v i by omega)]; rfl)
                    | (rw [decide_eq_false (show ¬ v i ≤ hiN k i by omega), Bool.and_false]; rfl))
    · refine A_aload_n0 d_Rd_canBe_32 ?_
      refine A_getf (kf := 10) d_Rd_canBe_33 hR.o ok_3 (by decide) q_291 rfl ?_
      refine A_iconst (v := nI 2) d_Rd_canBe_36 (by decide) ?_
      refine A_ialdN d_Rd_canBe_37 hR.nu ⟨by omega, by decide⟩ ?_
      refine A_topI (hv 2 (by omega)).1 ?_
      have hvb2 := (hv 2 (by omega)).2
      refine A_aload_n0 d_Rd_canBe_38 ?_
      refine A_getf (kf := 10) d_Rd_canBe_39 hR.o ok_3 (by decide) q_291 rfl ?_
      refine A_iconst (v := nI 1) d_Rd_canBe_42 (by decide) ?_
      refine A_ialdN d_Rd_canBe_43 hR.nu ⟨by omega, by decide⟩ ?_
      refine A_topI (hv 1 (by omega)).1 ?_
      have hvb1 := (hv 1 (by omega)).2
      first | refine A_icmp_geN (tgt := 49) d_Rd_canBe_44 (by decide) (by with_reducible rfl) (by with_reducible rfl) (by omega) (by omega) (fun c_44 => ?_) (fun c_44 => ?_) | refine A_icmp_ge (tgt := 49) d_Rd_canBe_44 (by decide) (fun c_44 => ?_) (fun c_44 => ?_)
      · refine A_aload_n0 d_Rd_canBe_49 ?_
        refine A_getf (kf := 10) d_Rd_canBe_50 hR.o ok_3 (by decide) q_291 rfl ?_
        refine A_iload_n1 d_Rd_canBe_53 ?_
        refine A_ialdN d_Rd_canBe_54 hR.nu ⟨by omega, by decide⟩ ?_
        refine A_topI (hv i (by omega)).1 ?_
        have hvbi := (hv i (by omega)).2
        refine A_gets (C := "NightBridge$Reader") (v := .ref 2) d_Rd_canBe_55 (by decide) q_557 ?_
        refine A_aload_n0 d_Rd_canBe_58 ?_
        refine A_getf (kf := 8) d_Rd_canBe_59 hR.o ok_3 (by decide) q_289 rfl ?_
        refine A_topI h8 ?_
        refine A_iconst (v := nI 4) d_Rd_canBe_62 (by decide) ?_
        first | refine A_imulN d_Rd_canBe_63 (by with_reducible rfl) (by with_reducible rfl) ?_ | refine A_imul d_Rd_canBe_63 ?_
        refine A_iload_n1 d_Rd_canBe_64 ?_
        first | refine A_iaddN d_Rd_canBe_65 (by with_reducible rfl) (by with_reducible rfl) ?_ | refine A_iadd d_Rd_canBe_65 ?_
        refine A_ialdN d_Rd_canBe_66 hOl.2.2.1 ⟨by omega, by decide⟩ ?_
        refine A_topI (low_k k hk i (by omega)) ?_
        have hlo := (hl_k k hk i (by omega)).1
        first | refine A_icmp_ltN (tgt := 95) d_Rd_canBe_67 (by decide) (by with_reducible rfl) (by with_reducible rfl) (by omega) (by omega) (fun c_67 => ?_) (fun c_67 => ?_) | refine A_icmp_lt (tgt := 95) d_Rd_canBe_67 (by decide) (fun c_67 => ?_) (fun c_67 => ?_)
        · refine A_iconst (v := nI 0) d_Rd_canBe_95 (by decide) ?_
          refine A_zret d_Rd_canBe_96 rfl (by first | rfl | exact bI_nar _ | decide) ⟨Nat.zero_le _, Nat.zero_le _⟩ ?_
          first
            | (exfalso; omega)
            | exact pu (by
                unfold inrN inN
                by_cases hs : i = 2 ∧ (k = 5 ∨ k = 8)
                · obtain ⟨e1, e2⟩ := lo_ye v hs
                  rw [e1]
                  first
                    | (exfalso; omega)
                    | (rw [decide_eq_true (show v 1 ≤ v i by have := hs.1; subst this; omega), decide_eq_true (show v i ≤ hiN k i by omega)]; rfl)
                    | (rw [decide_eq_false (show ¬ v i ≤ hiN k i by omega), Bool.and_false]; rfl)
                    | (rw [decide_eq_false (show ¬ v 1 ≤ v i by have := hs.1; subst this; omega)]; rfl)
                · rw [lo_no v hs]
                  first
                    | (exfalso; omega)
                    | (rw [decide_eq_true (show lo0 k i ≤ v i by omega), decide_eq_true (show v i ≤ hiN k i by omega)]; rfl)
                    | (rw [decide_eq_false (show ¬ lo0 k i ≤ v i by omega)]; rfl)
                    | (rw [decide_eq_false (show ¬ v i ≤ hiN k i by omega), Bool.and_false]; rfl))
        · refine A_aload_n0 d_Rd_canBe_70 ?_
          refine A_getf (kf := 10) d_Rd_canBe_71 hR.o ok_3 (by decide) q_291 rfl ?_
          refine A_iload_n1 d_Rd_canBe_74 ?_
          refine A_ialdN d_Rd_canBe_75 hR.nu ⟨by omega, by decide⟩ ?_
          refine A_topI (hv i (by omega)).1 ?_
          have hvbj := (hv i (by omega)).2
          refine A_gets (C := "NightBridge$Reader") (v := .ref 3) d_Rd_canBe_76 (by decide) q_559 ?_
          refine A_aload_n0 d_Rd_canBe_79 ?_
          refine A_getf (kf := 8) d_Rd_canBe_80 hR.o ok_3 (by decide) q_289 rfl ?_
          refine A_topI h8 ?_
          refine A_iconst (v := nI 4) d_Rd_canBe_83 (by decide) ?_
          first | refine A_imulN d_Rd_canBe_84 (by with_reducible rfl) (by with_reducible rfl) ?_ | refine A_imul d_Rd_canBe_84 ?_
          refine A_iload_n1 d_Rd_canBe_85 ?_
          first | refine A_iaddN d_Rd_canBe_86 (by with_reducible rfl) (by with_reducible rfl) ?_ | refine A_iadd d_Rd_canBe_86 ?_
          refine A_ialdN d_Rd_canBe_87 hOl.2.2.2 ⟨by omega, by decide⟩ ?_
          refine A_topI (high_k k hk i hi) ?_
          have hhi := (hl_k k hk i (by omega)).2
          first | refine A_icmp_gtN (tgt := 95) d_Rd_canBe_88 (by decide) (by with_reducible rfl) (by with_reducible rfl) (by omega) (by omega) (fun c_88 => ?_) (fun c_88 => ?_) | refine A_icmp_gt (tgt := 95) d_Rd_canBe_88 (by decide) (fun c_88 => ?_) (fun c_88 => ?_)
          · refine A_iconst (v := nI 0) d_Rd_canBe_95 (by decide) ?_
            refine A_zret d_Rd_canBe_96 rfl (by first | rfl | exact bI_nar _ | decide) ⟨Nat.zero_le _, Nat.zero_le _⟩ ?_
            first
              | (exfalso; omega)
              | exact pu (by
                  unfold inrN inN
                  by_cases hs : i = 2 ∧ (k = 5 ∨ k = 8)
                  · obtain ⟨e1, e2⟩ := lo_ye v hs
                    rw [e1]
                    first
                      | (exfalso; omega)
                      | (rw [decide_eq_true (show v 1 ≤ v i by have := hs.1; subst this; omega), decide_eq_true (show v i ≤ hiN k i by omega)]; rfl)
                      | (rw [decide_eq_false (show ¬ v i ≤ hiN k i by omega), Bool.and_false]; rfl)
                      | (rw [decide_eq_false (show ¬ v 1 ≤ v i by have := hs.1; subst this; omega)]; rfl)
                  · rw [lo_no v hs]
                    first
                      | (exfalso; omega)
                      | (rw [decide_eq_true (show lo0 k i ≤ v i by omega), decide_eq_true (show v i ≤ hiN k i by omega)]; rfl)
                      | (rw [decide_eq_false (show ¬ lo0 k i ≤ v i by omega)]; rfl)
                      | (rw [decide_eq_false (show ¬ v i ≤ hiN k i by omega), Bool.and_false]; rfl))
          · refine A_iconst (v := nI 1) d_Rd_canBe_91 (by decide) ?_
            refine A_goto (tgt := 96) d_Rd_canBe_92 (by decide) ?_
            refine A_zret d_Rd_canBe_96 rfl (by first | rfl | exact bI_nar _ | decide) ⟨Nat.zero_le _, Nat.zero_le _⟩ ?_
            first
              | (exfalso; omega)
              | exact pu (by
                  unfold inrN inN
                  by_cases hs : i = 2 ∧ (k = 5 ∨ k = 8)
                  · obtain ⟨e1, e2⟩ := lo_ye v hs
                    rw [e1]
                    first
                      | (exfalso; omega)
                      | (rw [decide_eq_true (show v 1 ≤ v i by have := hs.1; subst this; omega), decide_eq_true (show v i ≤ hiN k i by omega)]; rfl)
                      | (rw [decide_eq_false (show ¬ v i ≤ hiN k i by omega), Bool.and_false]; rfl)
                      | (rw [decide_eq_false (show ¬ v 1 ≤ v i by have := hs.1; subst this; omega)]; rfl)
                  · rw [lo_no v hs]
                    first
                      | (exfalso; omega)
                      | (rw [decide_eq_true (show lo0 k i ≤ v i by omega), decide_eq_true (show v i ≤ hiN k i by omega)]; rfl)
                      | (rw [decide_eq_false (show ¬ lo0 k i ≤ v i by omega)]; rfl)
                      | (rw [decide_eq_false (show ¬ v i ≤ hiN k i by omega), Bool.and_false]; rfl))
      · refine A_iconst (v := nI 0) d_Rd_canBe_47 (by decide) ?_
        refine A_zret d_Rd_canBe_48 rfl (by first | rfl | exact bI_nar _ | decide) ⟨Nat.zero_le _, Nat.zero_le _⟩ ?_
        first
          | (exfalso; omega)
          | exact pu (by
              unfold inrN inN
              by_cases hs : i = 2 ∧ (k = 5 ∨ k = 8)
              · obtain ⟨e1, e2⟩ := lo_ye v hs
                rw [e1]
                first
                  | (exfalso; omega)
                  | (rw [decide_eq_true (show v 1 ≤ v i by have := hs.1; subst this; omega), decide_eq_true (show v i ≤ hiN k i by omega)]; rfl)
                  | (rw [decide_eq_false (show ¬ v i ≤ hiN k i by omega), Bool.and_false]; rfl)
                  | (rw [decide_eq_false (show ¬ v 1 ≤ v i by have := hs.1; subst this; omega)]; rfl)
              · rw [lo_no v hs]
                first
                  | (exfalso; omega)
                  | (rw [decide_eq_true (show lo0 k i ≤ v i by omega), decide_eq_true (show v i ≤ hiN k i by omega)]; rfl)
                  | (rw [decide_eq_false (show ¬ lo0 k i ≤ v i by omega)]; rfl)
                  | (rw [decide_eq_false (show ¬ v i ≤ hiN k i by omega), Bool.and_false]; rfl))
  · refine A_aload_n0 d_Rd_canBe_5 ?_
    refine A_getf (kf := 8) d_Rd_canBe_6 hR.o ok_3 (by decide) q_289 rfl ?_
    refine A_topI h8 ?_
    refine A_iconst (v := nI 5) d_Rd_canBe_9 (by decide) ?_
    first | refine A_icmp_eqN (tgt := 22) d_Rd_canBe_10 (by decide) (by with_reducible rfl) (by with_reducible rfl) (by omega) (by omega) (fun c_10 => ?_) (fun c_10 => ?_) | refine A_icmp_eq (tgt := 22) d_Rd_canBe_10 (by decide) (fun c_10 => ?_) (fun c_10 => ?_)
    · refine A_iconst (v := nI 1) d_Rd_canBe_22 (by decide) ?_
      refine A_goto (tgt := 27) d_Rd_canBe_23 (by decide) ?_
      refine A_istore2 d_Rd_canBe_27 trivial ?_
      refine A_iload_n2 d_Rd_canBe_28 ?_
      first | refine A_if_eqN (tgt := 49) d_Rd_canBe_29 (by decide) (by with_reducible rfl) (by omega) (fun c_29 => ?_) (fun c_29 => ?_) | refine A_if_eq (tgt := 49) d_Rd_canBe_29 (by decide) (fun c_29 => ?_) (fun c_29 => ?_)
      · refine A_aload_n0 d_Rd_canBe_49 ?_
        refine A_getf (kf := 10) d_Rd_canBe_50 hR.o ok_3 (by decide) q_291 rfl ?_
        refine A_iload_n1 d_Rd_canBe_53 ?_
        refine A_ialdN d_Rd_canBe_54 hR.nu ⟨by omega, by decide⟩ ?_
        refine A_topI (hv i (by omega)).1 ?_
        have hvbi := (hv i (by omega)).2
        refine A_gets (C := "NightBridge$Reader") (v := .ref 2) d_Rd_canBe_55 (by decide) q_557 ?_
        refine A_aload_n0 d_Rd_canBe_58 ?_
        refine A_getf (kf := 8) d_Rd_canBe_59 hR.o ok_3 (by decide) q_289 rfl ?_
        refine A_topI h8 ?_
        refine A_iconst (v := nI 4) d_Rd_canBe_62 (by decide) ?_
        first | refine A_imulN d_Rd_canBe_63 (by with_reducible rfl) (by with_reducible rfl) ?_ | refine A_imul d_Rd_canBe_63 ?_
        refine A_iload_n1 d_Rd_canBe_64 ?_
        first | refine A_iaddN d_Rd_canBe_65 (by with_reducible rfl) (by with_reducible rfl) ?_ | refine A_iadd d_Rd_canBe_65 ?_
        refine A_ialdN d_Rd_canBe_66 hOl.2.2.1 ⟨by omega, by decide⟩ ?_
        refine A_topI (low_k k hk i (by omega)) ?_
        have hlo := (hl_k k hk i (by omega)).1
        first | refine A_icmp_ltN (tgt := 95) d_Rd_canBe_67 (by decide) (by with_reducible rfl) (by with_reducible rfl) (by omega) (by omega) (fun c_67 => ?_) (fun c_67 => ?_) | refine A_icmp_lt (tgt := 95) d_Rd_canBe_67 (by decide) (fun c_67 => ?_) (fun c_67 => ?_)
        · refine A_iconst (v := nI 0) d_Rd_canBe_95 (by decide) ?_
          refine A_zret d_Rd_canBe_96 rfl (by first | rfl | exact bI_nar _ | decide) ⟨Nat.zero_le _, Nat.zero_le _⟩ ?_
          first
            | (exfalso; omega)
            | exact pu (by
                unfold inrN inN
                by_cases hs : i = 2 ∧ (k = 5 ∨ k = 8)
                · obtain ⟨e1, e2⟩ := lo_ye v hs
                  rw [e1]
                  first
                    | (exfalso; omega)
                    | (rw [decide_eq_true (show v 1 ≤ v i by have := hs.1; subst this; omega), decide_eq_true (show v i ≤ hiN k i by omega)]; rfl)
                    | (rw [decide_eq_false (show ¬ v i ≤ hiN k i by omega), Bool.and_false]; rfl)
                    | (rw [decide_eq_false (show ¬ v 1 ≤ v i by have := hs.1; subst this; omega)]; rfl)
                · rw [lo_no v hs]
                  first
                    | (exfalso; omega)
                    | (rw [decide_eq_true (show lo0 k i ≤ v i by omega), decide_eq_true (show v i ≤ hiN k i by omega)]; rfl)
                    | (rw [decide_eq_false (show ¬ lo0 k i ≤ v i by omega)]; rfl)
                    | (rw [decide_eq_false (show ¬ v i ≤ hiN k i by omega), Bool.and_false]; rfl))
        · refine A_aload_n0 d_Rd_canBe_70 ?_
          refine A_getf (kf := 10) d_Rd_canBe_71 hR.o ok_3 (by decide) q_291 rfl ?_
          refine A_iload_n1 d_Rd_canBe_74 ?_
          refine A_ialdN d_Rd_canBe_75 hR.nu ⟨by omega, by decide⟩ ?_
          refine A_topI (hv i (by omega)).1 ?_
          have hvbj := (hv i (by omega)).2
          refine A_gets (C := "NightBridge$Reader") (v := .ref 3) d_Rd_canBe_76 (by decide) q_559 ?_
          refine A_aload_n0 d_Rd_canBe_79 ?_
          refine A_getf (kf := 8) d_Rd_canBe_80 hR.o ok_3 (by decide) q_289 rfl ?_
          refine A_topI h8 ?_
          refine A_iconst (v := nI 4) d_Rd_canBe_83 (by decide) ?_
          first | refine A_imulN d_Rd_canBe_84 (by with_reducible rfl) (by with_reducible rfl) ?_ | refine A_imul d_Rd_canBe_84 ?_
          refine A_iload_n1 d_Rd_canBe_85 ?_
          first | refine A_iaddN d_Rd_canBe_86 (by with_reducible rfl) (by with_reducible rfl) ?_ | refine A_iadd d_Rd_canBe_86 ?_
          refine A_ialdN d_Rd_canBe_87 hOl.2.2.2 ⟨by omega, by decide⟩ ?_
          refine A_topI (high_k k hk i hi) ?_
          have hhi := (hl_k k hk i (by omega)).2
          first | refine A_icmp_gtN (tgt := 95) d_Rd_canBe_88 (by decide) (by with_reducible rfl) (by with_reducible rfl) (by omega) (by omega) (fun c_88 => ?_) (fun c_88 => ?_) | refine A_icmp_gt (tgt := 95) d_Rd_canBe_88 (by decide) (fun c_88 => ?_) (fun c_88 => ?_)
          · refine A_iconst (v := nI 0) d_Rd_canBe_95 (by decide) ?_
            refine A_zret d_Rd_canBe_96 rfl (by first | rfl | exact bI_nar _ | decide) ⟨Nat.zero_le _, Nat.zero_le _⟩ ?_
            first
              | (exfalso; omega)
              | exact pu (by
                  unfold inrN inN
                  by_cases hs : i = 2 ∧ (k = 5 ∨ k = 8)
                  · obtain ⟨e1, e2⟩ := lo_ye v hs
                    rw [e1]
                    first
                      | (exfalso; omega)
                      | (rw [decide_eq_true (show v 1 ≤ v i by have := hs.1; subst this; omega), decide_eq_true (show v i ≤ hiN k i by omega)]; rfl)
                      | (rw [decide_eq_false (show ¬ v i ≤ hiN k i by omega), Bool.and_false]; rfl)
                      | (rw [decide_eq_false (show ¬ v 1 ≤ v i by have := hs.1; subst this; omega)]; rfl)
                  · rw [lo_no v hs]
                    first
                      | (exfalso; omega)
                      | (rw [decide_eq_true (show lo0 k i ≤ v i by omega), decide_eq_true (show v i ≤ hiN k i by omega)]; rfl)
                      | (rw [decide_eq_false (show ¬ lo0 k i ≤ v i by omega)]; rfl)
                      | (rw [decide_eq_false (show ¬ v i ≤ hiN k i by omega), Bool.and_false]; rfl))
          · refine A_iconst (v := nI 1) d_Rd_canBe_91 (by decide) ?_
            refine A_goto (tgt := 96) d_Rd_canBe_92 (by decide) ?_
            refine A_zret d_Rd_canBe_96 rfl (by first | rfl | exact bI_nar _ | decide) ⟨Nat.zero_le _, Nat.zero_le _⟩ ?_
            first
              | (exfalso; omega)
              | exact pu (by
                  unfold inrN inN
                  by_cases hs : i = 2 ∧ (k = 5 ∨ k = 8)
                  · obtain ⟨e1, e2⟩ := lo_ye v hs
                    rw [e1]
                    first
                      | (exfalso; omega)
                      | (rw [decide_eq_true (show v 1 ≤ v i by have := hs.1; subst this; omega), decide_eq_true (show v i ≤ hiN k i by omega)]; rfl)
                      | (rw [decide_eq_false (show ¬ v i ≤ hiN k i by omega), Bool.and_false]; rfl)
                      | (rw [decide_eq_false (show ¬ v 1 ≤ v i by have := hs.1; subst this; omega)]; rfl)
                  · rw [lo_no v hs]
                    first
                      | (exfalso; omega)
                      | (rw [decide_eq_true (show lo0 k i ≤ v i by omega), decide_eq_true (show v i ≤ hiN k i by omega)]; rfl)
                      | (rw [decide_eq_false (show ¬ lo0 k i ≤ v i by omega)]; rfl)
                      | (rw [decide_eq_false (show ¬ v i ≤ hiN k i by omega), Bool.and_false]; rfl))
      · refine A_aload_n0 d_Rd_canBe_32 ?_
        refine A_getf (kf := 10) d_Rd_canBe_33 hR.o ok_3 (by decide) q_291 rfl ?_
        refine A_iconst (v := nI 2) d_Rd_canBe_36 (by decide) ?_
        refine A_ialdN d_Rd_canBe_37 hR.nu ⟨by omega, by decide⟩ ?_
        refine A_topI (hv 2 (by omega)).1 ?_
        have hvb2 := (hv 2 (by omega)).2
        refine A_aload_n0 d_Rd_canBe_38 ?_
        refine A_getf (kf := 10) d_Rd_canBe_39 hR.o ok_3 (by decide) q_291 rfl ?_
        refine A_iconst (v := nI 1) d_Rd_canBe_42 (by decide) ?_
        refine A_ialdN d_Rd_canBe_43 hR.nu ⟨by omega, by decide⟩ ?_
        refine A_topI (hv 1 (by omega)).1 ?_
        have hvb1 := (hv 1 (by omega)).2
        first | refine A_icmp_geN (tgt := 49) d_Rd_canBe_44 (by decide) (by with_reducible rfl) (by with_reducible rfl) (by omega) (by omega) (fun c_44 => ?_) (fun c_44 => ?_) | refine A_icmp_ge (tgt := 49) d_Rd_canBe_44 (by decide) (fun c_44 => ?_) (fun c_44 => ?_)
        · refine A_aload_n0 d_Rd_canBe_49 ?_
          refine A_getf (kf := 10) d_Rd_canBe_50 hR.o ok_3 (by decide) q_291 rfl ?_
          refine A_iload_n1 d_Rd_canBe_53 ?_
          refine A_ialdN d_Rd_canBe_54 hR.nu ⟨by omega, by decide⟩ ?_
          refine A_topI (hv i (by omega)).1 ?_
          have hvbi := (hv i (by omega)).2
          refine A_gets (C := "NightBridge$Reader") (v := .ref 2) d_Rd_canBe_55 (by decide) q_557 ?_
          refine A_aload_n0 d_Rd_canBe_58 ?_
          refine A_getf (kf := 8) d_Rd_canBe_59 hR.o ok_3 (by decide) q_289 rfl ?_
          refine A_topI h8 ?_
          refine A_iconst (v := nI 4) d_Rd_canBe_62 (by decide) ?_
          first | refine A_imulN d_Rd_canBe_63 (by with_reducible rfl) (by with_reducible rfl) ?_ | refine A_imul d_Rd_canBe_63 ?_
          refine A_iload_n1 d_Rd_canBe_64 ?_
          first | refine A_iaddN d_Rd_canBe_65 (by with_reducible rfl) (by with_reducible rfl) ?_ | refine A_iadd d_Rd_canBe_65 ?_
          refine A_ialdN d_Rd_canBe_66 hOl.2.2.1 ⟨by omega, by decide⟩ ?_
          refine A_topI (low_k k hk i (by omega)) ?_
          have hlo := (hl_k k hk i (by omega)).1
          first | refine A_icmp_ltN (tgt := 95) d_Rd_canBe_67 (by decide) (by with_reducible rfl) (by with_reducible rfl) (by omega) (by omega) (fun c_67 => ?_) (fun c_67 => ?_) | refine A_icmp_lt (tgt := 95) d_Rd_canBe_67 (by decide) (fun c_67 => ?_) (fun c_67 => ?_)
          · refine A_iconst (v := nI 0) d_Rd_canBe_95 (by decide) ?_
            refine A_zret d_Rd_canBe_96 rfl (by first | rfl | exact bI_nar _ | decide) ⟨Nat.zero_le _, Nat.zero_le _⟩ ?_
            first
              | (exfalso; omega)
              | exact pu (by
                  unfold inrN inN
                  by_cases hs : i = 2 ∧ (k = 5 ∨ k = 8)
                  · obtain ⟨e1, e2⟩ := lo_ye v hs
                    rw [e1]
                    first
                      | (exfalso; omega)
                      | (rw [decide_eq_true (show v 1 ≤ v i by have := hs.1; subst this; omega), decide_eq_true (show v i ≤ hiN k i by omega)]; rfl)
                      | (rw [decide_eq_false (show ¬ v i ≤ hiN k i by omega), Bool.and_false]; rfl)
                      | (rw [decide_eq_false (show ¬ v 1 ≤ v i by have := hs.1; subst this; omega)]; rfl)
                  · rw [lo_no v hs]
                    first
                      | (exfalso; omega)
                      | (rw [decide_eq_true (show lo0 k i ≤ v i by omega), decide_eq_true (show v i ≤ hiN k i by omega)]; rfl)
                      | (rw [decide_eq_false (show ¬ lo0 k i ≤ v i by omega)]; rfl)
                      | (rw [decide_eq_false (show ¬ v i ≤ hiN k i by omega), Bool.and_false]; rfl))
          · refine A_aload_n0 d_Rd_canBe_70 ?_
            refine A_getf (kf := 10) d_Rd_canBe_71 hR.o ok_3 (by decide) q_291 rfl ?_
            refine A_iload_n1 d_Rd_canBe_74 ?_
            refine A_ialdN d_Rd_canBe_75 hR.nu ⟨by omega, by decide⟩ ?_
            refine A_topI (hv i (by omega)).1 ?_
            have hvbj := (hv i (by omega)).2
            refine A_gets (C := "NightBridge$Reader") (v := .ref 3) d_Rd_canBe_76 (by decide) q_559 ?_
            refine A_aload_n0 d_Rd_canBe_79 ?_
            refine A_getf (kf := 8) d_Rd_canBe_80 hR.o ok_3 (by decide) q_289 rfl ?_
            refine A_topI h8 ?_
            refine A_iconst (v := nI 4) d_Rd_canBe_83 (by decide) ?_
            first | refine A_imulN d_Rd_canBe_84 (by with_reducible rfl) (by with_reducible rfl) ?_ | refine A_imul d_Rd_canBe_84 ?_
            refine A_iload_n1 d_Rd_canBe_85 ?_
            first | refine A_iaddN d_Rd_canBe_86 (by with_reducible rfl) (by with_reducible rfl) ?_ | refine A_iadd d_Rd_canBe_86 ?_
            refine A_ialdN d_Rd_canBe_87 hOl.2.2.2 ⟨by omega, by decide⟩ ?_
            refine A_topI (high_k k hk i hi) ?_
            have hhi := (hl_k k hk i (by omega)).2
            first | refine A_icmp_gtN (tgt := 95) d_Rd_canBe_88 (by decide) (by with_reducible rfl) (by with_reducible rfl) (by omega) (by omega) (fun c_88 => ?_) (fun c_88 => ?_) | refine A_icmp_gt (tgt := 95) d_Rd_canBe_88 (by decide) (fun c_88 => ?_) (fun c_88 => ?_)
            · refine A_iconst (v := nI 0) d_Rd_canBe_95 (by decide) ?_
              refine A_zret d_Rd_canBe_96 rfl (by first | rfl | exact bI_nar _ | decide) ⟨Nat.zero_le _, Nat.zero_le _⟩ ?_
              first
                | (exfalso; omega)
                | exact pu (by
                    unfold inrN inN
                    by_cases hs : i = 2 ∧ (k = 5 ∨ k = 8)
                    · obtain ⟨e1, e2⟩ := lo_ye v hs
                      rw [e1]
                      first
                        | (exfalso; omega)
                        | (rw [decide_eq_true (show v 1 ≤ v i by have := hs.1; subst this; omega), decide_eq_true (show v i ≤ hiN k i by omega)]; rfl)
                        | (rw [decide_eq_false (show ¬ v i ≤ hiN k i by omega), Bool.and_false]; rfl)
                        | (rw [decide_eq_false (show ¬ v 1 ≤ v i by have := hs.1; subst this; omega)]; rfl)
                    · rw [lo_no v hs]
                      first
                        | (exfalso; omega)
                        | (rw [decide_eq_true (show lo0 k i ≤ v i by omega), decide_eq_true (show v i ≤ hiN k i by omega)]; rfl)
                        | (rw [decide_eq_false (show ¬ lo0 k i ≤ v i by omega)]; rfl)
                        | (rw [decide_eq_false (show ¬ v i ≤ hiN k i by omega), Bool.and_false]; rfl))
            · refine A_iconst (v := nI 1) d_Rd_canBe_91 (by decide) ?_
              refine A_goto (tgt := 96) d_Rd_canBe_92 (by decide) ?_
              refine A_zret d_Rd_canBe_96 rfl (by first | rfl | exact bI_nar _ | decide) ⟨Nat.zero_le _, Nat.zero_le _⟩ ?_
              first
                | (exfalso; omega)
                | exact pu (by
                    unfold inrN inN
                    by_cases hs : i = 2 ∧ (k = 5 ∨ k = 8)
                    · obtain ⟨e1, e2⟩ := lo_ye v hs
                      rw [e1]
                      first
                        | (exfalso; omega)
                        | (rw [decide_eq_true (show v 1 ≤ v i by have := hs.1; subst this; omega), decide_eq_true (show v i ≤ hiN k i by omega)]; rfl)
                        | (rw [decide_eq_false (show ¬ v i ≤ hiN k i by omega), Bool.and_false]; rfl)
                        | (rw [decide_eq_false (show ¬ v 1 ≤ v i by have := hs.1; subst this; omega)]; rfl)
                    · rw [lo_no v hs]
                      first
                        | (exfalso; omega)
                        | (rw [decide_eq_true (show lo0 k i ≤ v i by omega), decide_eq_true (show v i ≤ hiN k i by omega)]; rfl)
                        | (rw [decide_eq_false (show ¬ lo0 k i ≤ v i by omega)]; rfl)
                        | (rw [decide_eq_false (show ¬ v i ≤ hiN k i by omega), Bool.and_false]; rfl))
        · refine A_iconst (v := nI 0) d_Rd_canBe_47 (by decide) ?_
          refine A_zret d_Rd_canBe_48 rfl (by first | rfl | exact bI_nar _ | decide) ⟨Nat.zero_le _, Nat.zero_le _⟩ ?_
          first
            | (exfalso; omega)
            | exact pu (by
                unfold inrN inN
                by_cases hs : i = 2 ∧ (k = 5 ∨ k = 8)
                · obtain ⟨e1, e2⟩ := lo_ye v hs
                  rw [e1]
                  first
                    | (exfalso; omega)
                    | (rw [decide_eq_true (show v 1 ≤ v i by have := hs.1; subst this; omega), decide_eq_true (show v i ≤ hiN k i by omega)]; rfl)
                    | (rw [decide_eq_false (show ¬ v i ≤ hiN k i by omega), Bool.and_false]; rfl)
                    | (rw [decide_eq_false (show ¬ v 1 ≤ v i by have := hs.1; subst this; omega)]; rfl)
                · rw [lo_no v hs]
                  first
                    | (exfalso; omega)
                    | (rw [decide_eq_true (show lo0 k i ≤ v i by omega), decide_eq_true (show v i ≤ hiN k i by omega)]; rfl)
                    | (rw [decide_eq_false (show ¬ lo0 k i ≤ v i by omega)]; rfl)
                    | (rw [decide_eq_false (show ¬ v i ≤ hiN k i by omega), Bool.and_false]; rfl))
    · refine A_aload_n0 d_Rd_canBe_13 ?_
      refine A_getf (kf := 8) d_Rd_canBe_14 hR.o ok_3 (by decide) q_289 rfl ?_
      refine A_topI h8 ?_
      refine A_bipush (v := nI 8) d_Rd_canBe_17 (by decide) ?_
      first | refine A_icmp_neN (tgt := 26) d_Rd_canBe_19 (by decide) (by with_reducible rfl) (by with_reducible rfl) (by omega) (by omega) (fun c_19 => ?_) (fun c_19 => ?_) | refine A_icmp_ne (tgt := 26) d_Rd_canBe_19 (by decide) (fun c_19 => ?_) (fun c_19 => ?_)
      · refine A_iconst (v := nI 0) d_Rd_canBe_26 (by decide) ?_
        refine A_istore2 d_Rd_canBe_27 trivial ?_
        refine A_iload_n2 d_Rd_canBe_28 ?_
        first | refine A_if_eqN (tgt := 49) d_Rd_canBe_29 (by decide) (by with_reducible rfl) (by omega) (fun c_29 => ?_) (fun c_29 => ?_) | refine A_if_eq (tgt := 49) d_Rd_canBe_29 (by decide) (fun c_29 => ?_) (fun c_29 => ?_)
        · refine A_aload_n0 d_Rd_canBe_49 ?_
          refine A_getf (kf := 10) d_Rd_canBe_50 hR.o ok_3 (by decide) q_291 rfl ?_
          refine A_iload_n1 d_Rd_canBe_53 ?_
          refine A_ialdN d_Rd_canBe_54 hR.nu ⟨by omega, by decide⟩ ?_
          refine A_topI (hv i (by omega)).1 ?_
          have hvbi := (hv i (by omega)).2
          refine A_gets (C := "NightBridge$Reader") (v := .ref 2) d_Rd_canBe_55 (by decide) q_557 ?_
          refine A_aload_n0 d_Rd_canBe_58 ?_
          refine A_getf (kf := 8) d_Rd_canBe_59 hR.o ok_3 (by decide) q_289 rfl ?_
          refine A_topI h8 ?_
          refine A_iconst (v := nI 4) d_Rd_canBe_62 (by decide) ?_
          first | refine A_imulN d_Rd_canBe_63 (by with_reducible rfl) (by with_reducible rfl) ?_ | refine A_imul d_Rd_canBe_63 ?_
          refine A_iload_n1 d_Rd_canBe_64 ?_
          first | refine A_iaddN d_Rd_canBe_65 (by with_reducible rfl) (by with_reducible rfl) ?_ | refine A_iadd d_Rd_canBe_65 ?_
          refine A_ialdN d_Rd_canBe_66 hOl.2.2.1 ⟨by omega, by decide⟩ ?_
          refine A_topI (low_k k hk i (by omega)) ?_
          have hlo := (hl_k k hk i (by omega)).1
          first | refine A_icmp_ltN (tgt := 95) d_Rd_canBe_67 (by decide) (by with_reducible rfl) (by with_reducible rfl) (by omega) (by omega) (fun c_67 => ?_) (fun c_67 => ?_) | refine A_icmp_lt (tgt := 95) d_Rd_canBe_67 (by decide) (fun c_67 => ?_) (fun c_67 => ?_)
          · refine A_iconst (v := nI 0) d_Rd_canBe_95 (by decide) ?_
            refine A_zret d_Rd_canBe_96 rfl (by first | rfl | exact bI_nar _ | decide) ⟨Nat.zero_le _, Nat.zero_le _⟩ ?_
            first
              | (exfalso; omega)
              | exact pu (by
                  unfold inrN inN
                  by_cases hs : i = 2 ∧ (k = 5 ∨ k = 8)
                  · obtain ⟨e1, e2⟩ := lo_ye v hs
                    rw [e1]
                    first
                      | (exfalso; omega)
                      | (rw [decide_eq_true (show v 1 ≤ v i by have := hs.1; subst this; omega), decide_eq_true (show v i ≤ hiN k i by omega)]; rfl)
                      | (rw [decide_eq_false (show ¬ v i ≤ hiN k i by omega), Bool.and_false]; rfl)
                      | (rw [decide_eq_false (show ¬ v 1 ≤ v i by have := hs.1; subst this; omega)]; rfl)
                  · rw [lo_no v hs]
                    first
                      | (exfalso; omega)
                      | (rw [decide_eq_true (show lo0 k i ≤ v i by omega), decide_eq_true (show v i ≤ hiN k i by omega)]; rfl)
                      | (rw [decide_eq_false (show ¬ lo0 k i ≤ v i by omega)]; rfl)
                      | (rw [decide_eq_false (show ¬ v i ≤ hiN k i by omega), Bool.and_false]; rfl))
          · refine A_aload_n0 d_Rd_canBe_70 ?_
            refine A_getf (kf := 10) d_Rd_canBe_71 hR.o ok_3 (by decide) q_291 rfl ?_
            refine A_iload_n1 d_Rd_canBe_74 ?_
            refine A_ialdN d_Rd_canBe_75 hR.nu ⟨by omega, by decide⟩ ?_
            refine A_topI (hv i (by omega)).1 ?_
            have hvbj := (hv i (by omega)).2
            refine A_gets (C := "NightBridge$Reader") (v := .ref 3) d_Rd_canBe_76 (by decide) q_559 ?_
            refine A_aload_n0 d_Rd_canBe_79 ?_
            refine A_getf (kf := 8) d_Rd_canBe_80 hR.o ok_3 (by decide) q_289 rfl ?_
            refine A_topI h8 ?_
            refine A_iconst (v := nI 4) d_Rd_canBe_83 (by decide) ?_
            first | refine A_imulN d_Rd_canBe_84 (by with_reducible rfl) (by with_reducible rfl) ?_ | refine A_imul d_Rd_canBe_84 ?_
            refine A_iload_n1 d_Rd_canBe_85 ?_
            first | refine A_iaddN d_Rd_canBe_86 (by with_reducible rfl) (by with_reducible rfl) ?_ | refine A_iadd d_Rd_canBe_86 ?_
            refine A_ialdN d_Rd_canBe_87 hOl.2.2.2 ⟨by omega, by decide⟩ ?_
            refine A_topI (high_k k hk i hi) ?_
            have hhi := (hl_k k hk i (by omega)).2
            first | refine A_icmp_gtN (tgt := 95) d_Rd_canBe_88 (by decide) (by with_reducible rfl) (by with_reducible rfl) (by omega) (by omega) (fun c_88 => ?_) (fun c_88 => ?_) | refine A_icmp_gt (tgt := 95) d_Rd_canBe_88 (by decide) (fun c_88 => ?_) (fun c_88 => ?_)
            · refine A_iconst (v := nI 0) d_Rd_canBe_95 (by decide) ?_
              refine A_zret d_Rd_canBe_96 rfl (by first | rfl | exact bI_nar _ | decide) ⟨Nat.zero_le _, Nat.zero_le _⟩ ?_
              first
                | (exfalso; omega)
                | exact pu (by
                    unfold inrN inN
                    by_cases hs : i = 2 ∧ (k = 5 ∨ k = 8)
                    · obtain ⟨e1, e2⟩ := lo_ye v hs
                      rw [e1]
                      first
                        | (exfalso; omega)
                        | (rw [decide_eq_true (show v 1 ≤ v i by have := hs.1; subst this; omega), decide_eq_true (show v i ≤ hiN k i by omega)]; rfl)
                        | (rw [decide_eq_false (show ¬ v i ≤ hiN k i by omega), Bool.and_false]; rfl)
                        | (rw [decide_eq_false (show ¬ v 1 ≤ v i by have := hs.1; subst this; omega)]; rfl)
                    · rw [lo_no v hs]
                      first
                        | (exfalso; omega)
                        | (rw [decide_eq_true (show lo0 k i ≤ v i by omega), decide_eq_true (show v i ≤ hiN k i by omega)]; rfl)
                        | (rw [decide_eq_false (show ¬ lo0 k i ≤ v i by omega)]; rfl)
                        | (rw [decide_eq_false (show ¬ v i ≤ hiN k i by omega), Bool.and_false]; rfl))
            · refine A_iconst (v := nI 1) d_Rd_canBe_91 (by decide) ?_
              refine A_goto (tgt := 96) d_Rd_canBe_92 (by decide) ?_
              refine A_zret d_Rd_canBe_96 rfl (by first | rfl | exact bI_nar _ | decide) ⟨Nat.zero_le _, Nat.zero_le _⟩ ?_
              first
                | (exfalso; omega)
                | exact pu (by
                    unfold inrN inN
                    by_cases hs : i = 2 ∧ (k = 5 ∨ k = 8)
                    · obtain ⟨e1, e2⟩ := lo_ye v hs
                      rw [e1]
                      first
                        | (exfalso; omega)
                        | (rw [decide_eq_true (show v 1 ≤ v i by have := hs.1; subst this; omega), decide_eq_true (show v i ≤ hiN k i by omega)]; rfl)
                        | (rw [decide_eq_false (show ¬ v i ≤ hiN k i by omega), Bool.and_false]; rfl)
                        | (rw [decide_eq_false (show ¬ v 1 ≤ v i by have := hs.1; subst this; omega)]; rfl)
                    · rw [lo_no v hs]
                      first
                        | (exfalso; omega)
                        | (rw [decide_eq_true (show lo0 k i ≤ v i by omega), decide_eq_true (show v i ≤ hiN k i by omega)]; rfl)
                        | (rw [decide_eq_false (show ¬ lo0 k i ≤ v i by omega)]; rfl)
                        | (rw [decide_eq_false (show ¬ v i ≤ hiN k i by omega), Bool.and_false]; rfl))
        · refine A_aload_n0 d_Rd_canBe_32 ?_
          refine A_getf (kf := 10) d_Rd_canBe_33 hR.o ok_3 (by decide) q_291 rfl ?_
          refine A_iconst (v := nI 2) d_Rd_canBe_36 (by decide) ?_
          refine A_ialdN d_Rd_canBe_37 hR.nu ⟨by omega, by decide⟩ ?_
          refine A_topI (hv 2 (by omega)).1 ?_
          have hvb2 := (hv 2 (by omega)).2
          refine A_aload_n0 d_Rd_canBe_38 ?_
          refine A_getf (kf := 10) d_Rd_canBe_39 hR.o ok_3 (by decide) q_291 rfl ?_
          refine A_iconst (v := nI 1) d_Rd_canBe_42 (by decide) ?_
          refine A_ialdN d_Rd_canBe_43 hR.nu ⟨by omega, by decide⟩ ?_
          refine A_topI (hv 1 (by omega)).1 ?_
          have hvb1 := (hv 1 (by omega)).2
          first | refine A_icmp_geN (tgt := 49) d_Rd_canBe_44 (by decide) (by with_reducible rfl) (by with_reducible rfl) (by omega) (by omega) (fun c_44 => ?_) (fun c_44 => ?_) | refine A_icmp_ge (tgt := 49) d_Rd_canBe_44 (by decide) (fun c_44 => ?_) (fun c_44 => ?_)
          · refine A_aload_n0 d_Rd_canBe_49 ?_
            refine A_getf (kf := 10) d_Rd_canBe_50 hR.o ok_3 (by decide) q_291 rfl ?_
            refine A_iload_n1 d_Rd_canBe_53 ?_
            refine A_ialdN d_Rd_canBe_54 hR.nu ⟨by omega, by decide⟩ ?_
            refine A_topI (hv i (by omega)).1 ?_
            have hvbi := (hv i (by omega)).2
            refine A_gets (C := "NightBridge$Reader") (v := .ref 2) d_Rd_canBe_55 (by decide) q_557 ?_
            refine A_aload_n0 d_Rd_canBe_58 ?_
            refine A_getf (kf := 8) d_Rd_canBe_59 hR.o ok_3 (by decide) q_289 rfl ?_
            refine A_topI h8 ?_
            refine A_iconst (v := nI 4) d_Rd_canBe_62 (by decide) ?_
            first | refine A_imulN d_Rd_canBe_63 (by with_reducible rfl) (by with_reducible rfl) ?_ | refine A_imul d_Rd_canBe_63 ?_
            refine A_iload_n1 d_Rd_canBe_64 ?_
            first | refine A_iaddN d_Rd_canBe_65 (by with_reducible rfl) (by with_reducible rfl) ?_ | refine A_iadd d_Rd_canBe_65 ?_
            refine A_ialdN d_Rd_canBe_66 hOl.2.2.1 ⟨by omega, by decide⟩ ?_
            refine A_topI (low_k k hk i (by omega)) ?_
            have hlo := (hl_k k hk i (by omega)).1
            first | refine A_icmp_ltN (tgt := 95) d_Rd_canBe_67 (by decide) (by with_reducible rfl) (by with_reducible rfl) (by omega) (by omega) (fun c_67 => ?_) (fun c_67 => ?_) | refine A_icmp_lt (tgt := 95) d_Rd_canBe_67 (by decide) (fun c_67 => ?_) (fun c_67 => ?_)
            · refine A_iconst (v := nI 0) d_Rd_canBe_95 (by decide) ?_
              refine A_zret d_Rd_canBe_96 rfl (by first | rfl | exact bI_nar _ | decide) ⟨Nat.zero_le _, Nat.zero_le _⟩ ?_
              first
                | (exfalso; omega)
                | exact pu (by
                    unfold inrN inN
                    by_cases hs : i = 2 ∧ (k = 5 ∨ k = 8)
                    · obtain ⟨e1, e2⟩ := lo_ye v hs
                      rw [e1]
                      first
                        | (exfalso; omega)
                        | (rw [decide_eq_true (show v 1 ≤ v i by have := hs.1; subst this; omega), decide_eq_true (show v i ≤ hiN k i by omega)]; rfl)
                        | (rw [decide_eq_false (show ¬ v i ≤ hiN k i by omega), Bool.and_false]; rfl)
                        | (rw [decide_eq_false (show ¬ v 1 ≤ v i by have := hs.1; subst this; omega)]; rfl)
                    · rw [lo_no v hs]
                      first
                        | (exfalso; omega)
                        | (rw [decide_eq_true (show lo0 k i ≤ v i by omega), decide_eq_true (show v i ≤ hiN k i by omega)]; rfl)
                        | (rw [decide_eq_false (show ¬ lo0 k i ≤ v i by omega)]; rfl)
                        | (rw [decide_eq_false (show ¬ v i ≤ hiN k i by omega), Bool.and_false]; rfl))
            · refine A_aload_n0 d_Rd_canBe_70 ?_
              refine A_getf (kf := 10) d_Rd_canBe_71 hR.o ok_3 (by decide) q_291 rfl ?_
              refine A_iload_n1 d_Rd_canBe_74 ?_
              refine A_ialdN d_Rd_canBe_75 hR.nu ⟨by omega, by decide⟩ ?_
              refine A_topI (hv i (by omega)).1 ?_
              have hvbj := (hv i (by omega)).2
              refine A_gets (C := "NightBridge$Reader") (v := .ref 3) d_Rd_canBe_76 (by decide) q_559 ?_
              refine A_aload_n0 d_Rd_canBe_79 ?_
              refine A_getf (kf := 8) d_Rd_canBe_80 hR.o ok_3 (by decide) q_289 rfl ?_
              refine A_topI h8 ?_
              refine A_iconst (v := nI 4) d_Rd_canBe_83 (by decide) ?_
              first | refine A_imulN d_Rd_canBe_84 (by with_reducible rfl) (by with_reducible rfl) ?_ | refine A_imul d_Rd_canBe_84 ?_
              refine A_iload_n1 d_Rd_canBe_85 ?_
              first | refine A_iaddN d_Rd_canBe_86 (by with_reducible rfl) (by with_reducible rfl) ?_ | refine A_iadd d_Rd_canBe_86 ?_
              refine A_ialdN d_Rd_canBe_87 hOl.2.2.2 ⟨by omega, by decide⟩ ?_
              refine A_topI (high_k k hk i hi) ?_
              have hhi := (hl_k k hk i (by omega)).2
              first | refine A_icmp_gtN (tgt := 95) d_Rd_canBe_88 (by decide) (by with_reducible rfl) (by with_reducible rfl) (by omega) (by omega) (fun c_88 => ?_) (fun c_88 => ?_) | refine A_icmp_gt (tgt := 95) d_Rd_canBe_88 (by decide) (fun c_88 => ?_) (fun c_88 => ?_)
              · refine A_iconst (v := nI 0) d_Rd_canBe_95 (by decide) ?_
                refine A_zret d_Rd_canBe_96 rfl (by first | rfl | exact bI_nar _ | decide) ⟨Nat.zero_le _, Nat.zero_le _⟩ ?_
                first
                  | (exfalso; omega)
                  | exact pu (by
                      unfold inrN inN
                      by_cases hs : i = 2 ∧ (k = 5 ∨ k = 8)
                      · obtain ⟨e1, e2⟩ := lo_ye v hs
                        rw [e1]
                        first
                          | (exfalso; omega)
                          | (rw [decide_eq_true (show v 1 ≤ v i by have := hs.1; subst this; omega), decide_eq_true (show v i ≤ hiN k i by omega)]; rfl)
                          | (rw [decide_eq_false (show ¬ v i ≤ hiN k i by omega), Bool.and_false]; rfl)
                          | (rw [decide_eq_false (show ¬ v 1 ≤ v i by have := hs.1; subst this; omega)]; rfl)
                      · rw [lo_no v hs]
                        first
                          | (exfalso; omega)
                          | (rw [decide_eq_true (show lo0 k i ≤ v i by omega), decide_eq_true (show v i ≤ hiN k i by omega)]; rfl)
                          | (rw [decide_eq_false (show ¬ lo0 k i ≤ v i by omega)]; rfl)
                          | (rw [decide_eq_false (show ¬ v i ≤ hiN k i by omega), Bool.and_false]; rfl))
              · refine A_iconst (v := nI 1) d_Rd_canBe_91 (by decide) ?_
                refine A_goto (tgt := 96) d_Rd_canBe_92 (by decide) ?_
                refine A_zret d_Rd_canBe_96 rfl (by first | rfl | exact bI_nar _ | decide) ⟨Nat.zero_le _, Nat.zero_le _⟩ ?_
                first
                  | (exfalso; omega)
                  | exact pu (by
                      unfold inrN inN
                      by_cases hs : i = 2 ∧ (k = 5 ∨ k = 8)
                      · obtain ⟨e1, e2⟩ := lo_ye v hs
                        rw [e1]
                        first
                          | (exfalso; omega)
                          | (rw [decide_eq_true (show v 1 ≤ v i by have := hs.1; subst this; omega), decide_eq_true (show v i ≤ hiN k i by omega)]; rfl)
                          | (rw [decide_eq_false (show ¬ v i ≤ hiN k i by omega), Bool.and_false]; rfl)
                          | (rw [decide_eq_false (show ¬ v 1 ≤ v i by have := hs.1; subst this; omega)]; rfl)
                      · rw [lo_no v hs]
                        first
                          | (exfalso; omega)
                          | (rw [decide_eq_true (show lo0 k i ≤ v i by omega), decide_eq_true (show v i ≤ hiN k i by omega)]; rfl)
                          | (rw [decide_eq_false (show ¬ lo0 k i ≤ v i by omega)]; rfl)
                          | (rw [decide_eq_false (show ¬ v i ≤ hiN k i by omega), Bool.and_false]; rfl))
          · refine A_iconst (v := nI 0) d_Rd_canBe_47 (by decide) ?_
            refine A_zret d_Rd_canBe_48 rfl (by first | rfl | exact bI_nar _ | decide) ⟨Nat.zero_le _, Nat.zero_le _⟩ ?_
            first
              | (exfalso; omega)
              | exact pu (by
                  unfold inrN inN
                  by_cases hs : i = 2 ∧ (k = 5 ∨ k = 8)
                  · obtain ⟨e1, e2⟩ := lo_ye v hs
                    rw [e1]
                    first
                      | (exfalso; omega)
                      | (rw [decide_eq_true (show v 1 ≤ v i by have := hs.1; subst this; omega), decide_eq_true (show v i ≤ hiN k i by omega)]; rfl)
                      | (rw [decide_eq_false (show ¬ v i ≤ hiN k i by omega), Bool.and_false]; rfl)
                      | (rw [decide_eq_false (show ¬ v 1 ≤ v i by have := hs.1; subst this; omega)]; rfl)
                  · rw [lo_no v hs]
                    first
                      | (exfalso; omega)
                      | (rw [decide_eq_true (show lo0 k i ≤ v i by omega), decide_eq_true (show v i ≤ hiN k i by omega)]; rfl)
                      | (rw [decide_eq_false (show ¬ lo0 k i ≤ v i by omega)]; rfl)
                      | (rw [decide_eq_false (show ¬ v i ≤ hiN k i by omega), Bool.and_false]; rfl))
      · refine A_iconst (v := nI 1) d_Rd_canBe_22 (by decide) ?_
        refine A_goto (tgt := 27) d_Rd_canBe_23 (by decide) ?_
        refine A_istore2 d_Rd_canBe_27 trivial ?_
        refine A_iload_n2 d_Rd_canBe_28 ?_
        first | refine A_if_eqN (tgt := 49) d_Rd_canBe_29 (by decide) (by with_reducible rfl) (by omega) (fun c_29 => ?_) (fun c_29 => ?_) | refine A_if_eq (tgt := 49) d_Rd_canBe_29 (by decide) (fun c_29 => ?_) (fun c_29 => ?_)
        · refine A_aload_n0 d_Rd_canBe_49 ?_
          refine A_getf (kf := 10) d_Rd_canBe_50 hR.o ok_3 (by decide) q_291 rfl ?_
          refine A_iload_n1 d_Rd_canBe_53 ?_
          refine A_ialdN d_Rd_canBe_54 hR.nu ⟨by omega, by decide⟩ ?_
          refine A_topI (hv i (by omega)).1 ?_
          have hvbi := (hv i (by omega)).2
          refine A_gets (C := "NightBridge$Reader") (v := .ref 2) d_Rd_canBe_55 (by decide) q_557 ?_
          refine A_aload_n0 d_Rd_canBe_58 ?_
          refine A_getf (kf := 8) d_Rd_canBe_59 hR.o ok_3 (by decide) q_289 rfl ?_
          refine A_topI h8 ?_
          refine A_iconst (v := nI 4) d_Rd_canBe_62 (by decide) ?_
          first | refine A_imulN d_Rd_canBe_63 (by with_reducible rfl) (by with_reducible rfl) ?_ | refine A_imul d_Rd_canBe_63 ?_
          refine A_iload_n1 d_Rd_canBe_64 ?_
          first | refine A_iaddN d_Rd_canBe_65 (by with_reducible rfl) (by with_reducible rfl) ?_ | refine A_iadd d_Rd_canBe_65 ?_
          refine A_ialdN d_Rd_canBe_66 hOl.2.2.1 ⟨by omega, by decide⟩ ?_
          refine A_topI (low_k k hk i (by omega)) ?_
          have hlo := (hl_k k hk i (by omega)).1
          first | refine A_icmp_ltN (tgt := 95) d_Rd_canBe_67 (by decide) (by with_reducible rfl) (by with_reducible rfl) (by omega) (by omega) (fun c_67 => ?_) (fun c_67 => ?_) | refine A_icmp_lt (tgt := 95) d_Rd_canBe_67 (by decide) (fun c_67 => ?_) (fun c_67 => ?_)
          · refine A_iconst (v := nI 0) d_Rd_canBe_95 (by decide) ?_
            refine A_zret d_Rd_canBe_96 rfl (by first | rfl | exact bI_nar _ | decide) ⟨Nat.zero_le _, Nat.zero_le _⟩ ?_
            first
              | (exfalso; omega)
              | exact pu (by
                  unfold inrN inN
                  by_cases hs : i = 2 ∧ (k = 5 ∨ k = 8)
                  · obtain ⟨e1, e2⟩ := lo_ye v hs
                    rw [e1]
                    first
                      | (exfalso; omega)
                      | (rw [decide_eq_true (show v 1 ≤ v i by have := hs.1; subst this; omega), decide_eq_true (show v i ≤ hiN k i by omega)]; rfl)
                      | (rw [decide_eq_false (show ¬ v i ≤ hiN k i by omega), Bool.and_false]; rfl)
                      | (rw [decide_eq_false (show ¬ v 1 ≤ v i by have := hs.1; subst this; omega)]; rfl)
                  · rw [lo_no v hs]
                    first
                      | (exfalso; omega)
                      | (rw [decide_eq_true (show lo0 k i ≤ v i by omega), decide_eq_true (show v i ≤ hiN k i by omega)]; rfl)
                      | (rw [decide_eq_false (show ¬ lo0 k i ≤ v i by omega)]; rfl)
                      | (rw [decide_eq_false (show ¬ v i ≤ hiN k i by omega), Bool.and_false]; rfl))
          · refine A_aload_n0 d_Rd_canBe_70 ?_
            refine A_getf (kf := 10) d_Rd_canBe_71 hR.o ok_3 (by decide) q_291 rfl ?_
            refine A_iload_n1 d_Rd_canBe_74 ?_
            refine A_ialdN d_Rd_canBe_75 hR.nu ⟨by omega, by decide⟩ ?_
            refine A_topI (hv i (by omega)).1 ?_
            have hvbj := (hv i (by omega)).2
            refine A_gets (C := "NightBridge$Reader") (v := .ref 3) d_Rd_canBe_76 (by decide) q_559 ?_
            refine A_aload_n0 d_Rd_canBe_79 ?_
            refine A_getf (kf := 8) d_Rd_canBe_80 hR.o ok_3 (by decide) q_289 rfl ?_
            refine A_topI h8 ?_
            refine A_iconst (v := nI 4) d_Rd_canBe_83 (by decide) ?_
            first | refine A_imulN d_Rd_canBe_84 (by with_reducible rfl) (by with_reducible rfl) ?_ | refine A_imul d_Rd_canBe_84 ?_
            refine A_iload_n1 d_Rd_canBe_85 ?_
            first | refine A_iaddN d_Rd_canBe_86 (by with_reducible rfl) (by with_reducible rfl) ?_ | refine A_iadd d_Rd_canBe_86 ?_
            refine A_ialdN d_Rd_canBe_87 hOl.2.2.2 ⟨by omega, by decide⟩ ?_
            refine A_topI (high_k k hk i hi) ?_
            have hhi := (hl_k k hk i (by omega)).2
            first | refine A_icmp_gtN (tgt := 95) d_Rd_canBe_88 (by decide) (by with_reducible rfl) (by with_reducible rfl) (by omega) (by omega) (fun c_88 => ?_) (fun c_88 => ?_) | refine A_icmp_gt (tgt := 95) d_Rd_canBe_88 (by decide) (fun c_88 => ?_) (fun c_88 => ?_)
            · refine A_iconst (v := nI 0) d_Rd_canBe_95 (by decide) ?_
              refine A_zret d_Rd_canBe_96 rfl (by first | rfl | exact bI_nar _ | decide) ⟨Nat.zero_le _, Nat.zero_le _⟩ ?_
              first
                | (exfalso; omega)
                | exact pu (by
                    unfold inrN inN
                    by_cases hs : i = 2 ∧ (k = 5 ∨ k = 8)
                    · obtain ⟨e1, e2⟩ := lo_ye v hs
                      rw [e1]
                      first
                        | (exfalso; omega)
                        | (rw [decide_eq_true (show v 1 ≤ v i by have := hs.1; subst this; omega), decide_eq_true (show v i ≤ hiN k i by omega)]; rfl)
                        | (rw [decide_eq_false (show ¬ v i ≤ hiN k i by omega), Bool.and_false]; rfl)
                        | (rw [decide_eq_false (show ¬ v 1 ≤ v i by have := hs.1; subst this; omega)]; rfl)
                    · rw [lo_no v hs]
                      first
                        | (exfalso; omega)
                        | (rw [decide_eq_true (show lo0 k i ≤ v i by omega), decide_eq_true (show v i ≤ hiN k i by omega)]; rfl)
                        | (rw [decide_eq_false (show ¬ lo0 k i ≤ v i by omega)]; rfl)
                        | (rw [decide_eq_false (show ¬ v i ≤ hiN k i by omega), Bool.and_false]; rfl))
            · refine A_iconst (v := nI 1) d_Rd_canBe_91 (by decide) ?_
              refine A_goto (tgt := 96) d_Rd_canBe_92 (by decide) ?_
              refine A_zret d_Rd_canBe_96 rfl (by first | rfl | exact bI_nar _ | decide) ⟨Nat.zero_le _, Nat.zero_le _⟩ ?_
              first
                | (exfalso; omega)
                | exact pu (by
                    unfold inrN inN
                    by_cases hs : i = 2 ∧ (k = 5 ∨ k = 8)
                    · obtain ⟨e1, e2⟩ := lo_ye v hs
                      rw [e1]
                      first
                        | (exfalso; omega)
                        | (rw [decide_eq_true (show v 1 ≤ v i by have := hs.1; subst this; omega), decide_eq_true (show v i ≤ hiN k i by omega)]; rfl)
                        | (rw [decide_eq_false (show ¬ v i ≤ hiN k i by omega), Bool.and_false]; rfl)
                        | (rw [decide_eq_false (show ¬ v 1 ≤ v i by have := hs.1; subst this; omega)]; rfl)
                    · rw [lo_no v hs]
                      first
                        | (exfalso; omega)
                        | (rw [decide_eq_true (show lo0 k i ≤ v i by omega), decide_eq_true (show v i ≤ hiN k i by omega)]; rfl)
                        | (rw [decide_eq_false (show ¬ lo0 k i ≤ v i by omega)]; rfl)
                        | (rw [decide_eq_false (show ¬ v i ≤ hiN k i by omega), Bool.and_false]; rfl))
        · refine A_aload_n0 d_Rd_canBe_32 ?_
          refine A_getf (kf := 10) d_Rd_canBe_33 hR.o ok_3 (by decide) q_291 rfl ?_
          refine A_iconst (v := nI 2) d_Rd_canBe_36 (by decide) ?_
          refine A_ialdN d_Rd_canBe_37 hR.nu ⟨by omega, by decide⟩ ?_
          refine A_topI (hv 2 (by omega)).1 ?_
          have hvb2 := (hv 2 (by omega)).2
          refine A_aload_n0 d_Rd_canBe_38 ?_
          refine A_getf (kf := 10) d_Rd_canBe_39 hR.o ok_3 (by decide) q_291 rfl ?_
          refine A_iconst (v := nI 1) d_Rd_canBe_42 (by decide) ?_
          refine A_ialdN d_Rd_canBe_43 hR.nu ⟨by omega, by decide⟩ ?_
          refine A_topI (hv 1 (by omega)).1 ?_
          have hvb1 := (hv 1 (by omega)).2
          first | refine A_icmp_geN (tgt := 49) d_Rd_canBe_44 (by decide) (by with_reducible rfl) (by with_reducible rfl) (by omega) (by omega) (fun c_44 => ?_) (fun c_44 => ?_) | refine A_icmp_ge (tgt := 49) d_Rd_canBe_44 (by decide) (fun c_44 => ?_) (fun c_44 => ?_)
          · refine A_aload_n0 d_Rd_canBe_49 ?_
            refine A_getf (kf := 10) d_Rd_canBe_50 hR.o ok_3 (by decide) q_291 rfl ?_
            refine A_iload_n1 d_Rd_canBe_53 ?_
            refine A_ialdN d_Rd_canBe_54 hR.nu ⟨by omega, by decide⟩ ?_
            refine A_topI (hv i (by omega)).1 ?_
            have hvbi := (hv i (by omega)).2
            refine A_gets (C := "NightBridge$Reader") (v := .ref 2) d_Rd_canBe_55 (by decide) q_557 ?_
            refine A_aload_n0 d_Rd_canBe_58 ?_
            refine A_getf (kf := 8) d_Rd_canBe_59 hR.o ok_3 (by decide) q_289 rfl ?_
            refine A_topI h8 ?_
            refine A_iconst (v := nI 4) d_Rd_canBe_62 (by decide) ?_
            first | refine A_imulN d_Rd_canBe_63 (by with_reducible rfl) (by with_reducible rfl) ?_ | refine A_imul d_Rd_canBe_63 ?_
            refine A_iload_n1 d_Rd_canBe_64 ?_
            first | refine A_iaddN d_Rd_canBe_65 (by with_reducible rfl) (by with_reducible rfl) ?_ | refine A_iadd d_Rd_canBe_65 ?_
            refine A_ialdN d_Rd_canBe_66 hOl.2.2.1 ⟨by omega, by decide⟩ ?_
            refine A_topI (low_k k hk i (by omega)) ?_
            have hlo := (hl_k k hk i (by omega)).1
            first | refine A_icmp_ltN (tgt := 95) d_Rd_canBe_67 (by decide) (by with_reducible rfl) (by with_reducible rfl) (by omega) (by omega) (fun c_67 => ?_) (fun c_67 => ?_) | refine A_icmp_lt (tgt := 95) d_Rd_canBe_67 (by decide) (fun c_67 => ?_) (fun c_67 => ?_)
            · refine A_iconst (v := nI 0) d_Rd_canBe_95 (by decide) ?_
              refine A_zret d_Rd_canBe_96 rfl (by first | rfl | exact bI_nar _ | decide) ⟨Nat.zero_le _, Nat.zero_le _⟩ ?_
              first
                | (exfalso; omega)
                | exact pu (by
                    unfold inrN inN
                    by_cases hs : i = 2 ∧ (k = 5 ∨ k = 8)
                    · obtain ⟨e1, e2⟩ := lo_ye v hs
                      rw [e1]
                      first
                        | (exfalso; omega)
                        | (rw [decide_eq_true (show v 1 ≤ v i by have := hs.1; subst this; omega), decide_eq_true (show v i ≤ hiN k i by omega)]; rfl)
                        | (rw [decide_eq_false (show ¬ v i ≤ hiN k i by omega), Bool.and_false]; rfl)
                        | (rw [decide_eq_false (show ¬ v 1 ≤ v i by have := hs.1; subst this; omega)]; rfl)
                    · rw [lo_no v hs]
                      first
                        | (exfalso; omega)
                        | (rw [decide_eq_true (show lo0 k i ≤ v i by omega), decide_eq_true (show v i ≤ hiN k i by omega)]; rfl)
                        | (rw [decide_eq_false (show ¬ lo0 k i ≤ v i by omega)]; rfl)
                        | (rw [decide_eq_false (show ¬ v i ≤ hiN k i by omega), Bool.and_false]; rfl))
            · refine A_aload_n0 d_Rd_canBe_70 ?_
              refine A_getf (kf := 10) d_Rd_canBe_71 hR.o ok_3 (by decide) q_291 rfl ?_
              refine A_iload_n1 d_Rd_canBe_74 ?_
              refine A_ialdN d_Rd_canBe_75 hR.nu ⟨by omega, by decide⟩ ?_
              refine A_topI (hv i (by omega)).1 ?_
              have hvbj := (hv i (by omega)).2
              refine A_gets (C := "NightBridge$Reader") (v := .ref 3) d_Rd_canBe_76 (by decide) q_559 ?_
              refine A_aload_n0 d_Rd_canBe_79 ?_
              refine A_getf (kf := 8) d_Rd_canBe_80 hR.o ok_3 (by decide) q_289 rfl ?_
              refine A_topI h8 ?_
              refine A_iconst (v := nI 4) d_Rd_canBe_83 (by decide) ?_
              first | refine A_imulN d_Rd_canBe_84 (by with_reducible rfl) (by with_reducible rfl) ?_ | refine A_imul d_Rd_canBe_84 ?_
              refine A_iload_n1 d_Rd_canBe_85 ?_
              first | refine A_iaddN d_Rd_canBe_86 (by with_reducible rfl) (by with_reducible rfl) ?_ | refine A_iadd d_Rd_canBe_86 ?_
              refine A_ialdN d_Rd_canBe_87 hOl.2.2.2 ⟨by omega, by decide⟩ ?_
              refine A_topI (high_k k hk i hi) ?_
              have hhi := (hl_k k hk i (by omega)).2
              first | refine A_icmp_gtN (tgt := 95) d_Rd_canBe_88 (by decide) (by with_reducible rfl) (by with_reducible rfl) (by omega) (by omega) (fun c_88 => ?_) (fun c_88 => ?_) | refine A_icmp_gt (tgt := 95) d_Rd_canBe_88 (by decide) (fun c_88 => ?_) (fun c_88 => ?_)
              · refine A_iconst (v := nI 0) d_Rd_canBe_95 (by decide) ?_
                refine A_zret d_Rd_canBe_96 rfl (by first | rfl | exact bI_nar _ | decide) ⟨Nat.zero_le _, Nat.zero_le _⟩ ?_
                first
                  | (exfalso; omega)
                  | exact pu (by
                      unfold inrN inN
                      by_cases hs : i = 2 ∧ (k = 5 ∨ k = 8)
                      · obtain ⟨e1, e2⟩ := lo_ye v hs
                        rw [e1]
                        first
                          | (exfalso; omega)
                          | (rw [decide_eq_true (show v 1 ≤ v i by have := hs.1; subst this; omega), decide_eq_true (show v i ≤ hiN k i by omega)]; rfl)
                          | (rw [decide_eq_false (show ¬ v i ≤ hiN k i by omega), Bool.and_false]; rfl)
                          | (rw [decide_eq_false (show ¬ v 1 ≤ v i by have := hs.1; subst this; omega)]; rfl)
                      · rw [lo_no v hs]
                        first
                          | (exfalso; omega)
                          | (rw [decide_eq_true (show lo0 k i ≤ v i by omega), decide_eq_true (show v i ≤ hiN k i by omega)]; rfl)
                          | (rw [decide_eq_false (show ¬ lo0 k i ≤ v i by omega)]; rfl)
                          | (rw [decide_eq_false (show ¬ v i ≤ hiN k i by omega), Bool.and_false]; rfl))
              · refine A_iconst (v := nI 1) d_Rd_canBe_91 (by decide) ?_
                refine A_goto (tgt := 96) d_Rd_canBe_92 (by decide) ?_
                refine A_zret d_Rd_canBe_96 rfl (by first | rfl | exact bI_nar _ | decide) ⟨Nat.zero_le _, Nat.zero_le _⟩ ?_
                first
                  | (exfalso; omega)
                  | exact pu (by
                      unfold inrN inN
                      by_cases hs : i = 2 ∧ (k = 5 ∨ k = 8)
                      · obtain ⟨e1, e2⟩ := lo_ye v hs
                        rw [e1]
                        first
                          | (exfalso; omega)
                          | (rw [decide_eq_true (show v 1 ≤ v i by have := hs.1; subst this; omega), decide_eq_true (show v i ≤ hiN k i by omega)]; rfl)
                          | (rw [decide_eq_false (show ¬ v i ≤ hiN k i by omega), Bool.and_false]; rfl)
                          | (rw [decide_eq_false (show ¬ v 1 ≤ v i by have := hs.1; subst this; omega)]; rfl)
                      · rw [lo_no v hs]
                        first
                          | (exfalso; omega)
                          | (rw [decide_eq_true (show lo0 k i ≤ v i by omega), decide_eq_true (show v i ≤ hiN k i by omega)]; rfl)
                          | (rw [decide_eq_false (show ¬ lo0 k i ≤ v i by omega)]; rfl)
                          | (rw [decide_eq_false (show ¬ v i ≤ hiN k i by omega), Bool.and_false]; rfl))
          · refine A_iconst (v := nI 0) d_Rd_canBe_47 (by decide) ?_
            refine A_zret d_Rd_canBe_48 rfl (by first | rfl | exact bI_nar _ | decide) ⟨Nat.zero_le _, Nat.zero_le _⟩ ?_
            first
              | (exfalso; omega)
              | exact pu (by
                  unfold inrN inN
                  by_cases hs : i = 2 ∧ (k = 5 ∨ k = 8)
                  · obtain ⟨e1, e2⟩ := lo_ye v hs
                    rw [e1]
                    first
                      | (exfalso; omega)
                      | (rw [decide_eq_true (show v 1 ≤ v i by have := hs.1; subst this; omega), decide_eq_true (show v i ≤ hiN k i by omega)]; rfl)
                      | (rw [decide_eq_false (show ¬ v i ≤ hiN k i by omega), Bool.and_false]; rfl)
                      | (rw [decide_eq_false (show ¬ v 1 ≤ v i by have := hs.1; subst this; omega)]; rfl)
                  · rw [lo_no v hs]
                    first
                      | (exfalso; omega)
                      | (rw [decide_eq_true (show lo0 k i ≤ v i by omega), decide_eq_true (show v i ≤ hiN k i by omega)]; rfl)
                      | (rw [decide_eq_false (show ¬ lo0 k i ≤ v i by omega)]; rfl)
                      | (rw [decide_eq_false (show ¬ v i ≤ hiN k i by omega), Bool.and_false]; rfl))
