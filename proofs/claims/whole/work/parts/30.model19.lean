theorem tsw {x : Int32} {lo hi : Nat} (h2 : hi < 2 ^ 31) (h1 : lo < 2 ^ 31 := by decide) : (∃ k, x = nI k ∧ lo ≤ k ∧ k ≤ hi) ∨ (inB x (nI lo) (nI hi) = false ∧ (x.toInt < (lo : Int) ∨ (hi : Int) < x.toInt)) := by
  cases q : inB x (nI lo) (nI hi)
  · refine Or.inr ⟨rfl, ?_⟩
    by_cases a : x.toInt < (lo : Int)
    · exact Or.inl a
    · by_cases b : (hi : Int) < x.toInt
      · exact Or.inr b
      · exfalso
        have e1 : ¬ x < nI lo := fun z => by rw [Int32.lt_iff_toInt_lt, nI_toInt h1] at z; omega
        have e2 : ¬ nI hi < x := fun z => by rw [Int32.lt_iff_toInt_lt, nI_toInt h2] at z; omega
        simp [inB, e1, e2] at q
  · exact Or.inl (inB_ex h2 q h1)
/-- hours of the bridge straight ahead of h -/
def stayN (w : Nat → Nat) (H h : Nat) : Nat := firstU (fun k => !decide (w ((h + H - 1 - k) % H) = 2)) (fun k => k) 0 H 0
def illB (V w : Nat → Nat) (h : Nat) : Bool := !decide (w h = 2) && !decide (stayN w (V 0) h = if caI w (V 0) h = nI (1 - w h) then V 1 else 0)
def legalB (V w : Nat → Nat) : Bool := !(decide (darkN w 0 (V 0) = 0) && decide (darkN w 1 (V 0) = 0)) && firstU (illB V w) (fun _ => false) true (V 0) 0
def valN (V w : Nat → Nat) : Nat := sumN (fun h => if w h = 2 then 0 else likedInN V (w h) h) (V 0)
def priceN (V w : Nat → Nat) : Nat := sumN (fun h => if comesB w (V 0) h = true then V (6 + h) + cheapN V else 0) (V 0)
def rowV (V w : Nat → Nat) (x : Int32) : Int32 := rg x 0 7 (fun k => if k = 0 then bI (legalB V w) else if k = 1 then nI (carryN w (V 0)) else if k = 2 then nI (darkN w 0 (V 0)) else if k = 3 then nI (darkN w 1 (V 0)) else if k = 4 then bI (decide (awakeI V (darkN w 0 (V 0)) (darkN w 1 (V 0)) = 0)) else if k = 5 then nI (valN V w) else if k = 6 then nI (priceN V w) else awakeI V (darkN w 0 (V 0)) (darkN w 1 (V 0))) (-1)
set_option maxHeartbeats 4000000 in
set_option maxRecDepth 100000 in
theorem c_M_isLegal {G : GE} {h0 h : AH} {m : Nat} {S : MS} (hM : MW h0 h m S) {l : Nat} {V w : Nat → Nat} (hL : LRd S l V w) : Ctr G y_M_isLegal b_M_isLegal 4 (some .boolean) r_M_isLegal [.ref m] h (Pu (.int (bI (legalB V w))) h) := by
  have hH := hL.1.ok.1
  have hC := hL.1.ok.2.1
  obtain ⟨hS, hw, e32, e33⟩ := hL
  have hd0 := darkN_le w 0 (V 0)
  have hd1 := darkN_le w 1 (V 0)
  have key : ∀ i, i ≤ V 0 → WA G y_M_isLegal b_M_isLegal 4 (some .boolean) r_M_isLegal 0 0 (Pu (.int (bI (firstU (illB V w) (fun _ => false) true (V 0) i))) h) 0 0 18 [some (.ref m), some (.int (nI i)), none, none] [] h := by
    refine down ?_ (fun i hi ih => ?_)
    · refine A_iload_n1 d_M_isLegal_18 ?_
      refine A_aload_n0 d_M_isLegal_19 ?_
      refine A_getf (kf := 27) d_M_isLegal_20 hM.o ok_8 (by decide) q_1076 rfl ?_
      refine A_topI hS.hours ?_
      first | refine A_icmp_geN (tgt := 114) d_M_isLegal_23 (by decide) (by with_reducible rfl) (by with_reducible rfl) (by omega) (by omega) (fun c_23 => ?_) (fun c_23 => ?_) | refine A_icmp_ge (tgt := 114) d_M_isLegal_23 (by decide) (fun c_23 => ?_) (fun c_23 => ?_)
      · refine A_iconst (v := nI 1) d_M_isLegal_114 (by decide) ?_
        refine A_zret d_M_isLegal_115 rfl (by first | rfl | exact bI_nar _ | decide) ⟨Nat.zero_le _, Nat.zero_le _⟩ ?_
        exact pu (by rw [firstU_end]; rfl)
      · exact absurd c_23 (by omega)
    · have hwi := (hw i hi).2
      refine A_iload_n1 d_M_isLegal_18 ?_
      refine A_aload_n0 d_M_isLegal_19 ?_
      refine A_getf (kf := 27) d_M_isLegal_20 hM.o ok_8 (by decide) q_1076 rfl ?_
      refine A_topI hS.hours ?_
      first | refine A_icmp_geN (tgt := 114) d_M_isLegal_23 (by decide) (by with_reducible rfl) (by with_reducible rfl) (by omega) (by omega) (fun c_23 => ?_) (fun c_23 => ?_) | refine A_icmp_ge (tgt := 114) d_M_isLegal_23 (by decide) (fun c_23 => ?_) (fun c_23 => ?_)
      · exact absurd c_23 (by omega)
      · refine A_aload_n0 d_M_isLegal_26 ?_
        refine A_getf (kf := 31) d_M_isLegal_27 hM.o ok_8 (by decide) q_1080 rfl ?_
        refine A_iload_n1 d_M_isLegal_30 ?_
        refine A_ialdN d_M_isLegal_31 hM.a31 ⟨by omega, by decide⟩ ?_
        refine A_topI (hw i hi).1 ?_
        refine A_iconst (v := nI 2) d_M_isLegal_32 (by decide) ?_
        first | refine A_icmp_eqN (tgt := 108) d_M_isLegal_33 (by decide) (by with_reducible rfl) (by with_reducible rfl) (by omega) (by omega) (fun c_33 => ?_) (fun c_33 => ?_) | refine A_icmp_eq (tgt := 108) d_M_isLegal_33 (by decide) (fun c_33 => ?_) (fun c_33 => ?_)
        · first | refine A_iinc1 d_M_isLegal_108 (nI_1 _) trivial ?_ | refine A_iinc1 d_M_isLegal_108 rfl trivial ?_
          refine A_goto (tgt := 18) d_M_isLegal_111 (by decide) ?_
          rw [firstU_step _ _ _ hi, if_neg (by unfold illB; rw [decide_eq_true c_33]; simp)]
          exact A_drop2 (A_drop3 ih)
        · refine A_iconst (v := nI 0) d_M_isLegal_36 (by decide) ?_
          refine A_istore2 d_M_isLegal_37 trivial ?_
          have key2 : ∀ j, j ≤ V 0 → (stayN w (V 0) i = firstU (fun k => !decide (w ((i + V 0 - 1 - k) % V 0) = 2)) (fun k => k) 0 (V 0) j) → j < V 0 → WA G y_M_isLegal b_M_isLegal 4 (some .boolean) r_M_isLegal 0 0 (Pu (.int (bI (firstU (illB V w) (fun _ => false) true (V 0) i))) h) 0 0 38 [some (.ref m), some (.int (nI i)), some (.int (nI j)), none] [] h := by
            refine down (fun _ q => absurd q (by omega)) (fun j hj ihj => ?_)
            intro hst _
            refine A_aload_n0 d_M_isLegal_38 ?_
            refine A_getf (kf := 31) d_M_isLegal_39 hM.o ok_8 (by decide) q_1080 rfl ?_
            refine A_iload_n1 d_M_isLegal_42 ?_
            refine A_aload_n0 d_M_isLegal_43 ?_
            refine A_getf (kf := 27) d_M_isLegal_44 hM.o ok_8 (by decide) q_1076 rfl ?_
            refine A_topI hS.hours ?_
            first | refine A_iaddN d_M_isLegal_47 (by with_reducible rfl) (by with_reducible rfl) ?_ | refine A_iadd d_M_isLegal_47 ?_
            refine A_iconst (v := nI 1) d_M_isLegal_48 (by decide) ?_
            first | refine A_isubN d_M_isLegal_49 (by with_reducible rfl) (by with_reducible rfl) (by omega) ?_ | refine A_isub d_M_isLegal_49 ?_
            refine A_iload_n2 d_M_isLegal_50 ?_
            first | refine A_isubN d_M_isLegal_51 (by with_reducible rfl) (by with_reducible rfl) (by omega) ?_ | refine A_isub d_M_isLegal_51 ?_
            refine A_aload_n0 d_M_isLegal_52 ?_
            refine A_getf (kf := 27) d_M_isLegal_53 hM.o ok_8 (by decide) q_1076 rfl ?_
            refine A_topI hS.hours ?_
            refine A_iremN d_M_isLegal_56 (by with_reducible rfl) (by with_reducible rfl) (by omega) ?_
            refine A_ialdN d_M_isLegal_57 hM.a31 ⟨Nat.lt_of_lt_of_le (Nat.mod_lt _ (by omega)) (by omega), by decide⟩ ?_
            refine A_topI (hw _ (Nat.mod_lt _ (by omega))).1 ?_
            have hwj := (hw ((i + V 0 - 1 - j) % V 0) (Nat.mod_lt _ (by omega))).2
            refine A_iconst (v := nI 2) d_M_isLegal_58 (by decide) ?_
            first | refine A_icmp_neN (tgt := 68) d_M_isLegal_59 (by decide) (by with_reducible rfl) (by with_reducible rfl) (by omega) (by omega) (fun c_59 => ?_) (fun c_59 => ?_) | refine A_icmp_ne (tgt := 68) d_M_isLegal_59 (by decide) (fun c_59 => ?_) (fun c_59 => ?_)
            · have hsj : stayN w (V 0) i = j := by rw [hst, firstU_step _ _ _ (by omega), if_pos (by rw [decide_eq_false c_59]; rfl)]
              refine A_aload_n0 d_M_isLegal_68 ?_
              refine A_iload_n1 d_M_isLegal_69 ?_
              refine A_callVP d_M_isLegal_70 (c_M_cityAhead hM hS hw i hi) hM.o rfl q_1387 q_1389 qs_44 mk_M_cityAhead rfl (by decide) rfl (Nat.le_of_ble_eq_true rfl) ⟨Nat.le_of_ble_eq_true rfl, Nat.le_of_ble_eq_true rfl⟩ ⟨rfl, rfl⟩ ?_
              refine A_iconst (v := nI 1) d_M_isLegal_73 (by decide) ?_
              refine A_aload_n0 d_M_isLegal_74 ?_
              refine A_getf (kf := 31) d_M_isLegal_75 hM.o ok_8 (by decide) q_1080 rfl ?_
              refine A_iload_n1 d_M_isLegal_78 ?_
              refine A_ialdN d_M_isLegal_79 hM.a31 ⟨by omega, by decide⟩ ?_
              refine A_topI (hw i hi).1 ?_
              first | refine A_isubN d_M_isLegal_80 (by with_reducible rfl) (by with_reducible rfl) (by omega) ?_ | refine A_isub d_M_isLegal_80 ?_
              first | refine A_icmp_neN (tgt := 88) d_M_isLegal_81 (by decide) (by with_reducible rfl) (by with_reducible rfl) (by omega) (by omega) (fun c_81 => ?_) (fun c_81 => ?_) | refine A_icmp_ne (tgt := 88) d_M_isLegal_81 (by decide) (fun c_81 => ?_) (fun c_81 => ?_)
              · refine A_iconst (v := nI 0) d_M_isLegal_88 (by decide) ?_
                refine A_istore3 d_M_isLegal_89 trivial ?_
                refine A_iload_n2 d_M_isLegal_90 ?_
                refine A_iload_n3 d_M_isLegal_91 ?_
                refine A_if_eq (tgt := 102) d_M_isLegal_92 (by decide) (fun c_92 => ?_) (fun c => absurd (by decide) c)
                refine A_iconst (v := nI 0) d_M_isLegal_102 (by decide) ?_
                first | refine A_icmp_eqN (tgt := 108) d_M_isLegal_103 (by decide) (by with_reducible rfl) (by with_reducible rfl) (by omega) (by omega) (fun c_103 => ?_) (fun c_103 => ?_) | refine A_icmp_eq (tgt := 108) d_M_isLegal_103 (by decide) (fun c_103 => ?_) (fun c_103 => ?_)
                · first | refine A_iinc1 d_M_isLegal_108 (nI_1 _) trivial ?_ | refine A_iinc1 d_M_isLegal_108 rfl trivial ?_
                  refine A_goto (tgt := 18) d_M_isLegal_111 (by decide) ?_
                  rw [firstU_step _ _ _ hi, if_neg (by unfold illB; rw [decide_eq_false c_33, hsj]; first | (rw [if_pos c_81, decide_eq_true c_103]; decide) | (rw [if_neg c_81, decide_eq_true c_103]; decide))]
                  exact A_drop2 (A_drop3 ih)
                · refine A_iconst (v := nI 0) d_M_isLegal_106 (by decide) ?_
                  refine A_zret d_M_isLegal_107 rfl (by first | rfl | exact bI_nar _ | decide) ⟨Nat.zero_le _, Nat.zero_le _⟩ ?_
                  exact pu (by rw [firstU_step _ _ _ hi, if_pos (by unfold illB; rw [decide_eq_false c_33, hsj]; first | (rw [if_pos c_81, decide_eq_false c_103]; decide) | (rw [if_neg c_81, decide_eq_false c_103]; decide))]; rfl)
              · refine A_iconst (v := nI 1) d_M_isLegal_84 (by decide) ?_
                refine A_goto (tgt := 89) d_M_isLegal_85 (by decide) ?_
                refine A_istore3 d_M_isLegal_89 trivial ?_
                refine A_iload_n2 d_M_isLegal_90 ?_
                refine A_iload_n3 d_M_isLegal_91 ?_
                refine A_if_eq (tgt := 102) d_M_isLegal_92 (by decide) (fun c => absurd c (by decide)) (fun c_92 => ?_)
                refine A_aload_n0 d_M_isLegal_95 ?_
                refine A_getf (kf := 28) d_M_isLegal_96 hM.o ok_8 (by decide) q_1077 rfl ?_
                refine A_topI hS.cross ?_
                refine A_goto (tgt := 103) d_M_isLegal_99 (by decide) ?_
                first | refine A_icmp_eqN (tgt := 108) d_M_isLegal_103 (by decide) (by with_reducible rfl) (by with_reducible rfl) (by omega) (by omega) (fun c_103 => ?_) (fun c_103 => ?_) | refine A_icmp_eq (tgt := 108) d_M_isLegal_103 (by decide) (fun c_103 => ?_) (fun c_103 => ?_)
                · first | refine A_iinc1 d_M_isLegal_108 (nI_1 _) trivial ?_ | refine A_iinc1 d_M_isLegal_108 rfl trivial ?_
                  refine A_goto (tgt := 18) d_M_isLegal_111 (by decide) ?_
                  rw [firstU_step _ _ _ hi, if_neg (by unfold illB; rw [decide_eq_false c_33, hsj]; first | (rw [if_pos c_81, decide_eq_true c_103]; decide) | (rw [if_neg c_81, decide_eq_true c_103]; decide))]
                  exact A_drop2 (A_drop3 ih)
                · refine A_iconst (v := nI 0) d_M_isLegal_106 (by decide) ?_
                  refine A_zret d_M_isLegal_107 rfl (by first | rfl | exact bI_nar _ | decide) ⟨Nat.zero_le _, Nat.zero_le _⟩ ?_
                  exact pu (by rw [firstU_step _ _ _ hi, if_pos (by unfold illB; rw [decide_eq_false c_33, hsj]; first | (rw [if_pos c_81, decide_eq_false c_103]; decide) | (rw [if_neg c_81, decide_eq_false c_103]; decide))]; rfl)
            · first | refine A_iinc2 d_M_isLegal_62 (nI_1 _) trivial ?_ | refine A_iinc2 d_M_isLegal_62 rfl trivial ?_
              refine A_goto (tgt := 38) d_M_isLegal_65 (by decide) ?_
              have e : firstU (fun k => !decide (w ((i + V 0 - 1 - k) % V 0) = 2)) (fun k => k) 0 (V 0) j = firstU (fun k => !decide (w ((i + V 0 - 1 - k) % V 0) = 2)) (fun k => k) 0 (V 0) (j + 1) := by rw [firstU_step _ _ _ (by omega), if_neg (by rw [decide_eq_true c_59]; decide)]
              refine ihj (hst.trans e) (Nat.lt_of_le_of_ne hj (fun q => ?_))
              have q2 : (i + V 0 - 1 - j) % V 0 = i := by rw [show i + V 0 - 1 - j = i by omega]; exact Nat.mod_eq_of_lt hi
              rw [q2] at c_59
              exact c_33 c_59
          exact key2 0 (Nat.zero_le _) rfl (by omega)
  refine Ctr.of (by decide +kernel) (by simp) (Nat.le_of_ble_eq_true rfl) (L0 := [some (.ref m), none, none, none]) rfl ?_
  refine A_aload_n0 d_M_isLegal_0 ?_
  refine A_getf (kf := 32) d_M_isLegal_1 hM.o ok_8 (by decide) q_1081 rfl ?_
  refine A_topI e32 ?_
  first | refine A_if_neN (tgt := 16) d_M_isLegal_4 (by decide) (by with_reducible rfl) (by omega) (fun c_4 => ?_) (fun c_4 => ?_) | refine A_if_ne (tgt := 16) d_M_isLegal_4 (by decide) (fun c_4 => ?_) (fun c_4 => ?_)
  · refine A_iconst (v := nI 0) d_M_isLegal_16 (by decide) ?_
    refine A_istore1 d_M_isLegal_17 trivial ?_
    have hl : legalB V w = firstU (illB V w) (fun _ => false) true (V 0) 0 := by
      unfold legalB
      first | rw [decide_eq_false c_4] | rw [decide_eq_false c_11, Bool.and_false]
      rfl
    rw [hl]
    exact key 0 (Nat.zero_le _)
  · refine A_aload_n0 d_M_isLegal_7 ?_
    refine A_getf (kf := 33) d_M_isLegal_8 hM.o ok_8 (by decide) q_1082 rfl ?_
    refine A_topI e33 ?_
    first | refine A_if_neN (tgt := 16) d_M_isLegal_11 (by decide) (by with_reducible rfl) (by omega) (fun c_11 => ?_) (fun c_11 => ?_) | refine A_if_ne (tgt := 16) d_M_isLegal_11 (by decide) (fun c_11 => ?_) (fun c_11 => ?_)
    · refine A_iconst (v := nI 0) d_M_isLegal_16 (by decide) ?_
      refine A_istore1 d_M_isLegal_17 trivial ?_
      have hl : legalB V w = firstU (illB V w) (fun _ => false) true (V 0) 0 := by
        unfold legalB
        first | rw [decide_eq_false c_4] | rw [decide_eq_false c_11, Bool.and_false]
        rfl
      rw [hl]
      exact key 0 (Nat.zero_le _)
    · refine A_iconst (v := nI 0) d_M_isLegal_14 (by decide) ?_
      refine A_zret d_M_isLegal_15 rfl (by first | rfl | exact bI_nar _ | decide) ⟨Nat.zero_le _, Nat.zero_le _⟩ ?_
      exact pu (by unfold legalB; rw [decide_eq_true c_4, decide_eq_true c_11]; rfl)
set_option maxHeartbeats 4000000 in
set_option maxRecDepth 100000 in
theorem c_M_row2 {G : GE} {h0 h1 : AH} {m : Nat} {S S2 : MS} (hM : MW h0 h1 m S2) (hk : Keep S S2) {l : Nat} {V w : Nat → Nat} (hL : LRd S2 l V w) (l' t' : Nat) (x : Int32) : WA G y_M_row b_M_row 7 (some .int) r_M_row 0 0 (TK h0 m S (.int (rowV V w x))) 0 0 25 [some (.ref m), some (.int (nI l')), some (.int (nI t')), some (.int x), some (.int (nI 0)), some (.int (nI 0)), some (.int (nI 0))] [] h1 := by
  have hH := hL.1.ok.1
  obtain ⟨hS, hw, e0, e1⟩ := hL
  have hd0 := darkN_le w 0 (V 0)
  have hd1 := darkN_le w 1 (V 0)
  generalize hf5 : (fun h => if w h = 2 then 0 else likedInN V (w h) h) = f5
  generalize hf6 : (fun h => if comesB w (V 0) h = true then V (6 + h) + cheapN V else 0) = f6
  have key : ∀ i, i ≤ V 0 → WA G y_M_row b_M_row 7 (some .int) r_M_row 0 0 (TK h0 m S (.int (rowV V w x))) 0 0 25 [some (.ref m), some (.int (nI l')), some (.int (nI t')), some (.int x), some (.int (nI (sumN f5 i))), some (.int (nI (sumN f6 i))), some (.int (nI i))] [] h1 := by
    refine down ?_ (fun i hi ih => ?_)
    · refine A_iload6 d_M_row_25 ?_
      refine A_aload_n0 d_M_row_27 ?_
      refine A_getf (kf := 27) d_M_row_28 hM.o ok_8 (by decide) q_1076 rfl ?_
      refine A_topI hS.hours ?_
      first | refine A_icmp_geN (tgt := 105) d_M_row_31 (by decide) (by with_reducible rfl) (by with_reducible rfl) (by omega) (by omega) (fun c_31 => ?_) (fun c_31 => ?_) | refine A_icmp_ge (tgt := 105) d_M_row_31 (by decide) (fun c_31 => ?_) (fun c_31 => ?_)
      · refine A_iload_n3 d_M_row_105 ?_
        rcases tsw (x := x) (lo := 0) (hi := 7) (by decide) with ⟨k106, hk106, hka, hkb⟩ | ⟨sw_106, swo⟩
        · rcases (show k106 = 0 ∨ k106 = 1 ∨ k106 = 2 ∨ k106 = 3 ∨ k106 = 4 ∨ k106 = 5 ∨ k106 = 6 ∨ k106 = 7 by omega) with rfl | rfl | rfl | rfl | rfl | rfl | rfl | rfl
          · subst hk106
            refine A_tableIn (tgt := 152) d_M_row_106 (by decide) (by decide) rfl (by decide) ?_
            refine A_aload_n0 d_M_row_152 ?_
            refine A_callVP d_M_row_153 (c_M_isLegal hM ⟨hS, hw, e0, e1⟩) hM.o rfl q_1399 q_1401 qs_46 mk_M_isLegal rfl (by decide) rfl (Nat.le_of_ble_eq_true rfl) ⟨Nat.le_of_ble_eq_true rfl, Nat.le_of_ble_eq_true rfl⟩ ⟨rfl, rfl⟩ ?_
            refine A_if_eqB (tgt := 163) d_M_row_156 (by decide) (fun c_156 => ?_) (fun c_156 => ?_)
            · refine A_iconst (v := nI 0) d_M_row_163 (by decide) ?_
              refine A_iret d_M_row_164 rfl ⟨Nat.zero_le _, Nat.zero_le _⟩ ?_
              exact tk hM hk (by rw [rowV]; first | rw [rg_out sw_106] | (rw [rg_in (by omega) (by decide)]; first | (rw [if_pos rfl]; first | (rw [c_156]; rfl) | rfl) | (rw [if_neg (by decide), if_neg (by decide), if_neg (by decide), if_neg (by decide), if_pos rfl]; first | (rw [decide_eq_true c_182]; rfl) | (rw [decide_eq_false c_182]; rfl)) | (simp only [Nat.reduceEqDiff, reduceIte, reduceCtorEq, valN, priceN, hf5, hf6]; done)))
            · refine A_iconst (v := nI 1) d_M_row_159 (by decide) ?_
              refine A_goto (tgt := 164) d_M_row_160 (by decide) ?_
              refine A_iret d_M_row_164 rfl ⟨Nat.zero_le _, Nat.zero_le _⟩ ?_
              exact tk hM hk (by rw [rowV]; first | rw [rg_out sw_106] | (rw [rg_in (by omega) (by decide)]; first | (rw [if_pos rfl]; first | (rw [c_156]; rfl) | rfl) | (rw [if_neg (by decide), if_neg (by decide), if_neg (by decide), if_neg (by decide), if_pos rfl]; first | (rw [decide_eq_true c_182]; rfl) | (rw [decide_eq_false c_182]; rfl)) | (simp only [Nat.reduceEqDiff, reduceIte, reduceCtorEq, valN, priceN, hf5, hf6]; done)))
          · subst hk106
            refine A_tableIn (tgt := 165) d_M_row_106 (by decide) (by decide) rfl (by decide) ?_
            refine A_aload_n0 d_M_row_165 ?_
            refine A_callVP d_M_row_166 (c_M_carryings hM hS hw) hM.o rfl q_1403 q_1405 qs_47 mk_M_carryings rfl (by decide) rfl (Nat.le_of_ble_eq_true rfl) ⟨Nat.le_of_ble_eq_true rfl, Nat.le_of_ble_eq_true rfl⟩ ⟨rfl, rfl⟩ ?_
            refine A_iret d_M_row_169 rfl ⟨Nat.zero_le _, Nat.zero_le _⟩ ?_
            exact tk hM hk (by rw [rowV]; first | rw [rg_out sw_106] | (rw [rg_in (by omega) (by decide)]; first | (rw [if_pos rfl]; first | (rw [c_156]; rfl) | rfl) | (rw [if_neg (by decide), if_neg (by decide), if_neg (by decide), if_neg (by decide), if_pos rfl]; first | (rw [decide_eq_true c_182]; rfl) | (rw [decide_eq_false c_182]; rfl)) | (simp only [Nat.reduceEqDiff, reduceIte, reduceCtorEq, valN, priceN, hf5, hf6]; done)))
          · subst hk106
            refine A_tableIn (tgt := 170) d_M_row_106 (by decide) (by decide) rfl (by decide) ?_
            refine A_aload_n0 d_M_row_170 ?_
            refine A_iload_n3 d_M_row_171 ?_
            refine A_iconst (v := nI 2) d_M_row_172 (by decide) ?_
            first | refine A_isubN d_M_row_173 (by with_reducible rfl) (by with_reducible rfl) (by omega) ?_ | refine A_isub d_M_row_173 ?_
            refine A_callVP d_M_row_174 (c_M_darkOf hM _) hM.o rfl q_1407 q_1409 qs_48 mk_M_darkOf rfl (by decide) rfl (Nat.le_of_ble_eq_true rfl) ⟨Nat.le_of_ble_eq_true rfl, Nat.le_of_ble_eq_true rfl⟩ ⟨rfl, rfl⟩ ?_
            first
              | refine A_topI (show (if nI (2 - 2) = 0 then S2.1 32 else S2.1 33) = nI (darkN w 0 (V 0)) by rw [if_pos (by decide)]; exact e0) ?_
              | refine A_topI (show (if nI (3 - 2) = 0 then S2.1 32 else S2.1 33) = nI (darkN w 1 (V 0)) by rw [if_neg (by decide)]; exact e1) ?_
            refine A_iret d_M_row_177 rfl ⟨Nat.zero_le _, Nat.zero_le _⟩ ?_
            exact tk hM hk (by rw [rowV]; first | rw [rg_out sw_106] | (rw [rg_in (by omega) (by decide)]; first | (rw [if_pos rfl]; first | (rw [c_156]; rfl) | rfl) | (rw [if_neg (by decide), if_neg (by decide), if_neg (by decide), if_neg (by decide), if_pos rfl]; first | (rw [decide_eq_true c_182]; rfl) | (rw [decide_eq_false c_182]; rfl)) | (simp only [Nat.reduceEqDiff, reduceIte, reduceCtorEq, valN, priceN, hf5, hf6]; done)))
          · subst hk106
            refine A_tableIn (tgt := 170) d_M_row_106 (by decide) (by decide) rfl (by decide) ?_
            refine A_aload_n0 d_M_row_170 ?_
            refine A_iload_n3 d_M_row_171 ?_
            refine A_iconst (v := nI 2) d_M_row_172 (by decide) ?_
            first | refine A_isubN d_M_row_173 (by with_reducible rfl) (by with_reducible rfl) (by omega) ?_ | refine A_isub d_M_row_173 ?_
            refine A_callVP d_M_row_174 (c_M_darkOf hM _) hM.o rfl q_1407 q_1409 qs_48 mk_M_darkOf rfl (by decide) rfl (Nat.le_of_ble_eq_true rfl) ⟨Nat.le_of_ble_eq_true rfl, Nat.le_of_ble_eq_true rfl⟩ ⟨rfl, rfl⟩ ?_
            first
              | refine A_topI (show (if nI (2 - 2) = 0 then S2.1 32 else S2.1 33) = nI (darkN w 0 (V 0)) by rw [if_pos (by decide)]; exact e0) ?_
              | refine A_topI (show (if nI (3 - 2) = 0 then S2.1 32 else S2.1 33) = nI (darkN w 1 (V 0)) by rw [if_neg (by decide)]; exact e1) ?_
            refine A_iret d_M_row_177 rfl ⟨Nat.zero_le _, Nat.zero_le _⟩ ?_
            exact tk hM hk (by rw [rowV]; first | rw [rg_out sw_106] | (rw [rg_in (by omega) (by decide)]; first | (rw [if_pos rfl]; first | (rw [c_156]; rfl) | rfl) | (rw [if_neg (by decide), if_neg (by decide), if_neg (by decide), if_neg (by decide), if_pos rfl]; first | (rw [decide_eq_true c_182]; rfl) | (rw [decide_eq_false c_182]; rfl)) | (simp only [Nat.reduceEqDiff, reduceIte, reduceCtorEq, valN, priceN, hf5, hf6]; done)))
          · subst hk106
            refine A_tableIn (tgt := 178) d_M_row_106 (by decide) (by decide) rfl (by decide) ?_
            refine A_aload_n0 d_M_row_178 ?_
            refine A_callVP d_M_row_179 (c_M_awake hM hS e0 e1 hd0 hd1) hM.o rfl q_1411 q_1413 qs_49 mk_M_awake rfl (by decide) rfl (Nat.le_of_ble_eq_true rfl) ⟨Nat.le_of_ble_eq_true rfl, Nat.le_of_ble_eq_true rfl⟩ ⟨rfl, rfl⟩ ?_
            first | refine A_if_neN (tgt := 189) d_M_row_182 (by decide) (by with_reducible rfl) (by omega) (fun c_182 => ?_) (fun c_182 => ?_) | refine A_if_ne (tgt := 189) d_M_row_182 (by decide) (fun c_182 => ?_) (fun c_182 => ?_)
            · skip
              refine A_iconst (v := nI 0) d_M_row_189 (by decide) ?_
              refine A_iret d_M_row_190 rfl ⟨Nat.zero_le _, Nat.zero_le _⟩ ?_
              exact tk hM hk (by rw [rowV]; first | rw [rg_out sw_106] | (rw [rg_in (by omega) (by decide)]; first | (rw [if_pos rfl]; first | (rw [c_156]; rfl) | rfl) | (rw [if_neg (by decide), if_neg (by decide), if_neg (by decide), if_neg (by decide), if_pos rfl]; first | (rw [decide_eq_true c_182]; rfl) | (rw [decide_eq_false c_182]; rfl)) | (simp only [Nat.reduceEqDiff, reduceIte, reduceCtorEq, valN, priceN, hf5, hf6]; done)))
            · refine A_iconst (v := nI 1) d_M_row_185 (by decide) ?_
              refine A_goto (tgt := 190) d_M_row_186 (by decide) ?_
              refine A_iret d_M_row_190 rfl ⟨Nat.zero_le _, Nat.zero_le _⟩ ?_
              exact tk hM hk (by rw [rowV]; first | rw [rg_out sw_106] | (rw [rg_in (by omega) (by decide)]; first | (rw [if_pos rfl]; first | (rw [c_156]; rfl) | rfl) | (rw [if_neg (by decide), if_neg (by decide), if_neg (by decide), if_neg (by decide), if_pos rfl]; first | (rw [decide_eq_true c_182]; rfl) | (rw [decide_eq_false c_182]; rfl)) | (simp only [Nat.reduceEqDiff, reduceIte, reduceCtorEq, valN, priceN, hf5, hf6]; done)))
          · subst hk106
            refine A_tableIn (tgt := 191) d_M_row_106 (by decide) (by decide) rfl (by decide) ?_
            refine A_iload4 d_M_row_191 ?_
            refine A_iret d_M_row_193 rfl ⟨Nat.zero_le _, Nat.zero_le _⟩ ?_
            exact tk hM hk (by rw [rowV]; first | rw [rg_out sw_106] | (rw [rg_in (by omega) (by decide)]; first | (rw [if_pos rfl]; first | (rw [c_156]; rfl) | rfl) | (rw [if_neg (by decide), if_neg (by decide), if_neg (by decide), if_neg (by decide), if_pos rfl]; first | (rw [decide_eq_true c_182]; rfl) | (rw [decide_eq_false c_182]; rfl)) | (simp only [Nat.reduceEqDiff, reduceIte, reduceCtorEq, valN, priceN, hf5, hf6]; done)))
          · subst hk106
            refine A_tableIn (tgt := 194) d_M_row_106 (by decide) (by decide) rfl (by decide) ?_
            refine A_iload5 d_M_row_194 ?_
            refine A_iret d_M_row_196 rfl ⟨Nat.zero_le _, Nat.zero_le _⟩ ?_
            exact tk hM hk (by rw [rowV]; first | rw [rg_out sw_106] | (rw [rg_in (by omega) (by decide)]; first | (rw [if_pos rfl]; first | (rw [c_156]; rfl) | rfl) | (rw [if_neg (by decide), if_neg (by decide), if_neg (by decide), if_neg (by decide), if_pos rfl]; first | (rw [decide_eq_true c_182]; rfl) | (rw [decide_eq_false c_182]; rfl)) | (simp only [Nat.reduceEqDiff, reduceIte, reduceCtorEq, valN, priceN, hf5, hf6]; done)))
          · subst hk106
            refine A_tableIn (tgt := 197) d_M_row_106 (by decide) (by decide) rfl (by decide) ?_
            refine A_aload_n0 d_M_row_197 ?_
            refine A_callVP d_M_row_198 (c_M_awake hM hS e0 e1 hd0 hd1) hM.o rfl q_1411 q_1413 qs_49 mk_M_awake rfl (by decide) rfl (Nat.le_of_ble_eq_true rfl) ⟨Nat.le_of_ble_eq_true rfl, Nat.le_of_ble_eq_true rfl⟩ ⟨rfl, rfl⟩ ?_
            refine A_iret d_M_row_201 rfl ⟨Nat.zero_le _, Nat.zero_le _⟩ ?_
            exact tk hM hk (by rw [rowV]; first | rw [rg_out sw_106] | (rw [rg_in (by omega) (by decide)]; first | (rw [if_pos rfl]; first | (rw [c_156]; rfl) | rfl) | (rw [if_neg (by decide), if_neg (by decide), if_neg (by decide), if_neg (by decide), if_pos rfl]; first | (rw [decide_eq_true c_182]; rfl) | (rw [decide_eq_false c_182]; rfl)) | (simp only [Nat.reduceEqDiff, reduceIte, reduceCtorEq, valN, priceN, hf5, hf6]; done)))
        · refine A_tableOut (tgt := 202) d_M_row_106 swo (by decide) ?_
          refine A_iconst (v := (-1)) d_M_row_202 (by decide) ?_
          refine A_iret d_M_row_203 rfl ⟨Nat.zero_le _, Nat.zero_le _⟩ ?_
          exact tk hM hk (by rw [rowV]; first | rw [rg_out sw_106] | (rw [rg_in (by omega) (by decide)]; first | (rw [if_pos rfl]; first | (rw [c_156]; rfl) | rfl) | (rw [if_neg (by decide), if_neg (by decide), if_neg (by decide), if_neg (by decide), if_pos rfl]; first | (rw [decide_eq_true c_182]; rfl) | (rw [decide_eq_false c_182]; rfl)) | (simp only [Nat.reduceEqDiff, reduceIte, reduceCtorEq, valN, priceN, hf5, hf6]; done)))
      · exact absurd c_31 (by omega)
    · have hwi := (hw i hi).2
      refine A_iload6 d_M_row_25 ?_
      refine A_aload_n0 d_M_row_27 ?_
      refine A_getf (kf := 27) d_M_row_28 hM.o ok_8 (by decide) q_1076 rfl ?_
      refine A_topI hS.hours ?_
      first | refine A_icmp_geN (tgt := 105) d_M_row_31 (by decide) (by with_reducible rfl) (by with_reducible rfl) (by omega) (by omega) (fun c_31 => ?_) (fun c_31 => ?_) | refine A_icmp_ge (tgt := 105) d_M_row_31 (by decide) (fun c_31 => ?_) (fun c_31 => ?_)
      · exact absurd c_31 (by omega)
      · refine A_iload4 d_M_row_34 ?_
        refine A_aload_n0 d_M_row_36 ?_
        refine A_getf (kf := 31) d_M_row_37 hM.o ok_8 (by decide) q_1080 rfl ?_
        refine A_iload6 d_M_row_40 ?_
        refine A_ialdN d_M_row_42 hM.a31 ⟨by omega, by decide⟩ ?_
        refine A_topI (hw i hi).1 ?_
        refine A_iconst (v := nI 2) d_M_row_43 (by decide) ?_
        first | refine A_icmp_neN (tgt := 51) d_M_row_44 (by decide) (by with_reducible rfl) (by with_reducible rfl) (by omega) (by omega) (fun c_44 => ?_) (fun c_44 => ?_) | refine A_icmp_ne (tgt := 51) d_M_row_44 (by decide) (fun c_44 => ?_) (fun c_44 => ?_)
        · refine A_aload_n0 d_M_row_51 ?_
          refine A_aload_n0 d_M_row_52 ?_
          refine A_getf (kf := 31) d_M_row_53 hM.o ok_8 (by decide) q_1080 rfl ?_
          refine A_iload6 d_M_row_56 ?_
          refine A_ialdN d_M_row_58 hM.a31 ⟨by omega, by decide⟩ ?_
          refine A_topI (hw i hi).1 ?_
          refine A_iload6 d_M_row_59 ?_
          refine A_callVP d_M_row_61 (c_M_likedIn hM hS (w i) i (by have := (hw i hi).2; omega) (by omega)) hM.o rfl q_1379 q_1381 qs_42 mk_M_likedIn rfl (by decide) rfl (Nat.le_of_ble_eq_true rfl) ⟨Nat.le_of_ble_eq_true rfl, Nat.le_of_ble_eq_true rfl⟩ ⟨rfl, rfl⟩ ?_
          first | refine A_iaddN d_M_row_64 (by with_reducible rfl) (by with_reducible rfl) ?_ | refine A_iadd d_M_row_64 ?_
          refine A_istore4 d_M_row_65 trivial ?_
          refine A_iload5 d_M_row_67 ?_
          refine A_aload_n0 d_M_row_69 ?_
          refine A_iload6 d_M_row_70 ?_
          refine A_callVP d_M_row_72 (c_M_comesAt hM hS hw i hi) hM.o rfl q_1383 q_1385 qs_43 mk_M_comesAt rfl (by decide) rfl (Nat.le_of_ble_eq_true rfl) ⟨Nat.le_of_ble_eq_true rfl, Nat.le_of_ble_eq_true rfl⟩ ⟨rfl, rfl⟩ ?_
          refine A_if_eqB (tgt := 95) d_M_row_75 (by decide) (fun c_75 => ?_) (fun c_75 => ?_)
          · refine A_iconst (v := nI 0) d_M_row_95 (by decide) ?_
            first | refine A_iaddN d_M_row_96 (by with_reducible rfl) (by with_reducible rfl) ?_ | refine A_iadd d_M_row_96 ?_
            refine A_istore5 d_M_row_97 trivial ?_
            first | refine A_iinc6 d_M_row_99 (nI_1 _) trivial ?_ | refine A_iinc6 d_M_row_99 rfl trivial ?_
            refine A_goto (tgt := 25) d_M_row_102 (by decide) ?_
            refine A_loc ?_ ih
            simp only [sumN, ← hf5, ← hf6, c_31, c_44, c_75, reduceIte, Bool.false_eq_true, Nat.add_zero]
          · refine A_aload_n0 d_M_row_78 ?_
            refine A_bipush (v := nI 6) d_M_row_79 (by decide) ?_
            refine A_iload6 d_M_row_81 ?_
            first | refine A_iaddN d_M_row_83 (by with_reducible rfl) (by with_reducible rfl) ?_ | refine A_iadd d_M_row_83 ?_
            refine A_callVP d_M_row_84 (c_M_of hM hS (6 + i) (by omega)) hM.o rfl q_1343 q_1345 qs_36 mk_M_of rfl (by decide) rfl (Nat.le_of_ble_eq_true rfl) ⟨Nat.le_of_ble_eq_true rfl, Nat.le_of_ble_eq_true rfl⟩ ⟨rfl, rfl⟩ ?_
            refine A_aload_n0 d_M_row_87 ?_
            refine A_callVP d_M_row_88 (c_M_cheapest hM hS) hM.o rfl q_1391 q_1393 qs_45 mk_M_cheapest rfl (by decide) rfl (Nat.le_of_ble_eq_true rfl) ⟨Nat.le_of_ble_eq_true rfl, Nat.le_of_ble_eq_true rfl⟩ ⟨rfl, rfl⟩ ?_
            first | refine A_iaddN d_M_row_91 (by with_reducible rfl) (by with_reducible rfl) ?_ | refine A_iadd d_M_row_91 ?_
            refine A_goto (tgt := 96) d_M_row_92 (by decide) ?_
            first | refine A_iaddN d_M_row_96 (by with_reducible rfl) (by with_reducible rfl) ?_ | refine A_iadd d_M_row_96 ?_
            refine A_istore5 d_M_row_97 trivial ?_
            first | refine A_iinc6 d_M_row_99 (nI_1 _) trivial ?_ | refine A_iinc6 d_M_row_99 rfl trivial ?_
            refine A_goto (tgt := 25) d_M_row_102 (by decide) ?_
            refine A_loc ?_ ih
            simp only [sumN, ← hf5, ← hf6, c_31, c_44, c_75, reduceIte, Bool.false_eq_true, Nat.add_zero]
        · refine A_iconst (v := nI 0) d_M_row_47 (by decide) ?_
          refine A_goto (tgt := 64) d_M_row_48 (by decide) ?_
          first | refine A_iaddN d_M_row_64 (by with_reducible rfl) (by with_reducible rfl) ?_ | refine A_iadd d_M_row_64 ?_
          refine A_istore4 d_M_row_65 trivial ?_
          refine A_iload5 d_M_row_67 ?_
          refine A_aload_n0 d_M_row_69 ?_
          refine A_iload6 d_M_row_70 ?_
          refine A_callVP d_M_row_72 (c_M_comesAt hM hS hw i hi) hM.o rfl q_1383 q_1385 qs_43 mk_M_comesAt rfl (by decide) rfl (Nat.le_of_ble_eq_true rfl) ⟨Nat.le_of_ble_eq_true rfl, Nat.le_of_ble_eq_true rfl⟩ ⟨rfl, rfl⟩ ?_
          refine A_if_eqB (tgt := 95) d_M_row_75 (by decide) (fun c_75 => ?_) (fun c_75 => ?_)
          · refine A_iconst (v := nI 0) d_M_row_95 (by decide) ?_
            first | refine A_iaddN d_M_row_96 (by with_reducible rfl) (by with_reducible rfl) ?_ | refine A_iadd d_M_row_96 ?_
            refine A_istore5 d_M_row_97 trivial ?_
            first | refine A_iinc6 d_M_row_99 (nI_1 _) trivial ?_ | refine A_iinc6 d_M_row_99 rfl trivial ?_
            refine A_goto (tgt := 25) d_M_row_102 (by decide) ?_
            refine A_loc ?_ ih
            simp only [sumN, ← hf5, ← hf6, c_31, c_44, c_75, reduceIte, Bool.false_eq_true, Nat.add_zero]
          · refine A_aload_n0 d_M_row_78 ?_
            refine A_bipush (v := nI 6) d_M_row_79 (by decide) ?_
            refine A_iload6 d_M_row_81 ?_
            first | refine A_iaddN d_M_row_83 (by with_reducible rfl) (by with_reducible rfl) ?_ | refine A_iadd d_M_row_83 ?_
            refine A_callVP d_M_row_84 (c_M_of hM hS (6 + i) (by omega)) hM.o rfl q_1343 q_1345 qs_36 mk_M_of rfl (by decide) rfl (Nat.le_of_ble_eq_true rfl) ⟨Nat.le_of_ble_eq_true rfl, Nat.le_of_ble_eq_true rfl⟩ ⟨rfl, rfl⟩ ?_
            refine A_aload_n0 d_M_row_87 ?_
            refine A_callVP d_M_row_88 (c_M_cheapest hM hS) hM.o rfl q_1391 q_1393 qs_45 mk_M_cheapest rfl (by decide) rfl (Nat.le_of_ble_eq_true rfl) ⟨Nat.le_of_ble_eq_true rfl, Nat.le_of_ble_eq_true rfl⟩ ⟨rfl, rfl⟩ ?_
            first | refine A_iaddN d_M_row_91 (by with_reducible rfl) (by with_reducible rfl) ?_ | refine A_iadd d_M_row_91 ?_
            refine A_goto (tgt := 96) d_M_row_92 (by decide) ?_
            first | refine A_iaddN d_M_row_96 (by with_reducible rfl) (by with_reducible rfl) ?_ | refine A_iadd d_M_row_96 ?_
            refine A_istore5 d_M_row_97 trivial ?_
            first | refine A_iinc6 d_M_row_99 (nI_1 _) trivial ?_ | refine A_iinc6 d_M_row_99 rfl trivial ?_
            refine A_goto (tgt := 25) d_M_row_102 (by decide) ?_
            refine A_loc ?_ ih
            simp only [sumN, ← hf5, ← hf6, c_31, c_44, c_75, reduceIte, Bool.false_eq_true, Nat.add_zero]
  exact key 0 (Nat.zero_le _)
set_option maxHeartbeats 4000000 in
set_option maxRecDepth 100000 in
theorem c_M_row {G : GE} {h0 h : AH} {m : Nat} {S : MS} (hM : MW h0 h m S) {c : Nat → Nat} {VL WT BK SG GM : Nat → Nat → Nat} (hp : MP S c VL WT BK SG GM) (la ta x : Int32) : Ctr G y_M_row b_M_row 7 (some .int) r_M_row [.ref m, .int la, .int ta, .int x] h (TK h0 m S (.int (pick (c 0) la (fun l => pick (c 1) ta (fun t => rowV (VL l) (WT t) x) (-1)) (-1)))) := by
  have hc0 := (hp.1 0 (by decide)).2
  have hc1 := (hp.1 1 (by decide)).2
  refine Ctr.of (by decide +kernel) (by simp) (Nat.le_of_ble_eq_true rfl) (L0 := [some (.ref m), some (.int la), some (.int ta), some (.int x), none, none, none]) rfl ?_
  refine A_aload_n0 d_M_row_0 ?_
  refine A_iconst (v := nI 0) d_M_row_1 (by decide) ?_
  refine A_putM hM (kf := 0) (ty := .int) d_M_row_2 (by decide) q_1049 rfl (by decide +kernel) (by first | rfl | exact bI_nar _) rfl (Nat.le_of_ble_eq_true rfl) rfl (fun h hM => ?_)
  have hp := hp.keep (Keep.sf _ 0 (nI 0))
  refine A_aload_n0 d_M_row_5 ?_
  refine A_iload_n1 d_M_row_6 ?_
  refine A_iload_n2 d_M_row_7 ?_
  refine A_callV d_M_row_8 (c_M_layRow hM hp la ta) hM.o rfl q_1371 q_1373 qs_40 mk_M_layRow rfl (by decide) rfl (Nat.le_of_ble_eq_true rfl) ⟨Nat.le_of_ble_eq_true rfl, Nat.le_of_ble_eq_true rfl⟩ (fun v h1 hv => ?_)
  rcases hv with ⟨l', t', rfl, rfl, hl, ht, rfl, S2, hM, hL, hk, hkf⟩ | ⟨q, rfl, S2, hM, hk⟩
  · obtain ⟨hS, hw, e0, e1⟩ := hL
    obtain ⟨b0, b1, b2, b3, b4, b5, bp, bb, bt⟩ := hS.ok
    have hp := hp.keep hk
    refine A_if_neB (tgt := 16) d_M_row_11 (by decide) (fun c_11 => ?_) (fun c => absurd c (by decide))
    refine A_iconst (v := nI 0) d_M_row_16 (by decide) ?_
    refine A_istore4 d_M_row_17 trivial ?_
    refine A_iconst (v := nI 0) d_M_row_19 (by decide) ?_
    refine A_istore5 d_M_row_20 trivial ?_
    refine A_iconst (v := nI 0) d_M_row_22 (by decide) ?_
    refine A_istore6 d_M_row_23 trivial ?_
    have hd0 := darkN_le (WT t') 0 (VL l' 0)
    have hd1 := darkN_le (WT t') 1 (VL l' 0)
    rw [pick_in hl (by omega), pick_in ht (by omega)]
    have hk : Keep S S2 := fun k hk2 => hk k hk2
    exact c_M_row2 hM hk ⟨hS, hw, e0, e1⟩ l' t' x
  · have hp := hp.keep hk
    refine A_if_neB (tgt := 16) d_M_row_11 (by decide) (fun c => absurd c (by decide)) (fun c_11 => ?_)
    refine A_iconst (v := (-1)) d_M_row_14 (by decide) ?_
    refine A_iret d_M_row_15 rfl ⟨Nat.zero_le _, Nat.zero_le _⟩ ?_
    exact tk hM (fun k hk2 => hk k hk2) (pick2_out q)
