def crB (t : Nat → Nat) (H C st : Nat) : Bool := firstU (fun i => !decide (t ((st + i) % H) = 2)) (fun _ => false) (decide (nI (t ((st + C) % H)) = nI 1 - nI (t ((st + H - 1) % H)))) C 0
def badL (t : Nat → Nat) (H C x : Nat) : Bool := if t x = 2 then (!decide (t ((x + H - 1) % H) = 2) && !crB t H C x) else (decide (0 < C) && decide (t ((x + H - 1) % H) = 1 - t x))
def anyB (t : Nat → Nat) : Nat → Bool := foldN (fun x b => b || !decide (t x = 2)) false
def legC (t : Nat → Nat) (H C : Nat) : Bool := firstU (badL t H C) (fun _ => false) (anyB t H) H 0
theorem anyB_s (t : Nat → Nat) (i : Nat) : anyB t (i + 1) = (anyB t i || !decide (t i = 2)) := rfl
set_option maxHeartbeats 4000000 in
set_option maxRecDepth 100000 in
theorem c_Ld_isCrossing {G : GE} {h : AH} {a : Nat} {D : LD} (hA : LAt h a D) {V : Nat → Nat} (hV : LVr D V) {w : Nat} {t : Nat → Nat} (hT : TAt h w t) (st : Nat) (hst : st < V 0) : Ctr G y_Ld_isCrossing b_Ld_isCrossing 4 (some .boolean) r_Ld_isCrossing [.ref a, .ref w, .int (nI st)] h (Pu (.int (bI (crB t (V 0) (V 1) st))) h) := by
  have hV0 := hV
  obtain ⟨ok, ⟨f0, f1, f2, f3, f4, f9⟩, hP, hBe, hTo⟩ := hV
  have hH := ok.1
  have hT0 := hT
  obtain ⟨g, hg, ht⟩ := hT
  have hC := ok.2.1
  have key : ∀ i, i ≤ V 1 → WA G y_Ld_isCrossing b_Ld_isCrossing 4 (some .boolean) r_Ld_isCrossing 0 0 (Pu (.int (bI (firstU (fun i => !decide (t ((st + i) % V 0) = 2)) (fun _ => false) (decide (nI (t ((st + V 1) % V 0)) = nI 1 - nI (t ((st + V 0 - 1) % V 0)))) (V 1) i))) h) 0 0 2 [some (.ref a), some (.ref w), some (.int (nI st)), some (.int (nI i))] [] h := by
    refine down ?_ (fun i hi ih => ?_)
    · refine A_iload_n3 d_Ld_isCrossing_2 ?_
      refine A_aload_n0 d_Ld_isCrossing_3 ?_
      refine A_getf (kf := 1) d_Ld_isCrossing_4 hA.o ok_1 (by decide) q_50 rfl ?_
      refine A_topI f1 ?_
      first | refine A_icmp_geN (tgt := 30) d_Ld_isCrossing_7 (by decide) (by with_reducible rfl) (by with_reducible rfl) (by omega) (by omega) (fun c_7 => ?_) (fun c_7 => ?_) | refine A_icmp_ge (tgt := 30) d_Ld_isCrossing_7 (by decide) (fun c_7 => ?_) (fun c_7 => ?_)
      · refine A_aload_n0 d_Ld_isCrossing_30 ?_
        refine A_aload_n1 d_Ld_isCrossing_31 ?_
        refine A_iload_n2 d_Ld_isCrossing_32 ?_
        refine A_aload_n0 d_Ld_isCrossing_33 ?_
        refine A_getf (kf := 1) d_Ld_isCrossing_34 hA.o ok_1 (by decide) q_50 rfl ?_
        refine A_topI f1 ?_
        first | refine A_iaddN d_Ld_isCrossing_37 (by with_reducible rfl) (by with_reducible rfl) ?_ | refine A_iadd d_Ld_isCrossing_37 ?_
        refine A_callVP d_Ld_isCrossing_38 (c_Ld_at hA hV0 hT0 (st + V 1) (by omega)) hA.o rfl q_684 q_685 q_686 mk_Ld_at rfl (by decide) rfl (Nat.le_of_ble_eq_true rfl) ⟨Nat.le_of_ble_eq_true rfl, Nat.le_of_ble_eq_true rfl⟩ ⟨rfl, rfl⟩ ?_
        refine A_iconst (v := nI 1) d_Ld_isCrossing_41 (by decide) ?_
        refine A_aload_n0 d_Ld_isCrossing_42 ?_
        refine A_aload_n1 d_Ld_isCrossing_43 ?_
        refine A_iload_n2 d_Ld_isCrossing_44 ?_
        refine A_callVP d_Ld_isCrossing_45 (c_Ld_before hA hV0 hT0 st (by omega)) hA.o rfl q_680 q_681 q_682 mk_Ld_before rfl (by decide) rfl (Nat.le_of_ble_eq_true rfl) ⟨Nat.le_of_ble_eq_true rfl, Nat.le_of_ble_eq_true rfl⟩ ⟨rfl, rfl⟩ ?_
        first | refine A_isubN d_Ld_isCrossing_48 (by with_reducible rfl) (by with_reducible rfl) (by omega) ?_ | refine A_isub d_Ld_isCrossing_48 ?_
        first | refine A_icmp_neN (tgt := 56) d_Ld_isCrossing_49 (by decide) (by with_reducible rfl) (by with_reducible rfl) (by omega) (by omega) (fun c_49 => ?_) (fun c_49 => ?_) | refine A_icmp_ne (tgt := 56) d_Ld_isCrossing_49 (by decide) (fun c_49 => ?_) (fun c_49 => ?_)
        · refine A_iconst (v := nI 0) d_Ld_isCrossing_56 (by decide) ?_
          refine A_zret d_Ld_isCrossing_57 rfl (by first | rfl | exact bI_nar _ | decide) ⟨Nat.zero_le _, Nat.zero_le _⟩ ?_
          exact pu (by rw [firstU_end]; first | (rw [decide_eq_true c_49]; rfl) | (rw [decide_eq_false c_49]; rfl))
        · refine A_iconst (v := nI 1) d_Ld_isCrossing_52 (by decide) ?_
          refine A_goto (tgt := 57) d_Ld_isCrossing_53 (by decide) ?_
          refine A_zret d_Ld_isCrossing_57 rfl (by first | rfl | exact bI_nar _ | decide) ⟨Nat.zero_le _, Nat.zero_le _⟩ ?_
          exact pu (by rw [firstU_end]; first | (rw [decide_eq_true c_49]; rfl) | (rw [decide_eq_false c_49]; rfl))
      · exact absurd c_7 (by omega)
    · refine A_iload_n3 d_Ld_isCrossing_2 ?_
      refine A_aload_n0 d_Ld_isCrossing_3 ?_
      refine A_getf (kf := 1) d_Ld_isCrossing_4 hA.o ok_1 (by decide) q_50 rfl ?_
      refine A_topI f1 ?_
      first | refine A_icmp_geN (tgt := 30) d_Ld_isCrossing_7 (by decide) (by with_reducible rfl) (by with_reducible rfl) (by omega) (by omega) (fun c_7 => ?_) (fun c_7 => ?_) | refine A_icmp_ge (tgt := 30) d_Ld_isCrossing_7 (by decide) (fun c_7 => ?_) (fun c_7 => ?_)
      · exact absurd c_7 (by omega)
      · refine A_aload_n0 d_Ld_isCrossing_10 ?_
        refine A_aload_n1 d_Ld_isCrossing_11 ?_
        refine A_iload_n2 d_Ld_isCrossing_12 ?_
        refine A_iload_n3 d_Ld_isCrossing_13 ?_
        first | refine A_iaddN d_Ld_isCrossing_14 (by with_reducible rfl) (by with_reducible rfl) ?_ | refine A_iadd d_Ld_isCrossing_14 ?_
        refine A_callVP d_Ld_isCrossing_15 (c_Ld_at hA hV0 hT0 (st + i) (by omega)) hA.o rfl q_684 q_685 q_686 mk_Ld_at rfl (by decide) rfl (Nat.le_of_ble_eq_true rfl) ⟨Nat.le_of_ble_eq_true rfl, Nat.le_of_ble_eq_true rfl⟩ ⟨rfl, rfl⟩ ?_
        have hm := (ht ((st + i) % V 0) (Nat.lt_of_lt_of_le (Nat.mod_lt _ (by omega)) (by omega))).2
        refine A_iconst (v := nI 2) d_Ld_isCrossing_18 (by decide) ?_
        first | refine A_icmp_eqN (tgt := 24) d_Ld_isCrossing_19 (by decide) (by with_reducible rfl) (by with_reducible rfl) (by omega) (by omega) (fun c_19 => ?_) (fun c_19 => ?_) | refine A_icmp_eq (tgt := 24) d_Ld_isCrossing_19 (by decide) (fun c_19 => ?_) (fun c_19 => ?_)
        · first | refine A_iinc3 d_Ld_isCrossing_24 (nI_1 _) trivial ?_ | refine A_iinc3 d_Ld_isCrossing_24 rfl trivial ?_
          refine A_goto (tgt := 2) d_Ld_isCrossing_27 (by decide) ?_
          rw [firstU_step _ _ _ hi, if_neg (by rw [decide_eq_true c_19]; decide)]
          exact ih
        · refine A_iconst (v := nI 0) d_Ld_isCrossing_22 (by decide) ?_
          refine A_zret d_Ld_isCrossing_23 rfl (by first | rfl | exact bI_nar _ | decide) ⟨Nat.zero_le _, Nat.zero_le _⟩ ?_
          exact pu (by rw [firstU_step _ _ _ hi, if_pos (by rw [decide_eq_false c_19]; rfl)]; rfl)
  refine Ctr.of (by decide +kernel) (by simp) (Nat.le_of_ble_eq_true rfl) (L0 := [some (.ref a), some (.ref w), some (.int (nI st)), none]) rfl ?_
  refine A_iconst (v := nI 0) d_Ld_isCrossing_0 (by decide) ?_
  refine A_istore3 d_Ld_isCrossing_1 trivial ?_
  exact key 0 (Nat.zero_le _)
set_option maxHeartbeats 4000000 in
set_option maxRecDepth 100000 in
theorem c_Ld_isLegal {G : GE} {h : AH} {a : Nat} {D : LD} (hA : LAt h a D) {V : Nat → Nat} (hV : LVr D V) {w : Nat} {t : Nat → Nat} (hT : TAt h w t)  : Ctr G y_Ld_isLegal b_Ld_isLegal 5 (some .boolean) r_Ld_isLegal [.ref a, .ref w] h (Pu (.int (bI (legC t (V 0) (V 1)))) h) := by
  have hV0 := hV
  obtain ⟨ok, ⟨f0, f1, f2, f3, f4, f9⟩, hP, hBe, hTo⟩ := hV
  have hH := ok.1
  have hT0 := hT
  obtain ⟨g, hg, ht⟩ := hT
  have hC := ok.2.1
  have key : ∀ i, i ≤ V 0 → WA G y_Ld_isLegal b_Ld_isLegal 5 (some .boolean) r_Ld_isLegal 0 0 (Pu (.int (bI (firstU (badL t (V 0) (V 1)) (fun _ => false) (anyB t (V 0)) (V 0) i))) h) 0 0 4 [some (.ref a), some (.ref w), some (.int (bI (anyB t i))), some (.int (nI i)), none] [] h := by
    refine down ?_ (fun i hi ih => ?_)
    · refine A_iload_n3 d_Ld_isLegal_4 ?_
      refine A_aload_n0 d_Ld_isLegal_5 ?_
      refine A_getf (kf := 0) d_Ld_isLegal_6 hA.o ok_1 (by decide) q_45 rfl ?_
      refine A_topI f0 ?_
      first | refine A_icmp_geN (tgt := 71) d_Ld_isLegal_9 (by decide) (by with_reducible rfl) (by with_reducible rfl) (by omega) (by omega) (fun c_9 => ?_) (fun c_9 => ?_) | refine A_icmp_ge (tgt := 71) d_Ld_isLegal_9 (by decide) (fun c_9 => ?_) (fun c_9 => ?_)
      · refine A_iload_n2 d_Ld_isLegal_71 ?_
        refine A_zret d_Ld_isLegal_72 rfl (by first | rfl | exact bI_nar _ | decide) ⟨Nat.zero_le _, Nat.zero_le _⟩ ?_
        exact pu (by rw [firstU_end])
      · exact absurd c_9 (by omega)
    · refine A_iload_n3 d_Ld_isLegal_4 ?_
      refine A_aload_n0 d_Ld_isLegal_5 ?_
      refine A_getf (kf := 0) d_Ld_isLegal_6 hA.o ok_1 (by decide) q_45 rfl ?_
      refine A_topI f0 ?_
      first | refine A_icmp_geN (tgt := 71) d_Ld_isLegal_9 (by decide) (by with_reducible rfl) (by with_reducible rfl) (by omega) (by omega) (fun c_9 => ?_) (fun c_9 => ?_) | refine A_icmp_ge (tgt := 71) d_Ld_isLegal_9 (by decide) (fun c_9 => ?_) (fun c_9 => ?_)
      · exact absurd c_9 (by omega)
      · refine A_aload_n0 d_Ld_isLegal_12 ?_
        refine A_aload_n1 d_Ld_isLegal_13 ?_
        refine A_iload_n3 d_Ld_isLegal_14 ?_
        refine A_callVP d_Ld_isLegal_15 (c_Ld_before hA hV0 hT0 i (by omega)) hA.o rfl q_680 q_681 q_682 mk_Ld_before rfl (by decide) rfl (Nat.le_of_ble_eq_true rfl) ⟨Nat.le_of_ble_eq_true rfl, Nat.le_of_ble_eq_true rfl⟩ ⟨rfl, rfl⟩ ?_
        refine A_istore4 d_Ld_isLegal_18 trivial ?_
        refine A_aload_n1 d_Ld_isLegal_20 ?_
        refine A_iload_n3 d_Ld_isLegal_21 ?_
        refine A_ialdN d_Ld_isLegal_22 hg ⟨by omega, by decide⟩ ?_
        refine A_topI (ht (i) (by omega)).1 ?_
        have hti := (ht i (by omega)).2
        have hm := (ht ((i + V 0 - 1) % V 0) (Nat.lt_of_lt_of_le (Nat.mod_lt _ (by omega)) (by omega))).2
        refine A_iconst (v := nI 2) d_Ld_isLegal_23 (by decide) ?_
        first | refine A_icmp_eqN (tgt := 48) d_Ld_isLegal_24 (by decide) (by with_reducible rfl) (by with_reducible rfl) (by omega) (by omega) (fun c_24 => ?_) (fun c_24 => ?_) | refine A_icmp_eq (tgt := 48) d_Ld_isLegal_24 (by decide) (fun c_24 => ?_) (fun c_24 => ?_)
        · refine A_iload4 d_Ld_isLegal_48 ?_
          refine A_iconst (v := nI 2) d_Ld_isLegal_50 (by decide) ?_
          first | refine A_icmp_eqN (tgt := 65) d_Ld_isLegal_51 (by decide) (by with_reducible rfl) (by with_reducible rfl) (by omega) (by omega) (fun c_51 => ?_) (fun c_51 => ?_) | refine A_icmp_eq (tgt := 65) d_Ld_isLegal_51 (by decide) (fun c_51 => ?_) (fun c_51 => ?_)
          · first | refine A_iinc3 d_Ld_isLegal_65 (nI_1 _) trivial ?_ | refine A_iinc3 d_Ld_isLegal_65 rfl trivial ?_
            refine A_goto (tgt := 4) d_Ld_isLegal_68 (by decide) ?_
            have hbd : ¬ badL t (V 0) (V 1) i = true := by
              unfold badL
              first
                | (rw [if_pos c_24, decide_eq_true c_51]; simp; done)
                | (rw [if_pos c_24, c_60]; simp; done)
                | (rw [if_neg c_24, decide_eq_false (p := 0 < V 1) (by omega)]; simp; done)
                | (rw [if_neg c_24, decide_eq_false c_43]; simp; done)
            rw [firstU_step _ _ _ hi, if_neg hbd]
            refine A_drop4 (A_loc ?_ ih)
            rw [anyB_s]
            first
              | (rw [decide_eq_true c_24, Bool.not_true, Bool.or_false]; done)
              | (rw [decide_eq_false c_24, Bool.not_false, Bool.or_true]; rfl)
          · refine A_aload_n0 d_Ld_isLegal_54 ?_
            refine A_aload_n1 d_Ld_isLegal_55 ?_
            refine A_iload_n3 d_Ld_isLegal_56 ?_
            refine A_callVP d_Ld_isLegal_57 (c_Ld_isCrossing hA hV0 hT0 i hi) hA.o rfl q_688 q_689 q_690 mk_Ld_isCrossing rfl (by decide) rfl (Nat.le_of_ble_eq_true rfl) ⟨Nat.le_of_ble_eq_true rfl, Nat.le_of_ble_eq_true rfl⟩ ⟨rfl, rfl⟩ ?_
            refine A_if_neB (tgt := 65) d_Ld_isLegal_60 (by decide) (fun c_60 => ?_) (fun c_60 => ?_)
            · first | refine A_iinc3 d_Ld_isLegal_65 (nI_1 _) trivial ?_ | refine A_iinc3 d_Ld_isLegal_65 rfl trivial ?_
              refine A_goto (tgt := 4) d_Ld_isLegal_68 (by decide) ?_
              have hbd : ¬ badL t (V 0) (V 1) i = true := by
                unfold badL
                first
                  | (rw [if_pos c_24, decide_eq_true c_51]; simp; done)
                  | (rw [if_pos c_24, c_60]; simp; done)
                  | (rw [if_neg c_24, decide_eq_false (p := 0 < V 1) (by omega)]; simp; done)
                  | (rw [if_neg c_24, decide_eq_false c_43]; simp; done)
              rw [firstU_step _ _ _ hi, if_neg hbd]
              refine A_drop4 (A_loc ?_ ih)
              rw [anyB_s]
              first
                | (rw [decide_eq_true c_24, Bool.not_true, Bool.or_false]; done)
                | (rw [decide_eq_false c_24, Bool.not_false, Bool.or_true]; rfl)
            · refine A_iconst (v := nI 0) d_Ld_isLegal_63 (by decide) ?_
              refine A_zret d_Ld_isLegal_64 rfl (by first | rfl | exact bI_nar _ | decide) ⟨Nat.zero_le _, Nat.zero_le _⟩ ?_
              have hbd : badL t (V 0) (V 1) i = true := by
                unfold badL
                first
                  | (rw [if_pos c_24, decide_eq_false c_51, c_60]; rfl)
                  | (rw [if_neg c_24, decide_eq_true (p := 0 < V 1) (by omega), decide_eq_true c_43]; rfl)
              exact pu (by rw [firstU_step _ _ _ hi, if_pos hbd]; rfl)
        · refine A_iconst (v := nI 1) d_Ld_isLegal_27 (by decide) ?_
          refine A_istore2 d_Ld_isLegal_28 trivial ?_
          refine A_aload_n0 d_Ld_isLegal_29 ?_
          refine A_getf (kf := 1) d_Ld_isLegal_30 hA.o ok_1 (by decide) q_50 rfl ?_
          refine A_topI f1 ?_
          first | refine A_if_leN (tgt := 65) d_Ld_isLegal_33 (by decide) (by with_reducible rfl) (by omega) (fun c_33 => ?_) (fun c_33 => ?_) | refine A_if_le (tgt := 65) d_Ld_isLegal_33 (by decide) (fun c_33 => ?_) (fun c_33 => ?_)
          · first | refine A_iinc3 d_Ld_isLegal_65 (nI_1 _) trivial ?_ | refine A_iinc3 d_Ld_isLegal_65 rfl trivial ?_
            refine A_goto (tgt := 4) d_Ld_isLegal_68 (by decide) ?_
            have hbd : ¬ badL t (V 0) (V 1) i = true := by
              unfold badL
              first
                | (rw [if_pos c_24, decide_eq_true c_51]; simp; done)
                | (rw [if_pos c_24, c_60]; simp; done)
                | (rw [if_neg c_24, decide_eq_false (p := 0 < V 1) (by omega)]; simp; done)
                | (rw [if_neg c_24, decide_eq_false c_43]; simp; done)
            rw [firstU_step _ _ _ hi, if_neg hbd]
            refine A_drop4 (A_loc ?_ ih)
            rw [anyB_s]
            first
              | (rw [decide_eq_true c_24, Bool.not_true, Bool.or_false]; done)
              | (rw [decide_eq_false c_24, Bool.not_false, Bool.or_true]; rfl)
          · refine A_iload4 d_Ld_isLegal_36 ?_
            refine A_iconst (v := nI 1) d_Ld_isLegal_38 (by decide) ?_
            refine A_aload_n1 d_Ld_isLegal_39 ?_
            refine A_iload_n3 d_Ld_isLegal_40 ?_
            refine A_ialdN d_Ld_isLegal_41 hg ⟨by omega, by decide⟩ ?_
            refine A_topI (ht (i) (by omega)).1 ?_
            first | refine A_isubN d_Ld_isLegal_42 (by with_reducible rfl) (by with_reducible rfl) (by omega) ?_ | refine A_isub d_Ld_isLegal_42 ?_
            first | refine A_icmp_neN (tgt := 65) d_Ld_isLegal_43 (by decide) (by with_reducible rfl) (by with_reducible rfl) (by omega) (by omega) (fun c_43 => ?_) (fun c_43 => ?_) | refine A_icmp_ne (tgt := 65) d_Ld_isLegal_43 (by decide) (fun c_43 => ?_) (fun c_43 => ?_)
            · first | refine A_iinc3 d_Ld_isLegal_65 (nI_1 _) trivial ?_ | refine A_iinc3 d_Ld_isLegal_65 rfl trivial ?_
              refine A_goto (tgt := 4) d_Ld_isLegal_68 (by decide) ?_
              have hbd : ¬ badL t (V 0) (V 1) i = true := by
                unfold badL
                first
                  | (rw [if_pos c_24, decide_eq_true c_51]; simp; done)
                  | (rw [if_pos c_24, c_60]; simp; done)
                  | (rw [if_neg c_24, decide_eq_false (p := 0 < V 1) (by omega)]; simp; done)
                  | (rw [if_neg c_24, decide_eq_false c_43]; simp; done)
              rw [firstU_step _ _ _ hi, if_neg hbd]
              refine A_drop4 (A_loc ?_ ih)
              rw [anyB_s]
              first
                | (rw [decide_eq_true c_24, Bool.not_true, Bool.or_false]; done)
                | (rw [decide_eq_false c_24, Bool.not_false, Bool.or_true]; rfl)
            · refine A_iconst (v := nI 0) d_Ld_isLegal_46 (by decide) ?_
              refine A_zret d_Ld_isLegal_47 rfl (by first | rfl | exact bI_nar _ | decide) ⟨Nat.zero_le _, Nat.zero_le _⟩ ?_
              have hbd : badL t (V 0) (V 1) i = true := by
                unfold badL
                first
                  | (rw [if_pos c_24, decide_eq_false c_51, c_60]; rfl)
                  | (rw [if_neg c_24, decide_eq_true (p := 0 < V 1) (by omega), decide_eq_true c_43]; rfl)
              exact pu (by rw [firstU_step _ _ _ hi, if_pos hbd]; rfl)
  refine Ctr.of (by decide +kernel) (by simp) (Nat.le_of_ble_eq_true rfl) (L0 := [some (.ref a), some (.ref w), none, none, none]) rfl ?_
  refine A_iconst (v := nI 0) d_Ld_isLegal_0 (by decide) ?_
  refine A_istore2 d_Ld_isLegal_1 trivial ?_
  refine A_iconst (v := nI 0) d_Ld_isLegal_2 (by decide) ?_
  refine A_istore3 d_Ld_isLegal_3 trivial ?_
  exact key 0 (Nat.zero_le _)
/-! A BOOK of the class, at b .. b + 3 -/
def bkfs (b : Nat) (D : LD) : List Value := [.int (D.1 0), .int (D.1 1), .ref (b + 1), .ref (b + 2), .ref (b + 3)]
def BAt (h : AH) (b : Nat) (D : LD) : Prop := 1000 ≤ b ∧ h b = some (.inr (0, bkfs b D)) ∧ h (b + 1) = some (.inl (0, 30, .inl (D.2 2))) ∧ h (b + 2) = some (.inl (0, 30, .inl (D.2 3))) ∧ h (b + 3) = some (.inl (0, 96, .inl (D.2 4)))
theorem BAt.ge {h : AH} {b : Nat} {D : LD} (H : BAt h b D) : 1000 ≤ b := H.1
theorem BAt.o {h : AH} {b : Nat} {D : LD} (H : BAt h b D) : h b = some (.inr (0, bkfs b D)) := H.2.1
theorem BAt.a2 {h : AH} {b : Nat} {D : LD} (H : BAt h b D) : h (b + 1) = some (.inl (0, 30, .inl (D.2 2))) := H.2.2.1
theorem BAt.a3 {h : AH} {b : Nat} {D : LD} (H : BAt h b D) : h (b + 2) = some (.inl (0, 30, .inl (D.2 3))) := H.2.2.2.1
theorem BAt.a4 {h : AH} {b : Nat} {D : LD} (H : BAt h b D) : h (b + 3) = some (.inl (0, 96, .inl (D.2 4))) := H.2.2.2.2
def BVr (D : LD) (bk : Nat → Nat) : Prop := BOK bk ∧ D.1 0 = nI (bk 0) ∧ D.1 1 = nI (totB bk) ∧ (∀ k, k < bk 0 → D.2 2 k = nI (bk (1 + 2 * k + 0)) ∧ D.2 3 k = nI (bk (1 + 2 * k + 1))) ∧ ∀ t, t < totB bk → D.2 4 t = nI (wentB bk t)
/-! A SIGHT of the class, at b .. b + 3 -/
def sgfs (b : Nat) (D : LD) : List Value := [.int (D.1 0), .ref (b + 1), .ref (b + 2), .ref (b + 3)]
def SAt (h : AH) (b : Nat) (D : LD) : Prop := 1000 ≤ b ∧ h b = some (.inr (4, sgfs b D)) ∧ h (b + 1) = some (.inl (0, 20, .inl (D.2 1))) ∧ h (b + 2) = some (.inl (0, 20, .inl (D.2 2))) ∧ h (b + 3) = some (.inl (0, 20, .inl (D.2 3)))
theorem SAt.ge {h : AH} {b : Nat} {D : LD} (H : SAt h b D) : 1000 ≤ b := H.1
theorem SAt.o {h : AH} {b : Nat} {D : LD} (H : SAt h b D) : h b = some (.inr (4, sgfs b D)) := H.2.1
theorem SAt.a1 {h : AH} {b : Nat} {D : LD} (H : SAt h b D) : h (b + 1) = some (.inl (0, 20, .inl (D.2 1))) := H.2.2.1
theorem SAt.a2 {h : AH} {b : Nat} {D : LD} (H : SAt h b D) : h (b + 2) = some (.inl (0, 20, .inl (D.2 2))) := H.2.2.2.1
theorem SAt.a3 {h : AH} {b : Nat} {D : LD} (H : SAt h b D) : h (b + 3) = some (.inl (0, 20, .inl (D.2 3))) := H.2.2.2.2
def SVr (D : LD) (sg : Nat → Nat) : Prop := SOK sg ∧ D.1 0 = nI (sg 0) ∧ ∀ k, k < sg 0 → D.2 1 k = nI (sg (1 + 3 * k + 0)) ∧ D.2 2 k = nI (sg (1 + 3 * k + 1)) ∧ D.2 3 k = nI (sg (1 + 3 * k + 2))
set_option maxHeartbeats 4000000 in
set_option maxRecDepth 100000 in
theorem c_Bk_trackHours {G : GE} {h : AH} {b : Nat} {D : LD} (hA : BAt h b D) {bk : Nat → Nat} (hB : BVr D bk)  : Ctr G y_Bk_trackHours b_Bk_trackHours 1 (some .int) r_Bk_trackHours [.ref b] h (Pu (.int (nI (totB bk))) h) := by
  have hB0 := hB
  obtain ⟨ok, f0, f1, hS, hW⟩ := hB
  have htot := ok.tot
  refine Ctr.of (by decide +kernel) (by simp) (Nat.le_of_ble_eq_true rfl) (L0 := [some (.ref b)]) rfl ?_
  refine A_aload_n0 d_Bk_trackHours_0 ?_
  refine A_getf (kf := 1) d_Bk_trackHours_1 hA.o ok_0 (by decide) q_149 rfl ?_
  refine A_topI f1 ?_
  refine A_bipush (v := nI 96) d_Bk_trackHours_4 (by decide) ?_
  refine A_callSP d_Bk_trackHours_6 (c_JM_min _ _ _) q_743 q_438 mk_JM_min rfl (by decide) rfl (Nat.le_of_ble_eq_true rfl) ⟨Nat.le_of_ble_eq_true rfl, Nat.le_of_ble_eq_true rfl⟩ ⟨rfl, rfl⟩ ?_
  refine A_topI ((nI_minJ (by omega) (by omega)).trans (congrArg nI (show min (totB bk) 96 = totB bk by omega))) ?_
  refine A_iret d_Bk_trackHours_9 rfl ⟨Nat.zero_le _, Nat.zero_le _⟩ ?_
  exact pu rfl
set_option maxHeartbeats 4000000 in
set_option maxRecDepth 100000 in
theorem c_Bk_hoursAt {G : GE} {h : AH} {b : Nat} {D : LD} (hA : BAt h b D) {bk : Nat → Nat} (hB : BVr D bk) (x z0 z1 : Nat) (hx : x < 2 ^ 31) (h01 : z0 ≤ z1) (h1t : z1 ≤ totB bk) : Ctr G y_Bk_hoursAt b_Bk_hoursAt 6 (some .int) r_Bk_hoursAt [.ref b, .int (nI x), .int (nI z0), .int (nI z1)] h (Pu (.int (nI (cntN (wentB bk) x z0 z1))) h) := by
  have hB0 := hB
  obtain ⟨ok, f0, f1, hS, hW⟩ := hB
  have htot := ok.tot
  have key : ∀ i, i ≤ z1 - z0 → WA G y_Bk_hoursAt b_Bk_hoursAt 6 (some .int) r_Bk_hoursAt 0 0 (Pu (.int (nI (cntN (wentB bk) x z0 z1))) h) 0 0 10 [some (.ref b), some (.int (nI x)), some (.int (nI z0)), some (.int (nI z1)), some (.int (nI (sumN (fun i => if wentB bk (z0 + i) = x then 1 else 0) i))), some (.int (nI (z0 + i)))] [] h := by
    refine down ?_ (fun i hi ih => ?_)
    · rw [show nI (z0 + (z1 - z0)) = nI z1 from congrArg nI (by omega)]
      refine A_iload5 d_Bk_hoursAt_10 ?_
      refine A_iload_n3 d_Bk_hoursAt_12 ?_
      first | refine A_icmp_geN (tgt := 55) d_Bk_hoursAt_13 (by decide) (by with_reducible rfl) (by with_reducible rfl) (by omega) (by omega) (fun c_13 => ?_) (fun c_13 => ?_) | refine A_icmp_ge (tgt := 55) d_Bk_hoursAt_13 (by decide) (fun c_13 => ?_) (fun c_13 => ?_)
      · refine A_iload4 d_Bk_hoursAt_55 ?_
        refine A_iret d_Bk_hoursAt_57 rfl ⟨Nat.zero_le _, Nat.zero_le _⟩ ?_
        exact pu rfl
      · exact absurd c_13 (by omega)
    · refine A_iload5 d_Bk_hoursAt_10 ?_
      refine A_iload_n3 d_Bk_hoursAt_12 ?_
      first | refine A_icmp_geN (tgt := 55) d_Bk_hoursAt_13 (by decide) (by with_reducible rfl) (by with_reducible rfl) (by omega) (by omega) (fun c_13 => ?_) (fun c_13 => ?_) | refine A_icmp_ge (tgt := 55) d_Bk_hoursAt_13 (by decide) (fun c_13 => ?_) (fun c_13 => ?_)
      · first | exact absurd c_22 (by omega) | exact absurd c_13 (by omega)
      · refine A_iload5 d_Bk_hoursAt_16 ?_
        refine A_aload_n0 d_Bk_hoursAt_18 ?_
        refine A_callVP d_Bk_hoursAt_19 (c_Bk_trackHours hA hB0) hA.o rfl q_739 q_740 q_741 mk_Bk_trackHours rfl (by decide) rfl (Nat.le_of_ble_eq_true rfl) ⟨Nat.le_of_ble_eq_true rfl, Nat.le_of_ble_eq_true rfl⟩ ⟨rfl, rfl⟩ ?_
        first | refine A_icmp_geN (tgt := 55) d_Bk_hoursAt_22 (by decide) (by with_reducible rfl) (by with_reducible rfl) (by omega) (by omega) (fun c_22 => ?_) (fun c_22 => ?_) | refine A_icmp_ge (tgt := 55) d_Bk_hoursAt_22 (by decide) (fun c_22 => ?_) (fun c_22 => ?_)
        · first | exact absurd c_22 (by omega) | exact absurd c_13 (by omega)
        · refine A_iload4 d_Bk_hoursAt_25 ?_
          refine A_aload_n0 d_Bk_hoursAt_27 ?_
          refine A_getf (kf := 4) d_Bk_hoursAt_28 hA.o ok_0 (by decide) q_156 rfl ?_
          refine A_iload5 d_Bk_hoursAt_31 ?_
          refine A_ialdN d_Bk_hoursAt_33 hA.a4 ⟨by omega, by decide⟩ ?_
          refine A_topI (hW (z0 + i) (by omega)) ?_
          have hle := ok.le (z0 + i)
          refine A_iload_n1 d_Bk_hoursAt_34 ?_
          first | refine A_icmp_neN (tgt := 42) d_Bk_hoursAt_35 (by decide) (by with_reducible rfl) (by with_reducible rfl) (by omega) (by omega) (fun c_35 => ?_) (fun c_35 => ?_) | refine A_icmp_ne (tgt := 42) d_Bk_hoursAt_35 (by decide) (fun c_35 => ?_) (fun c_35 => ?_)
          · refine A_iconst (v := nI 0) d_Bk_hoursAt_42 (by decide) ?_
            refine A_callSNP d_Bk_hoursAt_43 (c_N_one0 _) q_744 q_591 mk_N_oneIf rfl (by decide) rfl (Nat.le_of_ble_eq_true rfl) ⟨Nat.le_of_ble_eq_true rfl, Nat.le_of_ble_eq_true rfl⟩ ⟨rfl, rfl⟩ ?_
            first | refine A_iaddN d_Bk_hoursAt_46 (by with_reducible rfl) (by with_reducible rfl) ?_ | refine A_iadd d_Bk_hoursAt_46 ?_
            refine A_istore4 d_Bk_hoursAt_47 trivial ?_
            first | refine A_iinc5 d_Bk_hoursAt_49 (nI_1 _) trivial ?_ | refine A_iinc5 d_Bk_hoursAt_49 rfl trivial ?_
            refine A_goto (tgt := 10) d_Bk_hoursAt_52 (by decide) ?_
            refine A_loc ?_ ih
            rw [sumN_s]
            first | (rw [if_pos c_35]; rfl) | (rw [if_neg c_35]; rfl)
          · refine A_iconst (v := nI 1) d_Bk_hoursAt_38 (by decide) ?_
            refine A_goto (tgt := 43) d_Bk_hoursAt_39 (by decide) ?_
            refine A_callSNP d_Bk_hoursAt_43 (c_N_one1 _) q_744 q_591 mk_N_oneIf rfl (by decide) rfl (Nat.le_of_ble_eq_true rfl) ⟨Nat.le_of_ble_eq_true rfl, Nat.le_of_ble_eq_true rfl⟩ ⟨rfl, rfl⟩ ?_
            first | refine A_iaddN d_Bk_hoursAt_46 (by with_reducible rfl) (by with_reducible rfl) ?_ | refine A_iadd d_Bk_hoursAt_46 ?_
            refine A_istore4 d_Bk_hoursAt_47 trivial ?_
            first | refine A_iinc5 d_Bk_hoursAt_49 (nI_1 _) trivial ?_ | refine A_iinc5 d_Bk_hoursAt_49 rfl trivial ?_
            refine A_goto (tgt := 10) d_Bk_hoursAt_52 (by decide) ?_
            refine A_loc ?_ ih
            rw [sumN_s]
            first | (rw [if_pos c_35]; rfl) | (rw [if_neg c_35]; rfl)
  refine Ctr.of (by decide +kernel) (by simp) (Nat.le_of_ble_eq_true rfl) (L0 := [some (.ref b), some (.int (nI x)), some (.int (nI z0)), some (.int (nI z1)), none, none]) rfl ?_
  refine A_iconst (v := nI 0) d_Bk_hoursAt_0 (by decide) ?_
  refine A_istore4 d_Bk_hoursAt_1 trivial ?_
  refine A_iconst (v := nI 0) d_Bk_hoursAt_3 (by decide) ?_
  refine A_iload_n2 d_Bk_hoursAt_4 ?_
  refine A_callSP d_Bk_hoursAt_5 (c_JM_max_0 _ _ _) q_738 q_580 mk_JM_max_0 rfl (by decide) rfl (Nat.le_of_ble_eq_true rfl) ⟨Nat.le_of_ble_eq_true rfl, Nat.le_of_ble_eq_true rfl⟩ ⟨rfl, rfl⟩ ?_
  refine A_topI ((nI_maxJ (by omega) (by omega)).trans (congrArg nI (show max 0 z0 = z0 by omega))) ?_
  refine A_istore5 d_Bk_hoursAt_8 trivial ?_
  exact key 0 (Nat.zero_le _)
set_option maxHeartbeats 4000000 in
set_option maxRecDepth 100000 in
theorem c_Bk_villages {G : GE} {h : AH} {b : Nat} {D : LD} (hA : BAt h b D) {bk : Nat → Nat} (hB : BVr D bk) (cr : Nat) (hcr : cr < 2 ^ 30) : Ctr G y_Bk_villages b_Bk_villages 5 (some .int) r_Bk_villages [.ref b, .int (nI cr)] h (Pu (.int (nI (villF (wentB bk) cr (totB bk)).2)) h) := by
  have hB0 := hB
  obtain ⟨ok, f0, f1, hS, hW⟩ := hB
  have htot := ok.tot
  have key : ∀ i, i ≤ totB bk → WA G y_Bk_villages b_Bk_villages 5 (some .int) r_Bk_villages 0 0 (Pu (.int (nI (villF (wentB bk) cr (totB bk)).2)) h) 0 0 7 [some (.ref b), some (.int (nI cr)), some (.int (nI (villF (wentB bk) cr i).2)), some (.int (nI (villF (wentB bk) cr i).1)), some (.int (nI i))] [] h := by
    refine down ?_ (fun i hi ih => ?_)
    · refine A_iload4 d_Bk_villages_7 ?_
      refine A_aload_n0 d_Bk_villages_9 ?_
      refine A_callVP d_Bk_villages_10 (c_Bk_trackHours hA hB0) hA.o rfl q_739 q_740 q_741 mk_Bk_trackHours rfl (by decide) rfl (Nat.le_of_ble_eq_true rfl) ⟨Nat.le_of_ble_eq_true rfl, Nat.le_of_ble_eq_true rfl⟩ ⟨rfl, rfl⟩ ?_
      first | refine A_icmp_geN (tgt := 59) d_Bk_villages_13 (by decide) (by with_reducible rfl) (by with_reducible rfl) (by omega) (by omega) (fun c_13 => ?_) (fun c_13 => ?_) | refine A_icmp_ge (tgt := 59) d_Bk_villages_13 (by decide) (fun c_13 => ?_) (fun c_13 => ?_)
      · refine A_iload_n2 d_Bk_villages_59 ?_
        refine A_iret d_Bk_villages_60 rfl ⟨Nat.zero_le _, Nat.zero_le _⟩ ?_
        exact pu rfl
      · exact absurd c_13 (by omega)
    · refine A_iload4 d_Bk_villages_7 ?_
      refine A_aload_n0 d_Bk_villages_9 ?_
      refine A_callVP d_Bk_villages_10 (c_Bk_trackHours hA hB0) hA.o rfl q_739 q_740 q_741 mk_Bk_trackHours rfl (by decide) rfl (Nat.le_of_ble_eq_true rfl) ⟨Nat.le_of_ble_eq_true rfl, Nat.le_of_ble_eq_true rfl⟩ ⟨rfl, rfl⟩ ?_
      first | refine A_icmp_geN (tgt := 59) d_Bk_villages_13 (by decide) (by with_reducible rfl) (by with_reducible rfl) (by omega) (by omega) (fun c_13 => ?_) (fun c_13 => ?_) | refine A_icmp_ge (tgt := 59) d_Bk_villages_13 (by decide) (fun c_13 => ?_) (fun c_13 => ?_)
      · exact absurd c_13 (by omega)
      · have hvl := villF_le (wentB bk) cr i
        refine A_aload_n0 d_Bk_villages_16 ?_
        refine A_getf (kf := 4) d_Bk_villages_17 hA.o ok_0 (by decide) q_156 rfl ?_
        refine A_iload4 d_Bk_villages_20 ?_
        refine A_ialdN d_Bk_villages_22 hA.a4 ⟨by omega, by decide⟩ ?_
        refine A_topI (hW (i) (by omega)) ?_
        have hle := ok.le (i)
        refine A_iconst (v := nI 2) d_Bk_villages_23 (by decide) ?_
        first | refine A_icmp_neN (tgt := 33) d_Bk_villages_24 (by decide) (by with_reducible rfl) (by with_reducible rfl) (by omega) (by omega) (fun c_24 => ?_) (fun c_24 => ?_) | refine A_icmp_ne (tgt := 33) d_Bk_villages_24 (by decide) (fun c_24 => ?_) (fun c_24 => ?_)
        · refine A_iconst (v := nI 0) d_Bk_villages_33 (by decide) ?_
          refine A_istore3 d_Bk_villages_34 trivial ?_
          refine A_iload_n2 d_Bk_villages_35 ?_
          refine A_iload_n3 d_Bk_villages_36 ?_
          refine A_iload_n1 d_Bk_villages_37 ?_
          refine A_iconst (v := nI 1) d_Bk_villages_38 (by decide) ?_
          first | refine A_iaddN d_Bk_villages_39 (by with_reducible rfl) (by with_reducible rfl) ?_ | refine A_iadd d_Bk_villages_39 ?_
          first | refine A_icmp_neN (tgt := 47) d_Bk_villages_40 (by decide) (by with_reducible rfl) (by with_reducible rfl) (by omega) (by omega) (fun c_40 => ?_) (fun c_40 => ?_) | refine A_icmp_ne (tgt := 47) d_Bk_villages_40 (by decide) (fun c_40 => ?_) (fun c_40 => ?_)
          · refine A_iconst (v := nI 0) d_Bk_villages_47 (by decide) ?_
            refine A_callSNP d_Bk_villages_48 (c_N_one0 _) q_744 q_591 mk_N_oneIf rfl (by decide) rfl (Nat.le_of_ble_eq_true rfl) ⟨Nat.le_of_ble_eq_true rfl, Nat.le_of_ble_eq_true rfl⟩ ⟨rfl, rfl⟩ ?_
            first | refine A_iaddN d_Bk_villages_51 (by with_reducible rfl) (by with_reducible rfl) ?_ | refine A_iadd d_Bk_villages_51 ?_
            refine A_istore2 d_Bk_villages_52 trivial ?_
            first | refine A_iinc4 d_Bk_villages_53 (nI_1 _) trivial ?_ | refine A_iinc4 d_Bk_villages_53 rfl trivial ?_
            refine A_goto (tgt := 7) d_Bk_villages_56 (by decide) ?_
            refine A_loc ?_ ih
            have e : villF (wentB bk) cr (i + 1) = (if wentB bk i = 2 then (villF (wentB bk) cr i).1 + 1 else 0, (villF (wentB bk) cr i).2 + if (if wentB bk i = 2 then (villF (wentB bk) cr i).1 + 1 else 0) = cr + 1 then 1 else 0) := rfl
            rw [e]
            first
              | (rw [if_pos c_24, if_pos c_40]; done)
              | (rw [if_pos c_24, if_neg c_40]; done)
              | (rw [if_neg c_24, if_pos c_40]; done)
              | (rw [if_neg c_24, if_neg c_40]; done)
          · refine A_iconst (v := nI 1) d_Bk_villages_43 (by decide) ?_
            refine A_goto (tgt := 48) d_Bk_villages_44 (by decide) ?_
            refine A_callSNP d_Bk_villages_48 (c_N_one1 _) q_744 q_591 mk_N_oneIf rfl (by decide) rfl (Nat.le_of_ble_eq_true rfl) ⟨Nat.le_of_ble_eq_true rfl, Nat.le_of_ble_eq_true rfl⟩ ⟨rfl, rfl⟩ ?_
            first | refine A_iaddN d_Bk_villages_51 (by with_reducible rfl) (by with_reducible rfl) ?_ | refine A_iadd d_Bk_villages_51 ?_
            refine A_istore2 d_Bk_villages_52 trivial ?_
            first | refine A_iinc4 d_Bk_villages_53 (nI_1 _) trivial ?_ | refine A_iinc4 d_Bk_villages_53 rfl trivial ?_
            refine A_goto (tgt := 7) d_Bk_villages_56 (by decide) ?_
            refine A_loc ?_ ih
            have e : villF (wentB bk) cr (i + 1) = (if wentB bk i = 2 then (villF (wentB bk) cr i).1 + 1 else 0, (villF (wentB bk) cr i).2 + if (if wentB bk i = 2 then (villF (wentB bk) cr i).1 + 1 else 0) = cr + 1 then 1 else 0) := rfl
            rw [e]
            first
              | (rw [if_pos c_24, if_pos c_40]; done)
              | (rw [if_pos c_24, if_neg c_40]; done)
              | (rw [if_neg c_24, if_pos c_40]; done)
              | (rw [if_neg c_24, if_neg c_40]; done)
        · refine A_iload_n3 d_Bk_villages_27 ?_
          refine A_iconst (v := nI 1) d_Bk_villages_28 (by decide) ?_
          first | refine A_iaddN d_Bk_villages_29 (by with_reducible rfl) (by with_reducible rfl) ?_ | refine A_iadd d_Bk_villages_29 ?_
          refine A_goto (tgt := 34) d_Bk_villages_30 (by decide) ?_
          refine A_istore3 d_Bk_villages_34 trivial ?_
          refine A_iload_n2 d_Bk_villages_35 ?_
          refine A_iload_n3 d_Bk_villages_36 ?_
          refine A_iload_n1 d_Bk_villages_37 ?_
          refine A_iconst (v := nI 1) d_Bk_villages_38 (by decide) ?_
          first | refine A_iaddN d_Bk_villages_39 (by with_reducible rfl) (by with_reducible rfl) ?_ | refine A_iadd d_Bk_villages_39 ?_
          first | refine A_icmp_neN (tgt := 47) d_Bk_villages_40 (by decide) (by with_reducible rfl) (by with_reducible rfl) (by omega) (by omega) (fun c_40 => ?_) (fun c_40 => ?_) | refine A_icmp_ne (tgt := 47) d_Bk_villages_40 (by decide) (fun c_40 => ?_) (fun c_40 => ?_)
          · refine A_iconst (v := nI 0) d_Bk_villages_47 (by decide) ?_
            refine A_callSNP d_Bk_villages_48 (c_N_one0 _) q_744 q_591 mk_N_oneIf rfl (by decide) rfl (Nat.le_of_ble_eq_true rfl) ⟨Nat.le_of_ble_eq_true rfl, Nat.le_of_ble_eq_true rfl⟩ ⟨rfl, rfl⟩ ?_
            first | refine A_iaddN d_Bk_villages_51 (by with_reducible rfl) (by with_reducible rfl) ?_ | refine A_iadd d_Bk_villages_51 ?_
            refine A_istore2 d_Bk_villages_52 trivial ?_
            first | refine A_iinc4 d_Bk_villages_53 (nI_1 _) trivial ?_ | refine A_iinc4 d_Bk_villages_53 rfl trivial ?_
            refine A_goto (tgt := 7) d_Bk_villages_56 (by decide) ?_
            refine A_loc ?_ ih
            have e : villF (wentB bk) cr (i + 1) = (if wentB bk i = 2 then (villF (wentB bk) cr i).1 + 1 else 0, (villF (wentB bk) cr i).2 + if (if wentB bk i = 2 then (villF (wentB bk) cr i).1 + 1 else 0) = cr + 1 then 1 else 0) := rfl
            rw [e]
            first
              | (rw [if_pos c_24, if_pos c_40]; done)
              | (rw [if_pos c_24, if_neg c_40]; done)
              | (rw [if_neg c_24, if_pos c_40]; done)
              | (rw [if_neg c_24, if_neg c_40]; done)
          · refine A_iconst (v := nI 1) d_Bk_villages_43 (by decide) ?_
            refine A_goto (tgt := 48) d_Bk_villages_44 (by decide) ?_
            refine A_callSNP d_Bk_villages_48 (c_N_one1 _) q_744 q_591 mk_N_oneIf rfl (by decide) rfl (Nat.le_of_ble_eq_true rfl) ⟨Nat.le_of_ble_eq_true rfl, Nat.le_of_ble_eq_true rfl⟩ ⟨rfl, rfl⟩ ?_
            first | refine A_iaddN d_Bk_villages_51 (by with_reducible rfl) (by with_reducible rfl) ?_ | refine A_iadd d_Bk_villages_51 ?_
            refine A_istore2 d_Bk_villages_52 trivial ?_
            first | refine A_iinc4 d_Bk_villages_53 (nI_1 _) trivial ?_ | refine A_iinc4 d_Bk_villages_53 rfl trivial ?_
            refine A_goto (tgt := 7) d_Bk_villages_56 (by decide) ?_
            refine A_loc ?_ ih
            have e : villF (wentB bk) cr (i + 1) = (if wentB bk i = 2 then (villF (wentB bk) cr i).1 + 1 else 0, (villF (wentB bk) cr i).2 + if (if wentB bk i = 2 then (villF (wentB bk) cr i).1 + 1 else 0) = cr + 1 then 1 else 0) := rfl
            rw [e]
            first
              | (rw [if_pos c_24, if_pos c_40]; done)
              | (rw [if_pos c_24, if_neg c_40]; done)
              | (rw [if_neg c_24, if_pos c_40]; done)
              | (rw [if_neg c_24, if_neg c_40]; done)
  refine Ctr.of (by decide +kernel) (by simp) (Nat.le_of_ble_eq_true rfl) (L0 := [some (.ref b), some (.int (nI cr)), none, none, none]) rfl ?_
  refine A_iconst (v := nI 0) d_Bk_villages_0 (by decide) ?_
  refine A_istore2 d_Bk_villages_1 trivial ?_
  refine A_iconst (v := nI 0) d_Bk_villages_2 (by decide) ?_
  refine A_istore3 d_Bk_villages_3 trivial ?_
  refine A_iconst (v := nI 0) d_Bk_villages_4 (by decide) ?_
  refine A_istore4 d_Bk_villages_5 trivial ?_
  exact key 0 (Nat.zero_le _)
set_option maxHeartbeats 4000000 in
set_option maxRecDepth 100000 in
theorem c_Si_isOf {G : GE} {h : AH} {a : Nat} {D : LD} (hA : LAt h a D) {V : Nat → Nat} (hV : LVr D V) {b : Nat} {E : LD} (hE : SAt h b E) {sg : Nat → Nat} (hS : SVr E sg)  : Ctr G y_Si_isOf b_Si_isOf 3 (some .boolean) r_Si_isOf [.ref b, .ref a] h (Pu (.int (bI (thereB V sg))) h) := by
  have hV0 := hV
  obtain ⟨ok, ⟨f0, f1, f2, f3, f4, f9⟩, hP, hBe, hTo⟩ := hV
  have hH := ok.1
  obtain ⟨sok, s0, sK⟩ := hS
  have hs20 := sok.1
  have b4 := ok.2.2.2.2.1
  have key : ∀ i, i ≤ sg 0 → WA G y_Si_isOf b_Si_isOf 3 (some .boolean) r_Si_isOf 0 0 (Pu (.int (bI (firstU (offB V sg) (fun _ => false) true (sg 0) i))) h) 0 0 2 [some (.ref b), some (.ref a), some (.int (nI i))] [] h := by
    refine down ?_ (fun i hi ih => ?_)
    · refine A_iload_n2 d_Si_isOf_2 ?_
      refine A_aload_n0 d_Si_isOf_3 ?_
      refine A_getf (kf := 0) d_Si_isOf_4 hE.o ok_4 (by decide) q_174 rfl ?_
      refine A_topI s0 ?_
      first | refine A_icmp_geN (tgt := 44) d_Si_isOf_7 (by decide) (by with_reducible rfl) (by with_reducible rfl) (by omega) (by omega) (fun c_7 => ?_) (fun c_7 => ?_) | refine A_icmp_ge (tgt := 44) d_Si_isOf_7 (by decide) (fun c_7 => ?_) (fun c_7 => ?_)
      · refine A_iconst (v := nI 1) d_Si_isOf_44 (by decide) ?_
        refine A_zret d_Si_isOf_45 rfl (by first | rfl | exact bI_nar _ | decide) ⟨Nat.zero_le _, Nat.zero_le _⟩ ?_
        exact pu (by rw [firstU_end]; rfl)
      · exact absurd c_7 (by omega)
    · refine A_iload_n2 d_Si_isOf_2 ?_
      refine A_aload_n0 d_Si_isOf_3 ?_
      refine A_getf (kf := 0) d_Si_isOf_4 hE.o ok_4 (by decide) q_174 rfl ?_
      refine A_topI s0 ?_
      first | refine A_icmp_geN (tgt := 44) d_Si_isOf_7 (by decide) (by with_reducible rfl) (by with_reducible rfl) (by omega) (by omega) (fun c_7 => ?_) (fun c_7 => ?_) | refine A_icmp_ge (tgt := 44) d_Si_isOf_7 (by decide) (fun c_7 => ?_) (fun c_7 => ?_)
      · exact absurd c_7 (by omega)
      · refine A_aload_n1 d_Si_isOf_10 ?_
        refine A_aload_n0 d_Si_isOf_11 ?_
        refine A_getf (kf := 1) d_Si_isOf_12 hE.o ok_4 (by decide) q_177 rfl ?_
        refine A_iload_n2 d_Si_isOf_15 ?_
        refine A_ialdN d_Si_isOf_16 hE.a1 ⟨by omega, by decide⟩ ?_
        refine A_topI (sK i (by omega)).1 ?_
        have hsk := sok.2 i (by omega)
        refine A_callVP d_Si_isOf_17 (c_Ld_hasPerson hA hV0 _) hA.o rfl q_991 q_653 q_654 mk_Ld_hasPerson rfl (by decide) rfl (Nat.le_of_ble_eq_true rfl) ⟨Nat.le_of_ble_eq_true rfl, Nat.le_of_ble_eq_true rfl⟩ ⟨rfl, rfl⟩ ?_
        refine A_topI (show bI (inB (nI (sg (1 + 3 * i + 0))) (nI 0) (nI (V 4) - nI 1)) = bI (decide (sg (1 + 3 * i + 0) < V 4)) by rw [inB_lt (by omega) (by omega)]) ?_
        refine A_if_eqB (tgt := 36) d_Si_isOf_20 (by decide) (fun c_20 => ?_) (fun c_20 => ?_)
        · refine A_iconst (v := nI 0) d_Si_isOf_36 (by decide) ?_
          refine A_zret d_Si_isOf_37 rfl (by first | rfl | exact bI_nar _ | decide) ⟨Nat.zero_le _, Nat.zero_le _⟩ ?_
          have ho : offB V sg i = true := by
            unfold offB
            first
              | (rw [c_20]; rfl)
              | (rw [decide_eq_false (p := sg (1 + 3 * i + 1) < V 0) (by omega)]; simp)
          exact pu (by rw [firstU_step _ _ _ hi, if_pos ho]; rfl)
        · refine A_aload_n0 d_Si_isOf_23 ?_
          refine A_getf (kf := 2) d_Si_isOf_24 hE.o ok_4 (by decide) q_179 rfl ?_
          refine A_iload_n2 d_Si_isOf_27 ?_
          refine A_ialdN d_Si_isOf_28 hE.a2 ⟨by omega, by decide⟩ ?_
          refine A_topI (sK i (by omega)).2.1 ?_
          have hsk := sok.2 i (by omega)
          refine A_aload_n1 d_Si_isOf_29 ?_
          refine A_getf (kf := 0) d_Si_isOf_30 hA.o ok_1 (by decide) q_48 rfl ?_
          refine A_topI f0 ?_
          first | refine A_icmp_ltN (tgt := 38) d_Si_isOf_33 (by decide) (by with_reducible rfl) (by with_reducible rfl) (by omega) (by omega) (fun c_33 => ?_) (fun c_33 => ?_) | refine A_icmp_lt (tgt := 38) d_Si_isOf_33 (by decide) (fun c_33 => ?_) (fun c_33 => ?_)
          · first | refine A_iinc2 d_Si_isOf_38 (nI_1 _) trivial ?_ | refine A_iinc2 d_Si_isOf_38 rfl trivial ?_
            refine A_goto (tgt := 2) d_Si_isOf_41 (by decide) ?_
            have ho : ¬ offB V sg i = true := by
              unfold offB
              rw [c_20, decide_eq_true (p := sg (1 + 3 * i + 1) < V 0) (by omega)]
              simp
            rw [firstU_step _ _ _ hi, if_neg ho]
            exact ih
          · refine A_iconst (v := nI 0) d_Si_isOf_36 (by decide) ?_
            refine A_zret d_Si_isOf_37 rfl (by first | rfl | exact bI_nar _ | decide) ⟨Nat.zero_le _, Nat.zero_le _⟩ ?_
            have ho : offB V sg i = true := by
              unfold offB
              first
                | (rw [c_20]; rfl)
                | (rw [decide_eq_false (p := sg (1 + 3 * i + 1) < V 0) (by omega)]; simp)
            exact pu (by rw [firstU_step _ _ _ hi, if_pos ho]; rfl)
  refine Ctr.of (by decide +kernel) (by simp) (Nat.le_of_ble_eq_true rfl) (L0 := [some (.ref b), some (.ref a), none]) rfl ?_
  refine A_iconst (v := nI 0) d_Si_isOf_0 (by decide) ?_
  refine A_istore2 d_Si_isOf_1 trivial ?_
  exact key 0 (Nat.zero_le _)
set_option maxHeartbeats 4000000 in
set_option maxRecDepth 100000 in
theorem c_Si_fits {G : GE} {h : AH} {a : Nat} {D : LD} (hA : LAt h a D) {V : Nat → Nat} (hV : LVr D V) {w : Nat} {t : Nat → Nat} (hT : TAt h w t) {b : Nat} {E : LD} (hE : SAt h b E) {sg : Nat → Nat} (hS : SVr E sg) (hthere : ∀ k, k < sg 0 → sg (1 + 3 * k + 0) < V 4 ∧ sg (1 + 3 * k + 1) < V 0) (y0 : Int32) : Ctr G y_Si_fits b_Si_fits 6 (some .boolean) r_Si_fits [.ref b, .ref a, .ref w, .int y0] h (Pu (.int (bI (fitB V t sg y0))) h) := by
  have hV0 := hV
  obtain ⟨ok, ⟨f0, f1, f2, f3, f4, f9⟩, hP, hBe, hTo⟩ := hV
  have hH := ok.1
  have hT0 := hT
  obtain ⟨g, hg, ht⟩ := hT
  obtain ⟨sok, s0, sK⟩ := hS
  have hs20 := sok.1
  have b4 := ok.2.2.2.2.1
  have key : ∀ i, i ≤ sg 0 → WA G y_Si_fits b_Si_fits 6 (some .boolean) r_Si_fits 0 0 (Pu (.int (bI (firstU (badB V t sg y0) (fun _ => false) true (sg 0) i))) h) 0 0 3 [some (.ref b), some (.ref a), some (.ref w), some (.int y0), some (.int (nI i)), none] [] h := by
    refine down ?_ (fun i hi ih => ?_)
    · refine A_iload4 d_Si_fits_3 ?_
      refine A_aload_n0 d_Si_fits_5 ?_
      refine A_getf (kf := 0) d_Si_fits_6 hE.o ok_4 (by decide) q_174 rfl ?_
      refine A_topI s0 ?_
      first | refine A_icmp_geN (tgt := 80) d_Si_fits_9 (by decide) (by with_reducible rfl) (by with_reducible rfl) (by omega) (by omega) (fun c_9 => ?_) (fun c_9 => ?_) | refine A_icmp_ge (tgt := 80) d_Si_fits_9 (by decide) (fun c_9 => ?_) (fun c_9 => ?_)
      · refine A_iconst (v := nI 1) d_Si_fits_80 (by decide) ?_
        refine A_zret d_Si_fits_81 rfl (by first | rfl | exact bI_nar _ | decide) ⟨Nat.zero_le _, Nat.zero_le _⟩ ?_
        exact pu (by rw [firstU_end]; rfl)
      · exact absurd c_9 (by omega)
    · refine A_iload4 d_Si_fits_3 ?_
      refine A_aload_n0 d_Si_fits_5 ?_
      refine A_getf (kf := 0) d_Si_fits_6 hE.o ok_4 (by decide) q_174 rfl ?_
      refine A_topI s0 ?_
      first | refine A_icmp_geN (tgt := 80) d_Si_fits_9 (by decide) (by with_reducible rfl) (by with_reducible rfl) (by omega) (by omega) (fun c_9 => ?_) (fun c_9 => ?_) | refine A_icmp_ge (tgt := 80) d_Si_fits_9 (by decide) (fun c_9 => ?_) (fun c_9 => ?_)
      · exact absurd c_9 (by omega)
      · have hth := hthere i hi
        refine A_aload_n2 d_Si_fits_12 ?_
        refine A_aload_n0 d_Si_fits_13 ?_
        refine A_getf (kf := 2) d_Si_fits_14 hE.o ok_4 (by decide) q_179 rfl ?_
        refine A_iload4 d_Si_fits_17 ?_
        refine A_ialdN d_Si_fits_19 hE.a2 ⟨by omega, by decide⟩ ?_
        refine A_topI (sK i (by omega)).2.1 ?_
        have hsk := sok.2 i (by omega)
        refine A_ialdN d_Si_fits_20 hg ⟨by omega, by decide⟩ ?_
        refine A_topI (ht (sg (1 + 3 * i + 1)) (by omega)).1 ?_
        refine A_aload_n1 d_Si_fits_21 ?_
        refine A_getf (kf := 5) d_Si_fits_22 hA.o ok_1 (by decide) q_64 rfl ?_
        refine A_aload_n0 d_Si_fits_25 ?_
        refine A_getf (kf := 1) d_Si_fits_26 hE.o ok_4 (by decide) q_177 rfl ?_
        refine A_iload4 d_Si_fits_29 ?_
        refine A_ialdN d_Si_fits_31 hE.a1 ⟨by omega, by decide⟩ ?_
        refine A_topI (sK i (by omega)).1 ?_
        have hsk := sok.2 i (by omega)
        refine A_ialdN d_Si_fits_32 hA.a5 ⟨by omega, by decide⟩ ?_
        refine A_topI (hP (sg (1 + 3 * i + 0)) (by omega)).1 ?_
        have hti := (ht (sg (1 + 3 * i + 1)) (by omega)).2
        have hci := (ok.2.2.2.2.2.2.1 (sg (1 + 3 * i + 0)) (by omega)).1
        first | refine A_icmp_neN (tgt := 54) d_Si_fits_33 (by decide) (by with_reducible rfl) (by with_reducible rfl) (by omega) (by omega) (fun c_33 => ?_) (fun c_33 => ?_) | refine A_icmp_ne (tgt := 54) d_Si_fits_33 (by decide) (fun c_33 => ?_) (fun c_33 => ?_)
        · refine A_iconst (v := nI 0) d_Si_fits_54 (by decide) ?_
          first | refine A_topI (show nI 1 = bI true from rfl) ?_ | refine A_topI (show nI 0 = bI false from rfl) ?_
          refine A_istore5 d_Si_fits_55 trivial ?_
          refine A_iload5 d_Si_fits_57 ?_
          refine A_callSNP d_Si_fits_59 (c_N_oneB _ _) q_590 q_591 mk_N_oneIf rfl (by decide) rfl (Nat.le_of_ble_eq_true rfl) ⟨Nat.le_of_ble_eq_true rfl, Nat.le_of_ble_eq_true rfl⟩ ⟨rfl, rfl⟩ ?_
          first | refine A_topI (show bI true = nI 1 from rfl) ?_ | refine A_topI (show bI false = nI 0 from rfl) ?_
          refine A_aload_n0 d_Si_fits_62 ?_
          refine A_getf (kf := 3) d_Si_fits_63 hE.o ok_4 (by decide) q_181 rfl ?_
          refine A_iload4 d_Si_fits_66 ?_
          refine A_ialdN d_Si_fits_68 hE.a3 ⟨by omega, by decide⟩ ?_
          refine A_topI (sK i (by omega)).2.2 ?_
          have hsk := sok.2 i (by omega)
          first | refine A_icmp_eqN (tgt := 74) d_Si_fits_69 (by decide) (by with_reducible rfl) (by with_reducible rfl) (by omega) (by omega) (fun c_69 => ?_) (fun c_69 => ?_) | refine A_icmp_eq (tgt := 74) d_Si_fits_69 (by decide) (fun c_69 => ?_) (fun c_69 => ?_)
          · first | refine A_iinc4 d_Si_fits_74 (nI_1 _) trivial ?_ | refine A_iinc4 d_Si_fits_74 rfl trivial ?_
            refine A_goto (tgt := 3) d_Si_fits_77 (by decide) ?_
            have hbd : ¬ badB V t sg y0 i = true := by
              unfold badB
              first
                | (rw [decide_eq_true (p := t (sg (1 + 3 * i + 1)) = V (42 + 27 * sg (1 + 3 * i + 0) + 0)) c_33]
                   cases hz : hasB y0 (nI (sg (1 + 3 * i + 1)))
                   · rw [hz] at c_47
                     first | (exfalso; revert c_47; decide) | (rw [decide_eq_true (p := sg (1 + 3 * i + 2) = 1) (by omega)]; decide) | (rw [decide_eq_false (p := sg (1 + 3 * i + 2) = 1) (by omega)]; decide)
                   · rw [hz] at c_47
                     first | (exfalso; revert c_47; decide) | (rw [decide_eq_true (p := sg (1 + 3 * i + 2) = 1) (by omega)]; decide) | (rw [decide_eq_false (p := sg (1 + 3 * i + 2) = 1) (by omega)]; decide))
                | (rw [decide_eq_false (p := t (sg (1 + 3 * i + 1)) = V (42 + 27 * sg (1 + 3 * i + 0) + 0)) c_33, Bool.false_and]
                   first | (rw [decide_eq_true (p := sg (1 + 3 * i + 2) = 1) (by omega)]; decide) | (rw [decide_eq_false (p := sg (1 + 3 * i + 2) = 1) (by omega)]; decide))
            rw [firstU_step _ _ _ hi, if_neg hbd]
            exact A_drop5 ih
          · refine A_iconst (v := nI 0) d_Si_fits_72 (by decide) ?_
            refine A_zret d_Si_fits_73 rfl (by first | rfl | exact bI_nar _ | decide) ⟨Nat.zero_le _, Nat.zero_le _⟩ ?_
            have hbd : badB V t sg y0 i = true := by
              unfold badB
              first
                | (rw [decide_eq_true (p := t (sg (1 + 3 * i + 1)) = V (42 + 27 * sg (1 + 3 * i + 0) + 0)) c_33]
                   cases hz : hasB y0 (nI (sg (1 + 3 * i + 1)))
                   · rw [hz] at c_47
                     first | (exfalso; revert c_47; decide) | (rw [decide_eq_true (p := sg (1 + 3 * i + 2) = 1) (by omega)]; decide) | (rw [decide_eq_false (p := sg (1 + 3 * i + 2) = 1) (by omega)]; decide)
                   · rw [hz] at c_47
                     first | (exfalso; revert c_47; decide) | (rw [decide_eq_true (p := sg (1 + 3 * i + 2) = 1) (by omega)]; decide) | (rw [decide_eq_false (p := sg (1 + 3 * i + 2) = 1) (by omega)]; decide))
                | (rw [decide_eq_false (p := t (sg (1 + 3 * i + 1)) = V (42 + 27 * sg (1 + 3 * i + 0) + 0)) c_33, Bool.false_and]
                   first | (rw [decide_eq_true (p := sg (1 + 3 * i + 2) = 1) (by omega)]; decide) | (rw [decide_eq_false (p := sg (1 + 3 * i + 2) = 1) (by omega)]; decide))
            exact pu (by rw [firstU_step _ _ _ hi, if_pos hbd]; rfl)
        · refine A_iload_n3 d_Si_fits_36 ?_
          refine A_aload_n0 d_Si_fits_37 ?_
          refine A_getf (kf := 2) d_Si_fits_38 hE.o ok_4 (by decide) q_179 rfl ?_
          refine A_iload4 d_Si_fits_41 ?_
          refine A_ialdN d_Si_fits_43 hE.a2 ⟨by omega, by decide⟩ ?_
          refine A_topI (sK i (by omega)).2.1 ?_
          have hsk := sok.2 i (by omega)
          refine A_ishr d_Si_fits_44 ?_
          refine A_iconst (v := nI 1) d_Si_fits_45 (by decide) ?_
          refine A_iand d_Si_fits_46 ?_
          refine A_topI (and1 _ (by omega)) ?_
          first | refine A_if_neN (tgt := 54) d_Si_fits_47 (by decide) (by with_reducible rfl) (by omega) (fun c_47 => ?_) (fun c_47 => ?_) | refine A_if_ne (tgt := 54) d_Si_fits_47 (by decide) (fun c_47 => ?_) (fun c_47 => ?_)
          · refine A_iconst (v := nI 0) d_Si_fits_54 (by decide) ?_
            first | refine A_topI (show nI 1 = bI true from rfl) ?_ | refine A_topI (show nI 0 = bI false from rfl) ?_
            refine A_istore5 d_Si_fits_55 trivial ?_
            refine A_iload5 d_Si_fits_57 ?_
            refine A_callSNP d_Si_fits_59 (c_N_oneB _ _) q_590 q_591 mk_N_oneIf rfl (by decide) rfl (Nat.le_of_ble_eq_true rfl) ⟨Nat.le_of_ble_eq_true rfl, Nat.le_of_ble_eq_true rfl⟩ ⟨rfl, rfl⟩ ?_
            first | refine A_topI (show bI true = nI 1 from rfl) ?_ | refine A_topI (show bI false = nI 0 from rfl) ?_
            refine A_aload_n0 d_Si_fits_62 ?_
            refine A_getf (kf := 3) d_Si_fits_63 hE.o ok_4 (by decide) q_181 rfl ?_
            refine A_iload4 d_Si_fits_66 ?_
            refine A_ialdN d_Si_fits_68 hE.a3 ⟨by omega, by decide⟩ ?_
            refine A_topI (sK i (by omega)).2.2 ?_
            have hsk := sok.2 i (by omega)
            first | refine A_icmp_eqN (tgt := 74) d_Si_fits_69 (by decide) (by with_reducible rfl) (by with_reducible rfl) (by omega) (by omega) (fun c_69 => ?_) (fun c_69 => ?_) | refine A_icmp_eq (tgt := 74) d_Si_fits_69 (by decide) (fun c_69 => ?_) (fun c_69 => ?_)
            · first | refine A_iinc4 d_Si_fits_74 (nI_1 _) trivial ?_ | refine A_iinc4 d_Si_fits_74 rfl trivial ?_
              refine A_goto (tgt := 3) d_Si_fits_77 (by decide) ?_
              have hbd : ¬ badB V t sg y0 i = true := by
                unfold badB
                first
                  | (rw [decide_eq_true (p := t (sg (1 + 3 * i + 1)) = V (42 + 27 * sg (1 + 3 * i + 0) + 0)) c_33]
                     cases hz : hasB y0 (nI (sg (1 + 3 * i + 1)))
                     · rw [hz] at c_47
                       first | (exfalso; revert c_47; decide) | (rw [decide_eq_true (p := sg (1 + 3 * i + 2) = 1) (by omega)]; decide) | (rw [decide_eq_false (p := sg (1 + 3 * i + 2) = 1) (by omega)]; decide)
                     · rw [hz] at c_47
                       first | (exfalso; revert c_47; decide) | (rw [decide_eq_true (p := sg (1 + 3 * i + 2) = 1) (by omega)]; decide) | (rw [decide_eq_false (p := sg (1 + 3 * i + 2) = 1) (by omega)]; decide))
                  | (rw [decide_eq_false (p := t (sg (1 + 3 * i + 1)) = V (42 + 27 * sg (1 + 3 * i + 0) + 0)) c_33, Bool.false_and]
                     first | (rw [decide_eq_true (p := sg (1 + 3 * i + 2) = 1) (by omega)]; decide) | (rw [decide_eq_false (p := sg (1 + 3 * i + 2) = 1) (by omega)]; decide))
              rw [firstU_step _ _ _ hi, if_neg hbd]
              exact A_drop5 ih
            · refine A_iconst (v := nI 0) d_Si_fits_72 (by decide) ?_
              refine A_zret d_Si_fits_73 rfl (by first | rfl | exact bI_nar _ | decide) ⟨Nat.zero_le _, Nat.zero_le _⟩ ?_
              have hbd : badB V t sg y0 i = true := by
                unfold badB
                first
                  | (rw [decide_eq_true (p := t (sg (1 + 3 * i + 1)) = V (42 + 27 * sg (1 + 3 * i + 0) + 0)) c_33]
                     cases hz : hasB y0 (nI (sg (1 + 3 * i + 1)))
                     · rw [hz] at c_47
                       first | (exfalso; revert c_47; decide) | (rw [decide_eq_true (p := sg (1 + 3 * i + 2) = 1) (by omega)]; decide) | (rw [decide_eq_false (p := sg (1 + 3 * i + 2) = 1) (by omega)]; decide)
                     · rw [hz] at c_47
                       first | (exfalso; revert c_47; decide) | (rw [decide_eq_true (p := sg (1 + 3 * i + 2) = 1) (by omega)]; decide) | (rw [decide_eq_false (p := sg (1 + 3 * i + 2) = 1) (by omega)]; decide))
                  | (rw [decide_eq_false (p := t (sg (1 + 3 * i + 1)) = V (42 + 27 * sg (1 + 3 * i + 0) + 0)) c_33, Bool.false_and]
                     first | (rw [decide_eq_true (p := sg (1 + 3 * i + 2) = 1) (by omega)]; decide) | (rw [decide_eq_false (p := sg (1 + 3 * i + 2) = 1) (by omega)]; decide))
              exact pu (by rw [firstU_step _ _ _ hi, if_pos hbd]; rfl)
          · refine A_iconst (v := nI 1) d_Si_fits_50 (by decide) ?_
            refine A_goto (tgt := 55) d_Si_fits_51 (by decide) ?_
            first | refine A_topI (show nI 1 = bI true from rfl) ?_ | refine A_topI (show nI 0 = bI false from rfl) ?_
            refine A_istore5 d_Si_fits_55 trivial ?_
            refine A_iload5 d_Si_fits_57 ?_
            refine A_callSNP d_Si_fits_59 (c_N_oneB _ _) q_590 q_591 mk_N_oneIf rfl (by decide) rfl (Nat.le_of_ble_eq_true rfl) ⟨Nat.le_of_ble_eq_true rfl, Nat.le_of_ble_eq_true rfl⟩ ⟨rfl, rfl⟩ ?_
            first | refine A_topI (show bI true = nI 1 from rfl) ?_ | refine A_topI (show bI false = nI 0 from rfl) ?_
            refine A_aload_n0 d_Si_fits_62 ?_
            refine A_getf (kf := 3) d_Si_fits_63 hE.o ok_4 (by decide) q_181 rfl ?_
            refine A_iload4 d_Si_fits_66 ?_
            refine A_ialdN d_Si_fits_68 hE.a3 ⟨by omega, by decide⟩ ?_
            refine A_topI (sK i (by omega)).2.2 ?_
            have hsk := sok.2 i (by omega)
            first | refine A_icmp_eqN (tgt := 74) d_Si_fits_69 (by decide) (by with_reducible rfl) (by with_reducible rfl) (by omega) (by omega) (fun c_69 => ?_) (fun c_69 => ?_) | refine A_icmp_eq (tgt := 74) d_Si_fits_69 (by decide) (fun c_69 => ?_) (fun c_69 => ?_)
            · first | refine A_iinc4 d_Si_fits_74 (nI_1 _) trivial ?_ | refine A_iinc4 d_Si_fits_74 rfl trivial ?_
              refine A_goto (tgt := 3) d_Si_fits_77 (by decide) ?_
              have hbd : ¬ badB V t sg y0 i = true := by
                unfold badB
                first
                  | (rw [decide_eq_true (p := t (sg (1 + 3 * i + 1)) = V (42 + 27 * sg (1 + 3 * i + 0) + 0)) c_33]
                     cases hz : hasB y0 (nI (sg (1 + 3 * i + 1)))
                     · rw [hz] at c_47
                       first | (exfalso; revert c_47; decide) | (rw [decide_eq_true (p := sg (1 + 3 * i + 2) = 1) (by omega)]; decide) | (rw [decide_eq_false (p := sg (1 + 3 * i + 2) = 1) (by omega)]; decide)
                     · rw [hz] at c_47
                       first | (exfalso; revert c_47; decide) | (rw [decide_eq_true (p := sg (1 + 3 * i + 2) = 1) (by omega)]; decide) | (rw [decide_eq_false (p := sg (1 + 3 * i + 2) = 1) (by omega)]; decide))
                  | (rw [decide_eq_false (p := t (sg (1 + 3 * i + 1)) = V (42 + 27 * sg (1 + 3 * i + 0) + 0)) c_33, Bool.false_and]
                     first | (rw [decide_eq_true (p := sg (1 + 3 * i + 2) = 1) (by omega)]; decide) | (rw [decide_eq_false (p := sg (1 + 3 * i + 2) = 1) (by omega)]; decide))
              rw [firstU_step _ _ _ hi, if_neg hbd]
              exact A_drop5 ih
            · refine A_iconst (v := nI 0) d_Si_fits_72 (by decide) ?_
              refine A_zret d_Si_fits_73 rfl (by first | rfl | exact bI_nar _ | decide) ⟨Nat.zero_le _, Nat.zero_le _⟩ ?_
              have hbd : badB V t sg y0 i = true := by
                unfold badB
                first
                  | (rw [decide_eq_true (p := t (sg (1 + 3 * i + 1)) = V (42 + 27 * sg (1 + 3 * i + 0) + 0)) c_33]
                     cases hz : hasB y0 (nI (sg (1 + 3 * i + 1)))
                     · rw [hz] at c_47
                       first | (exfalso; revert c_47; decide) | (rw [decide_eq_true (p := sg (1 + 3 * i + 2) = 1) (by omega)]; decide) | (rw [decide_eq_false (p := sg (1 + 3 * i + 2) = 1) (by omega)]; decide)
                     · rw [hz] at c_47
                       first | (exfalso; revert c_47; decide) | (rw [decide_eq_true (p := sg (1 + 3 * i + 2) = 1) (by omega)]; decide) | (rw [decide_eq_false (p := sg (1 + 3 * i + 2) = 1) (by omega)]; decide))
                  | (rw [decide_eq_false (p := t (sg (1 + 3 * i + 1)) = V (42 + 27 * sg (1 + 3 * i + 0) + 0)) c_33, Bool.false_and]
                     first | (rw [decide_eq_true (p := sg (1 + 3 * i + 2) = 1) (by omega)]; decide) | (rw [decide_eq_false (p := sg (1 + 3 * i + 2) = 1) (by omega)]; decide))
              exact pu (by rw [firstU_step _ _ _ hi, if_pos hbd]; rfl)
  refine Ctr.of (by decide +kernel) (by simp) (Nat.le_of_ble_eq_true rfl) (L0 := [some (.ref b), some (.ref a), some (.ref w), some (.int y0), none, none]) rfl ?_
  refine A_iconst (v := nI 0) d_Si_fits_0 (by decide) ?_
  refine A_istore4 d_Si_fits_1 trivial ?_
  exact key 0 (Nat.zero_le _)
