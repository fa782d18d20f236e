theorem sumN_one (f : Nat → Nat) (k : Nat) : ∀ n, sumN (fun i => if i = k then f i else 0) n = if k < n then f k else 0
  | 0 => (if_neg (Nat.not_lt_zero _)).symm
  | n + 1 => by
    rw [sumN_s, sumN_one f k n]
    by_cases z : n = k
    · subst z
      rw [if_neg (Nat.lt_irrefl _), if_pos rfl, if_pos (Nat.lt_succ_self _), Nat.zero_add]
    · rw [if_neg z]
      by_cases y : k < n
      · rw [if_pos y, if_pos (by omega)]; rfl
      · rw [if_neg y, if_neg (by omega)]
theorem worthN_1 {V : Nat → Nat} (cc : Nat) {k : Nat} (hk : k < V 0) (h24 : V 0 ≤ 24) : worthN V cc (nI 1 <<< (nI k &&& 31)) = likedInN V cc k := by
  unfold worthN
  rw [sumN_congr (g := fun i => if i = k then likedInN V cc i else 0) (V 0) (fun i hi => by
    rw [hasB_bt _ (by omega), b_1shl (by omega) (by omega)]
    by_cases z : i = k
    · rw [if_pos z, decide_eq_true z, if_pos rfl]
    · rw [if_neg z, decide_eq_false z, if_neg (by decide)]), sumN_one, if_pos hk]
def moE (V : Nat → Nat) (cc : Nat) : Option Nat → Int32
  | none => -1
  | some p => nI (likedInN V cc p)
theorem pkO_s (V : Nat → Nat) (who : Nat) (left : Int32) (n : Nat) : pkO V who left (n + 1) = if hasB left (nI n) = true then (match pkO V who left n with
  | none => some n
  | some p => if likedInN V who p < likedInN V who n then some n else some p) else pkO V who left n := rfl
set_option maxHeartbeats 4000000 in
set_option maxRecDepth 100000 in
theorem c_N_dearest {G : GE} {h : AH} {a : Nat} {D : LD} (hA : LAt h a D) {V : Nat → Nat} (hV : LVr D V) (cc : Nat) (hcc : cc < 2 ^ 31) (y0 : Int32) : Ctr G y_N_dearest b_N_dearest 6 (some .int) r_N_dearest [.ref a, .int (nI cc), .int y0] h (Pu (.int (nI ((pkO V cc y0 (V 0)).getD 0))) h) := by
  refine Ctr.of (by decide +kernel) (by simp) (Nat.le_of_ble_eq_true rfl) (L0 := [some (.ref a), some (.int (nI cc)), some (.int y0), none, none, none]) rfl ?_
  have hV0 := hV
  obtain ⟨ok, ⟨f0, f1, f2, f3, f4, f9⟩, hP, hBe, hTo⟩ := hV
  have hH := ok.1
  have key : ∀ i, i ≤ V 0 → WA G y_N_dearest b_N_dearest 6 (some .int) r_N_dearest 0 0 (Pu (.int (nI ((pkO V cc y0 (V 0)).getD 0))) h) 0 0 8 [some (.ref a), some (.int (nI cc)), some (.int y0), some (.int (nI ((pkO V cc y0 i).getD 0))), some (.int (moE V cc (pkO V cc y0 i))), some (.int (nI i))] [] h := by
    refine down ?_ (fun i hi ih => ?_)
    · refine A_iload5 d_N_dearest_8 ?_
      refine A_aload_n0 d_N_dearest_10 ?_
      refine A_getf (kf := 0) d_N_dearest_11 hA.o ok_1 (by decide) q_49 rfl ?_
      refine A_topI f0 ?_
      first | refine A_icmp_geN (tgt := 61) d_N_dearest_14 (by decide) (by with_reducible rfl) (by with_reducible rfl) (by omega) (by omega) (fun c_14 => ?_) (fun c_14 => ?_) | refine A_icmp_ge (tgt := 61) d_N_dearest_14 (by decide) (fun c_14 => ?_) (fun c_14 => ?_)
      · refine A_iload_n3 d_N_dearest_61 ?_
        refine A_iret d_N_dearest_62 rfl ⟨Nat.zero_le _, Nat.zero_le _⟩ ?_
        exact pu rfl
      · exact absurd c_14 (by omega)
    · have hli := likedInN_le ok cc (show i < 24 by omega)
      rcases hq : pkO V cc y0 i with _ | p
      · refine A_iload5 d_N_dearest_8 ?_
        refine A_aload_n0 d_N_dearest_10 ?_
        refine A_getf (kf := 0) d_N_dearest_11 hA.o ok_1 (by decide) q_49 rfl ?_
        refine A_topI f0 ?_
        first | refine A_icmp_geN (tgt := 61) d_N_dearest_14 (by decide) (by with_reducible rfl) (by with_reducible rfl) (by omega) (by omega) (fun c_14 => ?_) (fun c_14 => ?_) | refine A_icmp_ge (tgt := 61) d_N_dearest_14 (by decide) (fun c_14 => ?_) (fun c_14 => ?_)
        · exact absurd c_14 (by omega)
        · refine A_iload_n2 d_N_dearest_17 ?_
          refine A_iload5 d_N_dearest_18 ?_
          refine A_ishr d_N_dearest_20 ?_
          refine A_iconst (v := nI 1) d_N_dearest_21 (by decide) ?_
          refine A_iand d_N_dearest_22 ?_
          refine A_iconst (v := nI 1) d_N_dearest_23 (by decide) ?_
          first | refine A_icmp_neN (tgt := 55) d_N_dearest_24 (by decide) (by with_reducible rfl) (by with_reducible rfl) (by omega) (by omega) (fun c_24 => ?_) (fun c_24 => ?_) | refine A_icmp_ne (tgt := 55) d_N_dearest_24 (by decide) (fun c_24 => ?_) (fun c_24 => ?_)
          · first | refine A_iinc5 d_N_dearest_55 (nI_1 _) trivial ?_ | refine A_iinc5 d_N_dearest_55 rfl trivial ?_
            refine A_goto (tgt := 8) d_N_dearest_58 (by decide) ?_
            have es := pkO_s V cc y0 i
            first
              | (rw [if_neg (show ¬ hasB y0 (nI i) = true from fun z => c_24 (of_decide_eq_true z)), hq] at es
                 rw [es] at ih
                 exact ih)
              | (rw [if_pos (show hasB y0 (nI i) = true from decide_eq_true c_24), hq] at es
                 rw [es] at ih
                 exact ih)
          · refine A_aload_n0 d_N_dearest_27 ?_
            refine A_iload_n1 d_N_dearest_28 ?_
            refine A_iconst (v := nI 1) d_N_dearest_29 (by decide) ?_
            refine A_iload5 d_N_dearest_30 ?_
            refine A_ishl d_N_dearest_32 ?_
            refine A_callVP d_N_dearest_33 (c_Ld_worthOf hA hV0 cc (by omega) (nI 1 <<< (nI i &&& 31))) hA.o rfl q_871 q_803 q_804 mk_Ld_worthOf rfl (by decide) rfl (Nat.le_of_ble_eq_true rfl) ⟨Nat.le_of_ble_eq_true rfl, Nat.le_of_ble_eq_true rfl⟩ ⟨rfl, rfl⟩ ?_
            refine A_topN (k := likedInN V cc i) (congrArg nI (worthN_1 cc hi (by omega))) ?_
            refine A_iload4 d_N_dearest_36 ?_
            refine A_icmp_le (tgt := 55) d_N_dearest_38 (by decide) (fun c => absurd c (m1_le (by omega))) (fun c_38 => ?_)
            refine A_aload_n0 d_N_dearest_41 ?_
            refine A_iload_n1 d_N_dearest_42 ?_
            refine A_iconst (v := nI 1) d_N_dearest_43 (by decide) ?_
            refine A_iload5 d_N_dearest_44 ?_
            refine A_ishl d_N_dearest_46 ?_
            refine A_callVP d_N_dearest_47 (c_Ld_worthOf hA hV0 cc (by omega) (nI 1 <<< (nI i &&& 31))) hA.o rfl q_871 q_803 q_804 mk_Ld_worthOf rfl (by decide) rfl (Nat.le_of_ble_eq_true rfl) ⟨Nat.le_of_ble_eq_true rfl, Nat.le_of_ble_eq_true rfl⟩ ⟨rfl, rfl⟩ ?_
            refine A_topN (k := likedInN V cc i) (congrArg nI (worthN_1 cc hi (by omega))) ?_
            refine A_istore4 d_N_dearest_50 trivial ?_
            refine A_iload5 d_N_dearest_52 ?_
            refine A_istore3 d_N_dearest_54 trivial ?_
            first | refine A_iinc5 d_N_dearest_55 (nI_1 _) trivial ?_ | refine A_iinc5 d_N_dearest_55 rfl trivial ?_
            refine A_goto (tgt := 8) d_N_dearest_58 (by decide) ?_
            have es := pkO_s V cc y0 i
            first
              | (rw [if_neg (show ¬ hasB y0 (nI i) = true from fun z => c_24 (of_decide_eq_true z)), hq] at es
                 rw [es] at ih
                 exact ih)
              | (rw [if_pos (show hasB y0 (nI i) = true from decide_eq_true c_24), hq] at es
                 rw [es] at ih
                 exact ih)
      · have hpl := likedInN_le ok cc (show p < 24 by have := (pkO_lt i p hq).1; omega)
        rw [show moE V cc (some p) = nI (likedInN V cc p) from rfl]
        refine A_iload5 d_N_dearest_8 ?_
        refine A_aload_n0 d_N_dearest_10 ?_
        refine A_getf (kf := 0) d_N_dearest_11 hA.o ok_1 (by decide) q_49 rfl ?_
        refine A_topI f0 ?_
        first | refine A_icmp_geN (tgt := 61) d_N_dearest_14 (by decide) (by with_reducible rfl) (by with_reducible rfl) (by omega) (by omega) (fun c_14 => ?_) (fun c_14 => ?_) | refine A_icmp_ge (tgt := 61) d_N_dearest_14 (by decide) (fun c_14 => ?_) (fun c_14 => ?_)
        · exact absurd c_14 (by omega)
        · refine A_iload_n2 d_N_dearest_17 ?_
          refine A_iload5 d_N_dearest_18 ?_
          refine A_ishr d_N_dearest_20 ?_
          refine A_iconst (v := nI 1) d_N_dearest_21 (by decide) ?_
          refine A_iand d_N_dearest_22 ?_
          refine A_iconst (v := nI 1) d_N_dearest_23 (by decide) ?_
          first | refine A_icmp_neN (tgt := 55) d_N_dearest_24 (by decide) (by with_reducible rfl) (by with_reducible rfl) (by omega) (by omega) (fun c_24 => ?_) (fun c_24 => ?_) | refine A_icmp_ne (tgt := 55) d_N_dearest_24 (by decide) (fun c_24 => ?_) (fun c_24 => ?_)
          · first | refine A_iinc5 d_N_dearest_55 (nI_1 _) trivial ?_ | refine A_iinc5 d_N_dearest_55 rfl trivial ?_
            refine A_goto (tgt := 8) d_N_dearest_58 (by decide) ?_
            have es := pkO_s V cc y0 i
            first
              | (rw [if_neg (show ¬ hasB y0 (nI i) = true from fun z => c_24 (of_decide_eq_true z)), hq] at es
                 rw [es] at ih
                 exact ih)
              | (rw [if_pos (show hasB y0 (nI i) = true from decide_eq_true c_24), hq] at es
                 by_cases z : likedInN V cc p < likedInN V cc i
                 · rw [show (match some p with | none => some i | some p => if likedInN V cc p < likedInN V cc i then some i else some p) = some i from if_pos z] at es
                   rw [es] at ih
                   first
                     | exact ih
                     | (exfalso; omega)
                 · rw [show (match some p with | none => some i | some p => if likedInN V cc p < likedInN V cc i then some i else some p) = some p from if_neg z] at es
                   rw [es] at ih
                   first
                     | exact ih
                     | (exfalso; omega))
          · refine A_aload_n0 d_N_dearest_27 ?_
            refine A_iload_n1 d_N_dearest_28 ?_
            refine A_iconst (v := nI 1) d_N_dearest_29 (by decide) ?_
            refine A_iload5 d_N_dearest_30 ?_
            refine A_ishl d_N_dearest_32 ?_
            refine A_callVP d_N_dearest_33 (c_Ld_worthOf hA hV0 cc (by omega) (nI 1 <<< (nI i &&& 31))) hA.o rfl q_871 q_803 q_804 mk_Ld_worthOf rfl (by decide) rfl (Nat.le_of_ble_eq_true rfl) ⟨Nat.le_of_ble_eq_true rfl, Nat.le_of_ble_eq_true rfl⟩ ⟨rfl, rfl⟩ ?_
            refine A_topN (k := likedInN V cc i) (congrArg nI (worthN_1 cc hi (by omega))) ?_
            refine A_iload4 d_N_dearest_36 ?_
            first | refine A_icmp_leN (tgt := 55) d_N_dearest_38 (by decide) (by with_reducible rfl) (by with_reducible rfl) (by omega) (by omega) (fun c_38 => ?_) (fun c_38 => ?_) | refine A_icmp_le (tgt := 55) d_N_dearest_38 (by decide) (fun c_38 => ?_) (fun c_38 => ?_)
            · first | refine A_iinc5 d_N_dearest_55 (nI_1 _) trivial ?_ | refine A_iinc5 d_N_dearest_55 rfl trivial ?_
              refine A_goto (tgt := 8) d_N_dearest_58 (by decide) ?_
              have es := pkO_s V cc y0 i
              first
                | (rw [if_neg (show ¬ hasB y0 (nI i) = true from fun z => c_24 (of_decide_eq_true z)), hq] at es
                   rw [es] at ih
                   exact ih)
                | (rw [if_pos (show hasB y0 (nI i) = true from decide_eq_true c_24), hq] at es
                   by_cases z : likedInN V cc p < likedInN V cc i
                   · rw [show (match some p with | none => some i | some p => if likedInN V cc p < likedInN V cc i then some i else some p) = some i from if_pos z] at es
                     rw [es] at ih
                     first
                       | exact ih
                       | (exfalso; omega)
                   · rw [show (match some p with | none => some i | some p => if likedInN V cc p < likedInN V cc i then some i else some p) = some p from if_neg z] at es
                     rw [es] at ih
                     first
                       | exact ih
                       | (exfalso; omega))
            · refine A_aload_n0 d_N_dearest_41 ?_
              refine A_iload_n1 d_N_dearest_42 ?_
              refine A_iconst (v := nI 1) d_N_dearest_43 (by decide) ?_
              refine A_iload5 d_N_dearest_44 ?_
              refine A_ishl d_N_dearest_46 ?_
              refine A_callVP d_N_dearest_47 (c_Ld_worthOf hA hV0 cc (by omega) (nI 1 <<< (nI i &&& 31))) hA.o rfl q_871 q_803 q_804 mk_Ld_worthOf rfl (by decide) rfl (Nat.le_of_ble_eq_true rfl) ⟨Nat.le_of_ble_eq_true rfl, Nat.le_of_ble_eq_true rfl⟩ ⟨rfl, rfl⟩ ?_
              refine A_topN (k := likedInN V cc i) (congrArg nI (worthN_1 cc hi (by omega))) ?_
              refine A_istore4 d_N_dearest_50 trivial ?_
              refine A_iload5 d_N_dearest_52 ?_
              refine A_istore3 d_N_dearest_54 trivial ?_
              first | refine A_iinc5 d_N_dearest_55 (nI_1 _) trivial ?_ | refine A_iinc5 d_N_dearest_55 rfl trivial ?_
              refine A_goto (tgt := 8) d_N_dearest_58 (by decide) ?_
              have es := pkO_s V cc y0 i
              first
                | (rw [if_neg (show ¬ hasB y0 (nI i) = true from fun z => c_24 (of_decide_eq_true z)), hq] at es
                   rw [es] at ih
                   exact ih)
                | (rw [if_pos (show hasB y0 (nI i) = true from decide_eq_true c_24), hq] at es
                   by_cases z : likedInN V cc p < likedInN V cc i
                   · rw [show (match some p with | none => some i | some p => if likedInN V cc p < likedInN V cc i then some i else some p) = some i from if_pos z] at es
                     rw [es] at ih
                     first
                       | exact ih
                       | (exfalso; omega)
                   · rw [show (match some p with | none => some i | some p => if likedInN V cc p < likedInN V cc i then some i else some p) = some p from if_neg z] at es
                     rw [es] at ih
                     first
                       | exact ih
                       | (exfalso; omega))
  refine A_iconst (v := nI 0) d_N_dearest_0 (by decide) ?_
  refine A_istore3 d_N_dearest_1 trivial ?_
  refine A_iconst (v := (-1)) d_N_dearest_2 (by decide) ?_
  refine A_istore4 d_N_dearest_3 trivial ?_
  refine A_iconst (v := nI 0) d_N_dearest_5 (by decide) ?_
  refine A_istore5 d_N_dearest_6 trivial ?_
  exact key 0 (Nat.zero_le _)
set_option maxHeartbeats 4000000 in
set_option maxRecDepth 100000 in
theorem c_N_cutByTurns {G : GE} {h : AH} {a : Nat} {D : LD} (hA : LAt h a D) {V : Nat → Nat} (hV : LVr D V) (cc : Nat) (hcc : cc ≤ 1) : Ctr G y_N_cutByTurns b_N_cutByTurns 7 (some .int) r_N_cutByTurns [.ref a, .int (nI cc)] h (Pu (.int (turnsV V cc)) h) := by
  refine Ctr.of (by decide +kernel) (by simp) (Nat.le_of_ble_eq_true rfl) (L0 := [some (.ref a), some (.int (nI cc)), none, none, none, none, none]) rfl ?_
  have hV0 := hV
  obtain ⟨ok, ⟨f0, f1, f2, f3, f4, f9⟩, hP, hBe, hTo⟩ := hV
  have hH := ok.1
  have key : ∀ i, i ≤ V 0 → WA G y_N_cutByTurns b_N_cutByTurns 7 (some .int) r_N_cutByTurns 0 0 (Pu (.int (turnsV V cc)) h) 0 0 13 [some (.ref a), some (.int (nI cc)), some (.int (turnS V cc i).1), some (.int (turnS V cc i).2), some (.int (nI (whoN cc i))), some (.int (nI i)), none] [] h := by
    refine down ?_ (fun i hi ih => ?_)
    · refine A_iload5 d_N_cutByTurns_13 ?_
      refine A_aload_n0 d_N_cutByTurns_15 ?_
      refine A_getf (kf := 0) d_N_cutByTurns_16 hA.o ok_1 (by decide) q_49 rfl ?_
      refine A_topI f0 ?_
      first | refine A_icmp_geN (tgt := 65) d_N_cutByTurns_19 (by decide) (by with_reducible rfl) (by with_reducible rfl) (by omega) (by omega) (fun c_19 => ?_) (fun c_19 => ?_) | refine A_icmp_ge (tgt := 65) d_N_cutByTurns_19 (by decide) (fun c_19 => ?_) (fun c_19 => ?_)
      · refine A_iload_n3 d_N_cutByTurns_65 ?_
        refine A_iret d_N_cutByTurns_66 rfl ⟨Nat.zero_le _, Nat.zero_le _⟩ ?_
        exact pu rfl
      · exact absurd c_19 (by omega)
    · have hwi := whoN_le hcc i
      refine A_iload5 d_N_cutByTurns_13 ?_
      refine A_aload_n0 d_N_cutByTurns_15 ?_
      refine A_getf (kf := 0) d_N_cutByTurns_16 hA.o ok_1 (by decide) q_49 rfl ?_
      refine A_topI f0 ?_
      first | refine A_icmp_geN (tgt := 65) d_N_cutByTurns_19 (by decide) (by with_reducible rfl) (by with_reducible rfl) (by omega) (by omega) (fun c_19 => ?_) (fun c_19 => ?_) | refine A_icmp_ge (tgt := 65) d_N_cutByTurns_19 (by decide) (fun c_19 => ?_) (fun c_19 => ?_)
      · exact absurd c_19 (by omega)
      · refine A_aload_n0 d_N_cutByTurns_22 ?_
        refine A_iload4 d_N_cutByTurns_23 ?_
        refine A_iload_n2 d_N_cutByTurns_25 ?_
        refine A_callSP d_N_cutByTurns_26 (c_N_dearest hA hV0 (whoN cc i) (by omega) (turnS V cc i).1) q_896 q_897 mk_N_dearest rfl (by decide) rfl (Nat.le_of_ble_eq_true rfl) ⟨Nat.le_of_ble_eq_true rfl, Nat.le_of_ble_eq_true rfl⟩ ⟨rfl, rfl⟩ ?_
        refine A_istore6 d_N_cutByTurns_29 trivial ?_
        refine A_iload_n2 d_N_cutByTurns_31 ?_
        refine A_iconst (v := nI 1) d_N_cutByTurns_32 (by decide) ?_
        refine A_iload6 d_N_cutByTurns_33 ?_
        refine A_ishl d_N_cutByTurns_35 ?_
        refine A_iconst (v := (-1)) d_N_cutByTurns_36 (by decide) ?_
        refine A_ixor d_N_cutByTurns_37 ?_
        refine A_iand d_N_cutByTurns_38 ?_
        refine A_istore2 d_N_cutByTurns_39 trivial ?_
        refine A_iload4 d_N_cutByTurns_40 ?_
        refine A_iconst (v := nI 1) d_N_cutByTurns_42 (by decide) ?_
        first | refine A_icmp_neN (tgt := 53) d_N_cutByTurns_43 (by decide) (by with_reducible rfl) (by with_reducible rfl) (by omega) (by omega) (fun c_43 => ?_) (fun c_43 => ?_) | refine A_icmp_ne (tgt := 53) d_N_cutByTurns_43 (by decide) (fun c_43 => ?_) (fun c_43 => ?_)
        · refine A_iconst (v := nI 1) d_N_cutByTurns_53 (by decide) ?_
          refine A_iload4 d_N_cutByTurns_54 ?_
          first | refine A_isubN d_N_cutByTurns_56 (by with_reducible rfl) (by with_reducible rfl) (by omega) ?_ | refine A_isub d_N_cutByTurns_56 ?_
          refine A_istore4 d_N_cutByTurns_57 trivial ?_
          first | refine A_iinc5 d_N_cutByTurns_59 (nI_1 _) trivial ?_ | refine A_iinc5 d_N_cutByTurns_59 rfl trivial ?_
          refine A_goto (tgt := 13) d_N_cutByTurns_62 (by decide) ?_
          have e2 : (turnS V cc (i + 1)).2 = (turnS V cc i).2 ||| (if whoN cc i = 1 then nI 1 <<< (nI ((pkO V (whoN cc i) (turnS V cc i).1 (V 0)).getD 0) &&& 31) else nI 0) := rfl
          first
            | (rw [if_pos c_43] at e2
               refine A_drop6 (A_loc ?_ ih)
               rw [e2]
               rfl)
            | (rw [if_neg c_43, or_nI0] at e2
               refine A_drop6 (A_loc ?_ ih)
               rw [e2]
               rfl)
        · refine A_iload_n3 d_N_cutByTurns_46 ?_
          refine A_iconst (v := nI 1) d_N_cutByTurns_47 (by decide) ?_
          refine A_iload6 d_N_cutByTurns_48 ?_
          refine A_ishl d_N_cutByTurns_50 ?_
          refine A_ior d_N_cutByTurns_51 ?_
          refine A_istore3 d_N_cutByTurns_52 trivial ?_
          refine A_iconst (v := nI 1) d_N_cutByTurns_53 (by decide) ?_
          refine A_iload4 d_N_cutByTurns_54 ?_
          first | refine A_isubN d_N_cutByTurns_56 (by with_reducible rfl) (by with_reducible rfl) (by omega) ?_ | refine A_isub d_N_cutByTurns_56 ?_
          refine A_istore4 d_N_cutByTurns_57 trivial ?_
          first | refine A_iinc5 d_N_cutByTurns_59 (nI_1 _) trivial ?_ | refine A_iinc5 d_N_cutByTurns_59 rfl trivial ?_
          refine A_goto (tgt := 13) d_N_cutByTurns_62 (by decide) ?_
          have e2 : (turnS V cc (i + 1)).2 = (turnS V cc i).2 ||| (if whoN cc i = 1 then nI 1 <<< (nI ((pkO V (whoN cc i) (turnS V cc i).1 (V 0)).getD 0) &&& 31) else nI 0) := rfl
          first
            | (rw [if_pos c_43] at e2
               refine A_drop6 (A_loc ?_ ih)
               rw [e2]
               rfl)
            | (rw [if_neg c_43, or_nI0] at e2
               refine A_drop6 (A_loc ?_ ih)
               rw [e2]
               rfl)
  refine A_aload_n0 d_N_cutByTurns_0 ?_
  refine A_callVP d_N_cutByTurns_1 (c_Ld_allHours hA hV0) hA.o rfl q_888 q_889 q_890 mk_Ld_allHours rfl (by decide) rfl (Nat.le_of_ble_eq_true rfl) ⟨Nat.le_of_ble_eq_true rfl, Nat.le_of_ble_eq_true rfl⟩ ⟨rfl, rfl⟩ ?_
  refine A_istore2 d_N_cutByTurns_4 trivial ?_
  refine A_iconst (v := nI 0) d_N_cutByTurns_5 (by decide) ?_
  refine A_istore3 d_N_cutByTurns_6 trivial ?_
  refine A_iload_n1 d_N_cutByTurns_7 ?_
  refine A_istore4 d_N_cutByTurns_8 trivial ?_
  refine A_iconst (v := nI 0) d_N_cutByTurns_10 (by decide) ?_
  refine A_istore5 d_N_cutByTurns_11 trivial ?_
  exact key 0 (Nat.zero_le _)
def beE : Option Nat → Int32
  | none => nI 1
  | some k => allI k
theorem absJ {a b : Nat} (ha : a < 2 ^ 30) (hb : b < 2 ^ 30) : (if 0 ≤ nI a - nI b then nI a - nI b else -(nI a - nI b)) = nI (offD a b) := szD ha hb
theorem knS_none {V : Nat → Nat} {cc : Nat} : ∀ n, (knS V cc n).1 = none → (knS V cc n).2 = 1000000
  | 0, _ => rfl
  | n + 1, h => by
    have ih := knS_none (V := V) (cc := cc) n
    unfold knS at h ⊢
    split at h
    · cases h
    · rename_i z
      rw [if_neg z]
      exact ih h
theorem all_and {H k : Nat} (hH : H ≤ 24) (hk : k ≤ H) : allI H &&& ((allI H &&& (allI k ^^^ (-1))) ^^^ (-1)) = allI k := b_ext fun i hi => by
  rw [b_and, b_not _ hi, b_and, b_not _ hi, b_all H (by omega) i hi, b_all k (by omega) i hi]
  by_cases a : i < H
  · rw [decide_eq_true a, Bool.true_and, Bool.true_and, Bool.not_not]
  · rw [decide_eq_false a, decide_eq_false (by omega), Bool.false_and]
set_option maxHeartbeats 4000000 in
set_option maxRecDepth 100000 in
theorem c_N_cutByKnife {G : GE} {h : AH} {a : Nat} {D : LD} (hA : LAt h a D) {V : Nat → Nat} (hV : LVr D V) (cc : Nat) (hcc : cc ≤ 1) : Ctr G y_N_cutByKnife b_N_cutByKnife 8 (some .int) r_N_cutByKnife [.ref a, .int (nI cc)] h (Pu (.int (knifeV V cc)) h) := by
  refine Ctr.of (by decide +kernel) (by simp) (Nat.le_of_ble_eq_true rfl) (L0 := [some (.ref a), some (.int (nI cc)), none, none, none, none, none, none]) rfl ?_
  have hV0 := hV
  obtain ⟨ok, ⟨f0, f1, f2, f3, f4, f9⟩, hP, hBe, hTo⟩ := hV
  have hH := ok.1
  obtain ⟨k, hkn, hk1, hk2⟩ := knS_ex ok cc (V 0 - 2)
  rw [show V 0 - 2 + 1 = V 0 - 1 by omega] at hkn
  have key : ∀ i, i ≤ V 0 - 1 → WA G y_N_cutByKnife b_N_cutByKnife 8 (some .int) r_N_cutByKnife 0 0 (Pu (.int (knifeV V cc)) h) 0 0 13 [some (.ref a), some (.int (nI cc)), some (.int (allI (V 0))), some (.int (beE (knS V cc i).1)), some (.int (lsE (knS V cc i))), some (.int (nI (i + 1))), none, none] [] h := by
    refine down ?_ (fun i hi ih => ?_)
    · have hkb : (knS V cc (V 0 - 1)).1 = some (knB V cc) := by rw [hkn]; unfold knB; rw [hkn]; rfl
      have hkl : knB V cc ≤ V 0 := by unfold knB; rw [hkn]; show k ≤ V 0; omega
      rw [hkb, show beE (some (knB V cc)) = allI (knB V cc) from rfl]
      have w0 := worthN_le ok (1 - cc) (allI (V 0) &&& (allI (knB V cc) ^^^ (-1)))
      have w1 := worthN_le ok (1 - cc) (allI (knB V cc))
      rcases (show cc = 0 ∨ cc = 1 by omega) with rfl | rfl
      · refine A_iload5 d_N_cutByKnife_13 ?_
        refine A_aload_n0 d_N_cutByKnife_15 ?_
        refine A_getf (kf := 0) d_N_cutByKnife_16 hA.o ok_1 (by decide) q_49 rfl ?_
        refine A_topI f0 ?_
        first | refine A_icmp_geN (tgt := 80) d_N_cutByKnife_19 (by decide) (by with_reducible rfl) (by with_reducible rfl) (by omega) (by omega) (fun c_19 => ?_) (fun c_19 => ?_) | refine A_icmp_ge (tgt := 80) d_N_cutByKnife_19 (by decide) (fun c_19 => ?_) (fun c_19 => ?_)
        · refine A_iload_n2 d_N_cutByKnife_80 ?_
          refine A_iload_n3 d_N_cutByKnife_81 ?_
          refine A_iconst (v := (-1)) d_N_cutByKnife_82 (by decide) ?_
          refine A_ixor d_N_cutByKnife_83 ?_
          refine A_iand d_N_cutByKnife_84 ?_
          refine A_istore5 d_N_cutByKnife_85 trivial ?_
          refine A_iconst (v := nI 1) d_N_cutByKnife_87 (by decide) ?_
          refine A_iload_n1 d_N_cutByKnife_88 ?_
          first | refine A_isubN d_N_cutByKnife_89 (by with_reducible rfl) (by with_reducible rfl) (by omega) ?_ | refine A_isub d_N_cutByKnife_89 ?_
          refine A_istore6 d_N_cutByKnife_90 trivial ?_
          refine A_aload_n0 d_N_cutByKnife_92 ?_
          refine A_iload6 d_N_cutByKnife_93 ?_
          refine A_iload5 d_N_cutByKnife_95 ?_
          refine A_callVP d_N_cutByKnife_97 (c_Ld_worthOf hA hV0 (1 - 0) (by decide) _) hA.o rfl q_871 q_803 q_804 mk_Ld_worthOf rfl (by decide) rfl (Nat.le_of_ble_eq_true rfl) ⟨Nat.le_of_ble_eq_true rfl, Nat.le_of_ble_eq_true rfl⟩ ⟨rfl, rfl⟩ ?_
          refine A_aload_n0 d_N_cutByKnife_100 ?_
          refine A_iload6 d_N_cutByKnife_101 ?_
          refine A_iload_n3 d_N_cutByKnife_103 ?_
          refine A_callVP d_N_cutByKnife_104 (c_Ld_worthOf hA hV0 (1 - 0) (by decide) _) hA.o rfl q_871 q_803 q_804 mk_Ld_worthOf rfl (by decide) rfl (Nat.le_of_ble_eq_true rfl) ⟨Nat.le_of_ble_eq_true rfl, Nat.le_of_ble_eq_true rfl⟩ ⟨rfl, rfl⟩ ?_
          first | refine A_icmp_leN (tgt := 115) d_N_cutByKnife_107 (by decide) (by with_reducible rfl) (by with_reducible rfl) (by omega) (by omega) (fun c_107 => ?_) (fun c_107 => ?_) | refine A_icmp_le (tgt := 115) d_N_cutByKnife_107 (by decide) (fun c_107 => ?_) (fun c_107 => ?_)
          · refine A_iload_n3 d_N_cutByKnife_115 ?_
            refine A_istore7 d_N_cutByKnife_116 trivial ?_
            refine A_iload6 d_N_cutByKnife_118 ?_
            refine A_iconst (v := nI 1) d_N_cutByKnife_120 (by decide) ?_
            refine A_icmp_ne (tgt := 129) d_N_cutByKnife_121 (by decide) (fun c => absurd rfl c) (fun c_121 => ?_)
            refine A_iload7 d_N_cutByKnife_124 ?_
            refine A_goto (tgt := 135) d_N_cutByKnife_126 (by decide) ?_
            refine A_iret d_N_cutByKnife_135 rfl ⟨Nat.zero_le _, Nat.zero_le _⟩ ?_
            exact pu (by
              unfold knifeV
              first
                | (rw [decide_eq_true (by omega), if_pos (by decide)]; done)
                | (rw [decide_eq_false (by omega), if_neg (by decide)]; done)
                | (rw [decide_eq_true (by omega), if_neg (by decide)]; done)
                | (rw [decide_eq_false (by omega), if_pos (by decide), all_and (by omega) hkl]; done))
          · refine A_iload5 d_N_cutByKnife_110 ?_
            refine A_goto (tgt := 116) d_N_cutByKnife_112 (by decide) ?_
            refine A_istore7 d_N_cutByKnife_116 trivial ?_
            refine A_iload6 d_N_cutByKnife_118 ?_
            refine A_iconst (v := nI 1) d_N_cutByKnife_120 (by decide) ?_
            refine A_icmp_ne (tgt := 129) d_N_cutByKnife_121 (by decide) (fun c => absurd rfl c) (fun c_121 => ?_)
            refine A_iload7 d_N_cutByKnife_124 ?_
            refine A_goto (tgt := 135) d_N_cutByKnife_126 (by decide) ?_
            refine A_iret d_N_cutByKnife_135 rfl ⟨Nat.zero_le _, Nat.zero_le _⟩ ?_
            exact pu (by
              unfold knifeV
              first
                | (rw [decide_eq_true (by omega), if_pos (by decide)]; done)
                | (rw [decide_eq_false (by omega), if_neg (by decide)]; done)
                | (rw [decide_eq_true (by omega), if_neg (by decide)]; done)
                | (rw [decide_eq_false (by omega), if_pos (by decide), all_and (by omega) hkl]; done))
        · exact absurd c_19 (by omega)
      · refine A_iload5 d_N_cutByKnife_13 ?_
        refine A_aload_n0 d_N_cutByKnife_15 ?_
        refine A_getf (kf := 0) d_N_cutByKnife_16 hA.o ok_1 (by decide) q_49 rfl ?_
        refine A_topI f0 ?_
        first | refine A_icmp_geN (tgt := 80) d_N_cutByKnife_19 (by decide) (by with_reducible rfl) (by with_reducible rfl) (by omega) (by omega) (fun c_19 => ?_) (fun c_19 => ?_) | refine A_icmp_ge (tgt := 80) d_N_cutByKnife_19 (by decide) (fun c_19 => ?_) (fun c_19 => ?_)
        · refine A_iload_n2 d_N_cutByKnife_80 ?_
          refine A_iload_n3 d_N_cutByKnife_81 ?_
          refine A_iconst (v := (-1)) d_N_cutByKnife_82 (by decide) ?_
          refine A_ixor d_N_cutByKnife_83 ?_
          refine A_iand d_N_cutByKnife_84 ?_
          refine A_istore5 d_N_cutByKnife_85 trivial ?_
          refine A_iconst (v := nI 1) d_N_cutByKnife_87 (by decide) ?_
          refine A_iload_n1 d_N_cutByKnife_88 ?_
          first | refine A_isubN d_N_cutByKnife_89 (by with_reducible rfl) (by with_reducible rfl) (by omega) ?_ | refine A_isub d_N_cutByKnife_89 ?_
          refine A_istore6 d_N_cutByKnife_90 trivial ?_
          refine A_aload_n0 d_N_cutByKnife_92 ?_
          refine A_iload6 d_N_cutByKnife_93 ?_
          refine A_iload5 d_N_cutByKnife_95 ?_
          refine A_callVP d_N_cutByKnife_97 (c_Ld_worthOf hA hV0 (1 - 1) (by decide) _) hA.o rfl q_871 q_803 q_804 mk_Ld_worthOf rfl (by decide) rfl (Nat.le_of_ble_eq_true rfl) ⟨Nat.le_of_ble_eq_true rfl, Nat.le_of_ble_eq_true rfl⟩ ⟨rfl, rfl⟩ ?_
          refine A_aload_n0 d_N_cutByKnife_100 ?_
          refine A_iload6 d_N_cutByKnife_101 ?_
          refine A_iload_n3 d_N_cutByKnife_103 ?_
          refine A_callVP d_N_cutByKnife_104 (c_Ld_worthOf hA hV0 (1 - 1) (by decide) _) hA.o rfl q_871 q_803 q_804 mk_Ld_worthOf rfl (by decide) rfl (Nat.le_of_ble_eq_true rfl) ⟨Nat.le_of_ble_eq_true rfl, Nat.le_of_ble_eq_true rfl⟩ ⟨rfl, rfl⟩ ?_
          first | refine A_icmp_leN (tgt := 115) d_N_cutByKnife_107 (by decide) (by with_reducible rfl) (by with_reducible rfl) (by omega) (by omega) (fun c_107 => ?_) (fun c_107 => ?_) | refine A_icmp_le (tgt := 115) d_N_cutByKnife_107 (by decide) (fun c_107 => ?_) (fun c_107 => ?_)
          · refine A_iload_n3 d_N_cutByKnife_115 ?_
            refine A_istore7 d_N_cutByKnife_116 trivial ?_
            refine A_iload6 d_N_cutByKnife_118 ?_
            refine A_iconst (v := nI 1) d_N_cutByKnife_120 (by decide) ?_
            refine A_icmp_ne (tgt := 129) d_N_cutByKnife_121 (by decide) (fun c_121 => ?_) (fun c => absurd c (by decide))
            refine A_iload_n2 d_N_cutByKnife_129 ?_
            refine A_iload7 d_N_cutByKnife_130 ?_
            refine A_iconst (v := (-1)) d_N_cutByKnife_132 (by decide) ?_
            refine A_ixor d_N_cutByKnife_133 ?_
            refine A_iand d_N_cutByKnife_134 ?_
            refine A_iret d_N_cutByKnife_135 rfl ⟨Nat.zero_le _, Nat.zero_le _⟩ ?_
            exact pu (by
              unfold knifeV
              first
                | (rw [decide_eq_true (by omega), if_pos (by decide)]; done)
                | (rw [decide_eq_false (by omega), if_neg (by decide)]; done)
                | (rw [decide_eq_true (by omega), if_neg (by decide)]; done)
                | (rw [decide_eq_false (by omega), if_pos (by decide), all_and (by omega) hkl]; done))
          · refine A_iload5 d_N_cutByKnife_110 ?_
            refine A_goto (tgt := 116) d_N_cutByKnife_112 (by decide) ?_
            refine A_istore7 d_N_cutByKnife_116 trivial ?_
            refine A_iload6 d_N_cutByKnife_118 ?_
            refine A_iconst (v := nI 1) d_N_cutByKnife_120 (by decide) ?_
            refine A_icmp_ne (tgt := 129) d_N_cutByKnife_121 (by decide) (fun c_121 => ?_) (fun c => absurd c (by decide))
            refine A_iload_n2 d_N_cutByKnife_129 ?_
            refine A_iload7 d_N_cutByKnife_130 ?_
            refine A_iconst (v := (-1)) d_N_cutByKnife_132 (by decide) ?_
            refine A_ixor d_N_cutByKnife_133 ?_
            refine A_iand d_N_cutByKnife_134 ?_
            refine A_iret d_N_cutByKnife_135 rfl ⟨Nat.zero_le _, Nat.zero_le _⟩ ?_
            exact pu (by
              unfold knifeV
              first
                | (rw [decide_eq_true (by omega), if_pos (by decide)]; done)
                | (rw [decide_eq_false (by omega), if_neg (by decide)]; done)
                | (rw [decide_eq_true (by omega), if_neg (by decide)]; done)
                | (rw [decide_eq_false (by omega), if_pos (by decide), all_and (by omega) hkl]; done))
        · exact absurd c_19 (by omega)
    · have ho := offK_le ok cc (i + 1)
      have hle := knS_le ok cc i
      have hw0 := worthN_le ok cc (allI (i + 1))
      have hw1 := worthN_le ok cc (allI (V 0) &&& (allI (i + 1) ^^^ (-1)))
      have es : knS V cc (i + 1) = if offK V cc (i + 1) < (knS V cc i).2 then (some (i + 1), offK V cc (i + 1)) else knS V cc i := rfl
      rcases hq : (knS V cc i).1 with _ | p
      · rw [lsE_n hq]
        have hnn := knS_none i hq
        refine A_iload5 d_N_cutByKnife_13 ?_
        refine A_aload_n0 d_N_cutByKnife_15 ?_
        refine A_getf (kf := 0) d_N_cutByKnife_16 hA.o ok_1 (by decide) q_49 rfl ?_
        refine A_topI f0 ?_
        first | refine A_icmp_geN (tgt := 80) d_N_cutByKnife_19 (by decide) (by with_reducible rfl) (by with_reducible rfl) (by omega) (by omega) (fun c_19 => ?_) (fun c_19 => ?_) | refine A_icmp_ge (tgt := 80) d_N_cutByKnife_19 (by decide) (fun c_19 => ?_) (fun c_19 => ?_)
        · exact absurd c_19 (by omega)
        · refine A_iconst (v := nI 1) d_N_cutByKnife_22 (by decide) ?_
          refine A_iload5 d_N_cutByKnife_23 ?_
          refine A_ishl d_N_cutByKnife_25 ?_
          refine A_iconst (v := nI 1) d_N_cutByKnife_26 (by decide) ?_
          first | refine A_isubN d_N_cutByKnife_27 (by with_reducible rfl) (by with_reducible rfl) (by omega) ?_ | refine A_isub d_N_cutByKnife_27 ?_
          refine A_topI (show _ = allI (i + 1) from rfl) ?_
          refine A_istore6 d_N_cutByKnife_28 trivial ?_
          refine A_aload_n0 d_N_cutByKnife_30 ?_
          refine A_iload_n1 d_N_cutByKnife_31 ?_
          refine A_iload6 d_N_cutByKnife_32 ?_
          refine A_callVP d_N_cutByKnife_34 (c_Ld_worthOf hA hV0 cc (by omega) _) hA.o rfl q_871 q_803 q_804 mk_Ld_worthOf rfl (by decide) rfl (Nat.le_of_ble_eq_true rfl) ⟨Nat.le_of_ble_eq_true rfl, Nat.le_of_ble_eq_true rfl⟩ ⟨rfl, rfl⟩ ?_
          refine A_aload_n0 d_N_cutByKnife_37 ?_
          refine A_iload_n1 d_N_cutByKnife_38 ?_
          refine A_iload_n2 d_N_cutByKnife_39 ?_
          refine A_iload6 d_N_cutByKnife_40 ?_
          refine A_iconst (v := (-1)) d_N_cutByKnife_42 (by decide) ?_
          refine A_ixor d_N_cutByKnife_43 ?_
          refine A_iand d_N_cutByKnife_44 ?_
          refine A_callVP d_N_cutByKnife_45 (c_Ld_worthOf hA hV0 cc (by omega) _) hA.o rfl q_871 q_803 q_804 mk_Ld_worthOf rfl (by decide) rfl (Nat.le_of_ble_eq_true rfl) ⟨Nat.le_of_ble_eq_true rfl, Nat.le_of_ble_eq_true rfl⟩ ⟨rfl, rfl⟩ ?_
          first | refine A_isubN d_N_cutByKnife_48 (by with_reducible rfl) (by with_reducible rfl) (by omega) ?_ | refine A_isub d_N_cutByKnife_48 ?_
          refine A_callSP d_N_cutByKnife_49 (c_JM_abs _ _) q_902 q_903 mk_JM_abs rfl (by decide) rfl (Nat.le_of_ble_eq_true rfl) ⟨Nat.le_of_ble_eq_true rfl, Nat.le_of_ble_eq_true rfl⟩ ⟨rfl, rfl⟩ ?_
          refine A_topN (k := offK V cc (i + 1)) (absJ (by omega) (by omega)) ?_
          refine A_istore7 d_N_cutByKnife_52 trivial ?_
          refine A_iload4 d_N_cutByKnife_54 ?_
          refine A_iconst (v := (-1)) d_N_cutByKnife_56 (by decide) ?_
          refine A_icmp_eq (tgt := 67) d_N_cutByKnife_57 (by decide) (fun c_57 => ?_) (fun c => absurd rfl c)
          refine A_iload7 d_N_cutByKnife_67 ?_
          refine A_istore4 d_N_cutByKnife_69 trivial ?_
          refine A_iload6 d_N_cutByKnife_71 ?_
          refine A_istore3 d_N_cutByKnife_73 trivial ?_
          first | refine A_iinc5 d_N_cutByKnife_74 (nI_1 _) trivial ?_ | refine A_iinc5 d_N_cutByKnife_74 rfl trivial ?_
          refine A_goto (tgt := 13) d_N_cutByKnife_77 (by decide) ?_
          by_cases z : offK V cc (i + 1) < (knS V cc i).2
          · rw [if_pos z] at es
            rw [es] at ih
            first
              | exact A_drop7 (A_drop6 ih)
              | (exfalso; omega)
          · rw [if_neg z] at es
            rw [es, hq, lsE_n hq] at ih
            first
              | exact A_drop7 (A_drop6 ih)
              | (exfalso; omega)
      · rw [lsE_s hq]
        refine A_iload5 d_N_cutByKnife_13 ?_
        refine A_aload_n0 d_N_cutByKnife_15 ?_
        refine A_getf (kf := 0) d_N_cutByKnife_16 hA.o ok_1 (by decide) q_49 rfl ?_
        refine A_topI f0 ?_
        first | refine A_icmp_geN (tgt := 80) d_N_cutByKnife_19 (by decide) (by with_reducible rfl) (by with_reducible rfl) (by omega) (by omega) (fun c_19 => ?_) (fun c_19 => ?_) | refine A_icmp_ge (tgt := 80) d_N_cutByKnife_19 (by decide) (fun c_19 => ?_) (fun c_19 => ?_)
        · exact absurd c_19 (by omega)
        · refine A_iconst (v := nI 1) d_N_cutByKnife_22 (by decide) ?_
          refine A_iload5 d_N_cutByKnife_23 ?_
          refine A_ishl d_N_cutByKnife_25 ?_
          refine A_iconst (v := nI 1) d_N_cutByKnife_26 (by decide) ?_
          first | refine A_isubN d_N_cutByKnife_27 (by with_reducible rfl) (by with_reducible rfl) (by omega) ?_ | refine A_isub d_N_cutByKnife_27 ?_
          refine A_topI (show _ = allI (i + 1) from rfl) ?_
          refine A_istore6 d_N_cutByKnife_28 trivial ?_
          refine A_aload_n0 d_N_cutByKnife_30 ?_
          refine A_iload_n1 d_N_cutByKnife_31 ?_
          refine A_iload6 d_N_cutByKnife_32 ?_
          refine A_callVP d_N_cutByKnife_34 (c_Ld_worthOf hA hV0 cc (by omega) _) hA.o rfl q_871 q_803 q_804 mk_Ld_worthOf rfl (by decide) rfl (Nat.le_of_ble_eq_true rfl) ⟨Nat.le_of_ble_eq_true rfl, Nat.le_of_ble_eq_true rfl⟩ ⟨rfl, rfl⟩ ?_
          refine A_aload_n0 d_N_cutByKnife_37 ?_
          refine A_iload_n1 d_N_cutByKnife_38 ?_
          refine A_iload_n2 d_N_cutByKnife_39 ?_
          refine A_iload6 d_N_cutByKnife_40 ?_
          refine A_iconst (v := (-1)) d_N_cutByKnife_42 (by decide) ?_
          refine A_ixor d_N_cutByKnife_43 ?_
          refine A_iand d_N_cutByKnife_44 ?_
          refine A_callVP d_N_cutByKnife_45 (c_Ld_worthOf hA hV0 cc (by omega) _) hA.o rfl q_871 q_803 q_804 mk_Ld_worthOf rfl (by decide) rfl (Nat.le_of_ble_eq_true rfl) ⟨Nat.le_of_ble_eq_true rfl, Nat.le_of_ble_eq_true rfl⟩ ⟨rfl, rfl⟩ ?_
          first | refine A_isubN d_N_cutByKnife_48 (by with_reducible rfl) (by with_reducible rfl) (by omega) ?_ | refine A_isub d_N_cutByKnife_48 ?_
          refine A_callSP d_N_cutByKnife_49 (c_JM_abs _ _) q_902 q_903 mk_JM_abs rfl (by decide) rfl (Nat.le_of_ble_eq_true rfl) ⟨Nat.le_of_ble_eq_true rfl, Nat.le_of_ble_eq_true rfl⟩ ⟨rfl, rfl⟩ ?_
          refine A_topN (k := offK V cc (i + 1)) (absJ (by omega) (by omega)) ?_
          refine A_istore7 d_N_cutByKnife_52 trivial ?_
          refine A_iload4 d_N_cutByKnife_54 ?_
          refine A_iconst (v := (-1)) d_N_cutByKnife_56 (by decide) ?_
          refine A_icmp_eq (tgt := 67) d_N_cutByKnife_57 (by decide) (fun c => absurd c (nI_nm1 (by omega))) (fun c_57 => ?_)
          refine A_iload7 d_N_cutByKnife_60 ?_
          refine A_iload4 d_N_cutByKnife_62 ?_
          first | refine A_icmp_geN (tgt := 74) d_N_cutByKnife_64 (by decide) (by with_reducible rfl) (by with_reducible rfl) (by omega) (by omega) (fun c_64 => ?_) (fun c_64 => ?_) | refine A_icmp_ge (tgt := 74) d_N_cutByKnife_64 (by decide) (fun c_64 => ?_) (fun c_64 => ?_)
          · first | refine A_iinc5 d_N_cutByKnife_74 (nI_1 _) trivial ?_ | refine A_iinc5 d_N_cutByKnife_74 rfl trivial ?_
            refine A_goto (tgt := 13) d_N_cutByKnife_77 (by decide) ?_
            by_cases z : offK V cc (i + 1) < (knS V cc i).2
            · rw [if_pos z] at es
              rw [es] at ih
              first
                | exact A_drop7 (A_drop6 ih)
                | (exfalso; omega)
            · rw [if_neg z] at es
              rw [es, hq, lsE_s hq] at ih
              first
                | exact A_drop7 (A_drop6 ih)
                | (exfalso; omega)
          · refine A_iload7 d_N_cutByKnife_67 ?_
            refine A_istore4 d_N_cutByKnife_69 trivial ?_
            refine A_iload6 d_N_cutByKnife_71 ?_
            refine A_istore3 d_N_cutByKnife_73 trivial ?_
            first | refine A_iinc5 d_N_cutByKnife_74 (nI_1 _) trivial ?_ | refine A_iinc5 d_N_cutByKnife_74 rfl trivial ?_
            refine A_goto (tgt := 13) d_N_cutByKnife_77 (by decide) ?_
            by_cases z : offK V cc (i + 1) < (knS V cc i).2
            · rw [if_pos z] at es
              rw [es] at ih
              first
                | exact A_drop7 (A_drop6 ih)
                | (exfalso; omega)
            · rw [if_neg z] at es
              rw [es, hq, lsE_s hq] at ih
              first
                | exact A_drop7 (A_drop6 ih)
                | (exfalso; omega)
  refine A_aload_n0 d_N_cutByKnife_0 ?_
  refine A_callVP d_N_cutByKnife_1 (c_Ld_allHours hA hV0) hA.o rfl q_888 q_889 q_890 mk_Ld_allHours rfl (by decide) rfl (Nat.le_of_ble_eq_true rfl) ⟨Nat.le_of_ble_eq_true rfl, Nat.le_of_ble_eq_true rfl⟩ ⟨rfl, rfl⟩ ?_
  refine A_istore2 d_N_cutByKnife_4 trivial ?_
  refine A_iconst (v := nI 1) d_N_cutByKnife_5 (by decide) ?_
  refine A_istore3 d_N_cutByKnife_6 trivial ?_
  refine A_iconst (v := (-1)) d_N_cutByKnife_7 (by decide) ?_
  refine A_istore4 d_N_cutByKnife_8 trivial ?_
  refine A_iconst (v := nI 1) d_N_cutByKnife_10 (by decide) ?_
  refine A_istore5 d_N_cutByKnife_11 trivial ?_
  exact key 0 (Nat.zero_le _)
