theorem A_topL {G : GE} {y : MethodName} {cc : ByteArray} {nL : Nat} {ret : Option FieldType} {R : Room} {mc ms : Nat} {K : Option Value → AH → Prop} {u n pc : Nat} {L : List (Option Value)} {st : List Value} {h : AH} {v v' : Int64} (e : v = v') (k : WA G y cc nL ret R mc ms K u n pc L (.long v' :: st) h) : WA G y cc nL ret R mc ms K u n pc L (.long v :: st) h := e ▸ k
theorem lN_z {a : Nat} (h1 : 1 ≤ a) (h : a < 2 ^ 31) : ¬ lN a = 0 := fun z => by
  have := (lN_eq (b := 0) h (by decide)).mp z
  omega
set_option maxHeartbeats 4000000 in
set_option maxRecDepth 100000 in
theorem c_N_choose {G : GE} {h : AH} {n k : Nat} (hn : n < 24) (hk : k ≤ n)  : Ctr G y_N_choose b_N_choose 5 (some .long) r_N_choose [.int (nI n), .int (nI k)] h (Pu (.long (lN (chN n k))) h) := by
  refine Ctr.of (by decide +kernel) (by simp) (Nat.le_of_ble_eq_true rfl) (L0 := [some (.int (nI n)), some (.int (nI k)), none, none, none]) rfl ?_
  have key : ∀ i, i ≤ k → WA G y_N_choose b_N_choose 5 (some .long) r_N_choose 0 0 (Pu (.long (lN (chN n k))) h) 0 0 5 [some (.int (nI n)), some (.int (nI k)), some (.long (lN (foldN (fun i r => r * (n - k + (i + 1)) / (i + 1)) 1 i))), none, some (.int (nI (i + 1)))] [] h := by
    refine down ?_ (fun i hi ih => ?_)
    · skip
      refine A_iload4 d_N_choose_5 ?_
      refine A_iload_n1 d_N_choose_7 ?_
      first | refine A_icmp_gtN (tgt := 31) d_N_choose_8 (by decide) (by with_reducible rfl) (by with_reducible rfl) (by omega) (by omega) (fun c_8 => ?_) (fun c_8 => ?_) | refine A_icmp_gt (tgt := 31) d_N_choose_8 (by decide) (fun c_8 => ?_) (fun c_8 => ?_)
      · refine A_lload_n2 d_N_choose_31 ?_
        refine A_lret d_N_choose_32 rfl ⟨Nat.zero_le _, Nat.zero_le _⟩ ?_
        exact pu rfl
      · exact absurd c_8 (by omega)
    · have hb := ch_le n hn k (by omega) hk i (by omega) (by omega)
      have hm := Nat.mul_lt_mul_of_lt_of_le hb (show n - k + (i + 1) ≤ 100 by omega) (by omega)
      refine A_iload4 d_N_choose_5 ?_
      refine A_iload_n1 d_N_choose_7 ?_
      first | refine A_icmp_gtN (tgt := 31) d_N_choose_8 (by decide) (by with_reducible rfl) (by with_reducible rfl) (by omega) (by omega) (fun c_8 => ?_) (fun c_8 => ?_) | refine A_icmp_gt (tgt := 31) d_N_choose_8 (by decide) (fun c_8 => ?_) (fun c_8 => ?_)
      · exact absurd c_8 (by omega)
      · refine A_lload_n2 d_N_choose_11 ?_
        refine A_iload_n0 d_N_choose_12 ?_
        refine A_iload_n1 d_N_choose_13 ?_
        first | refine A_isubN d_N_choose_14 (by with_reducible rfl) (by with_reducible rfl) (by omega) ?_ | refine A_isub d_N_choose_14 ?_
        refine A_iload4 d_N_choose_15 ?_
        first | refine A_iaddN d_N_choose_17 (by with_reducible rfl) (by with_reducible rfl) ?_ | refine A_iadd d_N_choose_17 ?_
        refine A_i2l d_N_choose_18 ?_
        refine A_topL (nI_l (by omega)) ?_
        refine A_lmul d_N_choose_19 ?_
        refine A_topL (lN_mul _ _) ?_
        refine A_iload4 d_N_choose_20 ?_
        refine A_i2l d_N_choose_22 ?_
        refine A_topL (nI_l (by omega)) ?_
        refine A_ldiv d_N_choose_23 (lN_z (by omega) (by omega)) ?_
        refine A_topL (lN_div (by omega) (by omega)) ?_
        refine A_lstore2 d_N_choose_24 trivial ?_
        first | refine A_iinc4 d_N_choose_25 (nI_1 _) trivial ?_ | refine A_iinc4 d_N_choose_25 rfl trivial ?_
        refine A_goto (tgt := 5) d_N_choose_28 (by decide) ?_
        exact ih
  refine A_lconst (v := 1) d_N_choose_0 (by decide) ?_
  refine A_lstore2 d_N_choose_1 trivial ?_
  refine A_iconst (v := nI 1) d_N_choose_2 (by decide) ?_
  refine A_istore4 d_N_choose_3 trivial ?_
  exact key 0 (Nat.zero_le _)
set_option maxHeartbeats 4000000 in
set_option maxRecDepth 100000 in
theorem c_N_rowsWith {G : GE} {h : AH} {H p a b : Nat} (hH : H ≤ 24) (hp : p ≤ 12) (ha : a ≤ 24) (hb : b ≤ 24)  : Ctr G y_N_rowsWith b_N_rowsWith 4 (some .long) r_N_rowsWith [.int (nI H), .int (nI p), .int (nI a), .int (nI b)] h (Pu (.long (lN (rowN H p a b))) h) := by
  refine Ctr.of (by decide +kernel) (by simp) (Nat.le_of_ble_eq_true rfl) (L0 := [some (.int (nI H)), some (.int (nI p)), some (.int (nI a)), some (.int (nI b))]) rfl ?_
  have hbig : a ≥ p → b ≥ p → 0 < p → H * chN (a - 1) (p - 1) * chN (b - 1) (p - 1) < 2 ^ 63 := fun x1 x2 x3 => by
    have e1 := ch_le (a - 1) (by omega) (p - 1) (by omega) (by omega) (p - 1) (by omega) (Nat.le_refl _)
    have e2 := ch_le (b - 1) (by omega) (p - 1) (by omega) (by omega) (p - 1) (by omega) (Nat.le_refl _)
    have e3 : H * chN (a - 1) (p - 1) ≤ 24 * 2 ^ 24 := Nat.mul_le_mul hH (Nat.le_of_lt e1)
    have e4 : H * chN (a - 1) (p - 1) * chN (b - 1) (p - 1) ≤ 24 * 2 ^ 24 * 2 ^ 24 := Nat.mul_le_mul e3 (Nat.le_of_lt e2)
    have e5 : (24 : Nat) * 2 ^ 24 * 2 ^ 24 < 2 ^ 63 := by decide
    omega
  refine A_iload_n1 d_N_rowsWith_0 ?_
  first | refine A_if_gtN (tgt := 22) d_N_rowsWith_1 (by decide) (by with_reducible rfl) (by omega) (fun c_1 => ?_) (fun c_1 => ?_) | refine A_if_gt (tgt := 22) d_N_rowsWith_1 (by decide) (fun c_1 => ?_) (fun c_1 => ?_)
  · refine A_iload_n2 d_N_rowsWith_22 ?_
    refine A_iload_n1 d_N_rowsWith_23 ?_
    first | refine A_icmp_ltN (tgt := 32) d_N_rowsWith_24 (by decide) (by with_reducible rfl) (by with_reducible rfl) (by omega) (by omega) (fun c_24 => ?_) (fun c_24 => ?_) | refine A_icmp_lt (tgt := 32) d_N_rowsWith_24 (by decide) (fun c_24 => ?_) (fun c_24 => ?_)
    · refine A_lconst (v := 0) d_N_rowsWith_32 (by decide) ?_
      refine A_lret d_N_rowsWith_33 rfl ⟨Nat.zero_le _, Nat.zero_le _⟩ ?_
      exact pu (congrArg Value.long (congrArg lN (by
        unfold rowN
        rw [if_neg (by omega), if_pos (by omega)])))
    · refine A_iload_n3 d_N_rowsWith_27 ?_
      refine A_iload_n1 d_N_rowsWith_28 ?_
      first | refine A_icmp_geN (tgt := 34) d_N_rowsWith_29 (by decide) (by with_reducible rfl) (by with_reducible rfl) (by omega) (by omega) (fun c_29 => ?_) (fun c_29 => ?_) | refine A_icmp_ge (tgt := 34) d_N_rowsWith_29 (by decide) (fun c_29 => ?_) (fun c_29 => ?_)
      · refine A_iload_n0 d_N_rowsWith_34 ?_
        refine A_i2l d_N_rowsWith_35 ?_
        refine A_topL (nI_l (by omega)) ?_
        refine A_iload_n2 d_N_rowsWith_36 ?_
        refine A_iconst (v := nI 1) d_N_rowsWith_37 (by decide) ?_
        first | refine A_isubN d_N_rowsWith_38 (by with_reducible rfl) (by with_reducible rfl) (by omega) ?_ | refine A_isub d_N_rowsWith_38 ?_
        refine A_iload_n1 d_N_rowsWith_39 ?_
        refine A_iconst (v := nI 1) d_N_rowsWith_40 (by decide) ?_
        first | refine A_isubN d_N_rowsWith_41 (by with_reducible rfl) (by with_reducible rfl) (by omega) ?_ | refine A_isub d_N_rowsWith_41 ?_
        refine A_callSP d_N_rowsWith_42 (c_N_choose (by omega) (by omega)) q_776 q_777 mk_N_choose rfl (by decide) rfl (Nat.le_of_ble_eq_true rfl) ⟨Nat.le_of_ble_eq_true rfl, Nat.le_of_ble_eq_true rfl⟩ ⟨rfl, rfl⟩ ?_
        refine A_lmul d_N_rowsWith_45 ?_
        refine A_topL (lN_mul _ _) ?_
        refine A_iload_n3 d_N_rowsWith_46 ?_
        refine A_iconst (v := nI 1) d_N_rowsWith_47 (by decide) ?_
        first | refine A_isubN d_N_rowsWith_48 (by with_reducible rfl) (by with_reducible rfl) (by omega) ?_ | refine A_isub d_N_rowsWith_48 ?_
        refine A_iload_n1 d_N_rowsWith_49 ?_
        refine A_iconst (v := nI 1) d_N_rowsWith_50 (by decide) ?_
        first | refine A_isubN d_N_rowsWith_51 (by with_reducible rfl) (by with_reducible rfl) (by omega) ?_ | refine A_isub d_N_rowsWith_51 ?_
        refine A_callSP d_N_rowsWith_52 (c_N_choose (by omega) (by omega)) q_776 q_777 mk_N_choose rfl (by decide) rfl (Nat.le_of_ble_eq_true rfl) ⟨Nat.le_of_ble_eq_true rfl, Nat.le_of_ble_eq_true rfl⟩ ⟨rfl, rfl⟩ ?_
        refine A_lmul d_N_rowsWith_55 ?_
        refine A_topL (lN_mul _ _) ?_
        refine A_iload_n1 d_N_rowsWith_56 ?_
        refine A_i2l d_N_rowsWith_57 ?_
        refine A_topL (nI_l (by omega)) ?_
        refine A_ldiv d_N_rowsWith_58 (lN_z (by omega) (by omega)) ?_
        refine A_topL (lN_div (hbig (by omega) (by omega) (by omega)) (by omega)) ?_
        refine A_lret d_N_rowsWith_59 rfl ⟨Nat.zero_le _, Nat.zero_le _⟩ ?_
        exact pu (congrArg Value.long (congrArg lN (by
          unfold rowN
          rw [if_neg (by omega), if_neg (by omega)])))
      · refine A_lconst (v := 0) d_N_rowsWith_32 (by decide) ?_
        refine A_lret d_N_rowsWith_33 rfl ⟨Nat.zero_le _, Nat.zero_le _⟩ ?_
        exact pu (congrArg Value.long (congrArg lN (by
          unfold rowN
          rw [if_neg (by omega), if_pos (by omega)])))
  · refine A_iload_n2 d_N_rowsWith_4 ?_
    first | refine A_if_eqN (tgt := 12) d_N_rowsWith_5 (by decide) (by with_reducible rfl) (by omega) (fun c_5 => ?_) (fun c_5 => ?_) | refine A_if_eq (tgt := 12) d_N_rowsWith_5 (by decide) (fun c_5 => ?_) (fun c_5 => ?_)
    · refine A_iconst (v := nI 1) d_N_rowsWith_12 (by decide) ?_
      refine A_goto (tgt := 17) d_N_rowsWith_13 (by decide) ?_
      refine A_callSP d_N_rowsWith_17 (c_N_one1 _) q_692 q_591 mk_N_oneIf rfl (by decide) rfl (Nat.le_of_ble_eq_true rfl) ⟨Nat.le_of_ble_eq_true rfl, Nat.le_of_ble_eq_true rfl⟩ ⟨rfl, rfl⟩ ?_
      refine A_i2l d_N_rowsWith_20 ?_
      refine A_topL (nI_l (by decide)) ?_
      refine A_lret d_N_rowsWith_21 rfl ⟨Nat.zero_le _, Nat.zero_le _⟩ ?_
      exact pu (congrArg Value.long (congrArg lN (by
        unfold rowN
        rw [if_pos (by omega)]
        first
          | (rw [if_pos (by omega)]; done)
          | (rw [if_neg (by omega)]; done))))
    · refine A_iload_n3 d_N_rowsWith_8 ?_
      first | refine A_if_neN (tgt := 16) d_N_rowsWith_9 (by decide) (by with_reducible rfl) (by omega) (fun c_9 => ?_) (fun c_9 => ?_) | refine A_if_ne (tgt := 16) d_N_rowsWith_9 (by decide) (fun c_9 => ?_) (fun c_9 => ?_)
      · refine A_iconst (v := nI 0) d_N_rowsWith_16 (by decide) ?_
        refine A_callSP d_N_rowsWith_17 (c_N_one0 _) q_692 q_591 mk_N_oneIf rfl (by decide) rfl (Nat.le_of_ble_eq_true rfl) ⟨Nat.le_of_ble_eq_true rfl, Nat.le_of_ble_eq_true rfl⟩ ⟨rfl, rfl⟩ ?_
        refine A_i2l d_N_rowsWith_20 ?_
        refine A_topL (nI_l (by decide)) ?_
        refine A_lret d_N_rowsWith_21 rfl ⟨Nat.zero_le _, Nat.zero_le _⟩ ?_
        exact pu (congrArg Value.long (congrArg lN (by
          unfold rowN
          rw [if_pos (by omega)]
          first
            | (rw [if_pos (by omega)]; done)
            | (rw [if_neg (by omega)]; done))))
      · refine A_iconst (v := nI 1) d_N_rowsWith_12 (by decide) ?_
        refine A_goto (tgt := 17) d_N_rowsWith_13 (by decide) ?_
        refine A_callSP d_N_rowsWith_17 (c_N_one1 _) q_692 q_591 mk_N_oneIf rfl (by decide) rfl (Nat.le_of_ble_eq_true rfl) ⟨Nat.le_of_ble_eq_true rfl, Nat.le_of_ble_eq_true rfl⟩ ⟨rfl, rfl⟩ ?_
        refine A_i2l d_N_rowsWith_20 ?_
        refine A_topL (nI_l (by decide)) ?_
        refine A_lret d_N_rowsWith_21 rfl ⟨Nat.zero_le _, Nat.zero_le _⟩ ?_
        exact pu (congrArg Value.long (congrArg lN (by
          unfold rowN
          rw [if_pos (by omega)]
          first
            | (rw [if_pos (by omega)]; done)
            | (rw [if_neg (by omega)]; done))))
set_option maxHeartbeats 4000000 in
set_option maxRecDepth 100000 in
theorem c_N_waysWith {G : GE} {h : AH} {a : Nat} {D : LD} (hA : LAt h a D) {V : Nat → Nat} (hV : LVr D V) {p : Nat} (hp : p ≤ 12)  : Ctr G y_N_waysWith b_N_waysWith 7 (some .long) r_N_waysWith [.ref a, .int (nI p)] h (Pu (.long (lN (wyN V p))) h) := by
  refine Ctr.of (by decide +kernel) (by simp) (Nat.le_of_ble_eq_true rfl) (L0 := [some (.ref a), some (.int (nI p)), none, none, none, none, none]) rfl ?_
  have hV0 := hV
  obtain ⟨ok, ⟨f0, f1, -⟩, -⟩ := hV0
  have hH := ok.1.2
  have hC := ok.2.1
  have hq : 2 * p * V 1 ≤ 72 := Nat.le_trans (Nat.mul_le_mul (show 2 * p ≤ 24 by omega) hC) (by decide)
  by_cases hle : 2 * p * V 1 ≤ V 0
  · obtain ⟨D0, hD0⟩ : ∃ D0, V 0 - 2 * p * V 1 = D0 := ⟨_, rfl⟩
    have key : ∀ i, i ≤ D0 + 1 → ∀ x6 : Option Value, WA G y_N_waysWith b_N_waysWith 7 (some .long) r_N_waysWith 0 0 (Pu (.long (lN (wyN V p))) h) 0 0 20 [some (.ref a), some (.int (nI p)), some (.long (lN (sumN (fun a => if fitsB V a (D0 - a) = true then rowN (V 0) p a (D0 - a) else 0) i))), none, some (.int (nI D0)), some (.int (nI i)), x6] [] h := by
      refine down ?_ (fun i hi ih => ?_)
      · intro x6
        refine A_iload5 d_N_waysWith_20 ?_
        refine A_iload4 d_N_waysWith_22 ?_
        first | refine A_icmp_gtN (tgt := 66) d_N_waysWith_24 (by decide) (by with_reducible rfl) (by with_reducible rfl) (by omega) (by omega) (fun c_24 => ?_) (fun c_24 => ?_) | refine A_icmp_gt (tgt := 66) d_N_waysWith_24 (by decide) (fun c_24 => ?_) (fun c_24 => ?_)
        · refine A_lload_n2 d_N_waysWith_66 ?_
          refine A_lret d_N_waysWith_67 rfl ⟨Nat.zero_le _, Nat.zero_le _⟩ ?_
          exact pu (congrArg Value.long (congrArg lN (by unfold wyN; rw [if_pos hle, hD0])))
        · exact absurd c_24 (by omega)
      · intro x6
        refine A_iload5 d_N_waysWith_20 ?_
        refine A_iload4 d_N_waysWith_22 ?_
        first | refine A_icmp_gtN (tgt := 66) d_N_waysWith_24 (by decide) (by with_reducible rfl) (by with_reducible rfl) (by omega) (by omega) (fun c_24 => ?_) (fun c_24 => ?_) | refine A_icmp_gt (tgt := 66) d_N_waysWith_24 (by decide) (fun c_24 => ?_) (fun c_24 => ?_)
        · exact absurd c_24 (by omega)
        · refine A_iload4 d_N_waysWith_27 ?_
          refine A_iload5 d_N_waysWith_29 ?_
          first | refine A_isubN d_N_waysWith_31 (by with_reducible rfl) (by with_reducible rfl) (by omega) ?_ | refine A_isub d_N_waysWith_31 ?_
          refine A_istore6 d_N_waysWith_32 trivial ?_
          refine A_aload_n0 d_N_waysWith_34 ?_
          refine A_iload5 d_N_waysWith_35 ?_
          refine A_iload6 d_N_waysWith_37 ?_
          refine A_callVP d_N_waysWith_39 (c_Ld_sleepless hA hV i (D0 - i) (by omega) (by omega)) hA.o rfl q_706 q_707 q_708 mk_Ld_sleepless rfl (by decide) rfl (Nat.le_of_ble_eq_true rfl) ⟨Nat.le_of_ble_eq_true rfl, Nat.le_of_ble_eq_true rfl⟩ ⟨rfl, rfl⟩ ?_
          first | refine A_if_neN (tgt := 60) d_N_waysWith_42 (by decide) (by with_reducible rfl) (by omega) (fun c_42 => ?_) (fun c_42 => ?_) | refine A_if_ne (tgt := 60) d_N_waysWith_42 (by decide) (fun c_42 => ?_) (fun c_42 => ?_)
          · first | refine A_iinc5 d_N_waysWith_60 (nI_1 _) trivial ?_ | refine A_iinc5 d_N_waysWith_60 rfl trivial ?_
            refine A_goto (tgt := 20) d_N_waysWith_63 (by decide) ?_
            first
              | (have hff := (awake_0 ok (d0 := i) (d1 := D0 - i) (by omega) (by omega)).mp c_42
                 rw [sumN_s, if_pos hff] at ih
                 exact ih _)
              | (have hff : ¬ fitsB V i (D0 - i) = true := fun z => c_42 ((awake_0 ok (d0 := i) (d1 := D0 - i) (by omega) (by omega)).mpr z)
                 rw [sumN_s, if_neg hff] at ih
                 exact ih _)
          · refine A_lload_n2 d_N_waysWith_45 ?_
            refine A_aload_n0 d_N_waysWith_46 ?_
            refine A_getf (kf := 0) d_N_waysWith_47 hA.o ok_1 (by decide) q_49 rfl ?_
            refine A_topI f0 ?_
            refine A_iload_n1 d_N_waysWith_50 ?_
            refine A_iload5 d_N_waysWith_51 ?_
            refine A_iload6 d_N_waysWith_53 ?_
            refine A_callSP d_N_waysWith_55 (c_N_rowsWith hH (by omega) (by omega) (by omega)) q_773 q_774 mk_N_rowsWith rfl (by decide) rfl (Nat.le_of_ble_eq_true rfl) ⟨Nat.le_of_ble_eq_true rfl, Nat.le_of_ble_eq_true rfl⟩ ⟨rfl, rfl⟩ ?_
            refine A_ladd d_N_waysWith_58 ?_
            refine A_topL (lN_add _ _) ?_
            refine A_lstore2 d_N_waysWith_59 trivial ?_
            first | refine A_iinc5 d_N_waysWith_60 (nI_1 _) trivial ?_ | refine A_iinc5 d_N_waysWith_60 rfl trivial ?_
            refine A_goto (tgt := 20) d_N_waysWith_63 (by decide) ?_
            first
              | (have hff := (awake_0 ok (d0 := i) (d1 := D0 - i) (by omega) (by omega)).mp c_42
                 rw [sumN_s, if_pos hff] at ih
                 exact ih _)
              | (have hff : ¬ fitsB V i (D0 - i) = true := fun z => c_42 ((awake_0 ok (d0 := i) (d1 := D0 - i) (by omega) (by omega)).mpr z)
                 rw [sumN_s, if_neg hff] at ih
                 exact ih _)
    refine A_lconst (v := 0) d_N_waysWith_0 (by decide) ?_
    refine A_lstore2 d_N_waysWith_1 trivial ?_
    refine A_aload_n0 d_N_waysWith_2 ?_
    refine A_getf (kf := 0) d_N_waysWith_3 hA.o ok_1 (by decide) q_49 rfl ?_
    refine A_topI f0 ?_
    refine A_iconst (v := nI 2) d_N_waysWith_6 (by decide) ?_
    refine A_iload_n1 d_N_waysWith_7 ?_
    first | refine A_imulN d_N_waysWith_8 (by with_reducible rfl) (by with_reducible rfl) ?_ | refine A_imul d_N_waysWith_8 ?_
    refine A_aload_n0 d_N_waysWith_9 ?_
    refine A_getf (kf := 1) d_N_waysWith_10 hA.o ok_1 (by decide) q_53 rfl ?_
    refine A_topI f1 ?_
    first | refine A_imulN d_N_waysWith_13 (by with_reducible rfl) (by with_reducible rfl) ?_ | refine A_imul d_N_waysWith_13 ?_
    first | refine A_isubN d_N_waysWith_14 (by with_reducible rfl) (by with_reducible rfl) (by omega) ?_ | refine A_isub d_N_waysWith_14 ?_
    rw [hD0]
    refine A_istore4 d_N_waysWith_15 trivial ?_
    refine A_iconst (v := nI 0) d_N_waysWith_17 (by decide) ?_
    refine A_istore5 d_N_waysWith_18 trivial ?_
    exact key 0 (Nat.zero_le _) none
  · skip
    refine A_lconst (v := 0) d_N_waysWith_0 (by decide) ?_
    refine A_lstore2 d_N_waysWith_1 trivial ?_
    refine A_aload_n0 d_N_waysWith_2 ?_
    refine A_getf (kf := 0) d_N_waysWith_3 hA.o ok_1 (by decide) q_49 rfl ?_
    refine A_topI f0 ?_
    refine A_iconst (v := nI 2) d_N_waysWith_6 (by decide) ?_
    refine A_iload_n1 d_N_waysWith_7 ?_
    first | refine A_imulN d_N_waysWith_8 (by with_reducible rfl) (by with_reducible rfl) ?_ | refine A_imul d_N_waysWith_8 ?_
    refine A_aload_n0 d_N_waysWith_9 ?_
    refine A_getf (kf := 1) d_N_waysWith_10 hA.o ok_1 (by decide) q_53 rfl ?_
    refine A_topI f1 ?_
    first | refine A_imulN d_N_waysWith_13 (by with_reducible rfl) (by with_reducible rfl) ?_ | refine A_imul d_N_waysWith_13 ?_
    first | refine A_isubN d_N_waysWith_14 (by with_reducible rfl) (by with_reducible rfl) (by omega) ?_ | refine A_isub d_N_waysWith_14 ?_
    refine A_istore4 d_N_waysWith_15 trivial ?_
    refine A_iconst (v := nI 0) d_N_waysWith_17 (by decide) ?_
    refine A_istore5 d_N_waysWith_18 trivial ?_
    refine A_iload5 d_N_waysWith_20 ?_
    refine A_iload4 d_N_waysWith_22 ?_
    first | refine A_icmp_gtN (tgt := 66) d_N_waysWith_24 (by decide) (by with_reducible rfl) (by with_reducible rfl) (by omega) (by omega) (fun c_24 => ?_) (fun c_24 => ?_) | refine A_icmp_gt (tgt := 66) d_N_waysWith_24 (by decide) (fun c_24 => ?_) (fun c_24 => ?_)
    · refine A_lload_n2 d_N_waysWith_66 ?_
      refine A_lret d_N_waysWith_67 rfl ⟨Nat.zero_le _, Nat.zero_le _⟩ ?_
      exact pu (congrArg Value.long (congrArg lN (by unfold wyN; rw [if_neg hle])))
    · exfalso
      refine c_24 ?_
      rw [Int32.lt_iff_toInt_lt, pk_sub_toInt (by omega) (by omega), nI_toInt (by omega)]
      omega
set_option maxHeartbeats 4000000 in
set_option maxRecDepth 100000 in
theorem c_N_ways {G : GE} {h : AH} {n : Nat} {W : TD} {c : Nat → Nat} {VL WT BK SG GM : Nat → Nat → Nat} (hN : NT h n W c VL WT BK SG GM) (la : Int32) : Ctr G y_N_ways b_N_ways 6 (some .long) r_N_ways [.ref n, .int la] h (Pu (.long (pickL (c 0) la (fun l => lN (waysN (VL l))) (-1))) h) := by
  refine Ctr.of (by decide +kernel) (by simp) (Nat.le_of_ble_eq_true rfl) (L0 := [some (.ref n), some (.int la), none, none, none, none]) rfl ?_
  have hc0 := (hN.r.n 0 (by decide)).2
  rcases told_c (n := c 0) (by omega) la with ⟨l, hl, rfl⟩ | hno
  · rw [pickL_in hl (by omega)]
    have hA := hN.a.l l (by omega)
    have hV := hN.r.l l hl
    have hV0 := hV
    obtain ⟨ok, ⟨f0, f1, f2, f3, f4, f9⟩, hP, hBe, hTo⟩ := hV
    have hH := ok.1
    have h4 := ok.2.2.2.2.1
    have h5 := ok.2.2.2.2.2.1
    have key : ∀ i, i ≤ VL l 0 / 2 + 1 → WA G y_N_ways b_N_ways 6 (some .long) r_N_ways 0 0 (Pu (.long (lN (waysN (VL l)))) h) 0 0 28 [some (.ref n), some (.int (nI l)), some (.ref (n + 1 + 12 + 17 * l)), some (.long (lN (sumN (wyN (VL l)) i))), none, some (.int (nI i))] [] h := by
      refine down ?_ (fun i hi ih => ?_)
      · skip
        refine A_iload5 d_N_ways_28 ?_
        refine A_aload_n2 d_N_ways_30 ?_
        refine A_getf (kf := 0) d_N_ways_31 hA.o ok_1 (by decide) q_49 rfl ?_
        refine A_topI f0 ?_
        refine A_iconst (v := nI 2) d_N_ways_34 (by decide) ?_
        refine A_idivN d_N_ways_35 (by with_reducible rfl) (by with_reducible rfl) (by omega) ?_
        first | refine A_icmp_gtN (tgt := 54) d_N_ways_36 (by decide) (by with_reducible rfl) (by with_reducible rfl) (by omega) (by omega) (fun c_36 => ?_) (fun c_36 => ?_) | refine A_icmp_gt (tgt := 54) d_N_ways_36 (by decide) (fun c_36 => ?_) (fun c_36 => ?_)
        · refine A_lload_n3 d_N_ways_54 ?_
          refine A_lret d_N_ways_55 rfl ⟨Nat.zero_le _, Nat.zero_le _⟩ ?_
          exact pu (congrArg Value.long (congrArg lN (by rw [ways_wy ok.2.1 ok.1.1 ok.1.2])))
        · exfalso
          omega
      · skip
        refine A_iload5 d_N_ways_28 ?_
        refine A_aload_n2 d_N_ways_30 ?_
        refine A_getf (kf := 0) d_N_ways_31 hA.o ok_1 (by decide) q_49 rfl ?_
        refine A_topI f0 ?_
        refine A_iconst (v := nI 2) d_N_ways_34 (by decide) ?_
        refine A_idivN d_N_ways_35 (by with_reducible rfl) (by with_reducible rfl) (by omega) ?_
        first | refine A_icmp_gtN (tgt := 54) d_N_ways_36 (by decide) (by with_reducible rfl) (by with_reducible rfl) (by omega) (by omega) (fun c_36 => ?_) (fun c_36 => ?_) | refine A_icmp_gt (tgt := 54) d_N_ways_36 (by decide) (fun c_36 => ?_) (fun c_36 => ?_)
        · exfalso
          omega
        · refine A_lload_n3 d_N_ways_39 ?_
          refine A_aload_n2 d_N_ways_40 ?_
          refine A_iload5 d_N_ways_41 ?_
          refine A_callSP d_N_ways_43 (c_N_waysWith hA hV0 (p := i) (by omega)) q_770 q_771 mk_N_waysWith rfl (by decide) rfl (Nat.le_of_ble_eq_true rfl) ⟨Nat.le_of_ble_eq_true rfl, Nat.le_of_ble_eq_true rfl⟩ ⟨rfl, rfl⟩ ?_
          refine A_ladd d_N_ways_46 ?_
          refine A_topL (lN_add _ _) ?_
          refine A_lstore3 d_N_ways_47 trivial ?_
          first | refine A_iinc5 d_N_ways_48 (nI_1 _) trivial ?_ | refine A_iinc5 d_N_ways_48 rfl trivial ?_
          refine A_goto (tgt := 28) d_N_ways_51 (by decide) ?_
          exact ih
    refine A_aload_n0 d_N_ways_0 ?_
    refine A_iconst (v := nI 0) d_N_ways_1 (by decide) ?_
    refine A_iload_n1 d_N_ways_2 ?_
    refine A_callVP d_N_ways_3 (c_N_isToldT hN (by decide) hl) hN.o rfl q_644 q_646 qs_2 mk_N_isTold rfl (by decide) rfl (Nat.le_of_ble_eq_true rfl) ⟨Nat.le_of_ble_eq_true rfl, Nat.le_of_ble_eq_true rfl⟩ ⟨rfl, rfl⟩ ?_
    refine A_if_neB (tgt := 13) d_N_ways_6 (by decide) (fun c_6 => ?_) (fun c => absurd c (by decide))
    refine A_aload_n0 d_N_ways_13 ?_
    refine A_getf (kf := 0) d_N_ways_14 hN.o ok_7 (by decide) q_368 rfl ?_
    refine A_getf (kf := 5) d_N_ways_17 hN.a.o ok_6 (by decide) q_203 rfl ?_
    refine A_iload_n1 d_N_ways_20 ?_
    refine A_aaldN d_N_ways_21 hN.a.lands rfl rfl ⟨by omega, by decide⟩ (show va_rf (two (n + 1 + 12) (n + 1 + 29) l) = .ref (n + 1 + 12 + 17 * l) by rw [two_at rfl (by omega)]; rfl) ?_
    refine A_astore2 d_N_ways_22 trivial ?_
    refine A_lconst (v := 0) d_N_ways_23 (by decide) ?_
    refine A_lstore3 d_N_ways_24 trivial ?_
    refine A_iconst (v := nI 0) d_N_ways_25 (by decide) ?_
    refine A_istore5 d_N_ways_26 trivial ?_
    exact key 0 (Nat.zero_le _)
  · rw [pickL_out hno]
    refine A_aload_n0 d_N_ways_0 ?_
    refine A_iconst (v := nI 0) d_N_ways_1 (by decide) ?_
    refine A_iload_n1 d_N_ways_2 ?_
    refine A_callVP d_N_ways_3 (c_N_isToldF hN (by decide) hno) hN.o rfl q_644 q_646 qs_2 mk_N_isTold rfl (by decide) rfl (Nat.le_of_ble_eq_true rfl) ⟨Nat.le_of_ble_eq_true rfl, Nat.le_of_ble_eq_true rfl⟩ ⟨rfl, rfl⟩ ?_
    refine A_if_neB (tgt := 13) d_N_ways_6 (by decide) (fun c => absurd c (by decide)) (fun c_6 => ?_)
    refine A_ldc2 d_N_ways_9 q_769 ?_
    refine A_lret d_N_ways_12 rfl ⟨Nat.zero_le _, Nat.zero_le _⟩ ?_
    exact pu rfl
