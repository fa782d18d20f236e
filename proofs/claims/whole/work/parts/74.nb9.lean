set_option maxHeartbeats 4000000 in
set_option maxRecDepth 100000 in
theorem c_N_sleptOn {G : GE} {h : AH} {a b : Nat} {D E : LD} (hA : LAt h a D) {V : Nat → Nat} (hV : LVr D V) (hB : BAt h b E) {bk : Nat → Nat} (hK : BVr E bk) (d : Nat) (hd : V 0 * (d + 1) ≤ totB bk) : Ctr G y_N_sleptOn b_N_sleptOn 6 (some .int) r_N_sleptOn [.ref a, .ref b, .int (nI d)] h (Pu (.int (sleptI V (wentB bk) d)) h) := by
  have hV0 := hV
  obtain ⟨ok, ⟨f0, f1, f2, f3, f4, f9⟩, hP, hBe, hTo⟩ := hV
  have hH := ok.1
  have h4 := ok.2.2.2.2.1
  have htot := hK.1.tot
  have hm : V 0 * (d + 1) = V 0 * d + V 0 := rfl
  have hdd : d ≤ V 0 * d := Nat.le_mul_of_pos_left d (by omega)
  have e0 : cntN (wentB bk) 0 (V 0 * d) (V 0 * (d + 1)) ≤ V 0 := Nat.le_trans (cntN_le _ _ _ _) (by omega)
  have e1 : cntN (wentB bk) 1 (V 0 * d) (V 0 * (d + 1)) ≤ V 0 := Nat.le_trans (cntN_le _ _ _ _) (by omega)
  have hc : ∀ p, p < V 4 → V (42 + 27 * p + 0) < 2 := fun p hp => by
    have := (ok.2.2.2.2.2.2.1 p (by omega)).1
    omega
  refine Ctr.of (by decide +kernel) (by simp) (Nat.le_of_ble_eq_true rfl) (L0 := [some (.ref a), some (.ref b), some (.int (nI d)), none, none, none]) rfl ?_
  refine A_iload_n2 d_N_sleptOn_0 ?_
  refine A_aload_n0 d_N_sleptOn_1 ?_
  refine A_getf (kf := 0) d_N_sleptOn_2 hA.o ok_1 (by decide) q_49 rfl ?_
  refine A_topI f0 ?_
  first | refine A_imulN d_N_sleptOn_5 (by with_reducible rfl) (by with_reducible rfl) ?_ | refine A_imul d_N_sleptOn_5 ?_
  refine A_topI (congrArg nI (Nat.mul_comm d (V 0))) ?_
  refine A_istore3 d_N_sleptOn_6 trivial ?_
  refine A_aload_n1 d_N_sleptOn_7 ?_
  refine A_iconst (v := nI 0) d_N_sleptOn_8 (by decide) ?_
  refine A_iload_n3 d_N_sleptOn_9 ?_
  refine A_iload_n3 d_N_sleptOn_10 ?_
  refine A_aload_n0 d_N_sleptOn_11 ?_
  refine A_getf (kf := 0) d_N_sleptOn_12 hA.o ok_1 (by decide) q_49 rfl ?_
  refine A_topI f0 ?_
  first | refine A_iaddN d_N_sleptOn_15 (by with_reducible rfl) (by with_reducible rfl) ?_ | refine A_iadd d_N_sleptOn_15 ?_
  refine A_topI (show nI (V 0 * d + V 0) = nI (V 0 * (d + 1)) from rfl) ?_
  refine A_callVP d_N_sleptOn_16 (c_Bk_hoursAt hB hK 0 (V 0 * d) (V 0 * (d + 1)) (by decide) (Nat.mul_le_mul_left _ (Nat.le_succ d)) hd) hB.o rfl q_734 q_735 q_736 mk_Bk_hoursAt rfl (by decide) rfl (Nat.le_of_ble_eq_true rfl) ⟨Nat.le_of_ble_eq_true rfl, Nat.le_of_ble_eq_true rfl⟩ ⟨rfl, rfl⟩ ?_
  refine A_istore4 d_N_sleptOn_19 trivial ?_
  refine A_aload_n1 d_N_sleptOn_21 ?_
  refine A_iconst (v := nI 1) d_N_sleptOn_22 (by decide) ?_
  refine A_iload_n3 d_N_sleptOn_23 ?_
  refine A_iload_n3 d_N_sleptOn_24 ?_
  refine A_aload_n0 d_N_sleptOn_25 ?_
  refine A_getf (kf := 0) d_N_sleptOn_26 hA.o ok_1 (by decide) q_49 rfl ?_
  refine A_topI f0 ?_
  first | refine A_iaddN d_N_sleptOn_29 (by with_reducible rfl) (by with_reducible rfl) ?_ | refine A_iadd d_N_sleptOn_29 ?_
  refine A_topI (show nI (V 0 * d + V 0) = nI (V 0 * (d + 1)) from rfl) ?_
  refine A_callVP d_N_sleptOn_30 (c_Bk_hoursAt hB hK 1 (V 0 * d) (V 0 * (d + 1)) (by decide) (Nat.mul_le_mul_left _ (Nat.le_succ d)) hd) hB.o rfl q_734 q_735 q_736 mk_Bk_hoursAt rfl (by decide) rfl (Nat.le_of_ble_eq_true rfl) ⟨Nat.le_of_ble_eq_true rfl, Nat.le_of_ble_eq_true rfl⟩ ⟨rfl, rfl⟩ ?_
  refine A_istore5 d_N_sleptOn_33 trivial ?_
  refine A_aload_n0 d_N_sleptOn_35 ?_
  refine A_callVP d_N_sleptOn_36 (c_Ld_everybody hA hV0) hA.o rfl q_745 q_746 q_747 mk_Ld_everybody rfl (by decide) rfl (Nat.le_of_ble_eq_true rfl) ⟨Nat.le_of_ble_eq_true rfl, Nat.le_of_ble_eq_true rfl⟩ ⟨rfl, rfl⟩ ?_
  refine A_aload_n0 d_N_sleptOn_39 ?_
  refine A_iload4 d_N_sleptOn_40 ?_
  refine A_iload5 d_N_sleptOn_42 ?_
  refine A_callVP d_N_sleptOn_44 (c_Ld_sleepless hA hV0 _ _ e0 e1) hA.o rfl q_706 q_707 q_708 mk_Ld_sleepless rfl (by decide) rfl (Nat.le_of_ble_eq_true rfl) ⟨Nat.le_of_ble_eq_true rfl, Nat.le_of_ble_eq_true rfl⟩ ⟨rfl, rfl⟩ ?_
  refine A_iconst (v := (-1)) d_N_sleptOn_47 (by decide) ?_
  refine A_ixor d_N_sleptOn_48 ?_
  refine A_iand d_N_sleptOn_49 ?_
  refine A_iret d_N_sleptOn_50 rfl ⟨Nat.zero_le _, Nat.zero_le _⟩ ?_
  exact pu (congrArg Value.int (slept_eq h4 hc d))
