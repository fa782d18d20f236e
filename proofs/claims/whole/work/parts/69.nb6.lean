set_option maxHeartbeats 4000000 in
set_option maxRecDepth 100000 in
theorem c_N_end {G : GE} {h : AH} {n : Nat} {W : TD} (hO : h n = some (.inr (7, nfs n))) (hA : TdAt h (n + 1) W) {len : Nat} (hlen : W.1 1 = nI len) (hl : len ≤ 600) (x : Int32) : Ctr G y_N_end b_N_end 2 (some .int) r_N_end [.ref n, .int x] h (fun v h1 => (inB x (nI 0) (nI len) = false ∧ v = some (.int (-1)) ∧ h1 = h) ∨ (inB x (nI 0) (nI len) = true ∧ v = some (.int x) ∧ TW h h1 (n + 1) (fup W.1 1 x, W.2))) := by
  refine Ctr.of (by decide +kernel) (by simp) (Nat.le_of_ble_eq_true rfl) (L0 := [some (.ref n), some (.int x)]) rfl ?_
  have M := TW.start hA
  by_cases hx : x < 0
  · refine A_iload_n1 d_N_end_0 ?_
    refine A_if_lt (tgt := 15) d_N_end_1 (by decide) (fun c_1 => ?_) (fun c_1 => ?_)
    · refine A_iconst (v := (-1)) d_N_end_15 (by decide) ?_
      refine A_iret d_N_end_16 rfl ⟨Nat.zero_le _, Nat.zero_le _⟩ ?_
      refine .inl ⟨?_, rfl, rfl⟩
      unfold inB
      rw [decide_eq_true (p := x < nI 0) hx]
      rfl
    · exact absurd hx c_1
  · obtain ⟨j, hj, rfl⟩ := nI_of hx
    refine A_iload_n1 d_N_end_0 ?_
    refine A_if_lt (tgt := 15) d_N_end_1 (by decide) (fun c_1 => ?_) (fun c_1 => ?_)
    · refine A_iconst (v := (-1)) d_N_end_15 (by decide) ?_
      refine A_iret d_N_end_16 rfl ⟨Nat.zero_le _, Nat.zero_le _⟩ ?_
      first
        | exact absurd c_1 hx
        | exact .inl ⟨by rw [inB_N hj (by decide) (by omega), decide_eq_false (p := j ≤ len) (by omega), Bool.and_false], rfl, rfl⟩
    · refine A_iload_n1 d_N_end_4 ?_
      refine A_aload_n0 d_N_end_5 ?_
      refine A_getf (kf := 0) d_N_end_6 hO ok_7 (by decide) q_368 rfl ?_
      refine A_getf (kf := 1) d_N_end_9 M.1.o ok_6 (by decide) q_194 rfl ?_
      refine A_topI hlen ?_
      first | refine A_icmp_leN (tgt := 17) d_N_end_12 (by decide) (by with_reducible rfl) (by with_reducible rfl) (by omega) (by omega) (fun c_12 => ?_) (fun c_12 => ?_) | refine A_icmp_le (tgt := 17) d_N_end_12 (by decide) (fun c_12 => ?_) (fun c_12 => ?_)
      · refine A_aload_n0 d_N_end_17 ?_
        refine A_getf (kf := 0) d_N_end_18 hO ok_7 (by decide) q_368 rfl ?_
        refine A_iload_n1 d_N_end_21 ?_
        refine A_twInt (kf := 1) d_N_end_22 (by decide) q_194 (Or.inl rfl) (by decide +kernel) M rfl (fun h M => ?_)
        refine A_iload_n1 d_N_end_25 ?_
        refine A_iret d_N_end_26 rfl ⟨Nat.zero_le _, Nat.zero_le _⟩ ?_
        exact .inr ⟨by rw [inB_N hj (by decide) (by omega), decide_eq_true (p := 0 ≤ j) (by omega), decide_eq_true (p := j ≤ len) (by omega)]; rfl, rfl, M⟩
      · refine A_iconst (v := (-1)) d_N_end_15 (by decide) ?_
        refine A_iret d_N_end_16 rfl ⟨Nat.zero_le _, Nat.zero_le _⟩ ?_
        first
          | exact absurd c_1 hx
          | exact .inl ⟨by rw [inB_N hj (by decide) (by omega), decide_eq_false (p := j ≤ len) (by omega), Bool.and_false], rfl, rfl⟩
set_option maxHeartbeats 4000000 in
set_option maxRecDepth 100000 in
theorem c_N_fault {G : GE} {h : AH} {n : Nat} {W : TD} (hO : h n = some (.inr (7, nfs n))) (hA : TdAt h (n + 1) W) (x : Int32) : Ctr G y_N_fault b_N_fault 2 (some .int) r_N_fault [.ref n, .int x] h (Pu (.int (if x = nI 0 then W.1 2 else if x = nI 1 then W.1 3 else -1)) h) := by
  refine Ctr.of (by decide +kernel) (by simp) (Nat.le_of_ble_eq_true rfl) (L0 := [some (.ref n), some (.int x)]) rfl ?_
  have M := TW.start hA
  refine A_iload_n1 d_N_fault_0 ?_
  by_cases h0 : x = nI 0
  · subst h0
    rw [if_pos rfl]
    refine A_lookup (i := 27) (tgt := 28) d_N_fault_1 (by decide) (by decide) (by decide) ?_
    refine A_aload_n0 d_N_fault_28 ?_
    refine A_getf (kf := 0) d_N_fault_29 hO ok_7 (by decide) q_368 rfl ?_
    refine A_getf (kf := 2) d_N_fault_32 M.1.o ok_6 (by decide) q_197 rfl ?_
    refine A_iret d_N_fault_35 rfl ⟨Nat.zero_le _, Nat.zero_le _⟩ ?_
    exact pu rfl
  rw [if_neg h0]
  by_cases h1 : x = nI 1
  · subst h1
    rw [if_pos rfl]
    refine A_lookup (i := 35) (tgt := 36) d_N_fault_1 (by decide) (by decide) (by decide) ?_
    refine A_aload_n0 d_N_fault_36 ?_
    refine A_getf (kf := 0) d_N_fault_37 hO ok_7 (by decide) q_368 rfl ?_
    refine A_getf (kf := 3) d_N_fault_40 M.1.o ok_6 (by decide) q_199 rfl ?_
    refine A_iret d_N_fault_43 rfl ⟨Nat.zero_le _, Nat.zero_le _⟩ ?_
    exact pu rfl
  · rw [if_neg h1]
    have e : Op.lookupswitch.offset [((0 : Int), (27 : Int)), (1, 35)] 43 x.toInt = 43 := by
      rw [Op.lookupswitch.offset_cons, if_neg (fun e => h0 (Int32.toInt_inj.mp (by rw [← e]; rfl))), Op.lookupswitch.offset_cons, if_neg (fun e => h1 (Int32.toInt_inj.mp (by rw [← e]; rfl))), Op.lookupswitch.offset_nil]
    refine A_lookup (i := 43) (tgt := 44) d_N_fault_1 (by decide) e (by decide) ?_
    refine A_iconst (v := (-1)) d_N_fault_44 (by decide) ?_
    refine A_iret d_N_fault_45 rfl ⟨Nat.zero_le _, Nat.zero_le _⟩ ?_
    exact pu rfl
