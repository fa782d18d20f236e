def sloI (c : Nat) (xa : Int32) : Int32 := match sloO c xa with
  | none => -1
  | some k => nI k
theorem sloI_n {c : Nat} {xa : Int32} (h : sloO c xa = none) : sloI c xa = -1 := by unfold sloI; rw [h]
theorem sloI_s {c k : Nat} {xa : Int32} (h : sloO c xa = some k) : sloI c xa = nI k := by unfold sloI; rw [h]
set_option maxHeartbeats 4000000 in
set_option maxRecDepth 100000 in
theorem c_N_slotFor {G : GE} {h : AH} {n : Nat} {W : TD} {c : Nat → Nat} {VL WT BK SG GM : Nat → Nat → Nat} (hN : NT h n W c VL WT BK SG GM) (of : Nat) (hof : of ≤ 4) (xa : Int32) : Ctr G y_N_slotFor b_N_slotFor 4 (some .int) r_N_slotFor [.ref n, .int (nI of), .int xa] h (Pu (.int (sloI (c of) xa)) h) := by
  refine Ctr.of (by decide +kernel) (by simp) (Nat.le_of_ble_eq_true rfl) (L0 := [some (.ref n), some (.int (nI of)), some (.int xa), none]) rfl ?_
  have hcf := (hN.r.n of (by omega)).2
  by_cases hx1 : xa = -1
  · subst hx1
    refine A_iload_n1 d_N_slotFor_0 ?_
    refine A_if_lt (tgt := 9) d_N_slotFor_1 (by decide) (fun c => absurd c (nI_pos (by omega))) (fun c_1 => ?_)
    refine A_iload_n1 d_N_slotFor_4 ?_
    refine A_iconst (v := nI 5) d_N_slotFor_5 (by decide) ?_
    first | refine A_icmp_ltN (tgt := 11) d_N_slotFor_6 (by decide) (by with_reducible rfl) (by with_reducible rfl) (by omega) (by omega) (fun c_6 => ?_) (fun c_6 => ?_) | refine A_icmp_lt (tgt := 11) d_N_slotFor_6 (by decide) (fun c_6 => ?_) (fun c_6 => ?_)
    · refine A_aload_n0 d_N_slotFor_11 ?_
      refine A_getf (kf := 0) d_N_slotFor_12 hN.o ok_7 (by decide) q_368 rfl ?_
      refine A_getf (kf := 4) d_N_slotFor_15 hN.a.o ok_6 (by decide) q_201 rfl ?_
      refine A_iload_n1 d_N_slotFor_18 ?_
      refine A_ialdN d_N_slotFor_19 hN.a.counts ⟨by omega, by decide⟩ ?_
      refine A_topI (hN.r.n (of) (by omega)).1 ?_
      refine A_istore3 d_N_slotFor_20 trivial ?_
      refine A_iload_n2 d_N_slotFor_21 ?_
      refine A_iconst (v := (-1)) d_N_slotFor_22 (by decide) ?_
      refine A_icmp_ne (tgt := 37) d_N_slotFor_23 (by decide) (fun c => absurd rfl c) (fun c_23 => ?_)
      refine A_iload_n3 d_N_slotFor_26 ?_
      refine A_iconst (v := nI 2) d_N_slotFor_27 (by decide) ?_
      first | refine A_icmp_geN (tgt := 35) d_N_slotFor_28 (by decide) (by with_reducible rfl) (by with_reducible rfl) (by omega) (by omega) (fun c_28 => ?_) (fun c_28 => ?_) | refine A_icmp_ge (tgt := 35) d_N_slotFor_28 (by decide) (fun c_28 => ?_) (fun c_28 => ?_)
      · refine A_iconst (v := (-1)) d_N_slotFor_35 (by decide) ?_
        refine A_iret d_N_slotFor_36 rfl ⟨Nat.zero_le _, Nat.zero_le _⟩ ?_
        first
          | (refine pu ?_; rw [sloI_n (by unfold sloO; rw [if_pos rfl, if_pos (by omega)])]; done)
          | (refine pu ?_; rw [sloI_s (by unfold sloO; rw [if_pos rfl, if_neg (by omega)])]; done)
      · refine A_iload_n3 d_N_slotFor_31 ?_
        refine A_goto (tgt := 36) d_N_slotFor_32 (by decide) ?_
        refine A_iret d_N_slotFor_36 rfl ⟨Nat.zero_le _, Nat.zero_le _⟩ ?_
        first
          | (refine pu ?_; rw [sloI_n (by unfold sloO; rw [if_pos rfl, if_pos (by omega)])]; done)
          | (refine pu ?_; rw [sloI_s (by unfold sloO; rw [if_pos rfl, if_neg (by omega)])]; done)
    · exact absurd hof (by omega)
  · rcases told_c (n := c of) (by omega) xa with ⟨k, hk, rfl⟩ | hno
    · refine A_iload_n1 d_N_slotFor_0 ?_
      refine A_if_lt (tgt := 9) d_N_slotFor_1 (by decide) (fun c => absurd c (nI_pos (by omega))) (fun c_1 => ?_)
      refine A_iload_n1 d_N_slotFor_4 ?_
      refine A_iconst (v := nI 5) d_N_slotFor_5 (by decide) ?_
      first | refine A_icmp_ltN (tgt := 11) d_N_slotFor_6 (by decide) (by with_reducible rfl) (by with_reducible rfl) (by omega) (by omega) (fun c_6 => ?_) (fun c_6 => ?_) | refine A_icmp_lt (tgt := 11) d_N_slotFor_6 (by decide) (fun c_6 => ?_) (fun c_6 => ?_)
      · refine A_aload_n0 d_N_slotFor_11 ?_
        refine A_getf (kf := 0) d_N_slotFor_12 hN.o ok_7 (by decide) q_368 rfl ?_
        refine A_getf (kf := 4) d_N_slotFor_15 hN.a.o ok_6 (by decide) q_201 rfl ?_
        refine A_iload_n1 d_N_slotFor_18 ?_
        refine A_ialdN d_N_slotFor_19 hN.a.counts ⟨by omega, by decide⟩ ?_
        refine A_topI (hN.r.n (of) (by omega)).1 ?_
        refine A_istore3 d_N_slotFor_20 trivial ?_
        refine A_iload_n2 d_N_slotFor_21 ?_
        refine A_iconst (v := (-1)) d_N_slotFor_22 (by decide) ?_
        refine A_icmp_ne (tgt := 37) d_N_slotFor_23 (by decide) (fun c_23 => ?_) (fun c => absurd c hx1)
        refine A_iload_n2 d_N_slotFor_37 ?_
        refine A_if_lt (tgt := 50) d_N_slotFor_38 (by decide) (fun c => absurd c (nI_pos (by omega))) (fun c_38 => ?_)
        refine A_iload_n2 d_N_slotFor_41 ?_
        refine A_iload_n3 d_N_slotFor_42 ?_
        first | refine A_icmp_geN (tgt := 50) d_N_slotFor_43 (by decide) (by with_reducible rfl) (by with_reducible rfl) (by omega) (by omega) (fun c_43 => ?_) (fun c_43 => ?_) | refine A_icmp_ge (tgt := 50) d_N_slotFor_43 (by decide) (fun c_43 => ?_) (fun c_43 => ?_)
        · exact absurd hk (by omega)
        · refine A_iload_n2 d_N_slotFor_46 ?_
          refine A_goto (tgt := 51) d_N_slotFor_47 (by decide) ?_
          refine A_iret d_N_slotFor_51 rfl ⟨Nat.zero_le _, Nat.zero_le _⟩ ?_
          refine pu ?_
          rw [sloI_s (k := k) (by unfold sloO; rw [if_neg hx1, inB_nI hk (by omega), if_pos rfl, nI_clamp (by omega)])]
      · exact absurd hof (by omega)
    · have e : sloI (c of) xa = -1 := sloI_n (by unfold sloO; rw [if_neg hx1, hno, if_neg (by decide)])
      rw [e]
      by_cases hkn : xa < 0
      · refine A_iload_n1 d_N_slotFor_0 ?_
        refine A_if_lt (tgt := 9) d_N_slotFor_1 (by decide) (fun c => absurd c (nI_pos (by omega))) (fun c_1 => ?_)
        refine A_iload_n1 d_N_slotFor_4 ?_
        refine A_iconst (v := nI 5) d_N_slotFor_5 (by decide) ?_
        first | refine A_icmp_ltN (tgt := 11) d_N_slotFor_6 (by decide) (by with_reducible rfl) (by with_reducible rfl) (by omega) (by omega) (fun c_6 => ?_) (fun c_6 => ?_) | refine A_icmp_lt (tgt := 11) d_N_slotFor_6 (by decide) (fun c_6 => ?_) (fun c_6 => ?_)
        · refine A_aload_n0 d_N_slotFor_11 ?_
          refine A_getf (kf := 0) d_N_slotFor_12 hN.o ok_7 (by decide) q_368 rfl ?_
          refine A_getf (kf := 4) d_N_slotFor_15 hN.a.o ok_6 (by decide) q_201 rfl ?_
          refine A_iload_n1 d_N_slotFor_18 ?_
          refine A_ialdN d_N_slotFor_19 hN.a.counts ⟨by omega, by decide⟩ ?_
          refine A_topI (hN.r.n (of) (by omega)).1 ?_
          refine A_istore3 d_N_slotFor_20 trivial ?_
          refine A_iload_n2 d_N_slotFor_21 ?_
          refine A_iconst (v := (-1)) d_N_slotFor_22 (by decide) ?_
          refine A_icmp_ne (tgt := 37) d_N_slotFor_23 (by decide) (fun c_23 => ?_) (fun c => absurd c hx1)
          refine A_iload_n2 d_N_slotFor_37 ?_
          refine A_if_lt (tgt := 50) d_N_slotFor_38 (by decide) (fun c_38 => ?_) (fun c => absurd hkn c)
          refine A_iconst (v := (-1)) d_N_slotFor_50 (by decide) ?_
          refine A_iret d_N_slotFor_51 rfl ⟨Nat.zero_le _, Nat.zero_le _⟩ ?_
          exact pu rfl
        · exact absurd hof (by omega)
      · obtain ⟨j, hj, rfl, hle⟩ := inB_tdF (by omega) hno hkn
        refine A_iload_n1 d_N_slotFor_0 ?_
        refine A_if_lt (tgt := 9) d_N_slotFor_1 (by decide) (fun c => absurd c (nI_pos (by omega))) (fun c_1 => ?_)
        refine A_iload_n1 d_N_slotFor_4 ?_
        refine A_iconst (v := nI 5) d_N_slotFor_5 (by decide) ?_
        first | refine A_icmp_ltN (tgt := 11) d_N_slotFor_6 (by decide) (by with_reducible rfl) (by with_reducible rfl) (by omega) (by omega) (fun c_6 => ?_) (fun c_6 => ?_) | refine A_icmp_lt (tgt := 11) d_N_slotFor_6 (by decide) (fun c_6 => ?_) (fun c_6 => ?_)
        · refine A_aload_n0 d_N_slotFor_11 ?_
          refine A_getf (kf := 0) d_N_slotFor_12 hN.o ok_7 (by decide) q_368 rfl ?_
          refine A_getf (kf := 4) d_N_slotFor_15 hN.a.o ok_6 (by decide) q_201 rfl ?_
          refine A_iload_n1 d_N_slotFor_18 ?_
          refine A_ialdN d_N_slotFor_19 hN.a.counts ⟨by omega, by decide⟩ ?_
          refine A_topI (hN.r.n (of) (by omega)).1 ?_
          refine A_istore3 d_N_slotFor_20 trivial ?_
          refine A_iload_n2 d_N_slotFor_21 ?_
          refine A_iconst (v := (-1)) d_N_slotFor_22 (by decide) ?_
          refine A_icmp_ne (tgt := 37) d_N_slotFor_23 (by decide) (fun c_23 => ?_) (fun c => absurd c hx1)
          refine A_iload_n2 d_N_slotFor_37 ?_
          refine A_if_lt (tgt := 50) d_N_slotFor_38 (by decide) (fun c => absurd c (nI_pos (by omega))) (fun c_38 => ?_)
          refine A_iload_n2 d_N_slotFor_41 ?_
          refine A_iload_n3 d_N_slotFor_42 ?_
          first | refine A_icmp_geN (tgt := 50) d_N_slotFor_43 (by decide) (by with_reducible rfl) (by with_reducible rfl) (by omega) (by omega) (fun c_43 => ?_) (fun c_43 => ?_) | refine A_icmp_ge (tgt := 50) d_N_slotFor_43 (by decide) (fun c_43 => ?_) (fun c_43 => ?_)
          · refine A_iconst (v := (-1)) d_N_slotFor_50 (by decide) ?_
            refine A_iret d_N_slotFor_51 rfl ⟨Nat.zero_le _, Nat.zero_le _⟩ ?_
            exact pu rfl
          · exact absurd hle (by omega)
        · exact absurd hof (by omega)
set_option maxHeartbeats 4000000 in
set_option maxRecDepth 100000 in
theorem c_N_slotForF {G : GE} {h : AH} {n : Nat} {sa : Int32} (hsa : inB sa (nI 0) (nI 4) = false) (xa : Int32) : Ctr G y_N_slotFor b_N_slotFor 4 (some .int) r_N_slotFor [.ref n, .int sa, .int xa] h (Pu (.int (-1)) h) := by
  refine Ctr.of (by decide +kernel) (by simp) (Nat.le_of_ble_eq_true rfl) (L0 := [some (.ref n), some (.int sa), some (.int xa), none]) rfl ?_
  by_cases hkn : sa < 0
  · refine A_iload_n1 d_N_slotFor_0 ?_
    refine A_if_lt (tgt := 9) d_N_slotFor_1 (by decide) (fun c_1 => ?_) (fun c => absurd hkn c)
    refine A_iconst (v := (-1)) d_N_slotFor_9 (by decide) ?_
    refine A_iret d_N_slotFor_10 rfl ⟨Nat.zero_le _, Nat.zero_le _⟩ ?_
    exact pu rfl
  · obtain ⟨j, hj, rfl⟩ := nI_of hkn
    refine A_iload_n1 d_N_slotFor_0 ?_
    refine A_if_lt (tgt := 9) d_N_slotFor_1 (by decide) (fun c => absurd c hkn) (fun c_1 => ?_)
    refine A_iload_n1 d_N_slotFor_4 ?_
    refine A_iconst (v := nI 5) d_N_slotFor_5 (by decide) ?_
    first | refine A_icmp_ltN (tgt := 11) d_N_slotFor_6 (by decide) (by with_reducible rfl) (by with_reducible rfl) (by omega) (by omega) (fun c_6 => ?_) (fun c_6 => ?_) | refine A_icmp_lt (tgt := 11) d_N_slotFor_6 (by decide) (fun c_6 => ?_) (fun c_6 => ?_)
    · exact absurd hsa (by rw [inB_N hj (by decide) (by decide), decide_eq_true (p := 0 ≤ j) (by omega), decide_eq_true (p := j ≤ 4) (by omega)]; decide)
    · refine A_iconst (v := (-1)) d_N_slotFor_9 (by decide) ?_
      refine A_iret d_N_slotFor_10 rfl ⟨Nat.zero_le _, Nat.zero_le _⟩ ?_
      exact pu rfl
