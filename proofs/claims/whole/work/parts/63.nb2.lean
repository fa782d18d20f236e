theorem neg_lt {x : Int32} (hx : x < 0) {k : Nat} (hk : k < 2 ^ 31) : x < nI k := by
  rw [Int32.lt_iff_toInt_lt] at *
  rw [nI_toInt hk]
  have : (0 : Int32).toInt = 0 := rfl
  omega
theorem rg_neg {x : Int32} {lo hi : Nat} {f : Nat → Int32} {d : Int32} (hx : x < 0) (h : lo < 2 ^ 31) : rg x lo hi f d = d := by
  refine rg_out ?_
  unfold inB
  rw [decide_eq_true (neg_lt hx h)]
  rfl
theorem rgN {j lo hi : Nat} {f : Nat → Int32} {d : Int32} (hj : j < 2 ^ 31) (hl : lo < 2 ^ 31) (hh : hi < 2 ^ 31) : rg (nI j) lo hi f d = if lo ≤ j ∧ j ≤ hi then f j else d := by
  by_cases z : lo ≤ j ∧ j ≤ hi
  · rw [rg_in z hh, if_pos z]
  · rw [rg_out, if_neg z]
    rw [inB_N hj hl hh]
    by_cases a : lo ≤ j
    · rw [decide_eq_false (p := j ≤ hi) (by omega), Bool.and_false]
    · rw [decide_eq_false a, Bool.false_and]
set_option maxHeartbeats 4000000 in
set_option maxRecDepth 100000 in
theorem c_N_count {G : GE} {h : AH} {n : Nat} {W : TD} {c : Nat → Nat} {VL WT BK SG GM : Nat → Nat → Nat} (hN : NT h n W c VL WT BK SG GM) (x : Int32) : Ctr G y_N_count b_N_count 2 (some .int) r_N_count [.ref n, .int x] h (Pu (.int (rg x 0 4 (fun k => nI (c k)) (-2))) h) := by
  refine Ctr.of (by decide +kernel) (by simp) (Nat.le_of_ble_eq_true rfl) (L0 := [some (.ref n), some (.int x)]) rfl ?_
  by_cases hx : x < 0
  · refine A_iload_n1 d_N_count_0 ?_
    refine A_if_lt (tgt := 9) d_N_count_1 (by decide) (fun c_1 => ?_) (fun c_1 => ?_)
    · refine A_bipush (v := (-2)) d_N_count_9 (by decide) ?_
      refine A_goto (tgt := 23) d_N_count_11 (by decide) ?_
      refine A_iret d_N_count_23 rfl ⟨Nat.zero_le _, Nat.zero_le _⟩ ?_
      exact pu (by rw [rg_neg hx (by decide)])
    · exact absurd hx c_1
  · obtain ⟨j, hj, rfl⟩ := nI_of hx
    refine A_iload_n1 d_N_count_0 ?_
    refine A_if_lt (tgt := 9) d_N_count_1 (by decide) (fun c_1 => ?_) (fun c_1 => ?_)
    · refine A_bipush (v := (-2)) d_N_count_9 (by decide) ?_
      refine A_goto (tgt := 23) d_N_count_11 (by decide) ?_
      refine A_iret d_N_count_23 rfl ⟨Nat.zero_le _, Nat.zero_le _⟩ ?_
      exact pu (by
        rw [rgN hj (by decide) (by decide)]
        first
          | exact absurd c_1 hx
          | (rw [if_neg (by omega)]; done)
          | (rw [if_pos (by omega)]; done))
    · refine A_iload_n1 d_N_count_4 ?_
      refine A_iconst (v := nI 5) d_N_count_5 (by decide) ?_
      first | refine A_icmp_ltN (tgt := 14) d_N_count_6 (by decide) (by with_reducible rfl) (by with_reducible rfl) (by omega) (by omega) (fun c_6 => ?_) (fun c_6 => ?_) | refine A_icmp_lt (tgt := 14) d_N_count_6 (by decide) (fun c_6 => ?_) (fun c_6 => ?_)
      · refine A_aload_n0 d_N_count_14 ?_
        refine A_getf (kf := 0) d_N_count_15 hN.o ok_7 (by decide) q_368 rfl ?_
        refine A_getf (kf := 4) d_N_count_18 hN.a.o ok_6 (by decide) q_201 rfl ?_
        refine A_iload_n1 d_N_count_21 ?_
        have hcj := (hN.r.n j (by omega)).2
        refine A_ialdN d_N_count_22 hN.a.counts ⟨by omega, by decide⟩ ?_
        refine A_topI (hN.r.n (j) (by omega)).1 ?_
        refine A_iret d_N_count_23 rfl ⟨Nat.zero_le _, Nat.zero_le _⟩ ?_
        exact pu (by
          rw [rgN hj (by decide) (by decide)]
          first
            | exact absurd c_1 hx
            | (rw [if_neg (by omega)]; done)
            | (rw [if_pos (by omega)]; done))
      · refine A_bipush (v := (-2)) d_N_count_9 (by decide) ?_
        refine A_goto (tgt := 23) d_N_count_11 (by decide) ?_
        refine A_iret d_N_count_23 rfl ⟨Nat.zero_le _, Nat.zero_le _⟩ ?_
        exact pu (by
          rw [rgN hj (by decide) (by decide)]
          first
            | exact absurd c_1 hx
            | (rw [if_neg (by omega)]; done)
            | (rw [if_pos (by omega)]; done))
set_option maxHeartbeats 4000000 in
set_option maxRecDepth 100000 in
theorem c_N_night {G : GE} {h : AH} {n : Nat} {W : TD} {c : Nat → Nat} {VL WT BK SG GM : Nat → Nat → Nat} (hN : NT h n W c VL WT BK SG GM) (ta x : Int32) : Ctr G y_N_night b_N_night 3 (some .int) r_N_night [.ref n, .int ta, .int x] h (Pu (.int (pick (c 1) ta (fun k => nightV (WT k) x) (-1))) h) := by
  refine Ctr.of (by decide +kernel) (by simp) (Nat.le_of_ble_eq_true rfl) (L0 := [some (.ref n), some (.int ta), some (.int x)]) rfl ?_
  have hc1 := (hN.r.n 1 (by decide)).2
  rcases told_c (n := c 1) (by omega) ta with ⟨t, ht, rfl⟩ | hno
  · rw [pick_in ht (by omega)]
    unfold nightV
    by_cases hx : x < 0
    · refine A_aload_n0 d_N_night_0 ?_
      refine A_iconst (v := nI 1) d_N_night_1 (by decide) ?_
      refine A_iload_n1 d_N_night_2 ?_
      refine A_callVP d_N_night_3 (c_N_isToldT hN (by decide) ht) hN.o rfl q_644 q_646 qs_2 mk_N_isTold rfl (by decide) rfl (Nat.le_of_ble_eq_true rfl) ⟨Nat.le_of_ble_eq_true rfl, Nat.le_of_ble_eq_true rfl⟩ ⟨rfl, rfl⟩ ?_
      refine A_if_eqB (tgt := 19) d_N_night_6 (by decide) (fun c => absurd c (by decide)) (fun c_6 => ?_)
      refine A_iload_n2 d_N_night_9 ?_
      refine A_if_lt (tgt := 19) d_N_night_10 (by decide) (fun c_10 => ?_) (fun c_10 => ?_)
      · refine A_iconst (v := (-1)) d_N_night_19 (by decide) ?_
        refine A_iret d_N_night_20 rfl ⟨Nat.zero_le _, Nat.zero_le _⟩ ?_
        exact pu (by rw [rg_neg hx (by decide)])
      · exact absurd hx c_10
    · obtain ⟨j, hj, rfl⟩ := nI_of hx
      refine A_aload_n0 d_N_night_0 ?_
      refine A_iconst (v := nI 1) d_N_night_1 (by decide) ?_
      refine A_iload_n1 d_N_night_2 ?_
      refine A_callVP d_N_night_3 (c_N_isToldT hN (by decide) ht) hN.o rfl q_644 q_646 qs_2 mk_N_isTold rfl (by decide) rfl (Nat.le_of_ble_eq_true rfl) ⟨Nat.le_of_ble_eq_true rfl, Nat.le_of_ble_eq_true rfl⟩ ⟨rfl, rfl⟩ ?_
      refine A_if_eqB (tgt := 19) d_N_night_6 (by decide) (fun c => absurd c (by decide)) (fun c_6 => ?_)
      refine A_iload_n2 d_N_night_9 ?_
      refine A_if_lt (tgt := 19) d_N_night_10 (by decide) (fun c_10 => ?_) (fun c_10 => ?_)
      · refine A_iconst (v := (-1)) d_N_night_19 (by decide) ?_
        refine A_iret d_N_night_20 rfl ⟨Nat.zero_le _, Nat.zero_le _⟩ ?_
        exact pu (by
          rw [rgN hj (by decide) (by decide)]
          first
            | exact absurd c_10 hx
            | (exfalso; omega)
            | (rw [if_neg (by omega)]; done)
            | (rw [if_pos (by omega)]; done))
      · refine A_iload_n2 d_N_night_13 ?_
        refine A_bipush (v := nI 24) d_N_night_14 (by decide) ?_
        first | refine A_icmp_ltN (tgt := 21) d_N_night_16 (by decide) (by with_reducible rfl) (by with_reducible rfl) (by omega) (by omega) (fun c_16 => ?_) (fun c_16 => ?_) | refine A_icmp_lt (tgt := 21) d_N_night_16 (by decide) (fun c_16 => ?_) (fun c_16 => ?_)
        · refine A_aload_n0 d_N_night_21 ?_
          refine A_getf (kf := 0) d_N_night_22 hN.o ok_7 (by decide) q_368 rfl ?_
          refine A_getf (kf := 6) d_N_night_25 hN.a.o ok_6 (by decide) q_205 rfl ?_
          refine A_iload_n1 d_N_night_28 ?_
          refine A_aaldN d_N_night_29 hN.a.treaties rfl rfl ⟨by omega, by decide⟩ (show va_rf (if t < 2 then some (n + 1 + 5 + t) else none) = .ref (n + 1 + 5 + t) by rw [if_pos (by omega)]; rfl) ?_
          refine A_iload_n2 d_N_night_30 ?_
          refine A_ialdN d_N_night_31 (hN.a.tr (by omega)) ⟨by omega, by decide⟩ ?_
          refine A_topI (hN.r.t t ht j (by omega)).1 ?_
          refine A_iret d_N_night_32 rfl ⟨Nat.zero_le _, Nat.zero_le _⟩ ?_
          exact pu (by
            rw [rgN hj (by decide) (by decide)]
            first
              | exact absurd c_10 hx
              | (exfalso; omega)
              | (rw [if_neg (by omega)]; done)
              | (rw [if_pos (by omega)]; done))
        · refine A_iconst (v := (-1)) d_N_night_19 (by decide) ?_
          refine A_iret d_N_night_20 rfl ⟨Nat.zero_le _, Nat.zero_le _⟩ ?_
          exact pu (by
            rw [rgN hj (by decide) (by decide)]
            first
              | exact absurd c_10 hx
              | (exfalso; omega)
              | (rw [if_neg (by omega)]; done)
              | (rw [if_pos (by omega)]; done))
  · rw [pick_out hno]
    refine A_aload_n0 d_N_night_0 ?_
    refine A_iconst (v := nI 1) d_N_night_1 (by decide) ?_
    refine A_iload_n1 d_N_night_2 ?_
    refine A_callVP d_N_night_3 (c_N_isToldF hN (by decide) hno) hN.o rfl q_644 q_646 qs_2 mk_N_isTold rfl (by decide) rfl (Nat.le_of_ble_eq_true rfl) ⟨Nat.le_of_ble_eq_true rfl, Nat.le_of_ble_eq_true rfl⟩ ⟨rfl, rfl⟩ ?_
    refine A_if_eqB (tgt := 19) d_N_night_6 (by decide) (fun c_6 => ?_) (fun c => absurd c (by decide))
    refine A_iconst (v := (-1)) d_N_night_19 (by decide) ?_
    refine A_iret d_N_night_20 rfl ⟨Nat.zero_le _, Nat.zero_le _⟩ ?_
    exact pu rfl
