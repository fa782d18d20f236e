/-! THE PLANNER at r .. r + 5: the two long tables lie at x and y (r + 1 and r + 2, in either order); ints by number, the unit -/
def plfs (r x y : Nat) (F : Nat → Int32) (u : Int64) : List Value := [.ref x, .ref y, .ref (r + 3), .ref (r + 4), .ref (r + 5), .int (F 5), .int (F 6), .int (F 7), .int (F 8), .int (F 9), .long u]
abbrev PC : Type := (Nat → Int32) × Int64 × (Nat → Int64) × (Nat → Int64) × (Nat → Int64) × (Nat → Int32) × (Nat → Int32)
/-- ints, unit, best, then, rank, points, fee -/
def PlAt (h : AH) (r x y : Nat) (Z : PC) : Prop := 1000 ≤ r ∧ (x = r + 1 ∧ y = r + 2 ∨ x = r + 2 ∧ y = r + 1) ∧ h r = some (.inr (2, plfs r x y Z.1 Z.2.1)) ∧ h x = some (.inl (1, 1400, .inr (.inl Z.2.2.1))) ∧ h y = some (.inl (1, 1400, .inr (.inl Z.2.2.2.1))) ∧ h (r + 3) = some (.inl (1, 24, .inr (.inl Z.2.2.2.2.1))) ∧ h (r + 4) = some (.inl (0, 48, .inl Z.2.2.2.2.2.1)) ∧ h (r + 5) = some (.inl (0, 24, .inl Z.2.2.2.2.2.2))
section PLA
variable {h : AH} {r x y : Nat} {Z : PC}
theorem PlAt.ge (A : PlAt h r x y Z) : 1000 ≤ r := A.1
theorem PlAt.xy (A : PlAt h r x y Z) : x = r + 1 ∧ y = r + 2 ∨ x = r + 2 ∧ y = r + 1 := A.2.1
theorem PlAt.o (A : PlAt h r x y Z) : h r = some (.inr (2, plfs r x y Z.1 Z.2.1)) := A.2.2.1
theorem PlAt.be (A : PlAt h r x y Z) : h x = some (.inl (1, 1400, .inr (.inl Z.2.2.1))) := A.2.2.2.1
theorem PlAt.th (A : PlAt h r x y Z) : h y = some (.inl (1, 1400, .inr (.inl Z.2.2.2.1))) := A.2.2.2.2.1
theorem PlAt.rk (A : PlAt h r x y Z) : h (r + 3) = some (.inl (1, 24, .inr (.inl Z.2.2.2.2.1))) := A.2.2.2.2.2.1
theorem PlAt.po (A : PlAt h r x y Z) : h (r + 4) = some (.inl (0, 48, .inl Z.2.2.2.2.2.1)) := A.2.2.2.2.2.2.1
theorem PlAt.fe (A : PlAt h r x y Z) : h (r + 5) = some (.inl (0, 24, .inl Z.2.2.2.2.2.2)) := A.2.2.2.2.2.2.2
end PLA
theorem on_k : ∀ C, C < 4 → ∀ s, s < 8 → s < 2 + 2 * C → nextN C s 0 = if s ≤ 1 then s else if s = 1 + C then 1 else if s = 1 + 2 * C then 0 else s + 1 := by decide +kernel
theorem le_k : ∀ C, C < 4 → ∀ s, s < 2 → nextN C s 1 = if C = 0 then 1 - s else 2 + s * C := by decide +kernel
set_option maxHeartbeats 4000000 in
set_option maxRecDepth 100000 in
theorem c_Pl_cell {G : GE} {h : AH} {r x y : Nat} {Z : PC} (hP : PlAt h r x y Z) {H Ca : Nat} (h5 : Z.1 5 = nI H) (h8 : Z.1 8 = nI Ca) (st d k : Nat)  : Ctr G y_Pl_cell b_Pl_cell 4 (some .int) r_Pl_cell [.ref r, .int (nI st), .int (nI d), .int (nI k)] h (Pu (.int (nI ((st * (H + 1) + d) * Ca + k))) h) := by
  refine Ctr.of (by decide +kernel) (by simp) (Nat.le_of_ble_eq_true rfl) (L0 := [some (.ref r), some (.int (nI st)), some (.int (nI d)), some (.int (nI k))]) rfl ?_
  refine A_iload_n1 d_Pl_cell_0 ?_
  refine A_aload_n0 d_Pl_cell_1 ?_
  refine A_getf (kf := 5) d_Pl_cell_2 hP.o ok_2 (by decide) q_338 rfl ?_
  refine A_topI h5 ?_
  refine A_iconst (v := nI 1) d_Pl_cell_5 (by decide) ?_
  first | refine A_iaddN d_Pl_cell_6 (by with_reducible rfl) (by with_reducible rfl) ?_ | refine A_iadd d_Pl_cell_6 ?_
  first | refine A_imulN d_Pl_cell_7 (by with_reducible rfl) (by with_reducible rfl) ?_ | refine A_imul d_Pl_cell_7 ?_
  refine A_iload_n2 d_Pl_cell_8 ?_
  first | refine A_iaddN d_Pl_cell_9 (by with_reducible rfl) (by with_reducible rfl) ?_ | refine A_iadd d_Pl_cell_9 ?_
  refine A_aload_n0 d_Pl_cell_10 ?_
  refine A_getf (kf := 8) d_Pl_cell_11 hP.o ok_2 (by decide) q_341 rfl ?_
  refine A_topI h8 ?_
  first | refine A_imulN d_Pl_cell_14 (by with_reducible rfl) (by with_reducible rfl) ?_ | refine A_imul d_Pl_cell_14 ?_
  refine A_iload_n3 d_Pl_cell_15 ?_
  first | refine A_iaddN d_Pl_cell_16 (by with_reducible rfl) (by with_reducible rfl) ?_ | refine A_iadd d_Pl_cell_16 ?_
  refine A_iret d_Pl_cell_17 rfl ⟨Nat.zero_le _, Nat.zero_le _⟩ ?_
  exact pu rfl
set_option maxHeartbeats 4000000 in
set_option maxRecDepth 100000 in
theorem c_Pl_onward {G : GE} {h : AH} {r x y : Nat} {Z : PC} (hP : PlAt h r x y Z) {C : Nat} (hC : C ≤ 3) (h6 : Z.1 6 = nI C) (st : Nat) (hst : st < 2 + 2 * C)  : Ctr G y_Pl_onward b_Pl_onward 2 (some .int) r_Pl_onward [.ref r, .int (nI st)] h (Pu (.int (nI (nextN C st 0))) h) := by
  refine Ctr.of (by decide +kernel) (by simp) (Nat.le_of_ble_eq_true rfl) (L0 := [some (.ref r), some (.int (nI st))]) rfl ?_
  refine A_iload_n1 d_Pl_onward_0 ?_
  refine A_iconst (v := nI 1) d_Pl_onward_1 (by decide) ?_
  first | refine A_icmp_gtN (tgt := 7) d_Pl_onward_2 (by decide) (by with_reducible rfl) (by with_reducible rfl) (by omega) (by omega) (fun c_2 => ?_) (fun c_2 => ?_) | refine A_icmp_gt (tgt := 7) d_Pl_onward_2 (by decide) (fun c_2 => ?_) (fun c_2 => ?_)
  · refine A_iload_n1 d_Pl_onward_7 ?_
    refine A_iconst (v := nI 1) d_Pl_onward_8 (by decide) ?_
    refine A_aload_n0 d_Pl_onward_9 ?_
    refine A_getf (kf := 6) d_Pl_onward_10 hP.o ok_2 (by decide) q_339 rfl ?_
    refine A_topI h6 ?_
    first | refine A_iaddN d_Pl_onward_13 (by with_reducible rfl) (by with_reducible rfl) ?_ | refine A_iadd d_Pl_onward_13 ?_
    first | refine A_icmp_neN (tgt := 19) d_Pl_onward_14 (by decide) (by with_reducible rfl) (by with_reducible rfl) (by omega) (by omega) (fun c_14 => ?_) (fun c_14 => ?_) | refine A_icmp_ne (tgt := 19) d_Pl_onward_14 (by decide) (fun c_14 => ?_) (fun c_14 => ?_)
    · refine A_iload_n1 d_Pl_onward_19 ?_
      refine A_iconst (v := nI 1) d_Pl_onward_20 (by decide) ?_
      refine A_iconst (v := nI 2) d_Pl_onward_21 (by decide) ?_
      refine A_aload_n0 d_Pl_onward_22 ?_
      refine A_getf (kf := 6) d_Pl_onward_23 hP.o ok_2 (by decide) q_339 rfl ?_
      refine A_topI h6 ?_
      first | refine A_imulN d_Pl_onward_26 (by with_reducible rfl) (by with_reducible rfl) ?_ | refine A_imul d_Pl_onward_26 ?_
      first | refine A_iaddN d_Pl_onward_27 (by with_reducible rfl) (by with_reducible rfl) ?_ | refine A_iadd d_Pl_onward_27 ?_
      first | refine A_icmp_neN (tgt := 35) d_Pl_onward_28 (by decide) (by with_reducible rfl) (by with_reducible rfl) (by omega) (by omega) (fun c_28 => ?_) (fun c_28 => ?_) | refine A_icmp_ne (tgt := 35) d_Pl_onward_28 (by decide) (fun c_28 => ?_) (fun c_28 => ?_)
      · refine A_iload_n1 d_Pl_onward_35 ?_
        refine A_iconst (v := nI 1) d_Pl_onward_36 (by decide) ?_
        first | refine A_iaddN d_Pl_onward_37 (by with_reducible rfl) (by with_reducible rfl) ?_ | refine A_iadd d_Pl_onward_37 ?_
        refine A_iret d_Pl_onward_38 rfl ⟨Nat.zero_le _, Nat.zero_le _⟩ ?_
        exact pu (congrArg Value.int (congrArg nI (by
          rw [on_k C (by omega) st (by omega) hst]
          first
            | (rw [if_pos (by omega)]; done)
            | (rw [if_neg (by omega), if_pos (by omega)]; done)
            | (rw [if_neg (by omega), if_neg (by omega), if_pos (by omega)]; done)
            | (rw [if_neg (by omega), if_neg (by omega), if_neg (by omega)]; done))))
      · refine A_iconst (v := nI 0) d_Pl_onward_31 (by decide) ?_
        refine A_goto (tgt := 38) d_Pl_onward_32 (by decide) ?_
        refine A_iret d_Pl_onward_38 rfl ⟨Nat.zero_le _, Nat.zero_le _⟩ ?_
        exact pu (congrArg Value.int (congrArg nI (by
          rw [on_k C (by omega) st (by omega) hst]
          first
            | (rw [if_pos (by omega)]; done)
            | (rw [if_neg (by omega), if_pos (by omega)]; done)
            | (rw [if_neg (by omega), if_neg (by omega), if_pos (by omega)]; done)
            | (rw [if_neg (by omega), if_neg (by omega), if_neg (by omega)]; done))))
    · refine A_iconst (v := nI 1) d_Pl_onward_17 (by decide) ?_
      refine A_iret d_Pl_onward_18 rfl ⟨Nat.zero_le _, Nat.zero_le _⟩ ?_
      exact pu (congrArg Value.int (congrArg nI (by
        rw [on_k C (by omega) st (by omega) hst]
        first
          | (rw [if_pos (by omega)]; done)
          | (rw [if_neg (by omega), if_pos (by omega)]; done)
          | (rw [if_neg (by omega), if_neg (by omega), if_pos (by omega)]; done)
          | (rw [if_neg (by omega), if_neg (by omega), if_neg (by omega)]; done))))
  · refine A_iload_n1 d_Pl_onward_5 ?_
    refine A_iret d_Pl_onward_6 rfl ⟨Nat.zero_le _, Nat.zero_le _⟩ ?_
    exact pu (congrArg Value.int (congrArg nI (by
      rw [on_k C (by omega) st (by omega) hst]
      first
        | (rw [if_pos (by omega)]; done)
        | (rw [if_neg (by omega), if_pos (by omega)]; done)
        | (rw [if_neg (by omega), if_neg (by omega), if_pos (by omega)]; done)
        | (rw [if_neg (by omega), if_neg (by omega), if_neg (by omega)]; done))))
set_option maxHeartbeats 4000000 in
set_option maxRecDepth 100000 in
theorem c_Pl_leaving {G : GE} {h : AH} {r x y : Nat} {Z : PC} (hP : PlAt h r x y Z) {C : Nat} (hC : C ≤ 3) (h6 : Z.1 6 = nI C) (st : Nat) (hst : st < 2 + 2 * C)  : Ctr G y_Pl_leaving b_Pl_leaving 2 (some .int) r_Pl_leaving [.ref r, .int (nI st)] h (Pu (.int (if 2 ≤ st then -1 else nI (nextN C st 1))) h) := by
  refine Ctr.of (by decide +kernel) (by simp) (Nat.le_of_ble_eq_true rfl) (L0 := [some (.ref r), some (.int (nI st))]) rfl ?_
  refine A_iload_n1 d_Pl_leaving_0 ?_
  refine A_iconst (v := nI 1) d_Pl_leaving_1 (by decide) ?_
  first | refine A_icmp_leN (tgt := 7) d_Pl_leaving_2 (by decide) (by with_reducible rfl) (by with_reducible rfl) (by omega) (by omega) (fun c_2 => ?_) (fun c_2 => ?_) | refine A_icmp_le (tgt := 7) d_Pl_leaving_2 (by decide) (fun c_2 => ?_) (fun c_2 => ?_)
  · refine A_aload_n0 d_Pl_leaving_7 ?_
    refine A_getf (kf := 6) d_Pl_leaving_8 hP.o ok_2 (by decide) q_339 rfl ?_
    refine A_topI h6 ?_
    first | refine A_if_neN (tgt := 20) d_Pl_leaving_11 (by decide) (by with_reducible rfl) (by omega) (fun c_11 => ?_) (fun c_11 => ?_) | refine A_if_ne (tgt := 20) d_Pl_leaving_11 (by decide) (fun c_11 => ?_) (fun c_11 => ?_)
    · refine A_iconst (v := nI 2) d_Pl_leaving_20 (by decide) ?_
      refine A_iload_n1 d_Pl_leaving_21 ?_
      refine A_aload_n0 d_Pl_leaving_22 ?_
      refine A_getf (kf := 6) d_Pl_leaving_23 hP.o ok_2 (by decide) q_339 rfl ?_
      refine A_topI h6 ?_
      first | refine A_imulN d_Pl_leaving_26 (by with_reducible rfl) (by with_reducible rfl) ?_ | refine A_imul d_Pl_leaving_26 ?_
      first | refine A_iaddN d_Pl_leaving_27 (by with_reducible rfl) (by with_reducible rfl) ?_ | refine A_iadd d_Pl_leaving_27 ?_
      refine A_iret d_Pl_leaving_28 rfl ⟨Nat.zero_le _, Nat.zero_le _⟩ ?_
      exact pu (congrArg Value.int (by
        rw [if_neg (by omega), le_k C (by omega) st (by omega)]
        first
          | (rw [if_pos (by omega)]; done)
          | (rw [if_neg (by omega)]; done)))
    · refine A_iconst (v := nI 1) d_Pl_leaving_14 (by decide) ?_
      refine A_iload_n1 d_Pl_leaving_15 ?_
      first | refine A_isubN d_Pl_leaving_16 (by with_reducible rfl) (by with_reducible rfl) (by omega) ?_ | refine A_isub d_Pl_leaving_16 ?_
      refine A_goto (tgt := 28) d_Pl_leaving_17 (by decide) ?_
      refine A_iret d_Pl_leaving_28 rfl ⟨Nat.zero_le _, Nat.zero_le _⟩ ?_
      exact pu (congrArg Value.int (by
        rw [if_neg (by omega), le_k C (by omega) st (by omega)]
        first
          | (rw [if_pos (by omega)]; done)
          | (rw [if_neg (by omega)]; done)))
  · refine A_iconst (v := (-1)) d_Pl_leaving_5 (by decide) ?_
    refine A_iret d_Pl_leaving_6 rfl ⟨Nat.zero_le _, Nat.zero_le _⟩ ?_
    exact pu (congrArg Value.int (by rw [if_pos (by omega)]))
set_option maxHeartbeats 4000000 in
set_option maxRecDepth 100000 in
theorem c_Pl_isArrival {G : GE} {h : AH} (s t : Nat) (hs : s < 8) (ht : t < 8)  : Ctr G y_Pl_isArrival b_Pl_isArrival 2 (some .boolean) r_Pl_isArrival [.int (nI s), .int (nI t)] h (Pu (.int (bI (carB s t))) h) := by
  refine Ctr.of (by decide +kernel) (by simp) (Nat.le_of_ble_eq_true rfl) (L0 := [some (.int (nI s)), some (.int (nI t))]) rfl ?_
  refine A_iload_n1 d_Pl_isArrival_0 ?_
  refine A_iconst (v := nI 1) d_Pl_isArrival_1 (by decide) ?_
  first | refine A_icmp_gtN (tgt := 14) d_Pl_isArrival_2 (by decide) (by with_reducible rfl) (by with_reducible rfl) (by omega) (by omega) (fun c_2 => ?_) (fun c_2 => ?_) | refine A_icmp_gt (tgt := 14) d_Pl_isArrival_2 (by decide) (fun c_2 => ?_) (fun c_2 => ?_)
  · refine A_iconst (v := nI 0) d_Pl_isArrival_14 (by decide) ?_
    refine A_zret d_Pl_isArrival_15 rfl (by first | rfl | exact bI_nar _ | decide) ⟨Nat.zero_le _, Nat.zero_le _⟩ ?_
    exact pu (congrArg Value.int (by
      unfold carB
      first
        | (rw [decide_eq_false (show ¬ t < 2 by omega)]; rfl)
        | (rw [decide_eq_true (show t < 2 by omega), decide_eq_true (show s = t by omega)]; rfl)
        | (rw [decide_eq_true (show t < 2 by omega), decide_eq_false (show ¬ s = t by omega)]; rfl)))
  · refine A_iload_n0 d_Pl_isArrival_5 ?_
    refine A_iload_n1 d_Pl_isArrival_6 ?_
    first | refine A_icmp_eqN (tgt := 14) d_Pl_isArrival_7 (by decide) (by with_reducible rfl) (by with_reducible rfl) (by omega) (by omega) (fun c_7 => ?_) (fun c_7 => ?_) | refine A_icmp_eq (tgt := 14) d_Pl_isArrival_7 (by decide) (fun c_7 => ?_) (fun c_7 => ?_)
    · refine A_iconst (v := nI 0) d_Pl_isArrival_14 (by decide) ?_
      refine A_zret d_Pl_isArrival_15 rfl (by first | rfl | exact bI_nar _ | decide) ⟨Nat.zero_le _, Nat.zero_le _⟩ ?_
      exact pu (congrArg Value.int (by
        unfold carB
        first
          | (rw [decide_eq_false (show ¬ t < 2 by omega)]; rfl)
          | (rw [decide_eq_true (show t < 2 by omega), decide_eq_true (show s = t by omega)]; rfl)
          | (rw [decide_eq_true (show t < 2 by omega), decide_eq_false (show ¬ s = t by omega)]; rfl)))
    · refine A_iconst (v := nI 1) d_Pl_isArrival_10 (by decide) ?_
      refine A_goto (tgt := 15) d_Pl_isArrival_11 (by decide) ?_
      refine A_zret d_Pl_isArrival_15 rfl (by first | rfl | exact bI_nar _ | decide) ⟨Nat.zero_le _, Nat.zero_le _⟩ ?_
      exact pu (congrArg Value.int (by
        unfold carB
        first
          | (rw [decide_eq_false (show ¬ t < 2 by omega)]; rfl)
          | (rw [decide_eq_true (show t < 2 by omega), decide_eq_true (show s = t by omega)]; rfl)
          | (rw [decide_eq_true (show t < 2 by omega), decide_eq_false (show ¬ s = t by omega)]; rfl)))
def scI (Z : PC) (st k : Nat) : Int64 := if 1 < st then (-2) * Z.2.2.2.2.1 k else (Z.2.2.2.2.2.1 (st * 24 + k)).toInt64 * Z.2.1 - (nI st).toInt64 * Z.2.2.2.2.1 k
set_option maxHeartbeats 4000000 in
set_option maxRecDepth 100000 in
theorem c_Pl_scoreOf {G : GE} {h : AH} {r x y : Nat} {Z : PC} (hP : PlAt h r x y Z) (st k : Nat) (hst : st < 8) (hk : k < 24)  : Ctr G y_Pl_scoreOf b_Pl_scoreOf 3 (some .long) r_Pl_scoreOf [.ref r, .int (nI st), .int (nI k)] h (Pu (.long (scI Z st k)) h) := by
  refine Ctr.of (by decide +kernel) (by simp) (Nat.le_of_ble_eq_true rfl) (L0 := [some (.ref r), some (.int (nI st)), some (.int (nI k))]) rfl ?_
  refine A_iload_n1 d_Pl_scoreOf_0 ?_
  refine A_iconst (v := nI 1) d_Pl_scoreOf_1 (by decide) ?_
  first | refine A_icmp_leN (tgt := 16) d_Pl_scoreOf_2 (by decide) (by with_reducible rfl) (by with_reducible rfl) (by omega) (by omega) (fun c_2 => ?_) (fun c_2 => ?_) | refine A_icmp_le (tgt := 16) d_Pl_scoreOf_2 (by decide) (fun c_2 => ?_) (fun c_2 => ?_)
  · refine A_aload_n0 d_Pl_scoreOf_16 ?_
    refine A_getf (kf := 3) d_Pl_scoreOf_17 hP.o ok_2 (by decide) q_336 rfl ?_
    refine A_iload_n1 d_Pl_scoreOf_20 ?_
    refine A_bipush (v := nI 24) d_Pl_scoreOf_21 (by decide) ?_
    first | refine A_imulN d_Pl_scoreOf_23 (by with_reducible rfl) (by with_reducible rfl) ?_ | refine A_imul d_Pl_scoreOf_23 ?_
    refine A_iload_n2 d_Pl_scoreOf_24 ?_
    first | refine A_iaddN d_Pl_scoreOf_25 (by with_reducible rfl) (by with_reducible rfl) ?_ | refine A_iadd d_Pl_scoreOf_25 ?_
    refine A_ialdN d_Pl_scoreOf_26 hP.po ⟨by omega, by decide⟩ ?_
    refine A_i2l d_Pl_scoreOf_27 ?_
    refine A_aload_n0 d_Pl_scoreOf_28 ?_
    refine A_getf (kf := 10) d_Pl_scoreOf_29 hP.o ok_2 (by decide) q_343 rfl ?_
    refine A_lmul d_Pl_scoreOf_32 ?_
    refine A_iload_n1 d_Pl_scoreOf_33 ?_
    refine A_i2l d_Pl_scoreOf_34 ?_
    refine A_aload_n0 d_Pl_scoreOf_35 ?_
    refine A_getf (kf := 2) d_Pl_scoreOf_36 hP.o ok_2 (by decide) q_335 rfl ?_
    refine A_iload_n2 d_Pl_scoreOf_39 ?_
    refine A_laldN d_Pl_scoreOf_40 hP.rk ⟨by omega, by decide⟩ ?_
    refine A_lmul d_Pl_scoreOf_41 ?_
    refine A_lsub d_Pl_scoreOf_42 ?_
    refine A_lret d_Pl_scoreOf_43 rfl ⟨Nat.zero_le _, Nat.zero_le _⟩ ?_
    exact pu (congrArg Value.long (by unfold scI; rw [if_neg (by omega)]))
  · refine A_ldc2 d_Pl_scoreOf_5 q_824 ?_
    refine A_aload_n0 d_Pl_scoreOf_8 ?_
    refine A_getf (kf := 2) d_Pl_scoreOf_9 hP.o ok_2 (by decide) q_335 rfl ?_
    refine A_iload_n2 d_Pl_scoreOf_12 ?_
    refine A_laldN d_Pl_scoreOf_13 hP.rk ⟨by omega, by decide⟩ ?_
    refine A_lmul d_Pl_scoreOf_14 ?_
    refine A_lret d_Pl_scoreOf_15 rfl ⟨Nat.zero_le _, Nat.zero_le _⟩ ?_
    exact pu (congrArg Value.long (by unfold scI; rw [if_pos (by omega)]))
