theorem inB_ex {x : Int32} {lo hi : Nat} (h2 : hi < 2 ^ 31) (h : inB x (nI lo) (nI hi) = true) (h1 : lo < 2 ^ 31 := by decide) : ∃ k, x = nI k ∧ lo ≤ k ∧ k ≤ hi := by
  have h' := h
  simp only [inB, Bool.and_eq_true, Bool.not_eq_true', decide_eq_false_iff_not] at h'
  obtain ⟨j, hj, rfl⟩ := nI_of (x := x) (fun q => h'.1 (by
    rw [Int32.lt_iff_toInt_lt, nI_toInt h1]
    have := Int32.lt_iff_toInt_lt.mp q
    have z : (0 : Int32).toInt = 0 := by decide
    omega))
  rw [inB_N hj h1 h2] at h
  simp at h
  exact ⟨j, rfl, h.1, h.2⟩
/-- of those from lo to hi, else d -/
def rg (x : Int32) (lo hi : Nat) (f : Nat → Int32) (d : Int32) : Int32 := if inB x (nI lo) (nI hi) = true then f x.toNatClampNeg else d
theorem rg_in {k lo hi : Nat} {f : Nat → Int32} {d : Int32} (h : lo ≤ k ∧ k ≤ hi) (h2 : hi < 2 ^ 31) : rg (nI k) lo hi f d = f k := by
  unfold rg
  rw [inB_N (by omega) (by omega) h2, nI_clamp (by omega), if_pos (by simp; omega)]
theorem rg_out {x : Int32} {lo hi : Nat} {f : Nat → Int32} {d : Int32} (h : inB x (nI lo) (nI hi) = false) : rg x lo hi f d = d := by
  unfold rg
  rw [h, if_neg (by decide)]
/-- of one told (there are n), else d -/
def pick (n : Nat) (x : Int32) (f : Nat → Int32) (d : Int32) : Int32 := if inB x (nI 0) (nI n - nI 1) = true then f x.toNatClampNeg else d
theorem pick_in {k n : Nat} {f : Nat → Int32} {d : Int32} (h : k < n) (h2 : n < 2 ^ 31) : pick n (nI k) f d = f k := by
  unfold pick
  rw [inB_nI h h2, if_pos rfl, nI_clamp (by omega)]
theorem pick_out {x : Int32} {n : Nat} {f : Nat → Int32} {d : Int32} (h : inB x (nI 0) (nI n - nI 1) = false) : pick n x f d = d := by
  unfold pick
  rw [h, if_neg (by decide)]
/-- a public method's end: the answer, what lasts as it was -/
def TK (h0 : AH) (m : Nat) (S : MS) (r : Value) : Option Value → AH → Prop := fun v h' => v = some r ∧ ∃ S1, MW h0 h' m S1 ∧ Keep S S1
theorem tk {h0 h : AH} {m : Nat} {S S1 : MS} {r r' : Value} (hM : MW h0 h m S1) (k : Keep S S1) (e : r' = r) : TK h0 m S r (some r') h := ⟨by rw [e], S1, hM, k⟩
def nightV (w : Nat → Nat) (x : Int32) : Int32 := rg x 0 23 (fun k => nI (w k)) (-1)
def landV (V : Nat → Nat) (x : Int32) : Int32 := rg x 0 5 (fun k => nI (V k)) (rg x 10 (9 + V 0) (fun k => nI (V (6 + (k - 10)))) (rg x 50 (49 + V 5) (fun k => nI (V (30 + 2 * (k - 50)))) (rg x 60 (59 + V 5) (fun k => nI (V (30 + 2 * (k - 60) + 1))) (-1))))
def personV (V : Nat → Nat) (p : Nat) (x : Int32) : Int32 := rg x 0 2 (fun k => nI (V (42 + 27 * p + k))) (rg x 10 (9 + V 0) (fun k => nI (V (42 + 27 * p + (3 + (k - 10))))) (-1))
set_option maxHeartbeats 4000000 in
set_option maxRecDepth 100000 in
theorem c_M_night {G : GE} {h0 h : AH} {m : Nat} {S : MS} (hM : MW h0 h m S) {c : Nat → Nat} {VL WT BK SG GM : Nat → Nat → Nat} (hp : MP S c VL WT BK SG GM) (ta x : Int32) : Ctr G y_M_night b_M_night 3 (some .int) r_M_night [.ref m, .int ta, .int x] h (TK h0 m S (.int (pick (c 1) ta (fun k => nightV (WT k) x) (-1)))) := by
  have hc1 := (hp.1 1 (by decide)).2
  refine Ctr.of (by decide +kernel) (by simp) (Nat.le_of_ble_eq_true rfl) (L0 := [some (.ref m), some (.int ta), some (.int x)]) rfl ?_
  refine A_aload_n0 d_M_night_0 ?_
  refine A_iconst (v := nI 0) d_M_night_1 (by decide) ?_
  refine A_putM hM (kf := 0) (ty := .int) d_M_night_2 (by decide) q_1049 rfl (by decide +kernel) (by first | rfl | exact bI_nar _) rfl (Nat.le_of_ble_eq_true rfl) rfl (fun h hM => ?_)
  have hp := hp.keep (Keep.sf _ 0 (nI 0))
  refine A_aload_n0 d_M_night_5 ?_
  refine A_iconst (v := nI 1) d_M_night_6 (by decide) ?_
  refine A_iload_n1 d_M_night_7 ?_
  refine A_callVP d_M_night_8 (c_M_is hM 1 (by decide) ta) hM.o rfl q_1238 q_1240 qs_16 mk_M_is rfl (by decide) rfl (Nat.le_of_ble_eq_true rfl) ⟨Nat.le_of_ble_eq_true rfl, Nat.le_of_ble_eq_true rfl⟩ ⟨rfl, rfl⟩ ?_
  refine A_topI (by rw [(hp.1 1 (by decide)).1]) ?_
  refine A_if_eqB (tgt := 38) d_M_night_11 (by decide) (fun c_11 => ?_) (fun c_11 => ?_)
  · refine A_iconst (v := (-1)) d_M_night_38 (by decide) ?_
    refine A_iret d_M_night_39 rfl ⟨Nat.zero_le _, Nat.zero_le _⟩ ?_
    first | exact tk hM (Keep.sf _ _ _) (by rw [pick_out c_11]) | exact tk hM (Keep.sf _ _ _) (by rw [pick_in ht (by omega), nightV, rg_out c_21]) | exact tk hM (Keep.sf _ _ _) (by rw [pick_in ht (by omega), nightV, rg_in ⟨hk1, hk2⟩ (by decide), (hMT.2 k (by omega)).1])
  · obtain ⟨t', rfl, ht⟩ := inB_nat (by omega) c_11
    have hMT := hp.2.2.1 t' ht
    refine A_iload_n2 d_M_night_14 ?_
    refine A_iconst (v := nI 0) d_M_night_15 (by decide) ?_
    refine A_bipush (v := nI 23) d_M_night_16 (by decide) ?_
    refine A_callSP d_M_night_18 (c_M_in _ _ _ _) q_1231 q_1232 mk_M_in rfl (by decide) rfl (Nat.le_of_ble_eq_true rfl) ⟨Nat.le_of_ble_eq_true rfl, Nat.le_of_ble_eq_true rfl⟩ ⟨rfl, rfl⟩ ?_
    refine A_if_eqB (tgt := 38) d_M_night_21 (by decide) (fun c_21 => ?_) (fun c_21 => ?_)
    · refine A_iconst (v := (-1)) d_M_night_38 (by decide) ?_
      refine A_iret d_M_night_39 rfl ⟨Nat.zero_le _, Nat.zero_le _⟩ ?_
      first | exact tk hM (Keep.sf _ _ _) (by rw [pick_out c_11]) | exact tk hM (Keep.sf _ _ _) (by rw [pick_in ht (by omega), nightV, rg_out c_21]) | exact tk hM (Keep.sf _ _ _) (by rw [pick_in ht (by omega), nightV, rg_in ⟨hk1, hk2⟩ (by decide), (hMT.2 k (by omega)).1])
    · obtain ⟨k, rfl, hk1, hk2⟩ := inB_ex (by decide) c_21
      refine A_aload_n0 d_M_night_24 ?_
      refine A_getf (kf := 7) d_M_night_25 hM.o ok_8 (by decide) q_1056 rfl ?_
      refine A_bipush (v := nI 24) d_M_night_28 (by decide) ?_
      refine A_iload_n1 d_M_night_30 ?_
      first | refine A_imulN d_M_night_31 (by with_reducible rfl) (by with_reducible rfl) ?_ | refine A_imul d_M_night_31 ?_
      refine A_iload_n2 d_M_night_32 ?_
      first | refine A_iaddN d_M_night_33 (by with_reducible rfl) (by with_reducible rfl) ?_ | refine A_iadd d_M_night_33 ?_
      refine A_ialdN d_M_night_34 hM.a7 ⟨by have := hMT.1; omega, by decide⟩ ?_
      refine A_goto (tgt := 39) d_M_night_35 (by decide) ?_
      refine A_iret d_M_night_39 rfl ⟨Nat.zero_le _, Nat.zero_le _⟩ ?_
      first | exact tk hM (Keep.sf _ _ _) (by rw [pick_out c_11]) | exact tk hM (Keep.sf _ _ _) (by rw [pick_in ht (by omega), nightV, rg_out c_21]) | exact tk hM (Keep.sf _ _ _) (by rw [pick_in ht (by omega), nightV, rg_in ⟨hk1, hk2⟩ (by decide), (hMT.2 k (by omega)).1])
set_option maxHeartbeats 4000000 in
set_option maxRecDepth 100000 in
theorem c_M_count {G : GE} {h0 h : AH} {m : Nat} {S : MS} (hM : MW h0 h m S) {c : Nat → Nat} {VL WT BK SG GM : Nat → Nat → Nat} (hp : MP S c VL WT BK SG GM) (x : Int32) : Ctr G y_M_count b_M_count 2 (some .int) r_M_count [.ref m, .int x] h (TK h0 m S (.int (rg x 0 4 (fun k => nI (c k)) (-2)))) := by
  refine Ctr.of (by decide +kernel) (by simp) (Nat.le_of_ble_eq_true rfl) (L0 := [some (.ref m), some (.int x)]) rfl ?_
  refine A_aload_n0 d_M_count_0 ?_
  refine A_iconst (v := nI 0) d_M_count_1 (by decide) ?_
  refine A_putM hM (kf := 0) (ty := .int) d_M_count_2 (by decide) q_1049 rfl (by decide +kernel) (by first | rfl | exact bI_nar _) rfl (Nat.le_of_ble_eq_true rfl) rfl (fun h hM => ?_)
  have hp := hp.keep (Keep.sf _ 0 (nI 0))
  refine A_iload_n1 d_M_count_5 ?_
  refine A_iconst (v := nI 0) d_M_count_6 (by decide) ?_
  refine A_iconst (v := nI 4) d_M_count_7 (by decide) ?_
  refine A_callSP d_M_count_8 (c_M_in _ _ _ _) q_1231 q_1232 mk_M_in rfl (by decide) rfl (Nat.le_of_ble_eq_true rfl) ⟨Nat.le_of_ble_eq_true rfl, Nat.le_of_ble_eq_true rfl⟩ ⟨rfl, rfl⟩ ?_
  refine A_if_eqB (tgt := 23) d_M_count_11 (by decide) (fun c_11 => ?_) (fun c_11 => ?_)
  · refine A_bipush (v := (-2)) d_M_count_23 (by decide) ?_
    refine A_iret d_M_count_25 rfl ⟨Nat.zero_le _, Nat.zero_le _⟩ ?_
    first | exact tk hM (Keep.sf _ _ _) (by rw [rg_out c_11]) | exact tk hM (Keep.sf _ _ _) (by rw [rg_in ⟨hk1, hk2⟩ (by decide), (hp.1 k (by omega)).1])
  · obtain ⟨k, rfl, hk1, hk2⟩ := inB_ex (by decide) c_11
    refine A_aload_n0 d_M_count_14 ?_
    refine A_getf (kf := 5) d_M_count_15 hM.o ok_8 (by decide) q_1054 rfl ?_
    refine A_iload_n1 d_M_count_18 ?_
    refine A_ialdN d_M_count_19 hM.a5 ⟨by omega, by decide⟩ ?_
    refine A_goto (tgt := 25) d_M_count_20 (by decide) ?_
    refine A_iret d_M_count_25 rfl ⟨Nat.zero_le _, Nat.zero_le _⟩ ?_
    first | exact tk hM (Keep.sf _ _ _) (by rw [rg_out c_11]) | exact tk hM (Keep.sf _ _ _) (by rw [rg_in ⟨hk1, hk2⟩ (by decide), (hp.1 k (by omega)).1])
set_option maxHeartbeats 4000000 in
set_option maxRecDepth 100000 in
theorem c_M_fault {G : GE} {h0 h : AH} {m : Nat} {S : MS} (hM : MW h0 h m S) (x : Int32) : Ctr G y_M_fault b_M_fault 2 (some .int) r_M_fault [.ref m, .int x] h (TK h0 m S (.int (if x = nI 0 then S.2.2.1 3 0 else if x = nI 1 then S.2.2.1 4 0 else -1))) := by
  refine Ctr.of (by decide +kernel) (by simp) (Nat.le_of_ble_eq_true rfl) (L0 := [some (.ref m), some (.int x)]) rfl ?_
  refine A_aload_n0 d_M_fault_0 ?_
  refine A_iconst (v := nI 0) d_M_fault_1 (by decide) ?_
  refine A_putM hM (kf := 0) (ty := .int) d_M_fault_2 (by decide) q_1049 rfl (by decide +kernel) (by first | rfl | exact bI_nar _) rfl (Nat.le_of_ble_eq_true rfl) rfl (fun h hM => ?_)
  refine A_iload_n1 d_M_fault_5 ?_
  first | refine A_if_neN (tgt := 18) d_M_fault_6 (by decide) (by with_reducible rfl) (by omega) (fun c_6 => ?_) (fun c_6 => ?_) | refine A_if_ne (tgt := 18) d_M_fault_6 (by decide) (fun c_6 => ?_) (fun c_6 => ?_)
  · refine A_iload_n1 d_M_fault_18 ?_
    refine A_iconst (v := nI 1) d_M_fault_19 (by decide) ?_
    first | refine A_icmp_neN (tgt := 32) d_M_fault_20 (by decide) (by with_reducible rfl) (by with_reducible rfl) (by omega) (by omega) (fun c_20 => ?_) (fun c_20 => ?_) | refine A_icmp_ne (tgt := 32) d_M_fault_20 (by decide) (fun c_20 => ?_) (fun c_20 => ?_)
    · refine A_iconst (v := (-1)) d_M_fault_32 (by decide) ?_
      refine A_iret d_M_fault_33 rfl ⟨Nat.zero_le _, Nat.zero_le _⟩ ?_
      exact tk hM (Keep.sf _ _ _) (by simp only [show nI 0 = 0 from rfl, c_6, c_20] <;> simp [*] <;> rfl)
    · refine A_aload_n0 d_M_fault_23 ?_
      refine A_getf (kf := 4) d_M_fault_24 hM.o ok_8 (by decide) q_1053 rfl ?_
      refine A_iconst (v := nI 0) d_M_fault_27 (by decide) ?_
      refine A_ialdN d_M_fault_28 hM.a4 ⟨by decide, by decide⟩ ?_
      refine A_goto (tgt := 33) d_M_fault_29 (by decide) ?_
      refine A_iret d_M_fault_33 rfl ⟨Nat.zero_le _, Nat.zero_le _⟩ ?_
      exact tk hM (Keep.sf _ _ _) (by simp only [show nI 0 = 0 from rfl, c_6, c_20] <;> simp [*] <;> rfl)
  · refine A_aload_n0 d_M_fault_9 ?_
    refine A_getf (kf := 3) d_M_fault_10 hM.o ok_8 (by decide) q_1052 rfl ?_
    refine A_iconst (v := nI 0) d_M_fault_13 (by decide) ?_
    refine A_ialdN d_M_fault_14 hM.a3 ⟨by decide, by decide⟩ ?_
    refine A_goto (tgt := 33) d_M_fault_15 (by decide) ?_
    refine A_iret d_M_fault_33 rfl ⟨Nat.zero_le _, Nat.zero_le _⟩ ?_
    exact tk hM (Keep.sf _ _ _) (by simp only [show nI 0 = 0 from rfl, c_6] <;> simp [*] <;> rfl)
/-- what lasts is as it was, but the tape's size -/
def KeepB (S S1 : MS) (ks : List Nat) : Prop := ∀ k, (k ≤ 10 ∨ k = 55) → k ∉ ks → S1.2.2.1 k = S.2.2.1 k
set_option maxHeartbeats 4000000 in
set_option maxRecDepth 100000 in
theorem c_M_end {G : GE} {h0 h : AH} {m : Nat} {S : MS} (hM : MW h0 h m S) (x : Int32) : Ctr G y_M_end b_M_end 2 (some .int) r_M_end [.ref m, .int x] h (fun v h' => (inB x (nI 0) (S.2.2.1 2 0) = false ∧ v = some (.int (-1)) ∧ ∃ S1, MW h0 h' m S1 ∧ Keep S S1) ∨ (inB x (nI 0) (S.2.2.1 2 0) = true ∧ v = some (.int x) ∧ ∃ S1, MW h0 h' m S1 ∧ S1.2.2.1 = fup S.2.2.1 2 (fup (S.2.2.1 2) 0 x))) := by
  refine Ctr.of (by decide +kernel) (by simp) (Nat.le_of_ble_eq_true rfl) (L0 := [some (.ref m), some (.int x)]) rfl ?_
  refine A_aload_n0 d_M_end_0 ?_
  refine A_iconst (v := nI 0) d_M_end_1 (by decide) ?_
  refine A_putM hM (kf := 0) (ty := .int) d_M_end_2 (by decide) q_1049 rfl (by decide +kernel) (by first | rfl | exact bI_nar _) rfl (Nat.le_of_ble_eq_true rfl) rfl (fun h hM => ?_)
  refine A_iload_n1 d_M_end_5 ?_
  refine A_iconst (v := nI 0) d_M_end_6 (by decide) ?_
  refine A_aload_n0 d_M_end_7 ?_
  refine A_getf (kf := 2) d_M_end_8 hM.o ok_8 (by decide) q_1051 rfl ?_
  refine A_iconst (v := nI 0) d_M_end_11 (by decide) ?_
  refine A_ialdN d_M_end_12 hM.a2 ⟨by decide, by decide⟩ ?_
  refine A_callSP d_M_end_13 (c_M_in _ _ _ _) q_1231 q_1232 mk_M_in rfl (by decide) rfl (Nat.le_of_ble_eq_true rfl) ⟨Nat.le_of_ble_eq_true rfl, Nat.le_of_ble_eq_true rfl⟩ ⟨rfl, rfl⟩ ?_
  refine A_if_neB (tgt := 21) d_M_end_16 (by decide) (fun c_16 => ?_) (fun c_16 => ?_)
  · refine A_aload_n0 d_M_end_21 ?_
    refine A_getf (kf := 2) d_M_end_22 hM.o ok_8 (by decide) q_1051 rfl ?_
    refine A_iconst (v := nI 0) d_M_end_25 (by decide) ?_
    refine A_iload_n1 d_M_end_26 ?_
    refine A_st2 hM d_M_end_27 (by decide) (fun h hM => ?_)
    refine A_iload_n1 d_M_end_28 ?_
    refine A_iret d_M_end_29 rfl ⟨Nat.zero_le _, Nat.zero_le _⟩ ?_
    exact Or.inr ⟨c_16, rfl, _, hM, rfl⟩
  · refine A_iconst (v := (-1)) d_M_end_19 (by decide) ?_
    refine A_iret d_M_end_20 rfl ⟨Nat.zero_le _, Nat.zero_le _⟩ ?_
    exact Or.inl ⟨c_16, rfl, _, hM, Keep.sf _ _ _⟩
set_option maxHeartbeats 4000000 in
set_option maxRecDepth 100000 in
theorem c_M_land {G : GE} {h0 h : AH} {m : Nat} {S : MS} (hM : MW h0 h m S) {c : Nat → Nat} {VL WT BK SG GM : Nat → Nat → Nat} (hp : MP S c VL WT BK SG GM) (la x : Int32) : Ctr G y_M_land b_M_land 3 (some .int) r_M_land [.ref m, .int la, .int x] h (TK h0 m S (.int (pick (c 0) la (fun k => landV (VL k) x) (-1)))) := by
  have hc0 := (hp.1 0 (by decide)).2
  refine Ctr.of (by decide +kernel) (by simp) (Nat.le_of_ble_eq_true rfl) (L0 := [some (.ref m), some (.int la), some (.int x)]) rfl ?_
  refine A_aload_n0 d_M_land_0 ?_
  refine A_iconst (v := nI 0) d_M_land_1 (by decide) ?_
  refine A_putM hM (kf := 0) (ty := .int) d_M_land_2 (by decide) q_1049 rfl (by decide +kernel) (by first | rfl | exact bI_nar _) rfl (Nat.le_of_ble_eq_true rfl) rfl (fun h hM => ?_)
  have hp := hp.keep (Keep.sf _ 0 (nI 0))
  refine A_aload_n0 d_M_land_5 ?_
  refine A_iload_n1 d_M_land_6 ?_
  refine A_callV d_M_land_7 (c_M_hand hM (hp.1 0 (by decide)).1 (hp.1 0 (by decide)).2 hp.2.1 la) hM.o rfl q_1339 q_1341 qs_35 mk_M_hand rfl (by decide) rfl (Nat.le_of_ble_eq_true rfl) ⟨Nat.le_of_ble_eq_true rfl, Nat.le_of_ble_eq_true rfl⟩ (fun v h1 hv => ?_)
  rcases hv with ⟨l', rfl, hl, rfl, hM⟩ | ⟨q, rfl, rfl⟩
  · have hVl := hp.2.1 l' hl
    have hS := HS_hand hVl
    have hok := hVl.2.1
    obtain ⟨b0, b1, b2, b3, b4, b5, bp, bb, bt⟩ := hVl.2.1
    refine A_if_neB (tgt := 15) d_M_land_10 (by decide) (fun c_10 => ?_) (fun c => absurd c (by decide))
    refine A_iload_n2 d_M_land_15 ?_
    refine A_iconst (v := nI 0) d_M_land_16 (by decide) ?_
    refine A_iconst (v := nI 5) d_M_land_17 (by decide) ?_
    refine A_callSP d_M_land_18 (c_M_in _ _ _ _) q_1231 q_1232 mk_M_in rfl (by decide) rfl (Nat.le_of_ble_eq_true rfl) ⟨Nat.le_of_ble_eq_true rfl, Nat.le_of_ble_eq_true rfl⟩ ⟨rfl, rfl⟩ ?_
    refine A_if_eqB (tgt := 30) d_M_land_21 (by decide) (fun c_21 => ?_) (fun c_21 => ?_)
    · refine A_iload_n2 d_M_land_30 ?_
      refine A_bipush (v := nI 10) d_M_land_31 (by decide) ?_
      refine A_bipush (v := nI 9) d_M_land_33 (by decide) ?_
      refine A_aload_n0 d_M_land_35 ?_
      refine A_getf (kf := 27) d_M_land_36 hM.o ok_8 (by decide) q_1076 rfl ?_
      refine A_topI hS.hours ?_
      first | refine A_iaddN d_M_land_39 (by with_reducible rfl) (by with_reducible rfl) ?_ | refine A_iadd d_M_land_39 ?_
      refine A_callSP d_M_land_40 (c_M_in _ _ _ _) q_1231 q_1232 mk_M_in rfl (by decide) rfl (Nat.le_of_ble_eq_true rfl) ⟨Nat.le_of_ble_eq_true rfl, Nat.le_of_ble_eq_true rfl⟩ ⟨rfl, rfl⟩ ?_
      refine A_if_eqB (tgt := 58) d_M_land_43 (by decide) (fun c_43 => ?_) (fun c_43 => ?_)
      · refine A_iload_n2 d_M_land_58 ?_
        refine A_bipush (v := nI 50) d_M_land_59 (by decide) ?_
        refine A_bipush (v := nI 49) d_M_land_61 (by decide) ?_
        refine A_aload_n0 d_M_land_63 ?_
        refine A_getf (kf := 30) d_M_land_64 hM.o ok_8 (by decide) q_1079 rfl ?_
        refine A_topI hS.bearers ?_
        first | refine A_iaddN d_M_land_67 (by with_reducible rfl) (by with_reducible rfl) ?_ | refine A_iadd d_M_land_67 ?_
        refine A_callSP d_M_land_68 (c_M_in _ _ _ _) q_1231 q_1232 mk_M_in rfl (by decide) rfl (Nat.le_of_ble_eq_true rfl) ⟨Nat.le_of_ble_eq_true rfl, Nat.le_of_ble_eq_true rfl⟩ ⟨rfl, rfl⟩ ?_
        refine A_if_eqB (tgt := 90) d_M_land_71 (by decide) (fun c_71 => ?_) (fun c_71 => ?_)
        · refine A_iload_n2 d_M_land_90 ?_
          refine A_bipush (v := nI 60) d_M_land_91 (by decide) ?_
          refine A_bipush (v := nI 59) d_M_land_93 (by decide) ?_
          refine A_aload_n0 d_M_land_95 ?_
          refine A_getf (kf := 30) d_M_land_96 hM.o ok_8 (by decide) q_1079 rfl ?_
          refine A_topI hS.bearers ?_
          first | refine A_iaddN d_M_land_99 (by with_reducible rfl) (by with_reducible rfl) ?_ | refine A_iadd d_M_land_99 ?_
          refine A_callSP d_M_land_100 (c_M_in _ _ _ _) q_1231 q_1232 mk_M_in rfl (by decide) rfl (Nat.le_of_ble_eq_true rfl) ⟨Nat.le_of_ble_eq_true rfl, Nat.le_of_ble_eq_true rfl⟩ ⟨rfl, rfl⟩ ?_
          refine A_if_eqB (tgt := 124) d_M_land_103 (by decide) (fun c_103 => ?_) (fun c_103 => ?_)
          · refine A_iconst (v := (-1)) d_M_land_124 (by decide) ?_
            refine A_iret d_M_land_125 rfl ⟨Nat.zero_le _, Nat.zero_le _⟩ ?_
            first | exact tk hM (fun _ _ => rfl) (by rw [pick_in hl (by omega), landV, rg_out c_21, rg_out c_43, rg_out c_71, rg_out c_103]) | exact tk hM (fun _ _ => rfl) (by rw [pick_in hl (by omega), landV, rg_out c_21, rg_out c_43, rg_out c_71, rg_in ⟨hk1, hk2⟩ (by omega)]) | exact tk hM (fun _ _ => rfl) (by rw [pick_in hl (by omega), landV, rg_out c_21, rg_out c_43, rg_in ⟨hk1, hk2⟩ (by omega)]) | exact tk hM (fun _ _ => rfl) (by rw [pick_in hl (by omega), landV, rg_out c_21, rg_in ⟨hk1, hk2⟩ (by omega)]) | exact tk hM (fun _ _ => rfl) (by rw [pick_in hl (by omega), landV, rg_in ⟨hk1, hk2⟩ (by decide)])
          · obtain ⟨k, rfl, hk1, hk2⟩ := inB_ex (by omega) c_103
            refine A_aload_n0 d_M_land_106 ?_
            refine A_bipush (v := nI 30) d_M_land_107 (by decide) ?_
            refine A_iconst (v := nI 2) d_M_land_109 (by decide) ?_
            refine A_iload_n2 d_M_land_110 ?_
            refine A_bipush (v := nI 60) d_M_land_111 (by decide) ?_
            first | refine A_isubN d_M_land_113 (by with_reducible rfl) (by with_reducible rfl) (by omega) ?_ | refine A_isub d_M_land_113 ?_
            first | refine A_imulN d_M_land_114 (by with_reducible rfl) (by with_reducible rfl) ?_ | refine A_imul d_M_land_114 ?_
            first | refine A_iaddN d_M_land_115 (by with_reducible rfl) (by with_reducible rfl) ?_ | refine A_iadd d_M_land_115 ?_
            refine A_iconst (v := nI 1) d_M_land_116 (by decide) ?_
            first | refine A_iaddN d_M_land_117 (by with_reducible rfl) (by with_reducible rfl) ?_ | refine A_iadd d_M_land_117 ?_
            refine A_callVP d_M_land_118 (c_M_of hM hS (30 + 2 * (k - 60) + 1) (by omega)) hM.o rfl q_1343 q_1345 qs_36 mk_M_of rfl (by decide) rfl (Nat.le_of_ble_eq_true rfl) ⟨Nat.le_of_ble_eq_true rfl, Nat.le_of_ble_eq_true rfl⟩ ⟨rfl, rfl⟩ ?_
            refine A_goto (tgt := 125) d_M_land_121 (by decide) ?_
            refine A_iret d_M_land_125 rfl ⟨Nat.zero_le _, Nat.zero_le _⟩ ?_
            first | exact tk hM (fun _ _ => rfl) (by rw [pick_in hl (by omega), landV, rg_out c_21, rg_out c_43, rg_out c_71, rg_out c_103]) | exact tk hM (fun _ _ => rfl) (by rw [pick_in hl (by omega), landV, rg_out c_21, rg_out c_43, rg_out c_71, rg_in ⟨hk1, hk2⟩ (by omega)]) | exact tk hM (fun _ _ => rfl) (by rw [pick_in hl (by omega), landV, rg_out c_21, rg_out c_43, rg_in ⟨hk1, hk2⟩ (by omega)]) | exact tk hM (fun _ _ => rfl) (by rw [pick_in hl (by omega), landV, rg_out c_21, rg_in ⟨hk1, hk2⟩ (by omega)]) | exact tk hM (fun _ _ => rfl) (by rw [pick_in hl (by omega), landV, rg_in ⟨hk1, hk2⟩ (by decide)])
        · obtain ⟨k, rfl, hk1, hk2⟩ := inB_ex (by omega) c_71
          refine A_aload_n0 d_M_land_74 ?_
          refine A_bipush (v := nI 30) d_M_land_75 (by decide) ?_
          refine A_iconst (v := nI 2) d_M_land_77 (by decide) ?_
          refine A_iload_n2 d_M_land_78 ?_
          refine A_bipush (v := nI 50) d_M_land_79 (by decide) ?_
          first | refine A_isubN d_M_land_81 (by with_reducible rfl) (by with_reducible rfl) (by omega) ?_ | refine A_isub d_M_land_81 ?_
          first | refine A_imulN d_M_land_82 (by with_reducible rfl) (by with_reducible rfl) ?_ | refine A_imul d_M_land_82 ?_
          first | refine A_iaddN d_M_land_83 (by with_reducible rfl) (by with_reducible rfl) ?_ | refine A_iadd d_M_land_83 ?_
          refine A_callVP d_M_land_84 (c_M_of hM hS (30 + 2 * (k - 50)) (by omega)) hM.o rfl q_1343 q_1345 qs_36 mk_M_of rfl (by decide) rfl (Nat.le_of_ble_eq_true rfl) ⟨Nat.le_of_ble_eq_true rfl, Nat.le_of_ble_eq_true rfl⟩ ⟨rfl, rfl⟩ ?_
          refine A_goto (tgt := 125) d_M_land_87 (by decide) ?_
          refine A_iret d_M_land_125 rfl ⟨Nat.zero_le _, Nat.zero_le _⟩ ?_
          first | exact tk hM (fun _ _ => rfl) (by rw [pick_in hl (by omega), landV, rg_out c_21, rg_out c_43, rg_out c_71, rg_out c_103]) | exact tk hM (fun _ _ => rfl) (by rw [pick_in hl (by omega), landV, rg_out c_21, rg_out c_43, rg_out c_71, rg_in ⟨hk1, hk2⟩ (by omega)]) | exact tk hM (fun _ _ => rfl) (by rw [pick_in hl (by omega), landV, rg_out c_21, rg_out c_43, rg_in ⟨hk1, hk2⟩ (by omega)]) | exact tk hM (fun _ _ => rfl) (by rw [pick_in hl (by omega), landV, rg_out c_21, rg_in ⟨hk1, hk2⟩ (by omega)]) | exact tk hM (fun _ _ => rfl) (by rw [pick_in hl (by omega), landV, rg_in ⟨hk1, hk2⟩ (by decide)])
      · obtain ⟨k, rfl, hk1, hk2⟩ := inB_ex (by omega) c_43
        refine A_aload_n0 d_M_land_46 ?_
        refine A_bipush (v := nI 6) d_M_land_47 (by decide) ?_
        refine A_iload_n2 d_M_land_49 ?_
        first | refine A_iaddN d_M_land_50 (by with_reducible rfl) (by with_reducible rfl) ?_ | refine A_iadd d_M_land_50 ?_
        refine A_bipush (v := nI 10) d_M_land_51 (by decide) ?_
        first | refine A_isubN d_M_land_53 (by with_reducible rfl) (by with_reducible rfl) (by omega) ?_ | refine A_isub d_M_land_53 ?_
        refine A_topN (k := 6 + (k - 10)) (congrArg nI (by omega)) ?_
        refine A_callVP d_M_land_54 (c_M_of hM hS (6 + (k - 10)) (by omega)) hM.o rfl q_1343 q_1345 qs_36 mk_M_of rfl (by decide) rfl (Nat.le_of_ble_eq_true rfl) ⟨Nat.le_of_ble_eq_true rfl, Nat.le_of_ble_eq_true rfl⟩ ⟨rfl, rfl⟩ ?_
        refine A_iret d_M_land_57 rfl ⟨Nat.zero_le _, Nat.zero_le _⟩ ?_
        first | exact tk hM (fun _ _ => rfl) (by rw [pick_in hl (by omega), landV, rg_out c_21, rg_out c_43, rg_out c_71, rg_out c_103]) | exact tk hM (fun _ _ => rfl) (by rw [pick_in hl (by omega), landV, rg_out c_21, rg_out c_43, rg_out c_71, rg_in ⟨hk1, hk2⟩ (by omega)]) | exact tk hM (fun _ _ => rfl) (by rw [pick_in hl (by omega), landV, rg_out c_21, rg_out c_43, rg_in ⟨hk1, hk2⟩ (by omega)]) | exact tk hM (fun _ _ => rfl) (by rw [pick_in hl (by omega), landV, rg_out c_21, rg_in ⟨hk1, hk2⟩ (by omega)]) | exact tk hM (fun _ _ => rfl) (by rw [pick_in hl (by omega), landV, rg_in ⟨hk1, hk2⟩ (by decide)])
    · obtain ⟨k, rfl, hk1, hk2⟩ := inB_ex (by decide) c_21
      refine A_aload_n0 d_M_land_24 ?_
      refine A_iload_n2 d_M_land_25 ?_
      refine A_callVP d_M_land_26 (c_M_of hM hS k (by omega)) hM.o rfl q_1343 q_1345 qs_36 mk_M_of rfl (by decide) rfl (Nat.le_of_ble_eq_true rfl) ⟨Nat.le_of_ble_eq_true rfl, Nat.le_of_ble_eq_true rfl⟩ ⟨rfl, rfl⟩ ?_
      refine A_iret d_M_land_29 rfl ⟨Nat.zero_le _, Nat.zero_le _⟩ ?_
      first | exact tk hM (fun _ _ => rfl) (by rw [pick_in hl (by omega), landV, rg_out c_21, rg_out c_43, rg_out c_71, rg_out c_103]) | exact tk hM (fun _ _ => rfl) (by rw [pick_in hl (by omega), landV, rg_out c_21, rg_out c_43, rg_out c_71, rg_in ⟨hk1, hk2⟩ (by omega)]) | exact tk hM (fun _ _ => rfl) (by rw [pick_in hl (by omega), landV, rg_out c_21, rg_out c_43, rg_in ⟨hk1, hk2⟩ (by omega)]) | exact tk hM (fun _ _ => rfl) (by rw [pick_in hl (by omega), landV, rg_out c_21, rg_in ⟨hk1, hk2⟩ (by omega)]) | exact tk hM (fun _ _ => rfl) (by rw [pick_in hl (by omega), landV, rg_in ⟨hk1, hk2⟩ (by decide)])
  · refine A_if_neB (tgt := 15) d_M_land_10 (by decide) (fun c => absurd c (by decide)) (fun c_10 => ?_)
    refine A_iconst (v := (-1)) d_M_land_13 (by decide) ?_
    refine A_iret d_M_land_14 rfl ⟨Nat.zero_le _, Nat.zero_le _⟩ ?_
    exact tk hM (Keep.sf _ _ _) (by rw [pick_out q])
