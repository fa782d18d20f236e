theorem or_nI0 (x : Int32) : x ||| nI 0 = x := by
  have z : nI 0 = 0 := rfl
  rw [z, Int32.or_zero]
def sleepsB (V : Nat → Nat) (p d : Nat) : Bool := decide (V (42 + 27 * p + 1) ≤ d) && decide (V (42 + 27 * p + 2) ≤ V 0 - d)
def awakeI (V : Nat → Nat) (d0 d1 : Nat) : Int32 := foldN (fun p x => x ||| (if sleepsB V p (if V (42 + 27 * p + 0) = 0 then d0 else d1) = true then nI 0 else nI 1 <<< (nI p &&& 31))) (nI 0) (V 4)
/-- a row is laid: where the night is, hour by hour -/
def RW (S : MS) (w : Nat → Nat) (n : Nat) : Prop := ∀ h, h < n → S.2.2.1 31 h = nI (w h) ∧ w h ≤ 2
def caI (w : Nat → Nat) (H h : Nat) : Int32 := firstU (fun k => !decide (w ((h + H - k) % H) = 2)) (fun k => nI (w ((h + H - k) % H))) (-1) (H + 1) 1
def comesB (w : Nat → Nat) (H h : Nat) : Bool := !decide (w h = 2) && decide (caI w H h = nI 1 - nI (w h))
def carryN (w : Nat → Nat) (H : Nat) : Nat := sumN (fun h => if comesB w H h = true then 1 else 0) H
def darkN (w : Nat → Nat) (c H : Nat) : Nat := sumN (fun h => if w h = c then 1 else 0) H
theorem darkN_le (w : Nat → Nat) (c H : Nat) : darkN w c H ≤ H := by
  have := sumN_le (f := fun h => if w h = c then 1 else 0) (c := 1) H (fun i hi => by split <;> omega)
  unfold darkN
  omega
def handS (S : MS) (l : Nat) (V : Nat → Nat) : MS := ((((S.sf 26 (nI l)).sf 27 (nI (V 0))).sf 28 (nI (V 1))).sf 29 (nI (V 4))).sf 30 (nI (V 5))
theorem HS_hand {S : MS} {l : Nat} {V : Nat → Nat} (h : ML S l V) : HS (handS S l V) l V := ⟨h, rfl, rfl, rfl, rfl, rfl⟩
set_option maxHeartbeats 4000000 in
set_option maxRecDepth 100000 in
theorem c_M_of0 {G : GE} {h0 h : AH} {m : Nat} {S : MS} (hM : MW h0 h m S) {l : Nat} (hl : l < 2) (h26 : S.1 26 = nI l) (k : Nat) (hk : k < 312) {x : Int32} (hx : S.2.2.1 6 (312 * l + k) = x) : Ctr G y_M_of b_M_of 2 (some .int) r_M_of [.ref m, .int (nI k)] h (Pu (.int x) h) := by
  refine Ctr.of (by decide +kernel) (by simp) (Nat.le_of_ble_eq_true rfl) (L0 := [some (.ref m), some (.int (nI k))]) rfl ?_
  refine A_aload_n0 d_M_of_0 ?_
  refine A_getf (kf := 6) d_M_of_1 hM.o ok_8 (by decide) q_1055 rfl ?_
  refine A_sipush (v := nI 312) d_M_of_4 (by decide) ?_
  refine A_aload_n0 d_M_of_7 ?_
  refine A_getf (kf := 26) d_M_of_8 hM.o ok_8 (by decide) q_1075 rfl ?_
  refine A_topI h26 ?_
  first | refine A_imulN d_M_of_11 (by with_reducible rfl) (by with_reducible rfl) ?_ | refine A_imul d_M_of_11 ?_
  refine A_iload_n1 d_M_of_12 ?_
  first | refine A_iaddN d_M_of_13 (by with_reducible rfl) (by with_reducible rfl) ?_ | refine A_iadd d_M_of_13 ?_
  refine A_ialdN d_M_of_14 hM.a6 ⟨by omega, by decide⟩ ?_
  refine A_iret d_M_of_15 rfl ⟨Nat.zero_le _, Nat.zero_le _⟩ ?_
  exact pu (by rw [hx])
theorem inB_nat {l : Int32} {n : Nat} (hn : n < 2 ^ 31) (h : inB l (nI 0) (nI n - nI 1) = true) : ∃ k, l = nI k ∧ k < n := by
  simp only [inB, Bool.and_eq_true, Bool.not_eq_true', decide_eq_false_iff_not] at h
  obtain ⟨j, hj, rfl⟩ := nI_of (x := l) (by have := h.1; rwa [show nI 0 = 0 from rfl] at this)
  refine ⟨j, rfl, ?_⟩
  rcases Nat.eq_zero_or_pos n with z | z
  · subst z
    have h2 := h.2
    rw [show nI 0 - nI 1 = -1 by decide] at h2
    exfalso
    apply h2
    rw [Int32.lt_iff_toInt_lt, nI_toInt hj]
    have : (-1 : Int32).toInt = -1 := by decide
    omega
  · rw [nI_sub (by omega), nI_ltI (by omega) hj] at h
    omega
theorem inB_nI {k n : Nat} (hk : k < n) (hn : n < 2 ^ 31) : inB (nI k) (nI 0) (nI n - nI 1) = true := by
  rw [nI_sub (by omega), inB_N (by omega) (by decide) (by omega)]
  simp
  omega
set_option maxHeartbeats 4000000 in
set_option maxRecDepth 100000 in
theorem c_M_hand {G : GE} {h0 h : AH} {m : Nat} {S : MS} (hM : MW h0 h m S) {n0 : Nat} (hc : S.2.2.1 5 0 = nI n0) (hn : n0 ≤ 2) {VL : Nat → Nat → Nat} (hV : ∀ l, l < n0 → ML S l (VL l)) (l : Int32) : Ctr G y_M_hand b_M_hand 2 (some .boolean) r_M_hand [.ref m, .int l] h (fun v h' => (∃ l', l = nI l' ∧ l' < n0 ∧ v = some (.int (bI true)) ∧ MW h0 h' m (handS S l' (VL l'))) ∨ (inB l (nI 0) (nI n0 - nI 1) = false ∧ v = some (.int (bI false)) ∧ h' = h)) := by
  refine Ctr.of (by decide +kernel) (by simp) (Nat.le_of_ble_eq_true rfl) (L0 := [some (.ref m), some (.int l)]) rfl ?_
  refine A_aload_n0 d_M_hand_0 ?_
  refine A_iconst (v := nI 0) d_M_hand_1 (by decide) ?_
  refine A_iload_n1 d_M_hand_2 ?_
  refine A_callVP d_M_hand_3 (c_M_is hM 0 (by decide) l) hM.o rfl q_1238 q_1240 qs_16 mk_M_is rfl (by decide) rfl (Nat.le_of_ble_eq_true rfl) ⟨Nat.le_of_ble_eq_true rfl, Nat.le_of_ble_eq_true rfl⟩ ⟨rfl, rfl⟩ ?_
  refine A_topI (by rw [hc]) ?_
  refine A_if_neB (tgt := 11) d_M_hand_6 (by decide) (fun c_6 => ?_) (fun c_6 => ?_)
  · obtain ⟨l', rfl, hl⟩ := inB_nat (by omega) c_6
    have hVl := hV l' hl
    refine A_aload_n0 d_M_hand_11 ?_
    refine A_iload_n1 d_M_hand_12 ?_
    refine A_putM hM (kf := 26) (ty := .int) d_M_hand_13 (by decide) q_1075 rfl (by decide +kernel) (by first | rfl | exact bI_nar _) rfl (Nat.le_of_ble_eq_true rfl) rfl (fun h hM => ?_)
    refine A_aload_n0 d_M_hand_16 ?_
    refine A_aload_n0 d_M_hand_17 ?_
    refine A_iconst (v := nI 0) d_M_hand_18 (by decide) ?_
    refine A_callVP d_M_hand_19 (c_M_of0 hM (by omega) rfl 0 (by decide) (x := nI (VL l' 0)) ((hVl.2.2 0 (by decide)))) hM.o rfl q_1343 q_1345 qs_36 mk_M_of rfl (by decide) rfl (Nat.le_of_ble_eq_true rfl) ⟨Nat.le_of_ble_eq_true rfl, Nat.le_of_ble_eq_true rfl⟩ ⟨rfl, rfl⟩ ?_
    refine A_putM hM (kf := 27) (ty := .int) d_M_hand_22 (by decide) q_1076 rfl (by decide +kernel) (by first | rfl | exact bI_nar _) rfl (Nat.le_of_ble_eq_true rfl) rfl (fun h hM => ?_)
    refine A_aload_n0 d_M_hand_25 ?_
    refine A_aload_n0 d_M_hand_26 ?_
    refine A_iconst (v := nI 1) d_M_hand_27 (by decide) ?_
    refine A_callVP d_M_hand_28 (c_M_of0 hM (by omega) rfl 1 (by decide) (x := nI (VL l' 1)) ((hVl.2.2 1 (by decide)))) hM.o rfl q_1343 q_1345 qs_36 mk_M_of rfl (by decide) rfl (Nat.le_of_ble_eq_true rfl) ⟨Nat.le_of_ble_eq_true rfl, Nat.le_of_ble_eq_true rfl⟩ ⟨rfl, rfl⟩ ?_
    refine A_putM hM (kf := 28) (ty := .int) d_M_hand_31 (by decide) q_1077 rfl (by decide +kernel) (by first | rfl | exact bI_nar _) rfl (Nat.le_of_ble_eq_true rfl) rfl (fun h hM => ?_)
    refine A_aload_n0 d_M_hand_34 ?_
    refine A_aload_n0 d_M_hand_35 ?_
    refine A_iconst (v := nI 4) d_M_hand_36 (by decide) ?_
    refine A_callVP d_M_hand_37 (c_M_of0 hM (by omega) rfl 4 (by decide) (x := nI (VL l' 4)) ((hVl.2.2 4 (by decide)))) hM.o rfl q_1343 q_1345 qs_36 mk_M_of rfl (by decide) rfl (Nat.le_of_ble_eq_true rfl) ⟨Nat.le_of_ble_eq_true rfl, Nat.le_of_ble_eq_true rfl⟩ ⟨rfl, rfl⟩ ?_
    refine A_putM hM (kf := 29) (ty := .int) d_M_hand_40 (by decide) q_1078 rfl (by decide +kernel) (by first | rfl | exact bI_nar _) rfl (Nat.le_of_ble_eq_true rfl) rfl (fun h hM => ?_)
    refine A_aload_n0 d_M_hand_43 ?_
    refine A_aload_n0 d_M_hand_44 ?_
    refine A_iconst (v := nI 5) d_M_hand_45 (by decide) ?_
    refine A_callVP d_M_hand_46 (c_M_of0 hM (by omega) rfl 5 (by decide) (x := nI (VL l' 5)) ((hVl.2.2 5 (by decide)))) hM.o rfl q_1343 q_1345 qs_36 mk_M_of rfl (by decide) rfl (Nat.le_of_ble_eq_true rfl) ⟨Nat.le_of_ble_eq_true rfl, Nat.le_of_ble_eq_true rfl⟩ ⟨rfl, rfl⟩ ?_
    refine A_putM hM (kf := 30) (ty := .int) d_M_hand_49 (by decide) q_1079 rfl (by decide +kernel) (by first | rfl | exact bI_nar _) rfl (Nat.le_of_ble_eq_true rfl) rfl (fun h hM => ?_)
    refine A_iconst (v := nI 1) d_M_hand_52 (by decide) ?_
    refine A_zret d_M_hand_53 rfl (by first | rfl | exact bI_nar _ | decide) ⟨Nat.zero_le _, Nat.zero_le _⟩ ?_
    exact Or.inl ⟨l', rfl, hl, rfl, hM⟩
  · refine A_iconst (v := nI 0) d_M_hand_9 (by decide) ?_
    refine A_zret d_M_hand_10 rfl (by first | rfl | exact bI_nar _ | decide) ⟨Nat.zero_le _, Nat.zero_le _⟩ ?_
    exact Or.inr ⟨c_6, rfl, rfl⟩
set_option maxHeartbeats 4000000 in
set_option maxRecDepth 100000 in
theorem c_M_sleeps {G : GE} {h0 h : AH} {m : Nat} {S : MS} (hM : MW h0 h m S) {l : Nat} {V : Nat → Nat} (hS : HS S l V) (p d : Nat) (hp : p < 10) (hd : d ≤ V 0) : Ctr G y_M_sleeps b_M_sleeps 3 (some .boolean) r_M_sleeps [.ref m, .int (nI p), .int (nI d)] h (Pu (.int (bI (sleepsB V p d))) h) := by
  have hb := hS.ok.2.2.2.2.2.2.1 p hp
  have h0 := hS.ok.1
  refine Ctr.of (by decide +kernel) (by simp) (Nat.le_of_ble_eq_true rfl) (L0 := [some (.ref m), some (.int (nI p)), some (.int (nI d))]) rfl ?_
  refine A_iload_n2 d_M_sleeps_0 ?_
  refine A_aload_n0 d_M_sleeps_1 ?_
  refine A_iload_n1 d_M_sleeps_2 ?_
  refine A_iconst (v := nI 1) d_M_sleeps_3 (by decide) ?_
  refine A_callVP d_M_sleeps_4 (c_M_ofOne hM hS p 1 (by omega)) hM.o rfl q_1355 q_1357 qs_38 mk_M_ofOne rfl (by decide) rfl (Nat.le_of_ble_eq_true rfl) ⟨Nat.le_of_ble_eq_true rfl, Nat.le_of_ble_eq_true rfl⟩ ⟨rfl, rfl⟩ ?_
  first | refine A_icmp_ltN (tgt := 29) d_M_sleeps_7 (by decide) (by with_reducible rfl) (by with_reducible rfl) (by omega) (by omega) (fun c_7 => ?_) (fun c_7 => ?_) | refine A_icmp_lt (tgt := 29) d_M_sleeps_7 (by decide) (fun c_7 => ?_) (fun c_7 => ?_)
  · refine A_iconst (v := nI 0) d_M_sleeps_29 (by decide) ?_
    refine A_zret d_M_sleeps_30 rfl (by first | rfl | exact bI_nar _ | decide) ⟨Nat.zero_le _, Nat.zero_le _⟩ ?_
    exact pu (by simp only [sleepsB, bI]; simp [show ∀ a b : Nat, (decide (a ≤ b)) = !decide (b < a) from fun a b => by by_cases q : a ≤ b <;> simp [q] <;> omega]; omega)
  · refine A_aload_n0 d_M_sleeps_10 ?_
    refine A_getf (kf := 27) d_M_sleeps_11 hM.o ok_8 (by decide) q_1076 rfl ?_
    refine A_topI hS.hours ?_
    refine A_iload_n2 d_M_sleeps_14 ?_
    first | refine A_isubN d_M_sleeps_15 (by with_reducible rfl) (by with_reducible rfl) (by omega) ?_ | refine A_isub d_M_sleeps_15 ?_
    refine A_aload_n0 d_M_sleeps_16 ?_
    refine A_iload_n1 d_M_sleeps_17 ?_
    refine A_iconst (v := nI 2) d_M_sleeps_18 (by decide) ?_
    refine A_callVP d_M_sleeps_19 (c_M_ofOne hM hS p 2 (by omega)) hM.o rfl q_1355 q_1357 qs_38 mk_M_ofOne rfl (by decide) rfl (Nat.le_of_ble_eq_true rfl) ⟨Nat.le_of_ble_eq_true rfl, Nat.le_of_ble_eq_true rfl⟩ ⟨rfl, rfl⟩ ?_
    first | refine A_icmp_ltN (tgt := 29) d_M_sleeps_22 (by decide) (by with_reducible rfl) (by with_reducible rfl) (by omega) (by omega) (fun c_22 => ?_) (fun c_22 => ?_) | refine A_icmp_lt (tgt := 29) d_M_sleeps_22 (by decide) (fun c_22 => ?_) (fun c_22 => ?_)
    · refine A_iconst (v := nI 0) d_M_sleeps_29 (by decide) ?_
      refine A_zret d_M_sleeps_30 rfl (by first | rfl | exact bI_nar _ | decide) ⟨Nat.zero_le _, Nat.zero_le _⟩ ?_
      exact pu (by simp only [sleepsB, bI]; simp [show ∀ a b : Nat, (decide (a ≤ b)) = !decide (b < a) from fun a b => by by_cases q : a ≤ b <;> simp [q] <;> omega]; omega)
    · refine A_iconst (v := nI 1) d_M_sleeps_25 (by decide) ?_
      refine A_goto (tgt := 30) d_M_sleeps_26 (by decide) ?_
      refine A_zret d_M_sleeps_30 rfl (by first | rfl | exact bI_nar _ | decide) ⟨Nat.zero_le _, Nat.zero_le _⟩ ?_
      exact pu (by simp only [sleepsB, bI]; simp [show ∀ a b : Nat, (decide (a ≤ b)) = !decide (b < a) from fun a b => by by_cases q : a ≤ b <;> simp [q] <;> omega]; omega)
set_option maxHeartbeats 4000000 in
set_option maxRecDepth 100000 in
theorem c_M_cityAhead {G : GE} {h0 h : AH} {m : Nat} {S : MS} (hM : MW h0 h m S) {l : Nat} {V : Nat → Nat} (hS : HS S l V) {w : Nat → Nat} (hw : RW S w (V 0)) (x : Nat) (hx : x < V 0) : Ctr G y_M_cityAhead b_M_cityAhead 4 (some .int) r_M_cityAhead [.ref m, .int (nI x)] h (Pu (.int (caI w (V 0) x)) h) := by
  have h0 := hS.ok.1
  have key : ∀ k, k ≤ V 0 + 1 → 1 ≤ k → WA G y_M_cityAhead b_M_cityAhead 4 (some .int) r_M_cityAhead 0 0 (Pu (.int (firstU (fun k => !decide (w ((x + V 0 - k) % V 0) = 2)) (fun k => nI (w ((x + V 0 - k) % V 0))) (-1) (V 0 + 1) k)) h) 0 0 2 [some (.ref m), some (.int (nI x)), some (.int (nI k)), none] [] h := by
    refine down ?_ (fun k hk ih => ?_)
    · intro _
      refine A_iload_n2 d_M_cityAhead_2 ?_
      refine A_aload_n0 d_M_cityAhead_3 ?_
      refine A_getf (kf := 27) d_M_cityAhead_4 hM.o ok_8 (by decide) q_1076 rfl ?_
      refine A_topI hS.hours ?_
      first | refine A_icmp_gtN (tgt := 42) d_M_cityAhead_7 (by decide) (by with_reducible rfl) (by with_reducible rfl) (by omega) (by omega) (fun c_7 => ?_) (fun c_7 => ?_) | refine A_icmp_gt (tgt := 42) d_M_cityAhead_7 (by decide) (fun c_7 => ?_) (fun c_7 => ?_)
      · refine A_iconst (v := (-1)) d_M_cityAhead_42 (by decide) ?_
        refine A_iret d_M_cityAhead_43 rfl ⟨Nat.zero_le _, Nat.zero_le _⟩ ?_
        exact pu (by rw [firstU_end])
      · exact absurd c_7 (by omega)
    · intro hk1
      have hlt : (x + V 0 - k) % V 0 < V 0 := Nat.mod_lt _ (by omega)
      have hw2 := (hw _ hlt).2
      refine A_iload_n2 d_M_cityAhead_2 ?_
      refine A_aload_n0 d_M_cityAhead_3 ?_
      refine A_getf (kf := 27) d_M_cityAhead_4 hM.o ok_8 (by decide) q_1076 rfl ?_
      refine A_topI hS.hours ?_
      first | refine A_icmp_gtN (tgt := 42) d_M_cityAhead_7 (by decide) (by with_reducible rfl) (by with_reducible rfl) (by omega) (by omega) (fun c_7 => ?_) (fun c_7 => ?_) | refine A_icmp_gt (tgt := 42) d_M_cityAhead_7 (by decide) (fun c_7 => ?_) (fun c_7 => ?_)
      · exact absurd c_7 (by omega)
      · refine A_aload_n0 d_M_cityAhead_10 ?_
        refine A_getf (kf := 31) d_M_cityAhead_11 hM.o ok_8 (by decide) q_1080 rfl ?_
        refine A_iload_n1 d_M_cityAhead_14 ?_
        refine A_aload_n0 d_M_cityAhead_15 ?_
        refine A_getf (kf := 27) d_M_cityAhead_16 hM.o ok_8 (by decide) q_1076 rfl ?_
        refine A_topI hS.hours ?_
        first | refine A_iaddN d_M_cityAhead_19 (by with_reducible rfl) (by with_reducible rfl) ?_ | refine A_iadd d_M_cityAhead_19 ?_
        refine A_iload_n2 d_M_cityAhead_20 ?_
        first | refine A_isubN d_M_cityAhead_21 (by with_reducible rfl) (by with_reducible rfl) (by omega) ?_ | refine A_isub d_M_cityAhead_21 ?_
        refine A_aload_n0 d_M_cityAhead_22 ?_
        refine A_getf (kf := 27) d_M_cityAhead_23 hM.o ok_8 (by decide) q_1076 rfl ?_
        refine A_topI hS.hours ?_
        refine A_iremN d_M_cityAhead_26 (by with_reducible rfl) (by with_reducible rfl) (by omega) ?_
        refine A_ialdN d_M_cityAhead_27 hM.a31 ⟨by omega, by decide⟩ ?_
        refine A_topI (hw _ hlt).1 ?_
        refine A_istore3 d_M_cityAhead_28 trivial ?_
        refine A_iload_n3 d_M_cityAhead_29 ?_
        refine A_iconst (v := nI 2) d_M_cityAhead_30 (by decide) ?_
        first | refine A_icmp_eqN (tgt := 36) d_M_cityAhead_31 (by decide) (by with_reducible rfl) (by with_reducible rfl) (by omega) (by omega) (fun c_31 => ?_) (fun c_31 => ?_) | refine A_icmp_eq (tgt := 36) d_M_cityAhead_31 (by decide) (fun c_31 => ?_) (fun c_31 => ?_)
        · first | refine A_iinc2 d_M_cityAhead_36 (nI_1 _) trivial ?_ | refine A_iinc2 d_M_cityAhead_36 rfl trivial ?_
          refine A_goto (tgt := 2) d_M_cityAhead_39 (by decide) ?_
          refine A_drop3 ?_
          rw [firstU_step _ _ _ (by omega)]
          rw [if_neg (by simp [c_7, c_31])]
          exact ih (by omega)
        · refine A_iload_n3 d_M_cityAhead_34 ?_
          refine A_iret d_M_cityAhead_35 rfl ⟨Nat.zero_le _, Nat.zero_le _⟩ ?_
          exact pu (by rw [firstU_step _ _ _ (by omega), if_pos (by simp [c_7, c_31])])
  refine Ctr.of (by decide +kernel) (by simp) (Nat.le_of_ble_eq_true rfl) (L0 := [some (.ref m), some (.int (nI x)), none, none]) rfl ?_
  refine A_iconst (v := nI 1) d_M_cityAhead_0 (by decide) ?_
  refine A_istore2 d_M_cityAhead_1 trivial ?_
  exact key 1 (by omega) (by omega)
