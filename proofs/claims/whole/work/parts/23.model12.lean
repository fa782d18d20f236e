theorem inB_lt {k n : Nat} (hk : k < 2 ^ 31) (hn : n < 2 ^ 31) : inB (nI k) (nI 0) (nI n - nI 1) = decide (k < n) := by
  by_cases q : k < n
  · rw [inB_nI q hn, decide_eq_true q]
  · rw [decide_eq_false q]
    cases e : inB (nI k) (nI 0) (nI n - nI 1) with
    | false => rfl
    | true =>
      obtain ⟨j, h1, h2⟩ := inB_nat hn e
      have := (nI_eq hk (by omega)).mp h1
      omega
/-- a sight chosen -/
def HI (S : MS) (s : Nat) (sg : Nat → Nat) : Prop := MSi S s sg ∧ S.1 48 = nI s
theorem HI.mk2 {S : MS} {c : Nat → Nat} {VL WT BK SG GM : Nat → Nat → Nat} (hp : MP S c VL WT BK SG GM) {b : Nat} (hb : b < c 3) (h : S.1 48 = nI b) : HI S b (SG b) := ⟨hp.2.2.2.2.1 b hb, h⟩
def seenV (sg : Nat → Nat) (k x : Int32) : Int32 := if k = -1 then (if x = 0 then nI (sg 0) else -2) else pick (sg 0) k (fun i => rg x 0 2 (fun j => nI (sg (1 + 3 * i + j))) (-2)) (-2)
def awayI (H a n : Nat) : Int32 := foldN (fun k x => x ||| nI (2 ^ ((a + k) % H))) (nI 0) n
def badB (V w sg : Nat → Nat) (away : Int32) (k : Nat) : Bool := (decide (w (sg (1 + 3 * k + 1)) = V (42 + 27 * sg (1 + 3 * k + 0) + 0)) && !hasB away (nI (sg (1 + 3 * k + 1)))) != decide (sg (1 + 3 * k + 2) = 1)
def fitB (V w sg : Nat → Nat) (away : Int32) : Bool := firstU (badB V w sg away) (fun _ => false) true (sg 0) 0
def offB (V sg : Nat → Nat) (k : Nat) : Bool := !(decide (sg (1 + 3 * k + 0) < V 4) && decide (sg (1 + 3 * k + 1) < V 0))
def thereB (V sg : Nat → Nat) : Bool := firstU (offB V sg) (fun _ => false) true (sg 0) 0
theorem firstU_all {c : Nat → Bool} {n : Nat} : ∀ {i : Nat}, i ≤ n → firstU c (fun _ => false) true n i = true → ∀ k, i ≤ k → k < n → c k = false := by
  intro i hi
  obtain ⟨r, rfl⟩ : ∃ r, n = i + r := ⟨n - i, by omega⟩
  induction r generalizing i with
  | zero => intro _ k h1 h2; omega
  | succ r ih =>
    intro h k h1 h2
    rw [firstU_step _ _ _ (by omega)] at h
    cases e : c i with
    | true => rw [e] at h; simp at h
    | false =>
      rw [e, if_neg (by decide)] at h
      rcases Nat.eq_or_lt_of_le h1 with q | q
      · rw [← q]; exact e
      · exact ih (i := i + 1) (by omega) (by rw [show i + 1 + r = i + (r + 1) by omega]; exact h) k q (by omega)
def stStep (V w sg : Nat → Nat) (n a : Nat) (st : Nat × Int32 × Int32 × Int32) : Nat × Int32 × Int32 × Int32 :=
  if fitB V w sg (awayI (V 0) a n) then (st.1 + 1, st.2.1 &&& awayI (V 0) a n, if st.1 = 0 then nI n else st.2.2.1, if st.1 = 0 then nI a else st.2.2.2) else st
def fromsN (H n : Nat) : Nat := if n = 0 then 1 else if n = H then 1 else H
def stIn (V w sg : Nat → Nat) (n : Nat) (st : Nat × Int32 × Int32 × Int32) : Nat → Nat × Int32 × Int32 × Int32 := foldN (stStep V w sg n) st
def stOut (V w sg : Nat → Nat) : Nat → Nat × Int32 × Int32 × Int32 := foldN (fun n st => stIn V w sg n st (fromsN (V 0) n)) (0, nI (2 ^ V 0 - 1), -1, -1)
def stolenV (V w sg : Nat → Nat) (k : Nat) : Int32 := if k = 0 then nI (stOut V w sg (V 0 + 1)).1 else if k = 1 then (if (stOut V w sg (V 0 + 1)).1 = 0 then nI 0 else (stOut V w sg (V 0 + 1)).2.1) else if k = 2 then (stOut V w sg (V 0 + 1)).2.2.1 else (stOut V w sg (V 0 + 1)).2.2.2
theorem stIn_le (V w sg : Nat → Nat) (n : Nat) (st : Nat × Int32 × Int32 × Int32) : ∀ a, (stIn V w sg n st a).1 ≤ st.1 + a
  | 0 => Nat.le_refl _
  | a + 1 => by
    have := stIn_le V w sg n st a
    simp only [stIn, foldN, stStep] at this ⊢
    split
    · simp only; omega
    · omega
theorem fromsN_le {H n : Nat} (h : 4 ≤ H) : fromsN H n ≤ H := by unfold fromsN; split; omega; split <;> omega
theorem stOut_le (V w sg : Nat → Nat) (h : 4 ≤ V 0) : ∀ n, (stOut V w sg n).1 ≤ n * V 0
  | 0 => by simp [stOut, foldN]
  | n + 1 => by
    have h1 := stOut_le V w sg h n
    have h2 := stIn_le V w sg n (stOut V w sg n) (fromsN (V 0) n)
    have h3 := fromsN_le (n := n) h
    rw [Nat.succ_mul]
    show (stIn V w sg n (stOut V w sg n) (fromsN (V 0) n)).1 ≤ _
    omega
set_option maxHeartbeats 4000000 in
set_option maxRecDepth 100000 in
theorem c_M_hasSight {G : GE} {h0 h : AH} {m : Nat} {S : MS} (hM : MW h0 h m S) {c : Nat → Nat} {VL WT BK SG GM : Nat → Nat → Nat} (hp : MP S c VL WT BK SG GM) (ba : Int32) : Ctr G y_M_hasSight b_M_hasSight 2 (some .boolean) r_M_hasSight [.ref m, .int ba] h (fun v h' => v = some (.int (bI (inB ba (nI 0) (nI (c 3) - nI 1)))) ∧ MW h0 h' m (S.sf 48 ba)) := by
  refine Ctr.of (by decide +kernel) (by simp) (Nat.le_of_ble_eq_true rfl) (L0 := [some (.ref m), some (.int ba)]) rfl ?_
  refine A_aload_n0 d_M_hasSight_0 ?_
  refine A_iload_n1 d_M_hasSight_1 ?_
  refine A_putM hM (kf := 48) (ty := .int) d_M_hasSight_2 (by decide) q_1097 rfl (by decide +kernel) (by first | rfl | exact bI_nar _) rfl (Nat.le_of_ble_eq_true rfl) rfl (fun h hM => ?_)
  refine A_aload_n0 d_M_hasSight_5 ?_
  refine A_iconst (v := nI 3) d_M_hasSight_6 (by decide) ?_
  refine A_iload_n1 d_M_hasSight_7 ?_
  refine A_callVP d_M_hasSight_8 (c_M_is hM 3 (by decide) ba) hM.o rfl q_1238 q_1240 qs_16 mk_M_is rfl (by decide) rfl (Nat.le_of_ble_eq_true rfl) ⟨Nat.le_of_ble_eq_true rfl, Nat.le_of_ble_eq_true rfl⟩ ⟨rfl, rfl⟩ ?_
  refine A_topI (by rw [show (S.sf 48 ba).2.2.1 5 3 = nI (c 3) from (hp.1 3 (by decide)).1]) ?_
  refine A_zret d_M_hasSight_11 rfl (by first | rfl | exact bI_nar _ | decide) ⟨Nat.zero_le _, Nat.zero_le _⟩ ?_
  exact ⟨rfl, hM⟩
set_option maxHeartbeats 4000000 in
set_option maxRecDepth 100000 in
theorem c_M_seenMany {G : GE} {h0 h : AH} {m : Nat} {S : MS} (hM : MW h0 h m S) {b : Nat} {sg : Nat → Nat} (hB : HI S b sg)  : Ctr G y_M_seenMany b_M_seenMany 1 (some .int) r_M_seenMany [.ref m] h (Pu (.int (nI (sg 0))) h) := by
  have hb := hB.1.1
  refine Ctr.of (by decide +kernel) (by simp) (Nat.le_of_ble_eq_true rfl) (L0 := [some (.ref m)]) rfl ?_
  refine A_aload_n0 d_M_seenMany_0 ?_
  refine A_getf (kf := 9) d_M_seenMany_1 hM.o ok_8 (by decide) q_1058 rfl ?_
  refine A_bipush (v := nI 61) d_M_seenMany_4 (by decide) ?_
  refine A_aload_n0 d_M_seenMany_6 ?_
  refine A_getf (kf := 48) d_M_seenMany_7 hM.o ok_8 (by decide) q_1097 rfl ?_
  refine A_topI hB.2 ?_
  first | refine A_imulN d_M_seenMany_10 (by with_reducible rfl) (by with_reducible rfl) ?_ | refine A_imul d_M_seenMany_10 ?_
  refine A_ialdN d_M_seenMany_11 hM.a9 ⟨by omega, by decide⟩ ?_
  refine A_iret d_M_seenMany_12 rfl ⟨Nat.zero_le _, Nat.zero_le _⟩ ?_
  exact pu (by rw [show 61 * b = 61 * b + 0 from rfl, hB.1.2.2 0 (by decide)])
set_option maxHeartbeats 4000000 in
set_option maxRecDepth 100000 in
theorem c_M_seenOf {G : GE} {h0 h : AH} {m : Nat} {S : MS} (hM : MW h0 h m S) {b : Nat} {sg : Nat → Nat} (hB : HI S b sg) (k x : Nat) (hk : 1 + 3 * k + x < 61) : Ctr G y_M_seenOf b_M_seenOf 3 (some .int) r_M_seenOf [.ref m, .int (nI k), .int (nI x)] h (Pu (.int (nI (sg (1 + 3 * k + x)))) h) := by
  have hb := hB.1.1
  refine Ctr.of (by decide +kernel) (by simp) (Nat.le_of_ble_eq_true rfl) (L0 := [some (.ref m), some (.int (nI k)), some (.int (nI x))]) rfl ?_
  refine A_aload_n0 d_M_seenOf_0 ?_
  refine A_getf (kf := 9) d_M_seenOf_1 hM.o ok_8 (by decide) q_1058 rfl ?_
  refine A_bipush (v := nI 61) d_M_seenOf_4 (by decide) ?_
  refine A_aload_n0 d_M_seenOf_6 ?_
  refine A_getf (kf := 48) d_M_seenOf_7 hM.o ok_8 (by decide) q_1097 rfl ?_
  refine A_topI hB.2 ?_
  first | refine A_imulN d_M_seenOf_10 (by with_reducible rfl) (by with_reducible rfl) ?_ | refine A_imul d_M_seenOf_10 ?_
  refine A_iconst (v := nI 1) d_M_seenOf_11 (by decide) ?_
  first | refine A_iaddN d_M_seenOf_12 (by with_reducible rfl) (by with_reducible rfl) ?_ | refine A_iadd d_M_seenOf_12 ?_
  refine A_iconst (v := nI 3) d_M_seenOf_13 (by decide) ?_
  refine A_iload_n1 d_M_seenOf_14 ?_
  first | refine A_imulN d_M_seenOf_15 (by with_reducible rfl) (by with_reducible rfl) ?_ | refine A_imul d_M_seenOf_15 ?_
  first | refine A_iaddN d_M_seenOf_16 (by with_reducible rfl) (by with_reducible rfl) ?_ | refine A_iadd d_M_seenOf_16 ?_
  refine A_iload_n2 d_M_seenOf_17 ?_
  first | refine A_iaddN d_M_seenOf_18 (by with_reducible rfl) (by with_reducible rfl) ?_ | refine A_iadd d_M_seenOf_18 ?_
  refine A_topN (k := 61 * b + (1 + 3 * k + x)) (congrArg nI (by omega)) ?_
  refine A_ialdN d_M_seenOf_19 hM.a9 ⟨by omega, by decide⟩ ?_
  refine A_iret d_M_seenOf_20 rfl ⟨Nat.zero_le _, Nat.zero_le _⟩ ?_
  exact pu (by rw [hB.1.2.2 _ hk])
set_option maxHeartbeats 4000000 in
set_option maxRecDepth 100000 in
theorem c_M_seen {G : GE} {h0 h : AH} {m : Nat} {S : MS} (hM : MW h0 h m S) {c : Nat → Nat} {VL WT BK SG GM : Nat → Nat → Nat} (hp : MP S c VL WT BK SG GM) (ba k x : Int32) : Ctr G y_M_seen b_M_seen 4 (some .int) r_M_seen [.ref m, .int ba, .int k, .int x] h (TK h0 m S (.int (pick (c 3) ba (fun b => seenV (SG b) k x) (-2)))) := by
  have hc3 := (hp.1 3 (by decide)).2
  refine Ctr.of (by decide +kernel) (by simp) (Nat.le_of_ble_eq_true rfl) (L0 := [some (.ref m), some (.int ba), some (.int k), some (.int x)]) rfl ?_
  refine A_aload_n0 d_M_seen_0 ?_
  refine A_iconst (v := nI 0) d_M_seen_1 (by decide) ?_
  refine A_putM hM (kf := 0) (ty := .int) d_M_seen_2 (by decide) q_1049 rfl (by decide +kernel) (by first | rfl | exact bI_nar _) rfl (Nat.le_of_ble_eq_true rfl) rfl (fun h hM => ?_)
  have hp := hp.keep (Keep.sf _ 0 (nI 0))
  refine A_aload_n0 d_M_seen_5 ?_
  refine A_iload_n1 d_M_seen_6 ?_
  refine A_callV d_M_seen_7 (c_M_hasSight hM hp ba) hM.o rfl q_1641 q_1643 qs_90 mk_M_hasSight rfl (by decide) rfl (Nat.le_of_ble_eq_true rfl) ⟨Nat.le_of_ble_eq_true rfl, Nat.le_of_ble_eq_true rfl⟩ (fun v h1 hv => ?_)
  obtain ⟨rfl, hM⟩ := hv
  have hp := hp.keep (Keep.sf _ 48 ba)
  dsimp only [Option.toList, List.cons_append, List.nil_append]
  refine A_if_neB (tgt := 16) d_M_seen_10 (by decide) (fun c_10 => ?_) (fun c_10 => ?_)
  · obtain ⟨b, rfl, hb⟩ := inB_nat (by omega) c_10
    have hB : HI _ b (SG b) := HI.mk2 hp hb rfl
    refine A_iload_n2 d_M_seen_16 ?_
    refine A_iconst (v := (-1)) d_M_seen_17 (by decide) ?_
    first | refine A_icmp_neN (tgt := 35) d_M_seen_18 (by decide) (by with_reducible rfl) (by with_reducible rfl) (by omega) (by omega) (fun c_18 => ?_) (fun c_18 => ?_) | refine A_icmp_ne (tgt := 35) d_M_seen_18 (by decide) (fun c_18 => ?_) (fun c_18 => ?_)
    · refine A_iload_n2 d_M_seen_35 ?_
      refine A_iconst (v := nI 0) d_M_seen_36 (by decide) ?_
      refine A_aload_n0 d_M_seen_37 ?_
      refine A_callVP d_M_seen_38 (c_M_seenMany hM hB) hM.o rfl q_1645 q_1647 qs_91 mk_M_seenMany rfl (by decide) rfl (Nat.le_of_ble_eq_true rfl) ⟨Nat.le_of_ble_eq_true rfl, Nat.le_of_ble_eq_true rfl⟩ ⟨rfl, rfl⟩ ?_
      refine A_iconst (v := nI 1) d_M_seen_41 (by decide) ?_
      first | refine A_isubN d_M_seen_42 (by with_reducible rfl) (by with_reducible rfl) (by omega) ?_ | refine A_isub d_M_seen_42 ?_
      refine A_callSP d_M_seen_43 (c_M_in _ _ _ _) q_1231 q_1232 mk_M_in rfl (by decide) rfl (Nat.le_of_ble_eq_true rfl) ⟨Nat.le_of_ble_eq_true rfl, Nat.le_of_ble_eq_true rfl⟩ ⟨rfl, rfl⟩ ?_
      refine A_if_eqB (tgt := 67) d_M_seen_46 (by decide) (fun c_46 => ?_) (fun c_46 => ?_)
      · refine A_bipush (v := (-2)) d_M_seen_67 (by decide) ?_
        refine A_iret d_M_seen_69 rfl ⟨Nat.zero_le _, Nat.zero_le _⟩ ?_
        first | exact tk hM (fun _ _ => rfl) (by rw [pick_in hb (by omega), seenV, if_neg c_18, pick_out c_46]) | exact tk hM (fun _ _ => rfl) (by rw [pick_in hb (by omega), seenV, if_neg c_18, pick_in hi (by have := hB.1.2.1.1; omega), rg_out c_55]) | exact tk hM (fun _ _ => rfl) (by rw [pick_in hb (by omega), seenV, if_neg c_18, pick_in hi (by have := hB.1.2.1.1; omega), rg_in ⟨hj1, hj2⟩ (by decide)])
      · obtain ⟨i, rfl, hi⟩ := inB_nat (by have := hB.1.2.1.1; omega) c_46
        refine A_iload_n3 d_M_seen_49 ?_
        refine A_iconst (v := nI 0) d_M_seen_50 (by decide) ?_
        refine A_iconst (v := nI 2) d_M_seen_51 (by decide) ?_
        refine A_callSP d_M_seen_52 (c_M_in _ _ _ _) q_1231 q_1232 mk_M_in rfl (by decide) rfl (Nat.le_of_ble_eq_true rfl) ⟨Nat.le_of_ble_eq_true rfl, Nat.le_of_ble_eq_true rfl⟩ ⟨rfl, rfl⟩ ?_
        refine A_if_eqB (tgt := 67) d_M_seen_55 (by decide) (fun c_55 => ?_) (fun c_55 => ?_)
        · refine A_bipush (v := (-2)) d_M_seen_67 (by decide) ?_
          refine A_iret d_M_seen_69 rfl ⟨Nat.zero_le _, Nat.zero_le _⟩ ?_
          first | exact tk hM (fun _ _ => rfl) (by rw [pick_in hb (by omega), seenV, if_neg c_18, pick_out c_46]) | exact tk hM (fun _ _ => rfl) (by rw [pick_in hb (by omega), seenV, if_neg c_18, pick_in hi (by have := hB.1.2.1.1; omega), rg_out c_55]) | exact tk hM (fun _ _ => rfl) (by rw [pick_in hb (by omega), seenV, if_neg c_18, pick_in hi (by have := hB.1.2.1.1; omega), rg_in ⟨hj1, hj2⟩ (by decide)])
        · obtain ⟨j, rfl, hj1, hj2⟩ := inB_ex (by decide) c_55
          refine A_aload_n0 d_M_seen_58 ?_
          refine A_iload_n2 d_M_seen_59 ?_
          refine A_iload_n3 d_M_seen_60 ?_
          refine A_callVP d_M_seen_61 (c_M_seenOf hM hB i j (by have := hB.1.2.1.1; omega)) hM.o rfl q_1649 q_1651 qs_92 mk_M_seenOf rfl (by decide) rfl (Nat.le_of_ble_eq_true rfl) ⟨Nat.le_of_ble_eq_true rfl, Nat.le_of_ble_eq_true rfl⟩ ⟨rfl, rfl⟩ ?_
          refine A_goto (tgt := 69) d_M_seen_64 (by decide) ?_
          refine A_iret d_M_seen_69 rfl ⟨Nat.zero_le _, Nat.zero_le _⟩ ?_
          first | exact tk hM (fun _ _ => rfl) (by rw [pick_in hb (by omega), seenV, if_neg c_18, pick_out c_46]) | exact tk hM (fun _ _ => rfl) (by rw [pick_in hb (by omega), seenV, if_neg c_18, pick_in hi (by have := hB.1.2.1.1; omega), rg_out c_55]) | exact tk hM (fun _ _ => rfl) (by rw [pick_in hb (by omega), seenV, if_neg c_18, pick_in hi (by have := hB.1.2.1.1; omega), rg_in ⟨hj1, hj2⟩ (by decide)])
    · refine A_iload_n3 d_M_seen_21 ?_
      first | refine A_if_neN (tgt := 32) d_M_seen_22 (by decide) (by with_reducible rfl) (by omega) (fun c_22 => ?_) (fun c_22 => ?_) | refine A_if_ne (tgt := 32) d_M_seen_22 (by decide) (fun c_22 => ?_) (fun c_22 => ?_)
      · refine A_bipush (v := (-2)) d_M_seen_32 (by decide) ?_
        refine A_iret d_M_seen_34 rfl ⟨Nat.zero_le _, Nat.zero_le _⟩ ?_
        first | exact tk hM (fun _ _ => rfl) (by rw [pick_in hb (by omega), seenV, if_pos c_18, if_pos c_22]) | exact tk hM (fun _ _ => rfl) (by rw [pick_in hb (by omega), seenV, if_pos c_18, if_neg c_22])
      · refine A_aload_n0 d_M_seen_25 ?_
        refine A_callVP d_M_seen_26 (c_M_seenMany hM hB) hM.o rfl q_1645 q_1647 qs_91 mk_M_seenMany rfl (by decide) rfl (Nat.le_of_ble_eq_true rfl) ⟨Nat.le_of_ble_eq_true rfl, Nat.le_of_ble_eq_true rfl⟩ ⟨rfl, rfl⟩ ?_
        refine A_goto (tgt := 34) d_M_seen_29 (by decide) ?_
        refine A_iret d_M_seen_34 rfl ⟨Nat.zero_le _, Nat.zero_le _⟩ ?_
        first | exact tk hM (fun _ _ => rfl) (by rw [pick_in hb (by omega), seenV, if_pos c_18, if_pos c_22]) | exact tk hM (fun _ _ => rfl) (by rw [pick_in hb (by omega), seenV, if_pos c_18, if_neg c_22])
  · refine A_bipush (v := (-2)) d_M_seen_13 (by decide) ?_
    refine A_iret d_M_seen_15 rfl ⟨Nat.zero_le _, Nat.zero_le _⟩ ?_
    exact tk hM (fun _ _ => rfl) (by rw [pick_out c_10])
set_option maxHeartbeats 4000000 in
set_option maxRecDepth 100000 in
theorem c_M_awayFor {G : GE} {h0 h : AH} {m : Nat} {S : MS} (hM : MW h0 h m S) {l : Nat} {V : Nat → Nat} (hS : HS S l V) (a z : Nat) (ha : a < 2 ^ 30) (hz : z < 2 ^ 30) : Ctr G y_M_awayFor b_M_awayFor 5 (some .int) r_M_awayFor [.ref m, .int (nI a), .int (nI z)] h (Pu (.int (awayI (V 0) a z)) h) := by
  have hH := hS.ok.1
  have key : ∀ i, i ≤ z → WA G y_M_awayFor b_M_awayFor 5 (some .int) r_M_awayFor 0 0 (Pu (.int (awayI (V 0) a z)) h) 0 0 5 [some (.ref m), some (.int (nI a)), some (.int (nI z)), some (.int (awayI (V 0) a i)), some (.int (nI i))] [] h := by
    refine down ?_ (fun i hi ih => ?_)
    · refine A_iload4 d_M_awayFor_5 ?_
      refine A_iload_n2 d_M_awayFor_7 ?_
      first | refine A_icmp_geN (tgt := 31) d_M_awayFor_8 (by decide) (by with_reducible rfl) (by with_reducible rfl) (by omega) (by omega) (fun c_8 => ?_) (fun c_8 => ?_) | refine A_icmp_ge (tgt := 31) d_M_awayFor_8 (by decide) (fun c_8 => ?_) (fun c_8 => ?_)
      · refine A_iload_n3 d_M_awayFor_31 ?_
        refine A_iret d_M_awayFor_32 rfl ⟨Nat.zero_le _, Nat.zero_le _⟩ ?_
        exact pu rfl
      · exact absurd c_8 (by omega)
    · refine A_iload4 d_M_awayFor_5 ?_
      refine A_iload_n2 d_M_awayFor_7 ?_
      first | refine A_icmp_geN (tgt := 31) d_M_awayFor_8 (by decide) (by with_reducible rfl) (by with_reducible rfl) (by omega) (by omega) (fun c_8 => ?_) (fun c_8 => ?_) | refine A_icmp_ge (tgt := 31) d_M_awayFor_8 (by decide) (fun c_8 => ?_) (fun c_8 => ?_)
      · exact absurd c_8 (by omega)
      · refine A_iload_n3 d_M_awayFor_11 ?_
        refine A_iconst (v := nI 1) d_M_awayFor_12 (by decide) ?_
        refine A_iload_n1 d_M_awayFor_13 ?_
        refine A_iload4 d_M_awayFor_14 ?_
        first | refine A_iaddN d_M_awayFor_16 (by with_reducible rfl) (by with_reducible rfl) ?_ | refine A_iadd d_M_awayFor_16 ?_
        refine A_aload_n0 d_M_awayFor_17 ?_
        refine A_getf (kf := 27) d_M_awayFor_18 hM.o ok_8 (by decide) q_1076 rfl ?_
        refine A_topI hS.hours ?_
        refine A_iremN d_M_awayFor_21 (by with_reducible rfl) (by with_reducible rfl) (by omega) ?_
        refine A_ishl d_M_awayFor_22 ?_
        refine A_topI (sh1 (by have := Nat.mod_lt (a + i) (show V 0 > 0 by omega); omega)) ?_
        refine A_ior d_M_awayFor_23 ?_
        refine A_istore3 d_M_awayFor_24 trivial ?_
        first | refine A_iinc4 d_M_awayFor_25 (nI_1 _) trivial ?_ | refine A_iinc4 d_M_awayFor_25 rfl trivial ?_
        refine A_goto (tgt := 5) d_M_awayFor_28 (by decide) ?_
        exact ih
  refine Ctr.of (by decide +kernel) (by simp) (Nat.le_of_ble_eq_true rfl) (L0 := [some (.ref m), some (.int (nI a)), some (.int (nI z)), none, none]) rfl ?_
  refine A_iconst (v := nI 0) d_M_awayFor_0 (by decide) ?_
  refine A_istore3 d_M_awayFor_1 trivial ?_
  refine A_iconst (v := nI 0) d_M_awayFor_2 (by decide) ?_
  refine A_istore4 d_M_awayFor_3 trivial ?_
  exact key 0 (Nat.zero_le _)
set_option maxHeartbeats 4000000 in
set_option maxRecDepth 100000 in
theorem c_M_fits {G : GE} {h0 h : AH} {m : Nat} {S : MS} (hM : MW h0 h m S) {l : Nat} {V : Nat → Nat} (hS : HS S l V) {w : Nat → Nat} (hw : RW S w (V 0)) {b : Nat} {sg : Nat → Nat} (hB : HI S b sg) (hth : ∀ k, k < sg 0 → sg (1 + 3 * k + 0) < V 4 ∧ sg (1 + 3 * k + 1) < V 0) (x : Int32) : Ctr G y_M_fits b_M_fits 5 (some .boolean) r_M_fits [.ref m, .int x] h (Pu (.int (bI (fitB V w sg x))) h) := by
  have hH := hS.ok.1
  have hP := hS.ok.2.2.2.2.1
  have hn := hB.1.2.1.1
  have key : ∀ i, i ≤ sg 0 → WA G y_M_fits b_M_fits 5 (some .boolean) r_M_fits 0 0 (Pu (.int (bI (firstU (badB V w sg x) (fun _ => false) true (sg 0) i))) h) 0 0 2 [some (.ref m), some (.int x), some (.int (nI i)), none, none] [] h := by
    refine down ?_ (fun i hi ih => ?_)
    · refine A_iload_n2 d_M_fits_2 ?_
      refine A_aload_n0 d_M_fits_3 ?_
      refine A_callVP d_M_fits_4 (c_M_seenMany hM hB) hM.o rfl q_1645 q_1647 qs_91 mk_M_seenMany rfl (by decide) rfl (Nat.le_of_ble_eq_true rfl) ⟨Nat.le_of_ble_eq_true rfl, Nat.le_of_ble_eq_true rfl⟩ ⟨rfl, rfl⟩ ?_
      first | refine A_icmp_geN (tgt := 80) d_M_fits_7 (by decide) (by with_reducible rfl) (by with_reducible rfl) (by omega) (by omega) (fun c_7 => ?_) (fun c_7 => ?_) | refine A_icmp_ge (tgt := 80) d_M_fits_7 (by decide) (fun c_7 => ?_) (fun c_7 => ?_)
      · refine A_iconst (v := nI 1) d_M_fits_80 (by decide) ?_
        refine A_zret d_M_fits_81 rfl (by first | rfl | exact bI_nar _ | decide) ⟨Nat.zero_le _, Nat.zero_le _⟩ ?_
        exact pu (by rw [firstU_end]; rfl)
      · exact absurd c_7 (by omega)
    · obtain ⟨ht1, ht2⟩ := hth i hi
      have hv2 := (hw _ ht2).2
      have hv1 := (hS.ok.2.2.2.2.2.2.1 (sg (1 + 3 * i + 0)) (by omega)).1
      have hv3 := (hB.1.2.1.2 i hi).2.2
      refine A_iload_n2 d_M_fits_2 ?_
      refine A_aload_n0 d_M_fits_3 ?_
      refine A_callVP d_M_fits_4 (c_M_seenMany hM hB) hM.o rfl q_1645 q_1647 qs_91 mk_M_seenMany rfl (by decide) rfl (Nat.le_of_ble_eq_true rfl) ⟨Nat.le_of_ble_eq_true rfl, Nat.le_of_ble_eq_true rfl⟩ ⟨rfl, rfl⟩ ?_
      first | refine A_icmp_geN (tgt := 80) d_M_fits_7 (by decide) (by with_reducible rfl) (by with_reducible rfl) (by omega) (by omega) (fun c_7 => ?_) (fun c_7 => ?_) | refine A_icmp_ge (tgt := 80) d_M_fits_7 (by decide) (fun c_7 => ?_) (fun c_7 => ?_)
      · exact absurd c_7 (by omega)
      · refine A_aload_n0 d_M_fits_10 ?_
        refine A_iload_n2 d_M_fits_11 ?_
        refine A_iconst (v := nI 1) d_M_fits_12 (by decide) ?_
        refine A_callVP d_M_fits_13 (c_M_seenOf hM hB i 1 (by omega)) hM.o rfl q_1649 q_1651 qs_92 mk_M_seenOf rfl (by decide) rfl (Nat.le_of_ble_eq_true rfl) ⟨Nat.le_of_ble_eq_true rfl, Nat.le_of_ble_eq_true rfl⟩ ⟨rfl, rfl⟩ ?_
        refine A_istore3 d_M_fits_16 trivial ?_
        refine A_aload_n0 d_M_fits_17 ?_
        refine A_getf (kf := 31) d_M_fits_18 hM.o ok_8 (by decide) q_1080 rfl ?_
        refine A_iload_n3 d_M_fits_21 ?_
        refine A_ialdN d_M_fits_22 hM.a31 ⟨by omega, by decide⟩ ?_
        refine A_topI (hw _ ht2).1 ?_
        refine A_aload_n0 d_M_fits_23 ?_
        refine A_aload_n0 d_M_fits_24 ?_
        refine A_iload_n2 d_M_fits_25 ?_
        refine A_iconst (v := nI 0) d_M_fits_26 (by decide) ?_
        refine A_callVP d_M_fits_27 (c_M_seenOf hM hB i 0 (by omega)) hM.o rfl q_1649 q_1651 qs_92 mk_M_seenOf rfl (by decide) rfl (Nat.le_of_ble_eq_true rfl) ⟨Nat.le_of_ble_eq_true rfl, Nat.le_of_ble_eq_true rfl⟩ ⟨rfl, rfl⟩ ?_
        refine A_iconst (v := nI 0) d_M_fits_30 (by decide) ?_
        refine A_callVP d_M_fits_31 (c_M_ofOne hM hS _ 0 (by omega)) hM.o rfl q_1355 q_1357 qs_38 mk_M_ofOne rfl (by decide) rfl (Nat.le_of_ble_eq_true rfl) ⟨Nat.le_of_ble_eq_true rfl, Nat.le_of_ble_eq_true rfl⟩ ⟨rfl, rfl⟩ ?_
        first | refine A_icmp_neN (tgt := 49) d_M_fits_34 (by decide) (by with_reducible rfl) (by with_reducible rfl) (by omega) (by omega) (fun c_34 => ?_) (fun c_34 => ?_) | refine A_icmp_ne (tgt := 49) d_M_fits_34 (by decide) (fun c_34 => ?_) (fun c_34 => ?_)
        · refine A_iconst (v := nI 0) d_M_fits_49 (by decide) ?_
          refine A_istore4 d_M_fits_50 trivial ?_
          refine A_iload4 d_M_fits_52 ?_
          refine A_aload_n0 d_M_fits_54 ?_
          refine A_iload_n2 d_M_fits_55 ?_
          refine A_iconst (v := nI 2) d_M_fits_56 (by decide) ?_
          refine A_callVP d_M_fits_57 (c_M_seenOf hM hB i 2 (by omega)) hM.o rfl q_1649 q_1651 qs_92 mk_M_seenOf rfl (by decide) rfl (Nat.le_of_ble_eq_true rfl) ⟨Nat.le_of_ble_eq_true rfl, Nat.le_of_ble_eq_true rfl⟩ ⟨rfl, rfl⟩ ?_
          refine A_iconst (v := nI 1) d_M_fits_60 (by decide) ?_
          first | refine A_icmp_neN (tgt := 68) d_M_fits_61 (by decide) (by with_reducible rfl) (by with_reducible rfl) (by omega) (by omega) (fun c_61 => ?_) (fun c_61 => ?_) | refine A_icmp_ne (tgt := 68) d_M_fits_61 (by decide) (fun c_61 => ?_) (fun c_61 => ?_)
          · refine A_iconst (v := nI 0) d_M_fits_68 (by decide) ?_
            first | refine A_icmp_eqN (tgt := 74) d_M_fits_69 (by decide) (by with_reducible rfl) (by with_reducible rfl) (by omega) (by omega) (fun c_69 => ?_) (fun c_69 => ?_) | refine A_icmp_eq (tgt := 74) d_M_fits_69 (by decide) (fun c_69 => ?_) (fun c_69 => ?_)
            · first | refine A_iinc2 d_M_fits_74 (nI_1 _) trivial ?_ | refine A_iinc2 d_M_fits_74 rfl trivial ?_
              refine A_goto (tgt := 2) d_M_fits_77 (by decide) ?_
              refine A_drop4 ?_
              refine A_drop3 ?_
              first | (exfalso; omega) | (rw [firstU_step _ _ _ hi, if_neg (by simp only [badB, c_7, c_34, c_61, c_69, decide_true, decide_false, Bool.false_and, Bool.true_and, Bool.not_true, Bool.not_false, Bool.and_false, Bool.and_true] <;> decide)]; exact ih)
            · refine A_iconst (v := nI 0) d_M_fits_72 (by decide) ?_
              refine A_zret d_M_fits_73 rfl (by first | rfl | exact bI_nar _ | decide) ⟨Nat.zero_le _, Nat.zero_le _⟩ ?_
              first | (exfalso; omega) | exact pu (by rw [firstU_step _ _ _ hi, if_pos (by simp only [badB, c_7, c_34, c_61, c_69, decide_true, decide_false, Bool.false_and, Bool.true_and, Bool.not_true, Bool.not_false, Bool.and_false, Bool.and_true] <;> decide)]; rfl)
          · refine A_iconst (v := nI 1) d_M_fits_64 (by decide) ?_
            refine A_goto (tgt := 69) d_M_fits_65 (by decide) ?_
            first | refine A_icmp_eqN (tgt := 74) d_M_fits_69 (by decide) (by with_reducible rfl) (by with_reducible rfl) (by omega) (by omega) (fun c_69 => ?_) (fun c_69 => ?_) | refine A_icmp_eq (tgt := 74) d_M_fits_69 (by decide) (fun c_69 => ?_) (fun c_69 => ?_)
            · first | refine A_iinc2 d_M_fits_74 (nI_1 _) trivial ?_ | refine A_iinc2 d_M_fits_74 rfl trivial ?_
              refine A_goto (tgt := 2) d_M_fits_77 (by decide) ?_
              refine A_drop4 ?_
              refine A_drop3 ?_
              first | (exfalso; omega) | (rw [firstU_step _ _ _ hi, if_neg (by simp only [badB, c_7, c_34, c_61, c_69, decide_true, decide_false, Bool.false_and, Bool.true_and, Bool.not_true, Bool.not_false, Bool.and_false, Bool.and_true] <;> decide)]; exact ih)
            · refine A_iconst (v := nI 0) d_M_fits_72 (by decide) ?_
              refine A_zret d_M_fits_73 rfl (by first | rfl | exact bI_nar _ | decide) ⟨Nat.zero_le _, Nat.zero_le _⟩ ?_
              first | (exfalso; omega) | exact pu (by rw [firstU_step _ _ _ hi, if_pos (by simp only [badB, c_7, c_34, c_61, c_69, decide_true, decide_false, Bool.false_and, Bool.true_and, Bool.not_true, Bool.not_false, Bool.and_false, Bool.and_true] <;> decide)]; rfl)
        · refine A_iload_n1 d_M_fits_37 ?_
          refine A_iload_n3 d_M_fits_38 ?_
          refine A_callSP d_M_fits_39 (c_M_has _ _ _) q_1553 q_1554 mk_M_has rfl (by decide) rfl (Nat.le_of_ble_eq_true rfl) ⟨Nat.le_of_ble_eq_true rfl, Nat.le_of_ble_eq_true rfl⟩ ⟨rfl, rfl⟩ ?_
          refine A_if_neB (tgt := 49) d_M_fits_42 (by decide) (fun c_42 => ?_) (fun c_42 => ?_)
          · refine A_iconst (v := nI 0) d_M_fits_49 (by decide) ?_
            refine A_istore4 d_M_fits_50 trivial ?_
            refine A_iload4 d_M_fits_52 ?_
            refine A_aload_n0 d_M_fits_54 ?_
            refine A_iload_n2 d_M_fits_55 ?_
            refine A_iconst (v := nI 2) d_M_fits_56 (by decide) ?_
            refine A_callVP d_M_fits_57 (c_M_seenOf hM hB i 2 (by omega)) hM.o rfl q_1649 q_1651 qs_92 mk_M_seenOf rfl (by decide) rfl (Nat.le_of_ble_eq_true rfl) ⟨Nat.le_of_ble_eq_true rfl, Nat.le_of_ble_eq_true rfl⟩ ⟨rfl, rfl⟩ ?_
            refine A_iconst (v := nI 1) d_M_fits_60 (by decide) ?_
            first | refine A_icmp_neN (tgt := 68) d_M_fits_61 (by decide) (by with_reducible rfl) (by with_reducible rfl) (by omega) (by omega) (fun c_61 => ?_) (fun c_61 => ?_) | refine A_icmp_ne (tgt := 68) d_M_fits_61 (by decide) (fun c_61 => ?_) (fun c_61 => ?_)
            · refine A_iconst (v := nI 0) d_M_fits_68 (by decide) ?_
              first | refine A_icmp_eqN (tgt := 74) d_M_fits_69 (by decide) (by with_reducible rfl) (by with_reducible rfl) (by omega) (by omega) (fun c_69 => ?_) (fun c_69 => ?_) | refine A_icmp_eq (tgt := 74) d_M_fits_69 (by decide) (fun c_69 => ?_) (fun c_69 => ?_)
              · first | refine A_iinc2 d_M_fits_74 (nI_1 _) trivial ?_ | refine A_iinc2 d_M_fits_74 rfl trivial ?_
                refine A_goto (tgt := 2) d_M_fits_77 (by decide) ?_
                refine A_drop4 ?_
                refine A_drop3 ?_
                first | (exfalso; omega) | (rw [firstU_step _ _ _ hi, if_neg (by simp only [badB, c_7, c_34, c_42, c_61, c_69, decide_true, decide_false, Bool.false_and, Bool.true_and, Bool.not_true, Bool.not_false, Bool.and_false, Bool.and_true] <;> decide)]; exact ih)
              · refine A_iconst (v := nI 0) d_M_fits_72 (by decide) ?_
                refine A_zret d_M_fits_73 rfl (by first | rfl | exact bI_nar _ | decide) ⟨Nat.zero_le _, Nat.zero_le _⟩ ?_
                first | (exfalso; omega) | exact pu (by rw [firstU_step _ _ _ hi, if_pos (by simp only [badB, c_7, c_34, c_42, c_61, c_69, decide_true, decide_false, Bool.false_and, Bool.true_and, Bool.not_true, Bool.not_false, Bool.and_false, Bool.and_true] <;> decide)]; rfl)
            · refine A_iconst (v := nI 1) d_M_fits_64 (by decide) ?_
              refine A_goto (tgt := 69) d_M_fits_65 (by decide) ?_
              first | refine A_icmp_eqN (tgt := 74) d_M_fits_69 (by decide) (by with_reducible rfl) (by with_reducible rfl) (by omega) (by omega) (fun c_69 => ?_) (fun c_69 => ?_) | refine A_icmp_eq (tgt := 74) d_M_fits_69 (by decide) (fun c_69 => ?_) (fun c_69 => ?_)
              · first | refine A_iinc2 d_M_fits_74 (nI_1 _) trivial ?_ | refine A_iinc2 d_M_fits_74 rfl trivial ?_
                refine A_goto (tgt := 2) d_M_fits_77 (by decide) ?_
                refine A_drop4 ?_
                refine A_drop3 ?_
                first | (exfalso; omega) | (rw [firstU_step _ _ _ hi, if_neg (by simp only [badB, c_7, c_34, c_42, c_61, c_69, decide_true, decide_false, Bool.false_and, Bool.true_and, Bool.not_true, Bool.not_false, Bool.and_false, Bool.and_true] <;> decide)]; exact ih)
              · refine A_iconst (v := nI 0) d_M_fits_72 (by decide) ?_
                refine A_zret d_M_fits_73 rfl (by first | rfl | exact bI_nar _ | decide) ⟨Nat.zero_le _, Nat.zero_le _⟩ ?_
                first | (exfalso; omega) | exact pu (by rw [firstU_step _ _ _ hi, if_pos (by simp only [badB, c_7, c_34, c_42, c_61, c_69, decide_true, decide_false, Bool.false_and, Bool.true_and, Bool.not_true, Bool.not_false, Bool.and_false, Bool.and_true] <;> decide)]; rfl)
          · refine A_iconst (v := nI 1) d_M_fits_45 (by decide) ?_
            refine A_goto (tgt := 50) d_M_fits_46 (by decide) ?_
            refine A_istore4 d_M_fits_50 trivial ?_
            refine A_iload4 d_M_fits_52 ?_
            refine A_aload_n0 d_M_fits_54 ?_
            refine A_iload_n2 d_M_fits_55 ?_
            refine A_iconst (v := nI 2) d_M_fits_56 (by decide) ?_
            refine A_callVP d_M_fits_57 (c_M_seenOf hM hB i 2 (by omega)) hM.o rfl q_1649 q_1651 qs_92 mk_M_seenOf rfl (by decide) rfl (Nat.le_of_ble_eq_true rfl) ⟨Nat.le_of_ble_eq_true rfl, Nat.le_of_ble_eq_true rfl⟩ ⟨rfl, rfl⟩ ?_
            refine A_iconst (v := nI 1) d_M_fits_60 (by decide) ?_
            first | refine A_icmp_neN (tgt := 68) d_M_fits_61 (by decide) (by with_reducible rfl) (by with_reducible rfl) (by omega) (by omega) (fun c_61 => ?_) (fun c_61 => ?_) | refine A_icmp_ne (tgt := 68) d_M_fits_61 (by decide) (fun c_61 => ?_) (fun c_61 => ?_)
            · refine A_iconst (v := nI 0) d_M_fits_68 (by decide) ?_
              first | refine A_icmp_eqN (tgt := 74) d_M_fits_69 (by decide) (by with_reducible rfl) (by with_reducible rfl) (by omega) (by omega) (fun c_69 => ?_) (fun c_69 => ?_) | refine A_icmp_eq (tgt := 74) d_M_fits_69 (by decide) (fun c_69 => ?_) (fun c_69 => ?_)
              · first | refine A_iinc2 d_M_fits_74 (nI_1 _) trivial ?_ | refine A_iinc2 d_M_fits_74 rfl trivial ?_
                refine A_goto (tgt := 2) d_M_fits_77 (by decide) ?_
                refine A_drop4 ?_
                refine A_drop3 ?_
                first | (exfalso; omega) | (rw [firstU_step _ _ _ hi, if_neg (by simp only [badB, c_7, c_34, c_42, c_61, c_69, decide_true, decide_false, Bool.false_and, Bool.true_and, Bool.not_true, Bool.not_false, Bool.and_false, Bool.and_true] <;> decide)]; exact ih)
              · refine A_iconst (v := nI 0) d_M_fits_72 (by decide) ?_
                refine A_zret d_M_fits_73 rfl (by first | rfl | exact bI_nar _ | decide) ⟨Nat.zero_le _, Nat.zero_le _⟩ ?_
                first | (exfalso; omega) | exact pu (by rw [firstU_step _ _ _ hi, if_pos (by simp only [badB, c_7, c_34, c_42, c_61, c_69, decide_true, decide_false, Bool.false_and, Bool.true_and, Bool.not_true, Bool.not_false, Bool.and_false, Bool.and_true] <;> decide)]; rfl)
            · refine A_iconst (v := nI 1) d_M_fits_64 (by decide) ?_
              refine A_goto (tgt := 69) d_M_fits_65 (by decide) ?_
              first | refine A_icmp_eqN (tgt := 74) d_M_fits_69 (by decide) (by with_reducible rfl) (by with_reducible rfl) (by omega) (by omega) (fun c_69 => ?_) (fun c_69 => ?_) | refine A_icmp_eq (tgt := 74) d_M_fits_69 (by decide) (fun c_69 => ?_) (fun c_69 => ?_)
              · first | refine A_iinc2 d_M_fits_74 (nI_1 _) trivial ?_ | refine A_iinc2 d_M_fits_74 rfl trivial ?_
                refine A_goto (tgt := 2) d_M_fits_77 (by decide) ?_
                refine A_drop4 ?_
                refine A_drop3 ?_
                first | (exfalso; omega) | (rw [firstU_step _ _ _ hi, if_neg (by simp only [badB, c_7, c_34, c_42, c_61, c_69, decide_true, decide_false, Bool.false_and, Bool.true_and, Bool.not_true, Bool.not_false, Bool.and_false, Bool.and_true] <;> decide)]; exact ih)
              · refine A_iconst (v := nI 0) d_M_fits_72 (by decide) ?_
                refine A_zret d_M_fits_73 rfl (by first | rfl | exact bI_nar _ | decide) ⟨Nat.zero_le _, Nat.zero_le _⟩ ?_
                first | (exfalso; omega) | exact pu (by rw [firstU_step _ _ _ hi, if_pos (by simp only [badB, c_7, c_34, c_42, c_61, c_69, decide_true, decide_false, Bool.false_and, Bool.true_and, Bool.not_true, Bool.not_false, Bool.and_false, Bool.and_true] <;> decide)]; rfl)
  refine Ctr.of (by decide +kernel) (by simp) (Nat.le_of_ble_eq_true rfl) (L0 := [some (.ref m), some (.int x), none, none, none]) rfl ?_
  refine A_iconst (v := nI 0) d_M_fits_0 (by decide) ?_
  refine A_istore2 d_M_fits_1 trivial ?_
  exact key 0 (Nat.zero_le _)
set_option maxHeartbeats 4000000 in
set_option maxRecDepth 100000 in
theorem c_M_areThere {G : GE} {h0 h : AH} {m : Nat} {S : MS} (hM : MW h0 h m S) {l : Nat} {V : Nat → Nat} (hS : HS S l V) {b : Nat} {sg : Nat → Nat} (hB : HI S b sg) : Ctr G y_M_areThere b_M_areThere 2 (some .boolean) r_M_areThere [.ref m] h (Pu (.int (bI (thereB V sg))) h) := by
  have hH := hS.ok.1
  have hP := hS.ok.2.2.2.2.1
  have hn := hB.1.2.1.1
  have key : ∀ i, i ≤ sg 0 → WA G y_M_areThere b_M_areThere 2 (some .boolean) r_M_areThere 0 0 (Pu (.int (bI (firstU (offB V sg) (fun _ => false) true (sg 0) i))) h) 0 0 2 [some (.ref m), some (.int (nI i))] [] h := by
    refine down ?_ (fun i hi ih => ?_)
    · refine A_iload_n1 d_M_areThere_2 ?_
      refine A_aload_n0 d_M_areThere_3 ?_
      refine A_callVP d_M_areThere_4 (c_M_seenMany hM hB) hM.o rfl q_1645 q_1647 qs_91 mk_M_seenMany rfl (by decide) rfl (Nat.le_of_ble_eq_true rfl) ⟨Nat.le_of_ble_eq_true rfl, Nat.le_of_ble_eq_true rfl⟩ ⟨rfl, rfl⟩ ?_
      first | refine A_icmp_geN (tgt := 44) d_M_areThere_7 (by decide) (by with_reducible rfl) (by with_reducible rfl) (by omega) (by omega) (fun c_7 => ?_) (fun c_7 => ?_) | refine A_icmp_ge (tgt := 44) d_M_areThere_7 (by decide) (fun c_7 => ?_) (fun c_7 => ?_)
      · refine A_iconst (v := nI 1) d_M_areThere_44 (by decide) ?_
        refine A_zret d_M_areThere_45 rfl (by first | rfl | exact bI_nar _ | decide) ⟨Nat.zero_le _, Nat.zero_le _⟩ ?_
        exact pu (by rw [firstU_end]; rfl)
      · exact absurd c_7 (by omega)
    · have hv3 := hB.1.2.1.2 i hi
      refine A_iload_n1 d_M_areThere_2 ?_
      refine A_aload_n0 d_M_areThere_3 ?_
      refine A_callVP d_M_areThere_4 (c_M_seenMany hM hB) hM.o rfl q_1645 q_1647 qs_91 mk_M_seenMany rfl (by decide) rfl (Nat.le_of_ble_eq_true rfl) ⟨Nat.le_of_ble_eq_true rfl, Nat.le_of_ble_eq_true rfl⟩ ⟨rfl, rfl⟩ ?_
      first | refine A_icmp_geN (tgt := 44) d_M_areThere_7 (by decide) (by with_reducible rfl) (by with_reducible rfl) (by omega) (by omega) (fun c_7 => ?_) (fun c_7 => ?_) | refine A_icmp_ge (tgt := 44) d_M_areThere_7 (by decide) (fun c_7 => ?_) (fun c_7 => ?_)
      · exact absurd c_7 (by omega)
      · refine A_aload_n0 d_M_areThere_10 ?_
        refine A_aload_n0 d_M_areThere_11 ?_
        refine A_iload_n1 d_M_areThere_12 ?_
        refine A_iconst (v := nI 0) d_M_areThere_13 (by decide) ?_
        refine A_callVP d_M_areThere_14 (c_M_seenOf hM hB i 0 (by omega)) hM.o rfl q_1649 q_1651 qs_92 mk_M_seenOf rfl (by decide) rfl (Nat.le_of_ble_eq_true rfl) ⟨Nat.le_of_ble_eq_true rfl, Nat.le_of_ble_eq_true rfl⟩ ⟨rfl, rfl⟩ ?_
        refine A_callVP d_M_areThere_17 (c_M_isOne hM _) hM.o rfl q_1351 q_1353 qs_37 mk_M_isOne rfl (by decide) rfl (Nat.le_of_ble_eq_true rfl) ⟨Nat.le_of_ble_eq_true rfl, Nat.le_of_ble_eq_true rfl⟩ ⟨rfl, rfl⟩ ?_
        refine A_topI (by rw [hS.people, inB_lt (by omega) (by omega)]) ?_
        refine A_if_eqB (tgt := 36) d_M_areThere_20 (by decide) (fun c_20 => ?_) (fun c_20 => ?_)
        · refine A_iconst (v := nI 0) d_M_areThere_36 (by decide) ?_
          refine A_zret d_M_areThere_37 rfl (by first | rfl | exact bI_nar _ | decide) ⟨Nat.zero_le _, Nat.zero_le _⟩ ?_
          exact pu (by rw [firstU_step _ _ _ hi, if_pos (by simp only [offB, c_7, c_20, decide_true, decide_false, Bool.false_and, Bool.true_and, Bool.not_true, Bool.not_false, Bool.and_false, Bool.and_true] <;> decide)]; rfl)
        · refine A_aload_n0 d_M_areThere_23 ?_
          refine A_aload_n0 d_M_areThere_24 ?_
          refine A_iload_n1 d_M_areThere_25 ?_
          refine A_iconst (v := nI 1) d_M_areThere_26 (by decide) ?_
          refine A_callVP d_M_areThere_27 (c_M_seenOf hM hB i 1 (by omega)) hM.o rfl q_1649 q_1651 qs_92 mk_M_seenOf rfl (by decide) rfl (Nat.le_of_ble_eq_true rfl) ⟨Nat.le_of_ble_eq_true rfl, Nat.le_of_ble_eq_true rfl⟩ ⟨rfl, rfl⟩ ?_
          refine A_callVP d_M_areThere_30 (c_M_isHour hM _) hM.o rfl q_1661 q_1663 qs_94 mk_M_isHour rfl (by decide) rfl (Nat.le_of_ble_eq_true rfl) ⟨Nat.le_of_ble_eq_true rfl, Nat.le_of_ble_eq_true rfl⟩ ⟨rfl, rfl⟩ ?_
          refine A_topI (by rw [hS.hours, inB_lt (by omega) (by omega)]) ?_
          refine A_if_neB (tgt := 38) d_M_areThere_33 (by decide) (fun c_33 => ?_) (fun c_33 => ?_)
          · first | refine A_iinc1 d_M_areThere_38 (nI_1 _) trivial ?_ | refine A_iinc1 d_M_areThere_38 rfl trivial ?_
            refine A_goto (tgt := 2) d_M_areThere_41 (by decide) ?_
            rw [firstU_step _ _ _ hi, if_neg (by simp only [offB, c_7, c_20, c_33, decide_true, decide_false, Bool.false_and, Bool.true_and, Bool.not_true, Bool.not_false, Bool.and_false, Bool.and_true] <;> decide)]
            exact ih
          · refine A_iconst (v := nI 0) d_M_areThere_36 (by decide) ?_
            refine A_zret d_M_areThere_37 rfl (by first | rfl | exact bI_nar _ | decide) ⟨Nat.zero_le _, Nat.zero_le _⟩ ?_
            exact pu (by rw [firstU_step _ _ _ hi, if_pos (by simp only [offB, c_7, c_20, c_33, decide_true, decide_false, Bool.false_and, Bool.true_and, Bool.not_true, Bool.not_false, Bool.and_false, Bool.and_true] <;> decide)]; rfl)
  refine Ctr.of (by decide +kernel) (by simp) (Nat.le_of_ble_eq_true rfl) (L0 := [some (.ref m), none]) rfl ?_
  refine A_iconst (v := nI 0) d_M_areThere_0 (by decide) ?_
  refine A_istore1 d_M_areThere_1 trivial ?_
  exact key 0 (Nat.zero_le _)
