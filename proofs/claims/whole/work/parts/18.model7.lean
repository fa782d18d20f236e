/-- a book chosen -/
def HB (S : MS) (b : Nat) (bk : Nat → Nat) : Prop := MB S b bk ∧ S.1 34 = nI b
def lenB (bk : Nat → Nat) (k : Nat) : Nat := bk (1 + 2 * k + 1)
def preB (bk : Nat → Nat) (k : Nat) : Nat := sumN (lenB bk) k
def totB (bk : Nat → Nat) : Nat := preB bk (bk 0)
/-- where it was, hour by hour, by the first k spells -/
def trk (bk : Nat → Nat) : Nat → Nat → Nat
  | 0, _ => 0
  | k + 1, t => if preB bk k ≤ t ∧ t < preB bk (k + 1) then bk (1 + 2 * k + 0) else trk bk k t
def wentB (bk : Nat → Nat) : Nat → Nat := trk bk (bk 0)
theorem preB_mono (bk : Nat → Nat) : ∀ {i j : Nat}, i ≤ j → preB bk i ≤ preB bk j := by
  intro i j h
  induction j with
  | zero => rw [Nat.le_zero.mp h]; exact Nat.le_refl _
  | succ j ih =>
    rcases Nat.lt_or_ge i (j + 1) with q | q
    · exact Nat.le_trans (ih (by omega)) (Nat.le_add_right _ _)
    · rw [show i = j + 1 by omega]; exact Nat.le_refl _
theorem trk_le {bk : Nat → Nat} (h : ∀ k, k < bk 0 → bk (1 + 2 * k + 0) ≤ 2) : ∀ k, k ≤ bk 0 → ∀ t, trk bk k t ≤ 2
  | 0, _, _ => Nat.zero_le _
  | k + 1, hk, t => by
    have h1 := h k (by omega)
    have h2 := trk_le h k (by omega) t
    simp only [trk]
    split <;> omega
/-- a book laid hour by hour -/
def BWd (S : MS) (bk : Nat → Nat) : Prop := BOK bk ∧ S.1 35 = nI (totB bk) ∧ ∀ t, t < totB bk → S.2.2.1 36 t = nI (wentB bk t)
theorem BOK.tot {bk : Nat → Nat} (h : BOK bk) : totB bk ≤ 96 := h.2.2
theorem BOK.le {bk : Nat → Nat} (h : BOK bk) (t : Nat) : wentB bk t ≤ 2 := trk_le (fun k hk => (h.2.1 k hk).1) _ (Nat.le_refl _) t
def cntN (w : Nat → Nat) (x a b : Nat) : Nat := sumN (fun i => if w (a + i) = x then 1 else 0) (b - a)
theorem cntN_le (w : Nat → Nat) (x a b : Nat) : cntN w x a b ≤ b - a := by
  have := sumN_le (f := fun i => if w (a + i) = x then 1 else 0) (c := 1) (b - a) (fun i hi => by split <;> omega)
  unfold cntN
  omega
/-- villages: the stay on the bridge so far, and how many -/
def villF (w : Nat → Nat) (cr : Nat) : Nat → Nat × Nat := foldN (fun t p => (if w t = 2 then p.1 + 1 else 0, p.2 + if (if w t = 2 then p.1 + 1 else 0) = cr + 1 then 1 else 0)) (0, 0)
theorem villF_le (w : Nat → Nat) (cr : Nat) : ∀ n, (villF w cr n).1 ≤ n ∧ (villF w cr n).2 ≤ n
  | 0 => ⟨Nat.le_refl _, Nat.le_refl _⟩
  | n + 1 => by
    have h := villF_le w cr n
    simp only [villF, foldN] at h ⊢
    constructor
    · split <;> omega
    · split <;> split <;> omega
def sleptI (V w : Nat → Nat) (d : Nat) : Int32 := foldN (fun p x => x ||| (if sleepsB V p (cntN w (V (42 + 27 * p + 0)) (V 0 * d) (V 0 * (d + 1))) = true then nI 1 <<< (nI p &&& 31) else nI 0)) (nI 0) (V 4)
def spellV (bk : Nat → Nat) (k x : Int32) : Int32 := if k = -1 then (if x = nI 0 then nI (bk 0) else if x = nI 1 then nI (totB bk) else -2) else pick (bk 0) k (fun i => rg x 0 1 (fun j => nI (bk (1 + 2 * i + j))) (-2)) (-2)
def daysV (V bk : Nat → Nat) (x : Int32) : Int32 := rg x 100 (99 + totB bk / V 0) (fun d => sleptI V (wentB bk) (d - 100)) (if x = 0 then nI (totB bk / V 0) else if x = nI 1 then nI (villF (wentB bk) (V 1) (totB bk)).2 else if x = nI 2 then nI (cntN (wentB bk) 0 0 (totB bk)) else if x = nI 3 then nI (cntN (wentB bk) 1 0 (totB bk)) else -2)
/-- the first breach, and what is owed to city x - 1 -/
def brF (V w tw : Nat → Nat) (x : Int32) : Nat → Int32 × Int32 := foldN (fun t p => (if p.1 = -1 then (if tw t = w (t % V 0) then p.1 else nI t) else p.1, p.2 + ((if nI (w (t % V 0)) = x - nI 1 then nI 1 else nI 0) - (if nI (tw t) = x - nI 1 then nI 1 else nI 0)))) (-1, nI 0)
def breachV (V w bk : Nat → Nat) (x : Int32) : Int32 := rg x 0 2 (fun k => if k = 0 then (brF V w (wentB bk) (nI k) (totB bk)).1 else (brF V w (wentB bk) (nI k) (totB bk)).2) (-1000)
set_option maxHeartbeats 4000000 in
set_option maxRecDepth 100000 in
theorem c_M_hasBook {G : GE} {h0 h : AH} {m : Nat} {S : MS} (hM : MW h0 h m S) {c : Nat → Nat} {VL WT BK SG GM : Nat → Nat → Nat} (hp : MP S c VL WT BK SG GM) (ba : Int32) : Ctr G y_M_hasBook b_M_hasBook 2 (some .boolean) r_M_hasBook [.ref m, .int ba] h (fun v h' => v = some (.int (bI (inB ba (nI 0) (nI (c 2) - nI 1)))) ∧ MW h0 h' m (S.sf 34 ba)) := by
  refine Ctr.of (by decide +kernel) (by simp) (Nat.le_of_ble_eq_true rfl) (L0 := [some (.ref m), some (.int ba)]) rfl ?_
  refine A_aload_n0 d_M_hasBook_0 ?_
  refine A_iload_n1 d_M_hasBook_1 ?_
  refine A_putM hM (kf := 34) (ty := .int) d_M_hasBook_2 (by decide) q_1083 rfl (by decide +kernel) (by first | rfl | exact bI_nar _) rfl (Nat.le_of_ble_eq_true rfl) rfl (fun h hM => ?_)
  refine A_aload_n0 d_M_hasBook_5 ?_
  refine A_iconst (v := nI 2) d_M_hasBook_6 (by decide) ?_
  refine A_iload_n1 d_M_hasBook_7 ?_
  refine A_callVP d_M_hasBook_8 (c_M_is hM 2 (by decide) ba) hM.o rfl q_1238 q_1240 qs_16 mk_M_is rfl (by decide) rfl (Nat.le_of_ble_eq_true rfl) ⟨Nat.le_of_ble_eq_true rfl, Nat.le_of_ble_eq_true rfl⟩ ⟨rfl, rfl⟩ ?_
  refine A_topI (by rw [show (S.sf 34 ba).2.2.1 5 2 = nI (c 2) from (hp.1 2 (by decide)).1]) ?_
  refine A_zret d_M_hasBook_11 rfl (by first | rfl | exact bI_nar _ | decide) ⟨Nat.zero_le _, Nat.zero_le _⟩ ?_
  exact ⟨rfl, hM⟩
set_option maxHeartbeats 4000000 in
set_option maxRecDepth 100000 in
theorem c_M_spells {G : GE} {h0 h : AH} {m : Nat} {S : MS} (hM : MW h0 h m S) {b : Nat} {bk : Nat → Nat} (hB : HB S b bk)  : Ctr G y_M_spells b_M_spells 1 (some .int) r_M_spells [.ref m] h (Pu (.int (nI (bk 0))) h) := by
  have hb := hB.1.1
  refine Ctr.of (by decide +kernel) (by simp) (Nat.le_of_ble_eq_true rfl) (L0 := [some (.ref m)]) rfl ?_
  refine A_aload_n0 d_M_spells_0 ?_
  refine A_getf (kf := 8) d_M_spells_1 hM.o ok_8 (by decide) q_1057 rfl ?_
  refine A_bipush (v := nI 61) d_M_spells_4 (by decide) ?_
  refine A_aload_n0 d_M_spells_6 ?_
  refine A_getf (kf := 34) d_M_spells_7 hM.o ok_8 (by decide) q_1083 rfl ?_
  refine A_topI hB.2 ?_
  first | refine A_imulN d_M_spells_10 (by with_reducible rfl) (by with_reducible rfl) ?_ | refine A_imul d_M_spells_10 ?_
  refine A_ialdN d_M_spells_11 hM.a8 ⟨by omega, by decide⟩ ?_
  refine A_iret d_M_spells_12 rfl ⟨Nat.zero_le _, Nat.zero_le _⟩ ?_
  exact pu (by rw [show 61 * b = 61 * b + 0 from rfl, hB.1.2.2 0 (by decide)])
set_option maxHeartbeats 4000000 in
set_option maxRecDepth 100000 in
theorem c_M_spellOf {G : GE} {h0 h : AH} {m : Nat} {S : MS} (hM : MW h0 h m S) {b : Nat} {bk : Nat → Nat} (hB : HB S b bk) (k x : Nat) (hk : 1 + 2 * k + x < 61) : Ctr G y_M_spellOf b_M_spellOf 3 (some .int) r_M_spellOf [.ref m, .int (nI k), .int (nI x)] h (Pu (.int (nI (bk (1 + 2 * k + x)))) h) := by
  have hb := hB.1.1
  refine Ctr.of (by decide +kernel) (by simp) (Nat.le_of_ble_eq_true rfl) (L0 := [some (.ref m), some (.int (nI k)), some (.int (nI x))]) rfl ?_
  refine A_aload_n0 d_M_spellOf_0 ?_
  refine A_getf (kf := 8) d_M_spellOf_1 hM.o ok_8 (by decide) q_1057 rfl ?_
  refine A_bipush (v := nI 61) d_M_spellOf_4 (by decide) ?_
  refine A_aload_n0 d_M_spellOf_6 ?_
  refine A_getf (kf := 34) d_M_spellOf_7 hM.o ok_8 (by decide) q_1083 rfl ?_
  refine A_topI hB.2 ?_
  first | refine A_imulN d_M_spellOf_10 (by with_reducible rfl) (by with_reducible rfl) ?_ | refine A_imul d_M_spellOf_10 ?_
  refine A_iconst (v := nI 1) d_M_spellOf_11 (by decide) ?_
  first | refine A_iaddN d_M_spellOf_12 (by with_reducible rfl) (by with_reducible rfl) ?_ | refine A_iadd d_M_spellOf_12 ?_
  refine A_iconst (v := nI 2) d_M_spellOf_13 (by decide) ?_
  refine A_iload_n1 d_M_spellOf_14 ?_
  first | refine A_imulN d_M_spellOf_15 (by with_reducible rfl) (by with_reducible rfl) ?_ | refine A_imul d_M_spellOf_15 ?_
  first | refine A_iaddN d_M_spellOf_16 (by with_reducible rfl) (by with_reducible rfl) ?_ | refine A_iadd d_M_spellOf_16 ?_
  refine A_iload_n2 d_M_spellOf_17 ?_
  first | refine A_iaddN d_M_spellOf_18 (by with_reducible rfl) (by with_reducible rfl) ?_ | refine A_iadd d_M_spellOf_18 ?_
  refine A_topN (k := 61 * b + (1 + 2 * k + x)) (congrArg nI (by omega)) ?_
  refine A_ialdN d_M_spellOf_19 hM.a8 ⟨by omega, by decide⟩ ?_
  refine A_iret d_M_spellOf_20 rfl ⟨Nat.zero_le _, Nat.zero_le _⟩ ?_
  exact pu (by rw [hB.1.2.2 _ hk])
set_option maxHeartbeats 4000000 in
set_option maxRecDepth 100000 in
theorem c_M_layBook {G : GE} {h0 h : AH} {m : Nat} {S : MS} (hM : MW h0 h m S) {b : Nat} {bk : Nat → Nat} (hB : HB S b bk)  : Ctr G y_M_layBook b_M_layBook 3 none r_M_layBook [.ref m] h (fun v h' => v = none ∧ ∃ S1, MW h0 h' m S1 ∧ BWd S1 bk ∧ Keep S S1 ∧ (∀ j, j ≠ 35 → S1.1 j = S.1 j) ∧ ∀ k, k ≠ 36 → S1.2.2.1 k = S.2.2.1 k) := by
  obtain ⟨hn, hsp, htot⟩ := hB.1.2.1
  have key : ∀ i, i ≤ bk 0 → ∀ (h : AH) (S1 : MS), MW h0 h m S1 → Keep S S1 → (∀ j, j ≠ 35 → S1.1 j = S.1 j) → (∀ k, k ≠ 36 → S1.2.2.1 k = S.2.2.1 k) → S1.1 35 = nI (preB bk i) → (∀ t, t < preB bk i → S1.2.2.1 36 t = nI (trk bk i t)) → WA G y_M_layBook b_M_layBook 3 none r_M_layBook 0 0 (fun v h' => v = none ∧ ∃ S1, MW h0 h' m S1 ∧ BWd S1 bk ∧ Keep S S1 ∧ (∀ j, j ≠ 35 → S1.1 j = S.1 j) ∧ ∀ k, k ≠ 36 → S1.2.2.1 k = S.2.2.1 k) 0 0 7 [some (.ref m), some (.int (nI i)), none] [] h := by
    refine down ?_ (fun i hi ih => ?_)
    · intro h S1 hM hk hf ha e35 e36
      have hB1 : HB S1 b bk := ⟨⟨hB.1.1, hB.1.2.1, fun i hi => by rw [hk 8 (by omega)]; exact hB.1.2.2 i hi⟩, by rw [hf 34 (by decide)]; exact hB.2⟩
      refine A_iload_n1 d_M_layBook_7 ?_
      refine A_aload_n0 d_M_layBook_8 ?_
      refine A_callVP d_M_layBook_9 (c_M_spells hM hB1) hM.o rfl q_1431 q_1433 qs_53 mk_M_spells rfl (by decide) rfl (Nat.le_of_ble_eq_true rfl) ⟨Nat.le_of_ble_eq_true rfl, Nat.le_of_ble_eq_true rfl⟩ ⟨rfl, rfl⟩ ?_
      first | refine A_icmp_geN (tgt := 64) d_M_layBook_12 (by decide) (by with_reducible rfl) (by with_reducible rfl) (by omega) (by omega) (fun c_12 => ?_) (fun c_12 => ?_) | refine A_icmp_ge (tgt := 64) d_M_layBook_12 (by decide) (fun c_12 => ?_) (fun c_12 => ?_)
      · refine A_vret d_M_layBook_64 rfl ⟨Nat.zero_le _, Nat.zero_le _⟩ ?_
        exact ⟨rfl, S1, hM, ⟨hB.1.2.1, e35, e36⟩, hk, hf, ha⟩
      · exact absurd c_12 (by omega)
    have hpi : preB bk (i + 1) = preB bk i + lenB bk i := rfl
    have hmo : preB bk (i + 1) ≤ 96 := Nat.le_trans (preB_mono bk (by omega)) htot
    have hle : lenB bk i ≤ 24 := (hsp i hi).2.2
    have key2 : ∀ j, j ≤ lenB bk i → ∀ (h : AH) (S1 : MS), MW h0 h m S1 → Keep S S1 → (∀ j, j ≠ 35 → S1.1 j = S.1 j) → (∀ k, k ≠ 36 → S1.2.2.1 k = S.2.2.1 k) → S1.1 35 = nI (preB bk i + j) → (∀ t, t < preB bk i + j → S1.2.2.1 36 t = nI (trk bk (i + 1) t)) → WA G y_M_layBook b_M_layBook 3 none r_M_layBook 0 0 (fun v h' => v = none ∧ ∃ S1, MW h0 h' m S1 ∧ BWd S1 bk ∧ Keep S S1 ∧ (∀ j, j ≠ 35 → S1.1 j = S.1 j) ∧ ∀ k, k ≠ 36 → S1.2.2.1 k = S.2.2.1 k) 0 0 17 [some (.ref m), some (.int (nI i)), some (.int (nI j))] [] h := by
      refine down ?_ (fun j hj ih2 => ?_)
      · intro h S1 hM hk hf ha e35 e36
        have hB1 : HB S1 b bk := ⟨⟨hB.1.1, hB.1.2.1, fun i hi => by rw [hk 8 (by omega)]; exact hB.1.2.2 i hi⟩, by rw [hf 34 (by decide)]; exact hB.2⟩
        refine A_iload_n2 d_M_layBook_17 ?_
        refine A_aload_n0 d_M_layBook_18 ?_
        refine A_iload_n1 d_M_layBook_19 ?_
        refine A_iconst (v := nI 1) d_M_layBook_20 (by decide) ?_
        refine A_callVP d_M_layBook_21 (c_M_spellOf hM hB1 i 1 (by omega)) hM.o rfl q_1435 q_1437 qs_54 mk_M_spellOf rfl (by decide) rfl (Nat.le_of_ble_eq_true rfl) ⟨Nat.le_of_ble_eq_true rfl, Nat.le_of_ble_eq_true rfl⟩ ⟨rfl, rfl⟩ ?_
        refine A_topN (k := lenB bk i) rfl ?_
        first | refine A_icmp_geN (tgt := 58) d_M_layBook_24 (by decide) (by with_reducible rfl) (by with_reducible rfl) (by omega) (by omega) (fun c_24 => ?_) (fun c_24 => ?_) | refine A_icmp_ge (tgt := 58) d_M_layBook_24 (by decide) (fun c_24 => ?_) (fun c_24 => ?_)
        · first | refine A_iinc1 d_M_layBook_58 (nI_1 _) trivial ?_ | refine A_iinc1 d_M_layBook_58 rfl trivial ?_
          refine A_goto (tgt := 7) d_M_layBook_61 (by decide) ?_
          refine A_drop2 ?_
          exact ih _ _ hM hk hf ha e35 e36
        · exact absurd c_24 (by omega)
      · intro h S1 hM hk hf ha e35 e36
        have hB1 : HB S1 b bk := ⟨⟨hB.1.1, hB.1.2.1, fun i hi => by rw [hk 8 (by omega)]; exact hB.1.2.2 i hi⟩, by rw [hf 34 (by decide)]; exact hB.2⟩
        refine A_iload_n2 d_M_layBook_17 ?_
        refine A_aload_n0 d_M_layBook_18 ?_
        refine A_iload_n1 d_M_layBook_19 ?_
        refine A_iconst (v := nI 1) d_M_layBook_20 (by decide) ?_
        refine A_callVP d_M_layBook_21 (c_M_spellOf hM hB1 i 1 (by omega)) hM.o rfl q_1435 q_1437 qs_54 mk_M_spellOf rfl (by decide) rfl (Nat.le_of_ble_eq_true rfl) ⟨Nat.le_of_ble_eq_true rfl, Nat.le_of_ble_eq_true rfl⟩ ⟨rfl, rfl⟩ ?_
        refine A_topN (k := lenB bk i) rfl ?_
        first | refine A_icmp_geN (tgt := 58) d_M_layBook_24 (by decide) (by with_reducible rfl) (by with_reducible rfl) (by omega) (by omega) (fun c_24 => ?_) (fun c_24 => ?_) | refine A_icmp_ge (tgt := 58) d_M_layBook_24 (by decide) (fun c_24 => ?_) (fun c_24 => ?_)
        · exact absurd c_24 (by omega)
        · refine A_aload_n0 d_M_layBook_27 ?_
          refine A_getf (kf := 36) d_M_layBook_28 hM.o ok_8 (by decide) q_1085 rfl ?_
          refine A_aload_n0 d_M_layBook_31 ?_
          refine A_getf (kf := 35) d_M_layBook_32 hM.o ok_8 (by decide) q_1084 rfl ?_
          refine A_topI e35 ?_
          refine A_aload_n0 d_M_layBook_35 ?_
          refine A_iload_n1 d_M_layBook_36 ?_
          refine A_iconst (v := nI 0) d_M_layBook_37 (by decide) ?_
          refine A_callVP d_M_layBook_38 (c_M_spellOf hM hB1 i 0 (by omega)) hM.o rfl q_1435 q_1437 qs_54 mk_M_spellOf rfl (by decide) rfl (Nat.le_of_ble_eq_true rfl) ⟨Nat.le_of_ble_eq_true rfl, Nat.le_of_ble_eq_true rfl⟩ ⟨rfl, rfl⟩ ?_
          refine A_st36 hM d_M_layBook_41 (by omega) (fun h hM => ?_)
          refine A_aload_n0 d_M_layBook_42 ?_
          first | refine A_dupR d_M_layBook_43 ?_ | refine A_dupI d_M_layBook_43 ?_
          refine A_getf (kf := 35) d_M_layBook_44 hM.o ok_8 (by decide) q_1084 rfl ?_
          refine A_topI e35 ?_
          refine A_iconst (v := nI 1) d_M_layBook_47 (by decide) ?_
          first | refine A_iaddN d_M_layBook_48 (by with_reducible rfl) (by with_reducible rfl) ?_ | refine A_iadd d_M_layBook_48 ?_
          refine A_putM hM (kf := 35) (ty := .int) d_M_layBook_49 (by decide) q_1084 rfl (by decide +kernel) (by first | rfl | exact bI_nar _) rfl (Nat.le_of_ble_eq_true rfl) rfl (fun h hM => ?_)
          first | refine A_iinc2 d_M_layBook_52 (nI_1 _) trivial ?_ | refine A_iinc2 d_M_layBook_52 rfl trivial ?_
          refine A_goto (tgt := 17) d_M_layBook_55 (by decide) ?_
          refine ih2 _ _ hM (hk.tr (Keep.sa S1 _ (by decide))) (fun q hq => (fup_ne _ _ hq).trans (hf q hq)) (fun q hq => (fup_ne _ _ hq).trans (ha q hq)) rfl (fun t ht => ?_)
          by_cases q : t = preB bk i + j
          · subst q
            exact (fup_eq _ _ _).trans (congrArg nI (by rw [trk, if_pos ⟨by omega, by rw [hpi]; omega⟩]))
          · exact (fup_ne _ _ q).trans (e36 t (by omega))
    intro h S1 hM hk hf ha e35 e36
    have hB1 : HB S1 b bk := ⟨⟨hB.1.1, hB.1.2.1, fun i hi => by rw [hk 8 (by omega)]; exact hB.1.2.2 i hi⟩, by rw [hf 34 (by decide)]; exact hB.2⟩
    refine A_iload_n1 d_M_layBook_7 ?_
    refine A_aload_n0 d_M_layBook_8 ?_
    refine A_callVP d_M_layBook_9 (c_M_spells hM hB1) hM.o rfl q_1431 q_1433 qs_53 mk_M_spells rfl (by decide) rfl (Nat.le_of_ble_eq_true rfl) ⟨Nat.le_of_ble_eq_true rfl, Nat.le_of_ble_eq_true rfl⟩ ⟨rfl, rfl⟩ ?_
    first | refine A_icmp_geN (tgt := 64) d_M_layBook_12 (by decide) (by with_reducible rfl) (by with_reducible rfl) (by omega) (by omega) (fun c_12 => ?_) (fun c_12 => ?_) | refine A_icmp_ge (tgt := 64) d_M_layBook_12 (by decide) (fun c_12 => ?_) (fun c_12 => ?_)
    · exact absurd c_12 (by omega)
    · refine A_iconst (v := nI 0) d_M_layBook_15 (by decide) ?_
      refine A_istore2 d_M_layBook_16 trivial ?_
      exact key2 0 (Nat.zero_le _) _ _ hM hk hf ha e35 (fun t ht => (e36 t ht).trans (congrArg nI (by rw [trk, if_neg (by omega)])))
  refine Ctr.of (by decide +kernel) (by simp) (Nat.le_of_ble_eq_true rfl) (L0 := [some (.ref m), none, none]) rfl ?_
  refine A_aload_n0 d_M_layBook_0 ?_
  refine A_iconst (v := nI 0) d_M_layBook_1 (by decide) ?_
  refine A_putM hM (kf := 35) (ty := .int) d_M_layBook_2 (by decide) q_1084 rfl (by decide +kernel) (by first | rfl | exact bI_nar _) rfl (Nat.le_of_ble_eq_true rfl) rfl (fun h hM => ?_)
  refine A_iconst (v := nI 0) d_M_layBook_5 (by decide) ?_
  refine A_istore1 d_M_layBook_6 trivial ?_
  exact key 0 (Nat.zero_le _) _ _ hM (Keep.sf _ _ _) (fun j hj => fup_ne _ _ hj) (fun _ _ => rfl) rfl (fun t ht => absurd ht (Nat.not_lt_zero _))
