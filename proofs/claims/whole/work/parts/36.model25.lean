def bestF (few : Bool) (V : Nat → Nat) (s : Nat) : Option Int := bestB few V s (V 0 - 1) s (moN s 0) (moN s 1)
def allB (few : Bool) (V : Nat → Nat) (n : Nat) : Option Int := foldN (fun s q => maxO q (bestF few V s)) none n
theorem allB_bd {few : Bool} {V : Nat → Nat} (ok : VOK V) : ∀ n, bdO (allB few V n) (-4752) 21600000
  | 0 => fun z hz => by cases hz
  | n + 1 => by
    have h0 := ok.1
    refine bdO.max (allB_bd ok n) ?_
    intro z hz
    have := bestB_bd ok (V 0 - 1) (by omega) _ _ _ z hz
    omega
theorem bdO.wide2 {a : Option Int} (ha : bdO a (-4752) 21600000) : bdO a (-1073741824) 1073741824 := fun z hz => by have := ha z hz; omega
def ciN (s : Nat) : Nat := if 2 ≤ s then 2 else s
theorem ciI {s : Nat} (h : s < 2 ^ 31) : (if nI 2 ≤ nI s then nI 2 else nI s) = nI (ciN s) := by
  unfold ciN
  by_cases q : 2 ≤ s
  · rw [if_pos q, if_pos ((nI_leI (by decide) h).mpr q)]
  · rw [if_neg q, if_neg (fun z => q ((nI_leI (by decide) h).mp z))]
theorem ciN_le (s : Nat) : ciN s ≤ 2 := by unfold ciN; split <;> omega
/-- on which state a walk goes by a way, of two -/
def tO (few : Bool) (V : Nat → Nat) (first n s d0 d1 : Nat) : Nat → Option Nat
  | 0 => none
  | y + 1 => if stpO few V first n s d0 d1 y = bestB few V first (n + 1) s d0 d1 then (match tO few V first n s d0 d1 y with
      | none => some (nextN (V 1) s y)
      | some t => if ciN (nextN (V 1) s y) < ciN t then some (nextN (V 1) s y) else some t) else tO few V first n s d0 d1 y
def encN : Option Nat → Int32
  | none => -1
  | some t => nI t
theorem tO_lt {few : Bool} {V : Nat → Nat} {first n s d0 d1 : Nat} (hs : s < 2 + 2 * V 1) : ∀ y t, tO few V first n s d0 d1 y = some t → t < 2 + 2 * V 1
  | 0, t, h => by cases h
  | y + 1, t, h => by
    have hn := nextN_lt (way := y) hs
    have ih := tO_lt (few := few) (first := first) (n := n) (d0 := d0) (d1 := d1) hs y
    simp only [tO] at h
    split at h
    · split at h
      · cases h; exact hn
      · rename_i t' e
        split at h
        · cases h; exact hn
        · cases h; exact ih _ e
    · exact ih _ h
theorem tO_some {few : Bool} {V : Nat → Nat} {first n s d0 d1 y : Nat} {z : Nat} (h : tO few V first n s d0 d1 y = some z) : ∃ w, w < y ∧ z = nextN (V 1) s w ∧ stpO few V first n s d0 d1 w = bestB few V first (n + 1) s d0 d1 := by
  induction y generalizing z with
  | zero => cases h
  | succ y ih =>
    simp only [tO] at h
    split at h
    · rename_i c
      split at h
      · cases h; exact ⟨y, by omega, rfl, c⟩
      · rename_i t' e
        split at h
        · cases h; exact ⟨y, by omega, rfl, c⟩
        · cases h
          obtain ⟨w, h1, h2, h3⟩ := ih e
          exact ⟨w, by omega, h2, h3⟩
    · obtain ⟨w, h1, h2, h3⟩ := ih h
      exact ⟨w, by omega, h2, h3⟩
theorem tO_keep {few : Bool} {V : Nat → Nat} {first n s d0 d1 y : Nat} (h : tO few V first n s d0 d1 y ≠ none) : tO few V first n s d0 d1 (y + 1) ≠ none := by
  simp only [tO]
  split
  · split
    · simp
    · split <;> simp
  · exact h
theorem tO_2 {few : Bool} {V : Nat → Nat} {first n s d0 d1 : Nat} {z : Int} (h : bestB few V first (n + 1) s d0 d1 = some z) : ∃ t, tO few V first n s d0 d1 2 = some t := by
  have e : maxO (maxO none (stpO few V first n s d0 d1 0)) (stpO few V first n s d0 d1 1) = some z := stpM_2.trans h
  have e2 : stpO few V first n s d0 d1 0 = some z ∨ stpO few V first n s d0 d1 1 = some z := by
    generalize stpO few V first n s d0 d1 0 = a at e ⊢
    generalize stpO few V first n s d0 d1 1 = b at e ⊢
    cases a with
    | none => exact Or.inr e
    | some x =>
      cases b with
      | none => exact Or.inl e
      | some y =>
        simp only [maxO, Option.some.injEq] at e
        split at e
        · exact Or.inr (by rw [e])
        · exact Or.inl (by rw [e])
  have k : tO few V first n s d0 d1 2 ≠ none := by
    rcases e2 with q | q
    · refine tO_keep (y := 1) ?_
      show (if stpO few V first n s d0 d1 0 = bestB few V first (n + 1) s d0 d1 then _ else _) ≠ none
      rw [if_pos (by rw [q, h])]
      simp [tO]
    · show (if stpO few V first n s d0 d1 1 = bestB few V first (n + 1) s d0 d1 then _ else _) ≠ none
      rw [if_pos (by rw [q, h])]
      split
      · simp
      · split <;> simp
  cases q : tO few V first n s d0 d1 2 with
  | none => exact absurd q k
  | some t => exact ⟨t, rfl⟩
/-- a walk along the best from a first state: state, dark hours -/
def walkS (few : Bool) (V : Nat → Nat) (first : Nat) : Nat → Nat × Nat × Nat
  | 0 => (first, moN first 0, moN first 1)
  | k + 1 => ((tO few V first (V 0 - 2 - k) (walkS few V first k).1 (walkS few V first k).2.1 (walkS few V first k).2.2 2).getD 0,
      (walkS few V first k).2.1 + moN ((tO few V first (V 0 - 2 - k) (walkS few V first k).1 (walkS few V first k).2.1 (walkS few V first k).2.2 2).getD 0) 0,
      (walkS few V first k).2.2 + moN ((tO few V first (V 0 - 2 - k) (walkS few V first k).1 (walkS few V first k).2.1 (walkS few V first k).2.2 2).getD 0) 1)
def rowW (few : Bool) (V : Nat → Nat) (first k : Nat) : Nat := ciN (walkS few V first k).1
set_option maxHeartbeats 4000000 in
set_option maxRecDepth 100000 in
theorem c_M_bestFrom {G : GE} {h0 h : AH} {m : Nat} {S : MS} (hM : MW h0 h m S) {few : Bool} (hw : S.1 45 = bI few) {l : Nat} {V : Nat → Nat} (hS : HS S l V) (hN : ND S V) (first : Nat) (hfi : first < 2 + 2 * V 1) : Ctr G y_M_bestFrom b_M_bestFrom 2 (some .int) r_M_bestFrom [.ref m, .int (nI first)] h (fun v h' => v = some (.int (encZ (bestF few V first))) ∧ ∃ S1, MW h0 h' m S1 ∧ SA9 S S1 ∧ ∀ h9, h9 < V 0 → BA S1 few V first h9) := by
  have ok := hS.ok
  have hH := ok.1
  have hC := ok.2.1
  refine Ctr.of (by decide +kernel) (by simp) (Nat.le_of_ble_eq_true rfl) (L0 := [some (.ref m), some (.int (nI first))]) rfl ?_
  refine A_aload_n0 d_M_bestFrom_0 ?_
  refine A_iload_n1 d_M_bestFrom_1 ?_
  refine A_callV d_M_bestFrom_2 (c_M_findBest hM hw hS hN first hfi) hM.o rfl q_1513 q_1515 qs_69 mk_M_findBest rfl (by decide) rfl (Nat.le_of_ble_eq_true rfl) ⟨Nat.le_of_ble_eq_true rfl, Nat.le_of_ble_eq_true rfl⟩ (fun v h1 hv => ?_)
  obtain ⟨rfl, S1, hM, hb, hA⟩ := hv
  refine A_aload_n0 d_M_bestFrom_5 ?_
  refine A_getf (kf := 39) d_M_bestFrom_6 hM.o ok_8 (by decide) q_1088 rfl ?_
  refine A_aload_n0 d_M_bestFrom_9 ?_
  refine A_iload_n1 d_M_bestFrom_10 ?_
  refine A_aload_n0 d_M_bestFrom_11 ?_
  refine A_iload_n1 d_M_bestFrom_12 ?_
  refine A_iconst (v := nI 0) d_M_bestFrom_13 (by decide) ?_
  refine A_callVP d_M_bestFrom_14 (c_M_more hM (nI first) (nI 0)) hM.o rfl q_1476 q_1478 qs_61 mk_M_more rfl (by decide) rfl (Nat.le_of_ble_eq_true rfl) ⟨Nat.le_of_ble_eq_true rfl, Nat.le_of_ble_eq_true rfl⟩ ⟨rfl, rfl⟩ ?_
  refine A_topI (moI (by omega) (by decide)) ?_
  refine A_aload_n0 d_M_bestFrom_17 ?_
  refine A_iload_n1 d_M_bestFrom_18 ?_
  refine A_iconst (v := nI 1) d_M_bestFrom_19 (by decide) ?_
  refine A_callVP d_M_bestFrom_20 (c_M_more hM (nI first) (nI 1)) hM.o rfl q_1476 q_1478 qs_61 mk_M_more rfl (by decide) rfl (Nat.le_of_ble_eq_true rfl) ⟨Nat.le_of_ble_eq_true rfl, Nat.le_of_ble_eq_true rfl⟩ ⟨rfl, rfl⟩ ?_
  refine A_topI (moI (by omega) (by decide)) ?_
  have m0 := moN_le first 0
  have m1 := moN_le first 1
  refine A_callVP d_M_bestFrom_23 (c_M_grid hM first (moN first 0) (moN first 1)) hM.o rfl q_1480 q_1482 qs_62 mk_M_grid rfl (by decide) rfl (Nat.le_of_ble_eq_true rfl) ⟨Nat.le_of_ble_eq_true rfl, Nat.le_of_ble_eq_true rfl⟩ ⟨rfl, rfl⟩ ?_
  refine A_ialdN d_M_bestFrom_26 hM.a39 ⟨by omega, by decide⟩ ?_
  have m01 := moN2 first
  have hq1 : (25 * moN first 0 + moN first 1) / 25 = moN first 0 := by omega
  have hq2 : (25 * moN first 0 + moN first 1) % 25 = moN first 1 := by omega
  have hq3 := hA 0 (by omega) first (25 * moN first 0 + moN first 1) hfi (by omega)
  rw [hq1, hq2, if_neg (by omega), show V 0 - 1 - 0 = V 0 - 1 by omega, show 5000 * 0 + 625 * first + (25 * moN first 0 + moN first 1) = 625 * first + 25 * moN first 0 + moN first 1 by omega] at hq3
  refine A_topI hq3 ?_
  refine A_iret d_M_bestFrom_27 rfl ⟨Nat.zero_le _, Nat.zero_le _⟩ ?_
  exact ⟨rfl, S1, hM, hb, hA⟩
set_option maxHeartbeats 4000000 in
set_option maxRecDepth 100000 in
theorem c_M_bestAll {G : GE} {h0 h : AH} {m : Nat} {S : MS} (hM : MW h0 h m S) {l : Nat} {V : Nat → Nat} (hS : HS S l V) (hN : ND S V) (few : Bool) : Ctr G y_M_bestAll b_M_bestAll 4 (some .int) r_M_bestAll [.ref m, .int (bI few)] h (fun v h' => v = some (.int (encZ (allB few V (2 + 2 * V 1)))) ∧ ∃ S1, MW h0 h' m S1 ∧ S1.1 45 = bI few ∧ (∀ j, j ≠ 45 → S1.1 j = S.1 j) ∧ ∀ k, k ≠ 39 → S1.2.2.1 k = S.2.2.1 k) := by
  have ok := hS.ok
  have hH := ok.1
  have hC := ok.2.1
  have key : ∀ i, i ≤ 2 + 2 * V 1 → ∀ (h : AH) (S1 : MS), MW h0 h m S1 → S1.1 45 = bI few → (∀ j, j ≠ 45 → S1.1 j = S.1 j) → (∀ k, k ≠ 39 → S1.2.2.1 k = S.2.2.1 k) → WA G y_M_bestAll b_M_bestAll 4 (some .int) r_M_bestAll 0 0 (fun v h' => v = some (.int (encZ (allB few V (2 + 2 * V 1)))) ∧ ∃ S1, MW h0 h' m S1 ∧ S1.1 45 = bI few ∧ (∀ j, j ≠ 45 → S1.1 j = S.1 j) ∧ ∀ k, k ≠ 39 → S1.2.2.1 k = S.2.2.1 k) 0 0 11 [some (.ref m), some (.int (bI few)), some (.int (encZ (allB few V i))), some (.int (nI i))] [] h := by
    refine down ?_ (fun i hi ih => ?_)
    · intro h S1 hM h45 hf ha
      have hS1 : HS S1 l V := hS.keepF (fun k hk => ha k (by omega)) (fun j a b => hf j (by omega))
      have hN1 : ND S1 V := ⟨by rw [hf 41 (by decide)]; exact hN.1, by rw [hf 42 (by decide)]; exact hN.2.1, by rw [hf 43 (by decide)]; exact hN.2.2.1, by rw [hf 44 (by decide)]; exact hN.2.2.2.1, fun h hh => by rw [ha 40 (by decide)]; exact hN.2.2.2.2 h hh⟩
      refine A_iload_n3 d_M_bestAll_11 ?_
      refine A_aload_n0 d_M_bestAll_12 ?_
      refine A_callVP d_M_bestAll_13 (c_M_stateMany hM) hM.o rfl q_1468 q_1470 qs_59 mk_M_stateMany rfl (by decide) rfl (Nat.le_of_ble_eq_true rfl) ⟨Nat.le_of_ble_eq_true rfl, Nat.le_of_ble_eq_true rfl⟩ ⟨rfl, rfl⟩ ?_
      refine A_topI (show nI 2 + nI 2 * S1.1 28 = nI (2 + 2 * V 1) by rw [hS1.cross, nI_mul, nI_add]) ?_
      first | refine A_icmp_geN (tgt := 35) d_M_bestAll_16 (by decide) (by with_reducible rfl) (by with_reducible rfl) (by omega) (by omega) (fun c_16 => ?_) (fun c_16 => ?_) | refine A_icmp_ge (tgt := 35) d_M_bestAll_16 (by decide) (fun c_16 => ?_) (fun c_16 => ?_)
      · refine A_iload_n2 d_M_bestAll_35 ?_
        refine A_iret d_M_bestAll_36 rfl ⟨Nat.zero_le _, Nat.zero_le _⟩ ?_
        exact ⟨rfl, S1, hM, h45, hf, ha⟩
      · exact absurd c_16 (by omega)
    · intro h S1 hM h45 hf ha
      have hS1 : HS S1 l V := hS.keepF (fun k hk => ha k (by omega)) (fun j a b => hf j (by omega))
      have hN1 : ND S1 V := ⟨by rw [hf 41 (by decide)]; exact hN.1, by rw [hf 42 (by decide)]; exact hN.2.1, by rw [hf 43 (by decide)]; exact hN.2.2.1, by rw [hf 44 (by decide)]; exact hN.2.2.2.1, fun h hh => by rw [ha 40 (by decide)]; exact hN.2.2.2.2 h hh⟩
      refine A_iload_n3 d_M_bestAll_11 ?_
      refine A_aload_n0 d_M_bestAll_12 ?_
      refine A_callVP d_M_bestAll_13 (c_M_stateMany hM) hM.o rfl q_1468 q_1470 qs_59 mk_M_stateMany rfl (by decide) rfl (Nat.le_of_ble_eq_true rfl) ⟨Nat.le_of_ble_eq_true rfl, Nat.le_of_ble_eq_true rfl⟩ ⟨rfl, rfl⟩ ?_
      refine A_topI (show nI 2 + nI 2 * S1.1 28 = nI (2 + 2 * V 1) by rw [hS1.cross, nI_mul, nI_add]) ?_
      first | refine A_icmp_geN (tgt := 35) d_M_bestAll_16 (by decide) (by with_reducible rfl) (by with_reducible rfl) (by omega) (by omega) (fun c_16 => ?_) (fun c_16 => ?_) | refine A_icmp_ge (tgt := 35) d_M_bestAll_16 (by decide) (fun c_16 => ?_) (fun c_16 => ?_)
      · exact absurd c_16 (by omega)
      · refine A_iload_n2 d_M_bestAll_19 ?_
        refine A_aload_n0 d_M_bestAll_20 ?_
        refine A_iload_n3 d_M_bestAll_21 ?_
        refine A_callV d_M_bestAll_22 (c_M_bestFrom hM h45 hS1 hN1 i hi) hM.o rfl q_1509 q_1511 qs_68 mk_M_bestFrom rfl (by decide) rfl (Nat.le_of_ble_eq_true rfl) ⟨Nat.le_of_ble_eq_true rfl, Nat.le_of_ble_eq_true rfl⟩ (fun v h1 hv => ?_)
        obtain ⟨rfl, S2, hM, hb, -⟩ := hv
        refine A_callSP d_M_bestAll_25 (c_M_greater _ _ _) q_1294 q_1295 mk_M_greater rfl (by decide) rfl (Nat.le_of_ble_eq_true rfl) ⟨Nat.le_of_ble_eq_true rfl, Nat.le_of_ble_eq_true rfl⟩ ⟨rfl, rfl⟩ ?_
        have hz2 := bestB_bd2 ok (few := few) (first := i) (s := i) (d0 := moN i 0) (d1 := moN i 1) (show V 0 - 1 < 24 by omega)
        have hz3 : (if encZ (allB few V i) ≤ encZ (bestF few V i) then encZ (bestF few V i) else encZ (allB few V i)) = encZ (allB few V (i + 1)) := by
          show _ = encZ (maxO (allB few V i) (bestF few V i))
          have hz2 : bdO (bestF few V i) (-1000000) 30000000 := hz2
          generalize bestF few V i = q at hz2 ⊢
          cases q with
          | none =>
            rw [maxO_none]
            split
            · rename_i c
              cases hq : allB few V i with
              | none => rfl
              | some z =>
                exfalso
                rw [hq, Int32.le_iff_toInt_le] at c
                have hz := allB_bd (few := few) ok i z hq
                rw [show encZ (some z) = Int32.ofInt z from rfl, ofInt_toInt (by omega) (by omega)] at c
                have : (encZ none).toInt = -2000000000 := rfl
                omega
            · rfl
          | some z => exact encZ_max (bdO.wide2 (allB_bd ok i)) (by have := hz2 z rfl; omega) (by have := hz2 z rfl; omega)
        refine A_topI hz3 ?_
        refine A_istore2 d_M_bestAll_28 trivial ?_
        first | refine A_iinc3 d_M_bestAll_29 (nI_1 _) trivial ?_ | refine A_iinc3 d_M_bestAll_29 rfl trivial ?_
        refine A_goto (tgt := 11) d_M_bestAll_32 (by decide) ?_
        exact ih _ _ hM (by rw [hb.1]; exact h45) (fun j hj => by rw [hb.1]; exact hf j hj) (fun k hk => (hb.2 k hk).trans (ha k hk))
  refine Ctr.of (by decide +kernel) (by simp) (Nat.le_of_ble_eq_true rfl) (L0 := [some (.ref m), some (.int (bI few)), none, none]) rfl ?_
  refine A_aload_n0 d_M_bestAll_0 ?_
  refine A_iload_n1 d_M_bestAll_1 ?_
  refine A_putM hM (kf := 45) (ty := .boolean) d_M_bestAll_2 (by decide) q_1094 rfl (by decide +kernel) (by first | rfl | exact bI_nar _) (by cases few <;> rfl) (Nat.le_of_ble_eq_true rfl) rfl (fun h hM => ?_)
  obtain ⟨S2, hM, e45, f45, g45⟩ := opq hM
  refine A_ldcw d_M_bestAll_5 q_1508 ?_
  refine A_istore2 d_M_bestAll_8 trivial ?_
  refine A_iconst (v := nI 0) d_M_bestAll_9 (by decide) ?_
  refine A_istore3 d_M_bestAll_10 trivial ?_
  exact key 0 (Nat.zero_le _) _ _ hM e45 f45 (fun k _ => by rw [g45])
def soonB (r f : Nat → Nat) (H : Nat) : Bool := firstU (fun k => !decide (r k = f k)) (fun k => decide (r k < f k)) false H 0
set_option maxHeartbeats 4000000 in
set_option maxRecDepth 100000 in
theorem c_M_isSooner {G : GE} {h0 h : AH} {m : Nat} {S : MS} (hM : MW h0 h m S) {l : Nat} {V : Nat → Nat} (hS : HS S l V) {r f : Nat → Nat} (hr : ∀ k, k < V 0 → S.2.2.1 31 k = nI (r k) ∧ S.2.2.1 46 k = nI (f k) ∧ r k ≤ 3 ∧ f k ≤ 3) : Ctr G y_M_isSooner b_M_isSooner 2 (some .boolean) r_M_isSooner [.ref m] h (Pu (.int (bI (soonB r f (V 0)))) h) := by
  have hH := hS.ok.1
  have key : ∀ i, i ≤ V 0 → WA G y_M_isSooner b_M_isSooner 2 (some .boolean) r_M_isSooner 0 0 (Pu (.int (bI (firstU (fun k => !decide (r k = f k)) (fun k => decide (r k < f k)) false (V 0) i))) h) 0 0 2 [some (.ref m), some (.int (nI i))] [] h := by
    refine down ?_ (fun i hi ih => ?_)
    · refine A_iload_n1 d_M_isSooner_2 ?_
      refine A_aload_n0 d_M_isSooner_3 ?_
      refine A_getf (kf := 27) d_M_isSooner_4 hM.o ok_8 (by decide) q_1076 rfl ?_
      refine A_topI hS.hours ?_
      first | refine A_icmp_geN (tgt := 52) d_M_isSooner_7 (by decide) (by with_reducible rfl) (by with_reducible rfl) (by omega) (by omega) (fun c_7 => ?_) (fun c_7 => ?_) | refine A_icmp_ge (tgt := 52) d_M_isSooner_7 (by decide) (fun c_7 => ?_) (fun c_7 => ?_)
      · refine A_iconst (v := nI 0) d_M_isSooner_52 (by decide) ?_
        refine A_zret d_M_isSooner_53 rfl (by first | rfl | exact bI_nar _ | decide) ⟨Nat.zero_le _, Nat.zero_le _⟩ ?_
        exact pu (by rw [firstU_end]; rfl)
      · exact absurd c_7 (by omega)
    · refine A_iload_n1 d_M_isSooner_2 ?_
      refine A_aload_n0 d_M_isSooner_3 ?_
      refine A_getf (kf := 27) d_M_isSooner_4 hM.o ok_8 (by decide) q_1076 rfl ?_
      have hri := hr i hi
      refine A_topI hS.hours ?_
      first | refine A_icmp_geN (tgt := 52) d_M_isSooner_7 (by decide) (by with_reducible rfl) (by with_reducible rfl) (by omega) (by omega) (fun c_7 => ?_) (fun c_7 => ?_) | refine A_icmp_ge (tgt := 52) d_M_isSooner_7 (by decide) (fun c_7 => ?_) (fun c_7 => ?_)
      · exact absurd c_7 (by omega)
      · refine A_aload_n0 d_M_isSooner_10 ?_
        refine A_getf (kf := 31) d_M_isSooner_11 hM.o ok_8 (by decide) q_1080 rfl ?_
        refine A_iload_n1 d_M_isSooner_14 ?_
        refine A_ialdN d_M_isSooner_15 hM.a31 ⟨by omega, by decide⟩ ?_
        refine A_topI (hr i hi).1 ?_
        refine A_aload_n0 d_M_isSooner_16 ?_
        refine A_getf (kf := 46) d_M_isSooner_17 hM.o ok_8 (by decide) q_1095 rfl ?_
        refine A_iload_n1 d_M_isSooner_20 ?_
        refine A_ialdN d_M_isSooner_21 hM.a46 ⟨by omega, by decide⟩ ?_
        refine A_topI (hr i hi).2.1 ?_
        first | refine A_icmp_eqN (tgt := 46) d_M_isSooner_22 (by decide) (by with_reducible rfl) (by with_reducible rfl) (by omega) (by omega) (fun c_22 => ?_) (fun c_22 => ?_) | refine A_icmp_eq (tgt := 46) d_M_isSooner_22 (by decide) (fun c_22 => ?_) (fun c_22 => ?_)
        · first | refine A_iinc1 d_M_isSooner_46 (nI_1 _) trivial ?_ | refine A_iinc1 d_M_isSooner_46 rfl trivial ?_
          refine A_goto (tgt := 2) d_M_isSooner_49 (by decide) ?_
          rw [firstU_step _ _ _ hi, if_neg (by rw [decide_eq_true c_22]; decide)]
          exact ih
        · refine A_aload_n0 d_M_isSooner_25 ?_
          refine A_getf (kf := 31) d_M_isSooner_26 hM.o ok_8 (by decide) q_1080 rfl ?_
          refine A_iload_n1 d_M_isSooner_29 ?_
          refine A_ialdN d_M_isSooner_30 hM.a31 ⟨by omega, by decide⟩ ?_
          refine A_topI (hr i hi).1 ?_
          refine A_aload_n0 d_M_isSooner_31 ?_
          refine A_getf (kf := 46) d_M_isSooner_32 hM.o ok_8 (by decide) q_1095 rfl ?_
          refine A_iload_n1 d_M_isSooner_35 ?_
          refine A_ialdN d_M_isSooner_36 hM.a46 ⟨by omega, by decide⟩ ?_
          refine A_topI (hr i hi).2.1 ?_
          first | refine A_icmp_geN (tgt := 44) d_M_isSooner_37 (by decide) (by with_reducible rfl) (by with_reducible rfl) (by omega) (by omega) (fun c_37 => ?_) (fun c_37 => ?_) | refine A_icmp_ge (tgt := 44) d_M_isSooner_37 (by decide) (fun c_37 => ?_) (fun c_37 => ?_)
          · refine A_iconst (v := nI 0) d_M_isSooner_44 (by decide) ?_
            refine A_zret d_M_isSooner_45 rfl (by first | rfl | exact bI_nar _ | decide) ⟨Nat.zero_le _, Nat.zero_le _⟩ ?_
            exact pu (by rw [firstU_step _ _ _ hi, if_pos (by rw [decide_eq_false c_22]; rfl)]; first | (rw [decide_eq_true (p := r i < f i) (by omega)]; rfl) | (rw [decide_eq_false (p := r i < f i) (by omega)]; rfl))
          · refine A_iconst (v := nI 1) d_M_isSooner_40 (by decide) ?_
            refine A_goto (tgt := 45) d_M_isSooner_41 (by decide) ?_
            refine A_zret d_M_isSooner_45 rfl (by first | rfl | exact bI_nar _ | decide) ⟨Nat.zero_le _, Nat.zero_le _⟩ ?_
            exact pu (by rw [firstU_step _ _ _ hi, if_pos (by rw [decide_eq_false c_22]; rfl)]; first | (rw [decide_eq_true (p := r i < f i) (by omega)]; rfl) | (rw [decide_eq_false (p := r i < f i) (by omega)]; rfl))
  refine Ctr.of (by decide +kernel) (by simp) (Nat.le_of_ble_eq_true rfl) (L0 := [some (.ref m), none]) rfl ?_
  refine A_iconst (v := nI 0) d_M_isSooner_0 (by decide) ?_
  refine A_istore1 d_M_isSooner_1 trivial ?_
  exact key 0 (Nat.zero_le _)
