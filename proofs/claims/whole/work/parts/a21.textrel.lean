theorem slx {S S1 : MS} (h : ∀ j, 1 ≤ j → j ≤ 10 → ∀ i, nK j ≤ i → S1.2.2.1 j i = S.2.2.1 j i) : ∀ q, AEq (slA S (q + 1)) (slA S1 (q + 1)) := fun q j a b i hi => by
  show S1.2.2.1 j (nK j * (q + 1) + i) = S.2.2.1 j (nK j * (q + 1) + i)
  refine h j a b _ ?_
  have := Nat.mul_le_mul_left (nK j) (show 1 ≤ q + 1 by omega)
  omega
theorem ft_0 {B : Nat → Nat} {n of : Nat} (h : ftN B n of = 0) : (rdX B n of).1 = none ∧ ¬ ((of = 0 ∧ ((rdX B n of).2.1 4 < (rdX B n of).2.2.1.1 ∨ (rdX B n of).2.1 0 < (rdX B n of).2.2.1.2.1)) ∨ (of = 2 ∧ 96 < (rdX B n of).2.2.1.2.2)) ∧ plN B n of = -1 := by
  unfold ftN at h
  unfold plN
  cases e : (rdX B n of).1 with
  | some x => rw [e] at h; cases h
  | none =>
    rw [e] at h
    have h : (endS of (rdX B n of).2 n).1 = 0 := h
    refine ⟨rfl, fun z => ?_, if_pos h⟩
    unfold endS at h
    by_cases s0 : (rdX B n of).2.2.2.1 = 0
    · rw [if_pos ⟨s0, z⟩] at h; cases h
    · rw [if_neg (fun w => s0 w.1)] at h; exact s0 h
theorem cnt_ok {g : Nat → Int32} {c : Nat → Nat} {of k : Nat} {xa : Int32} (h : ∀ s, s < 5 → g s = nI (c s) ∧ c s ≤ 2) (hof : of ≤ 4) (hs : k < 2 ∧ (k = c of ↔ xa = -1) ∧ k ≤ c of) : ∀ s, s < 5 → (if k = c of then fup g of (nI (c of + 1)) else g) s = nI (fup c of (if xa = -1 then c of + 1 else c of) s) ∧ fup c of (if xa = -1 then c of + 1 else c of) s ≤ 2 := fun s hs5 => by
  have hc := (h of (by omega)).2
  by_cases z : xa = -1
  · have zk := hs.2.1.mpr z
    rw [if_pos zk, if_pos z]
    by_cases w : s = of
    · subst w
      rw [fup_eq, fup_eq]
      exact ⟨rfl, by omega⟩
    · rw [fup_ne _ _ w, fup_ne _ _ w]
      exact h s hs5
  · rw [if_neg (fun y => z (hs.2.1.mp y)), if_neg z]
    by_cases w : s = of
    · subst w
      rw [fup_eq]
      exact h s hs5
    · rw [fup_ne _ _ w]
      exact h s hs5
theorem cnt_m {g : Nat → Int32} {c : Nat → Nat} {of k : Nat} {xa : Int32} (h : ∀ s, s < 5 → g s = nI (c s) ∧ c s ≤ 2) (hof : of ≤ 4) (hs : k < 2 ∧ (k = c of ↔ xa = -1) ∧ k ≤ c of) : ∀ s, s < 5 → fup g of (nI (if xa = -1 then c of + 1 else c of)) s = nI (fup c of (if xa = -1 then c of + 1 else c of) s) ∧ fup c of (if xa = -1 then c of + 1 else c of) s ≤ 2 := fun s hs5 => by
  have h2 := (cnt_ok h hof hs s hs5).2
  refine ⟨?_, h2⟩
  by_cases w : s = of
  · subst w
    rw [fup_eq, fup_eq]
  · rw [fup_ne _ _ w, fup_ne _ _ w]
    exact (h s hs5).1
theorem cnt_lt {c : Nat → Nat} {of k i : Nat} {xa : Int32} (hs : k < 2 ∧ (k = c of ↔ xa = -1) ∧ k ≤ c of) (hi : i < fup c of (if xa = -1 then c of + 1 else c of) of) : i = k ∨ i ≠ k ∧ i < c of := by
  rw [fup_eq] at hi
  by_cases z : xa = -1
  · have := hs.2.1.mpr z
    rw [if_pos z] at hi
    omega
  · rw [if_neg z] at hi
    omega
theorem sto_in {g : Nat → Int32} {w k : Nat} {T : Nat → Nat} {i : Nat} (h : i < w) : stoF g w k T (w * k + i) = nI (T i) := by
  unfold stoF stoP
  rw [if_pos (by omega), Nat.add_sub_cancel_left]
theorem sto_out {g : Nat → Int32} {w k : Nat} {T : Nat → Nat} {j : Nat} (h : ¬ (w * k ≤ j ∧ j < w * k + w)) : stoF g w k T j = g j := by
  unfold stoF stoP
  rw [if_neg h]
theorem BX.vr {D : LD} {T : Nat → Nat} (h : BX D T) (ht : totB T ≤ 96) : BVr D T := by
  obtain ⟨b0, b1, f0, f1, hS, hW⟩ := h
  exact ⟨⟨b0, b1, ht⟩, f0, f1, hS, fun t h96 => hW t h96 (by omega)⟩
theorem MPx0 {S S1 : MS} {c c1 : Nat → Nat} {VL WT BK SG GM NV : Nat → Nat → Nat} (h : MP S c VL WT BK SG GM) (h5 : ∀ s, s < 5 → S1.2.2.1 5 s = nI (c1 s) ∧ c1 s ≤ 2) (e0 : ∀ l, l < c1 0 → ML S1 l (NV l)) (e1 : (∀ l, l < c1 1 → MT S1 l (WT l)) ∨ c1 1 = c 1 ∧ S1.2.2.1 7 = S.2.2.1 7) (e2 : (∀ l, l < c1 2 → MB S1 l (BK l)) ∨ c1 2 = c 2 ∧ S1.2.2.1 8 = S.2.2.1 8) (e3 : (∀ l, l < c1 3 → MSi S1 l (SG l)) ∨ c1 3 = c 3 ∧ S1.2.2.1 9 = S.2.2.1 9) (e4 : (∀ l, l < c1 4 → MG S1 l (GM l)) ∨ c1 4 = c 4 ∧ S1.2.2.1 10 = S.2.2.1 10) : MP S1 c1 NV WT BK SG GM := by
  obtain ⟨h1, h2, h3, h4, hh, h6⟩ := h
  refine ⟨h5, fun l hl => ?_, fun l hl => ?_, fun l hl => ?_, fun l hl => ?_, fun l hl => ?_⟩
  · exact e0 l hl
  · rcases e1 with e | ⟨e, f⟩
    · exact e l hl
    · obtain ⟨a, d⟩ := h3 l (e ▸ hl)
      exact ⟨a, fun i hi => by rw [f]; exact d i hi⟩
  · rcases e2 with e | ⟨e, f⟩
    · exact e l hl
    · obtain ⟨a, b, d⟩ := h4 l (e ▸ hl)
      exact ⟨a, b, fun i hi => by rw [f]; exact d i hi⟩
  · rcases e3 with e | ⟨e, f⟩
    · exact e l hl
    · obtain ⟨a, b, d⟩ := hh l (e ▸ hl)
      exact ⟨a, b, fun i hi => by rw [f]; exact d i hi⟩
  · rcases e4 with e | ⟨e, f⟩
    · exact e l hl
    · obtain ⟨a, d⟩ := h6 l (e ▸ hl)
      exact ⟨a, fun i hi => by rw [f]; exact d i hi⟩
theorem text_c0 {c : Nat → Nat} {VL WT BK SG GM : Nat → Nat → Nat} {len : Nat} {W W1 : TD} {S S1 : MS} {B : Nat → Nat} {xa : Int32} {k : Nat} {Z1 : RC} (hq : RELq c VL WT BK SG GM len W S) (hs : k < 2 ∧ (k = c 0 ↔ xa = -1) ∧ k ≤ c 0) (hf : ftN B len 0 = 0) (hC : CR 0 Z1 (rdX B len 0).2.1 (rdX B len 0).2.2.1) (hK : KPQ 0 k (if k = c 0 then fup (W.2.1 1) 0 (nI (c 0 + 1)) else W.2.1 1) Z1 (tx3 W.1 (nI 0) (-1), W.2) W1)
    (e2 : S1.2.2.1 2 = fup (S.2.2.1 2) 0 (nI 0)) (e3 : S1.2.2.1 3 = fup (S.2.2.1 3) 0 (nI 0)) (e4 : S1.2.2.1 4 = fup (S.2.2.1 4) 0 (plN B len 0)) (e5 : S1.2.2.1 5 = fup (S.2.2.1 5) 0 (nI (if xa = -1 then c 0 + 1 else c 0))) (hj6 : S1.2.2.1 6 = stoF (S.2.2.1 6) 312 k (rdX B len 0).2.1) (hj : ∀ j, j ≠ 2 → j ≠ 3 → j ≠ 4 → j ≠ 5 → j ≠ 6 + 0 → (j ≤ 10 ∨ j = 55) → S1.2.2.1 j = S.2.2.1 j) : REL W1 S1 ∧ ∀ q, AEq (slA S (q + 1)) (slA S1 (q + 1)) := by
  obtain ⟨⟨n1, n2, n3, n4, n5, n6⟩, hMP, hPL, hBL, -, -, hTP⟩ := hq
  obtain ⟨h1, h2, h3, h4, hh, h6⟩ := hMP
  obtain ⟨k0, k1, k2, k4, k5, k6, k7, k8, k9, k10, k11, k12, k13⟩ := hK
  obtain ⟨-, hnc, hpl⟩ := ft_0 hf
  obtain ⟨z14, hz14⟩ := hC.2.2.2.2.2.2.2
  replace hj : ∀ j, j ≠ 2 → j ≠ 3 → j ≠ 4 → j ≠ 5 → j ≠ 6 + 0 → j ≤ 10 → S1.2.2.1 j = S.2.2.1 j := fun j a b d e f g => hj j a b d e f (.inl g)
  have hTR : TR W1 (fup c 0 (if xa = -1 then c 0 + 1 else c 0)) (fup VL k (rdX B len 0).2.1) WT BK SG GM := by
    refine ⟨fun s hs5 => by rw [k2]; exact cnt_ok n1 (by decide) hs s hs5, fun i hi => ?_, fun i hi x hx => by rw [fup_ne c _ (show (1 : Nat) ≠ 0 by decide)] at hi; have := (n1 1 (by decide)).2; rw [k7 (2 + i) (by omega) (fun w => absurd w (by decide))]; exact n3 i hi x hx, fun i hi => by rw [k9 (by decide)]; exact n4 i (by rw [fup_ne _ _ (show (2 : Nat) ≠ 0 by decide)] at hi; exact hi), fun i hi => by rw [k11 (by decide)]; exact n5 i (by rw [fup_ne _ _ (show (3 : Nat) ≠ 0 by decide)] at hi; exact hi), fun i hi x hx => by rw [fup_ne c _ (show (4 : Nat) ≠ 0 by decide)] at hi; have := (n1 4 (by decide)).2; rw [k13 (4 + i) (by omega) (fun w => absurd w (by decide))]; exact n6 i hi x hx⟩
    obtain ⟨D, eD, qD⟩ := k4 rfl
    rw [eD]
    rcases cnt_lt hs hi with rfl | ⟨z, z2⟩
    · rw [fup_eq, fup_eq]
      exact (hC.1 rfl).1.1.same qD
    · rw [fup_ne _ _ z, fup_ne _ _ z]
      exact n2 i z2
  have hMP1 : MP S1 (fup c 0 (if xa = -1 then c 0 + 1 else c 0)) (fup VL k (rdX B len 0).2.1) WT BK SG GM := by
    refine MPx0 ⟨h1, h2, h3, h4, hh, h6⟩ (fun s hs5 => by rw [e5]; exact cnt_m h1 (by decide) hs s hs5) (fun l hl => ?_) (.inr ⟨fup_ne c _ (show (1 : Nat) ≠ 0 by decide), hj 7 (by decide) (by decide) (by decide) (by decide) (by decide) (by decide)⟩) (.inr ⟨fup_ne c _ (show (2 : Nat) ≠ 0 by decide), hj 8 (by decide) (by decide) (by decide) (by decide) (by decide) (by decide)⟩) (.inr ⟨fup_ne c _ (show (3 : Nat) ≠ 0 by decide), hj 9 (by decide) (by decide) (by decide) (by decide) (by decide) (by decide)⟩) (.inr ⟨fup_ne c _ (show (4 : Nat) ≠ 0 by decide), hj 10 (by decide) (by decide) (by decide) (by decide) (by decide) (by decide)⟩)
    rcases cnt_lt hs hl with rfl | ⟨z, z2⟩
    · rw [fup_eq]
      exact ⟨hs.1, (hC.1 rfl).1.1.1, fun i hi => by rw [hj6]; exact sto_in hi⟩
    · rw [fup_ne _ _ z]
      obtain ⟨a, b, d⟩ := h2 l z2
      exact ⟨a, b, fun i hi => by rw [hj6, sto_out (by omega)]; exact d i hi⟩
  refine ⟨⟨_, _, _, _, _, _, 0, hTR, hMP1, ?_, ?_, ⟨Nat.zero_le _, by rw [k0]; rfl, by rw [e2]; rfl⟩, ⟨by rw [k0, e3]; rfl, by rw [k0, e4, hpl]; rfl⟩, fun x hx => ?_⟩, slx (fun j a b i hi => ?_)⟩
  · intro i hi
    obtain ⟨D, eD, qD⟩ := k4 rfl
    rw [eD]
    rcases cnt_lt hs hi with rfl | ⟨z, z2⟩
    · rw [fup_eq, fup_eq]
      intro w
      exact absurd (w.symm.trans (qD.2.2.2.2.2.2.1.trans (hC.1 rfl).1.2.2)) (by decide)
    · rw [fup_ne _ _ z, fup_ne _ _ z]
      exact hPL i z2
  · intro i hi
    obtain ⟨D, eD, qD⟩ := k4 rfl
    rw [eD]
    by_cases z : i = k
    · subst z
      rw [fup_eq]
      exact ⟨false, z14, qD.2.2.2.2.2.2.1.trans (hC.1 rfl).1.2.2, qD.2.2.2.2.2.2.2.1.trans hz14⟩
    · rw [fup_ne _ _ z]
      exact hBL i hi
  · rw [hj 1 (by decide) (by decide) (by decide) (by decide) (by decide) (by decide), k1]
    exact hTP x hx
  · by_cases j2 : j = 2
    · subst j2
      rw [e2]
      exact fup_ne _ _ (by have : nK 2 = 1 := rfl; omega)
    by_cases j3 : j = 3
    · subst j3
      rw [e3]
      exact fup_ne _ _ (by have : nK 3 = 1 := rfl; omega)
    by_cases j4 : j = 4
    · subst j4
      rw [e4]
      exact fup_ne _ _ (by have : nK 4 = 1 := rfl; omega)
    by_cases j5 : j = 5
    · subst j5
      rw [e5]
      exact fup_ne _ _ (by have : nK 5 = 5 := rfl; omega)
    by_cases j6 : j = 6
    · subst j6
      rw [hj6]
      exact sto_out (by have : nK 6 = 624 := rfl; have := hs.1; omega)
    · rw [hj j j2 j3 j4 j5 j6 b]
theorem MPx1 {S S1 : MS} {c c1 : Nat → Nat} {VL WT BK SG GM NV : Nat → Nat → Nat} (h : MP S c VL WT BK SG GM) (h5 : ∀ s, s < 5 → S1.2.2.1 5 s = nI (c1 s) ∧ c1 s ≤ 2) (e0 : (∀ l, l < c1 0 → ML S1 l (VL l)) ∨ c1 0 = c 0 ∧ S1.2.2.1 6 = S.2.2.1 6) (e1 : ∀ l, l < c1 1 → MT S1 l (NV l)) (e2 : (∀ l, l < c1 2 → MB S1 l (BK l)) ∨ c1 2 = c 2 ∧ S1.2.2.1 8 = S.2.2.1 8) (e3 : (∀ l, l < c1 3 → MSi S1 l (SG l)) ∨ c1 3 = c 3 ∧ S1.2.2.1 9 = S.2.2.1 9) (e4 : (∀ l, l < c1 4 → MG S1 l (GM l)) ∨ c1 4 = c 4 ∧ S1.2.2.1 10 = S.2.2.1 10) : MP S1 c1 VL NV BK SG GM := by
  obtain ⟨h1, h2, h3, h4, hh, h6⟩ := h
  refine ⟨h5, fun l hl => ?_, fun l hl => ?_, fun l hl => ?_, fun l hl => ?_, fun l hl => ?_⟩
  · rcases e0 with e | ⟨e, f⟩
    · exact e l hl
    · obtain ⟨a, b, d⟩ := h2 l (e ▸ hl)
      exact ⟨a, b, fun i hi => by rw [f]; exact d i hi⟩
  · exact e1 l hl
  · rcases e2 with e | ⟨e, f⟩
    · exact e l hl
    · obtain ⟨a, b, d⟩ := h4 l (e ▸ hl)
      exact ⟨a, b, fun i hi => by rw [f]; exact d i hi⟩
  · rcases e3 with e | ⟨e, f⟩
    · exact e l hl
    · obtain ⟨a, b, d⟩ := hh l (e ▸ hl)
      exact ⟨a, b, fun i hi => by rw [f]; exact d i hi⟩
  · rcases e4 with e | ⟨e, f⟩
    · exact e l hl
    · obtain ⟨a, d⟩ := h6 l (e ▸ hl)
      exact ⟨a, fun i hi => by rw [f]; exact d i hi⟩
theorem text_c1 {c : Nat → Nat} {VL WT BK SG GM : Nat → Nat → Nat} {len : Nat} {W W1 : TD} {S S1 : MS} {B : Nat → Nat} {xa : Int32} {k : Nat} {Z1 : RC} (hq : RELq c VL WT BK SG GM len W S) (hs : k < 2 ∧ (k = c 1 ↔ xa = -1) ∧ k ≤ c 1) (hf : ftN B len 1 = 0) (hC : CR 1 Z1 (rdX B len 1).2.1 (rdX B len 1).2.2.1) (hK : KPQ 1 k (if k = c 1 then fup (W.2.1 1) 1 (nI (c 1 + 1)) else W.2.1 1) Z1 (tx3 W.1 (nI 0) (-1), W.2) W1)
    (e2 : S1.2.2.1 2 = fup (S.2.2.1 2) 0 (nI 0)) (e3 : S1.2.2.1 3 = fup (S.2.2.1 3) 0 (nI 0)) (e4 : S1.2.2.1 4 = fup (S.2.2.1 4) 0 (plN B len 1)) (e5 : S1.2.2.1 5 = fup (S.2.2.1 5) 1 (nI (if xa = -1 then c 1 + 1 else c 1))) (hj6 : S1.2.2.1 7 = stoF (S.2.2.1 7) 24 k (rdX B len 1).2.1) (hj : ∀ j, j ≠ 2 → j ≠ 3 → j ≠ 4 → j ≠ 5 → j ≠ 6 + 1 → (j ≤ 10 ∨ j = 55) → S1.2.2.1 j = S.2.2.1 j) : REL W1 S1 ∧ ∀ q, AEq (slA S (q + 1)) (slA S1 (q + 1)) := by
  obtain ⟨⟨n1, n2, n3, n4, n5, n6⟩, hMP, hPL, hBL, -, -, hTP⟩ := hq
  obtain ⟨h1, h2, h3, h4, hh, h6⟩ := hMP
  obtain ⟨k0, k1, k2, k4, k5, k6, k7, k8, k9, k10, k11, k12, k13⟩ := hK
  obtain ⟨-, hnc, hpl⟩ := ft_0 hf
  obtain ⟨z14, hz14⟩ := hC.2.2.2.2.2.2.2
  replace hj : ∀ j, j ≠ 2 → j ≠ 3 → j ≠ 4 → j ≠ 5 → j ≠ 6 + 1 → j ≤ 10 → S1.2.2.1 j = S.2.2.1 j := fun j a b d e f g => hj j a b d e f (.inl g)
  have hTR : TR W1 (fup c 1 (if xa = -1 then c 1 + 1 else c 1)) VL (fup WT k (rdX B len 1).2.1) BK SG GM := by
    refine ⟨fun s hs5 => by rw [k2]; exact cnt_ok n1 (by decide) hs s hs5, fun i hi => by rw [k5 (by decide)]; exact n2 i (by rw [fup_ne _ _ (show (0 : Nat) ≠ 1 by decide)] at hi; exact hi), fun i hi x hx => ?_, fun i hi => by rw [k9 (by decide)]; exact n4 i (by rw [fup_ne _ _ (show (2 : Nat) ≠ 1 by decide)] at hi; exact hi), fun i hi => by rw [k11 (by decide)]; exact n5 i (by rw [fup_ne _ _ (show (3 : Nat) ≠ 1 by decide)] at hi; exact hi), fun i hi x hx => by rw [fup_ne c _ (show (4 : Nat) ≠ 1 by decide)] at hi; have := (n1 4 (by decide)).2; rw [k13 (4 + i) (by omega) (fun w => absurd w (by decide))]; exact n6 i hi x hx⟩
    rcases cnt_lt hs hi with rfl | ⟨z, z2⟩
    · rw [fup_eq, k6 rfl x hx]
      exact hC.2.2.1 rfl x hx
    · rw [fup_ne _ _ z, k7 (2 + i) (by have := (n1 1 (by decide)).2; omega) (fun _ => by omega)]
      exact n3 i z2 x hx
  have hMP1 : MP S1 (fup c 1 (if xa = -1 then c 1 + 1 else c 1)) VL (fup WT k (rdX B len 1).2.1) BK SG GM := by
    refine MPx1 ⟨h1, h2, h3, h4, hh, h6⟩ (fun s hs5 => by rw [e5]; exact cnt_m h1 (by decide) hs s hs5) (.inr ⟨fup_ne c _ (show (0 : Nat) ≠ 1 by decide), hj 6 (by decide) (by decide) (by decide) (by decide) (by decide) (by decide)⟩) (fun l hl => ?_) (.inr ⟨fup_ne c _ (show (2 : Nat) ≠ 1 by decide), hj 8 (by decide) (by decide) (by decide) (by decide) (by decide) (by decide)⟩) (.inr ⟨fup_ne c _ (show (3 : Nat) ≠ 1 by decide), hj 9 (by decide) (by decide) (by decide) (by decide) (by decide) (by decide)⟩) (.inr ⟨fup_ne c _ (show (4 : Nat) ≠ 1 by decide), hj 10 (by decide) (by decide) (by decide) (by decide) (by decide) (by decide)⟩)
    rcases cnt_lt hs hl with rfl | ⟨z, z2⟩
    · rw [fup_eq]
      exact ⟨hs.1, fun i hi => ⟨by rw [hj6]; exact sto_in hi, (hC.2.2.1 rfl i hi).2⟩⟩
    · rw [fup_ne _ _ z]
      obtain ⟨a, d⟩ := h3 l z2
      exact ⟨a, fun i hi => by rw [hj6, sto_out (by omega)]; exact d i hi⟩
  refine ⟨⟨_, _, _, _, _, _, 0, hTR, hMP1, ?_, ?_, ⟨Nat.zero_le _, by rw [k0]; rfl, by rw [e2]; rfl⟩, ⟨by rw [k0, e3]; rfl, by rw [k0, e4, hpl]; rfl⟩, fun x hx => ?_⟩, slx (fun j a b i hi => ?_)⟩
  · intro i hi
    rw [k5 (by decide)]
    exact hPL i (by rw [fup_ne _ _ (show (0 : Nat) ≠ 1 by decide)] at hi; exact hi)
  · intro i hi
    rw [k5 (by decide)]
    exact hBL i hi
  · rw [hj 1 (by decide) (by decide) (by decide) (by decide) (by decide) (by decide), k1]
    exact hTP x hx
  · by_cases j2 : j = 2
    · subst j2
      rw [e2]
      exact fup_ne _ _ (by have : nK 2 = 1 := rfl; omega)
    by_cases j3 : j = 3
    · subst j3
      rw [e3]
      exact fup_ne _ _ (by have : nK 3 = 1 := rfl; omega)
    by_cases j4 : j = 4
    · subst j4
      rw [e4]
      exact fup_ne _ _ (by have : nK 4 = 1 := rfl; omega)
    by_cases j5 : j = 5
    · subst j5
      rw [e5]
      exact fup_ne _ _ (by have : nK 5 = 5 := rfl; omega)
    by_cases j6 : j = 7
    · subst j6
      rw [hj6]
      exact sto_out (by have : nK 7 = 48 := rfl; have := hs.1; omega)
    · rw [hj j j2 j3 j4 j5 j6 b]
theorem MPx2 {S S1 : MS} {c c1 : Nat → Nat} {VL WT BK SG GM NV : Nat → Nat → Nat} (h : MP S c VL WT BK SG GM) (h5 : ∀ s, s < 5 → S1.2.2.1 5 s = nI (c1 s) ∧ c1 s ≤ 2) (e0 : (∀ l, l < c1 0 → ML S1 l (VL l)) ∨ c1 0 = c 0 ∧ S1.2.2.1 6 = S.2.2.1 6) (e1 : (∀ l, l < c1 1 → MT S1 l (WT l)) ∨ c1 1 = c 1 ∧ S1.2.2.1 7 = S.2.2.1 7) (e2 : ∀ l, l < c1 2 → MB S1 l (NV l)) (e3 : (∀ l, l < c1 3 → MSi S1 l (SG l)) ∨ c1 3 = c 3 ∧ S1.2.2.1 9 = S.2.2.1 9) (e4 : (∀ l, l < c1 4 → MG S1 l (GM l)) ∨ c1 4 = c 4 ∧ S1.2.2.1 10 = S.2.2.1 10) : MP S1 c1 VL WT NV SG GM := by
  obtain ⟨h1, h2, h3, h4, hh, h6⟩ := h
  refine ⟨h5, fun l hl => ?_, fun l hl => ?_, fun l hl => ?_, fun l hl => ?_, fun l hl => ?_⟩
  · rcases e0 with e | ⟨e, f⟩
    · exact e l hl
    · obtain ⟨a, b, d⟩ := h2 l (e ▸ hl)
      exact ⟨a, b, fun i hi => by rw [f]; exact d i hi⟩
  · rcases e1 with e | ⟨e, f⟩
    · exact e l hl
    · obtain ⟨a, d⟩ := h3 l (e ▸ hl)
      exact ⟨a, fun i hi => by rw [f]; exact d i hi⟩
  · exact e2 l hl
  · rcases e3 with e | ⟨e, f⟩
    · exact e l hl
    · obtain ⟨a, b, d⟩ := hh l (e ▸ hl)
      exact ⟨a, b, fun i hi => by rw [f]; exact d i hi⟩
  · rcases e4 with e | ⟨e, f⟩
    · exact e l hl
    · obtain ⟨a, d⟩ := h6 l (e ▸ hl)
      exact ⟨a, fun i hi => by rw [f]; exact d i hi⟩
theorem text_c2 {c : Nat → Nat} {VL WT BK SG GM : Nat → Nat → Nat} {len : Nat} {W W1 : TD} {S S1 : MS} {B : Nat → Nat} {xa : Int32} {k : Nat} {Z1 : RC} (hq : RELq c VL WT BK SG GM len W S) (hs : k < 2 ∧ (k = c 2 ↔ xa = -1) ∧ k ≤ c 2) (hf : ftN B len 2 = 0) (hC : CR 2 Z1 (rdX B len 2).2.1 (rdX B len 2).2.2.1) (hK : KPQ 2 k (if k = c 2 then fup (W.2.1 1) 2 (nI (c 2 + 1)) else W.2.1 1) Z1 (tx3 W.1 (nI 0) (-1), W.2) W1)
    (e2 : S1.2.2.1 2 = fup (S.2.2.1 2) 0 (nI 0)) (e3 : S1.2.2.1 3 = fup (S.2.2.1 3) 0 (nI 0)) (e4 : S1.2.2.1 4 = fup (S.2.2.1 4) 0 (plN B len 2)) (e5 : S1.2.2.1 5 = fup (S.2.2.1 5) 2 (nI (if xa = -1 then c 2 + 1 else c 2))) (hj6 : S1.2.2.1 8 = stoF (S.2.2.1 8) 61 k (rdX B len 2).2.1) (hj : ∀ j, j ≠ 2 → j ≠ 3 → j ≠ 4 → j ≠ 5 → j ≠ 6 + 2 → (j ≤ 10 ∨ j = 55) → S1.2.2.1 j = S.2.2.1 j) : REL W1 S1 ∧ ∀ q, AEq (slA S (q + 1)) (slA S1 (q + 1)) := by
  obtain ⟨⟨n1, n2, n3, n4, n5, n6⟩, hMP, hPL, hBL, -, -, hTP⟩ := hq
  obtain ⟨h1, h2, h3, h4, hh, h6⟩ := hMP
  obtain ⟨k0, k1, k2, k4, k5, k6, k7, k8, k9, k10, k11, k12, k13⟩ := hK
  obtain ⟨-, hnc, hpl⟩ := ft_0 hf
  obtain ⟨z14, hz14⟩ := hC.2.2.2.2.2.2.2
  have h96 : totB (rdX B len 2).2.1 ≤ 96 := by
    have := (hC.2.2.2.1 rfl).2
    exact Nat.le_of_not_lt (fun z => hnc (.inr ⟨rfl, by omega⟩))
  replace hj : ∀ j, j ≠ 2 → j ≠ 3 → j ≠ 4 → j ≠ 5 → j ≠ 6 + 2 → j ≤ 10 → S1.2.2.1 j = S.2.2.1 j := fun j a b d e f g => hj j a b d e f (.inl g)
  have hTR : TR W1 (fup c 2 (if xa = -1 then c 2 + 1 else c 2)) VL WT (fup BK k (rdX B len 2).2.1) SG GM := by
    refine ⟨fun s hs5 => by rw [k2]; exact cnt_ok n1 (by decide) hs s hs5, fun i hi => by rw [k5 (by decide)]; exact n2 i (by rw [fup_ne _ _ (show (0 : Nat) ≠ 2 by decide)] at hi; exact hi), fun i hi x hx => by rw [fup_ne c _ (show (1 : Nat) ≠ 2 by decide)] at hi; have := (n1 1 (by decide)).2; rw [k7 (2 + i) (by omega) (fun w => absurd w (by decide))]; exact n3 i hi x hx, fun i hi => ?_, fun i hi => by rw [k11 (by decide)]; exact n5 i (by rw [fup_ne _ _ (show (3 : Nat) ≠ 2 by decide)] at hi; exact hi), fun i hi x hx => by rw [fup_ne c _ (show (4 : Nat) ≠ 2 by decide)] at hi; have := (n1 4 (by decide)).2; rw [k13 (4 + i) (by omega) (fun w => absurd w (by decide))]; exact n6 i hi x hx⟩
    obtain ⟨D, eD, qD⟩ := k8 rfl
    rw [eD]
    rcases cnt_lt hs hi with rfl | ⟨z, z2⟩
    · rw [fup_eq, fup_eq]
      exact ((hC.2.2.2.1 rfl).1.vr h96).same qD
    · rw [fup_ne _ _ z, fup_ne _ _ z]
      exact n4 i z2
  have hMP1 : MP S1 (fup c 2 (if xa = -1 then c 2 + 1 else c 2)) VL WT (fup BK k (rdX B len 2).2.1) SG GM := by
    refine MPx2 ⟨h1, h2, h3, h4, hh, h6⟩ (fun s hs5 => by rw [e5]; exact cnt_m h1 (by decide) hs s hs5) (.inr ⟨fup_ne c _ (show (0 : Nat) ≠ 2 by decide), hj 6 (by decide) (by decide) (by decide) (by decide) (by decide) (by decide)⟩) (.inr ⟨fup_ne c _ (show (1 : Nat) ≠ 2 by decide), hj 7 (by decide) (by decide) (by decide) (by decide) (by decide) (by decide)⟩) (fun l hl => ?_) (.inr ⟨fup_ne c _ (show (3 : Nat) ≠ 2 by decide), hj 9 (by decide) (by decide) (by decide) (by decide) (by decide) (by decide)⟩) (.inr ⟨fup_ne c _ (show (4 : Nat) ≠ 2 by decide), hj 10 (by decide) (by decide) (by decide) (by decide) (by decide) (by decide)⟩)
    rcases cnt_lt hs hl with rfl | ⟨z, z2⟩
    · rw [fup_eq]
      exact ⟨hs.1, ((hC.2.2.2.1 rfl).1.vr h96).1, fun i hi => by rw [hj6]; exact sto_in hi⟩
    · rw [fup_ne _ _ z]
      obtain ⟨a, b, d⟩ := h4 l z2
      exact ⟨a, b, fun i hi => by rw [hj6, sto_out (by omega)]; exact d i hi⟩
  refine ⟨⟨_, _, _, _, _, _, 0, hTR, hMP1, ?_, ?_, ⟨Nat.zero_le _, by rw [k0]; rfl, by rw [e2]; rfl⟩, ⟨by rw [k0, e3]; rfl, by rw [k0, e4, hpl]; rfl⟩, fun x hx => ?_⟩, slx (fun j a b i hi => ?_)⟩
  · intro i hi
    rw [k5 (by decide)]
    exact hPL i (by rw [fup_ne _ _ (show (0 : Nat) ≠ 2 by decide)] at hi; exact hi)
  · intro i hi
    rw [k5 (by decide)]
    exact hBL i hi
  · rw [hj 1 (by decide) (by decide) (by decide) (by decide) (by decide) (by decide), k1]
    exact hTP x hx
  · by_cases j2 : j = 2
    · subst j2
      rw [e2]
      exact fup_ne _ _ (by have : nK 2 = 1 := rfl; omega)
    by_cases j3 : j = 3
    · subst j3
      rw [e3]
      exact fup_ne _ _ (by have : nK 3 = 1 := rfl; omega)
    by_cases j4 : j = 4
    · subst j4
      rw [e4]
      exact fup_ne _ _ (by have : nK 4 = 1 := rfl; omega)
    by_cases j5 : j = 5
    · subst j5
      rw [e5]
      exact fup_ne _ _ (by have : nK 5 = 5 := rfl; omega)
    by_cases j6 : j = 8
    · subst j6
      rw [hj6]
      exact sto_out (by have : nK 8 = 122 := rfl; have := hs.1; omega)
    · rw [hj j j2 j3 j4 j5 j6 b]
theorem MPx3 {S S1 : MS} {c c1 : Nat → Nat} {VL WT BK SG GM NV : Nat → Nat → Nat} (h : MP S c VL WT BK SG GM) (h5 : ∀ s, s < 5 → S1.2.2.1 5 s = nI (c1 s) ∧ c1 s ≤ 2) (e0 : (∀ l, l < c1 0 → ML S1 l (VL l)) ∨ c1 0 = c 0 ∧ S1.2.2.1 6 = S.2.2.1 6) (e1 : (∀ l, l < c1 1 → MT S1 l (WT l)) ∨ c1 1 = c 1 ∧ S1.2.2.1 7 = S.2.2.1 7) (e2 : (∀ l, l < c1 2 → MB S1 l (BK l)) ∨ c1 2 = c 2 ∧ S1.2.2.1 8 = S.2.2.1 8) (e3 : ∀ l, l < c1 3 → MSi S1 l (NV l)) (e4 : (∀ l, l < c1 4 → MG S1 l (GM l)) ∨ c1 4 = c 4 ∧ S1.2.2.1 10 = S.2.2.1 10) : MP S1 c1 VL WT BK NV GM := by
  obtain ⟨h1, h2, h3, h4, hh, h6⟩ := h
  refine ⟨h5, fun l hl => ?_, fun l hl => ?_, fun l hl => ?_, fun l hl => ?_, fun l hl => ?_⟩
  · rcases e0 with e | ⟨e, f⟩
    · exact e l hl
    · obtain ⟨a, b, d⟩ := h2 l (e ▸ hl)
      exact ⟨a, b, fun i hi => by rw [f]; exact d i hi⟩
  · rcases e1 with e | ⟨e, f⟩
    · exact e l hl
    · obtain ⟨a, d⟩ := h3 l (e ▸ hl)
      exact ⟨a, fun i hi => by rw [f]; exact d i hi⟩
  · rcases e2 with e | ⟨e, f⟩
    · exact e l hl
    · obtain ⟨a, b, d⟩ := h4 l (e ▸ hl)
      exact ⟨a, b, fun i hi => by rw [f]; exact d i hi⟩
  · exact e3 l hl
  · rcases e4 with e | ⟨e, f⟩
    · exact e l hl
    · obtain ⟨a, d⟩ := h6 l (e ▸ hl)
      exact ⟨a, fun i hi => by rw [f]; exact d i hi⟩
theorem text_c3 {c : Nat → Nat} {VL WT BK SG GM : Nat → Nat → Nat} {len : Nat} {W W1 : TD} {S S1 : MS} {B : Nat → Nat} {xa : Int32} {k : Nat} {Z1 : RC} (hq : RELq c VL WT BK SG GM len W S) (hs : k < 2 ∧ (k = c 3 ↔ xa = -1) ∧ k ≤ c 3) (hf : ftN B len 3 = 0) (hC : CR 3 Z1 (rdX B len 3).2.1 (rdX B len 3).2.2.1) (hK : KPQ 3 k (if k = c 3 then fup (W.2.1 1) 3 (nI (c 3 + 1)) else W.2.1 1) Z1 (tx3 W.1 (nI 0) (-1), W.2) W1)
    (e2 : S1.2.2.1 2 = fup (S.2.2.1 2) 0 (nI 0)) (e3 : S1.2.2.1 3 = fup (S.2.2.1 3) 0 (nI 0)) (e4 : S1.2.2.1 4 = fup (S.2.2.1 4) 0 (plN B len 3)) (e5 : S1.2.2.1 5 = fup (S.2.2.1 5) 3 (nI (if xa = -1 then c 3 + 1 else c 3))) (hj6 : S1.2.2.1 9 = stoF (S.2.2.1 9) 61 k (rdX B len 3).2.1) (hj : ∀ j, j ≠ 2 → j ≠ 3 → j ≠ 4 → j ≠ 5 → j ≠ 6 + 3 → (j ≤ 10 ∨ j = 55) → S1.2.2.1 j = S.2.2.1 j) : REL W1 S1 ∧ ∀ q, AEq (slA S (q + 1)) (slA S1 (q + 1)) := by
  obtain ⟨⟨n1, n2, n3, n4, n5, n6⟩, hMP, hPL, hBL, -, -, hTP⟩ := hq
  obtain ⟨h1, h2, h3, h4, hh, h6⟩ := hMP
  obtain ⟨k0, k1, k2, k4, k5, k6, k7, k8, k9, k10, k11, k12, k13⟩ := hK
  obtain ⟨-, hnc, hpl⟩ := ft_0 hf
  obtain ⟨z14, hz14⟩ := hC.2.2.2.2.2.2.2
  replace hj : ∀ j, j ≠ 2 → j ≠ 3 → j ≠ 4 → j ≠ 5 → j ≠ 6 + 3 → j ≤ 10 → S1.2.2.1 j = S.2.2.1 j := fun j a b d e f g => hj j a b d e f (.inl g)
  have hTR : TR W1 (fup c 3 (if xa = -1 then c 3 + 1 else c 3)) VL WT BK (fup SG k (rdX B len 3).2.1) GM := by
    refine ⟨fun s hs5 => by rw [k2]; exact cnt_ok n1 (by decide) hs s hs5, fun i hi => by rw [k5 (by decide)]; exact n2 i (by rw [fup_ne _ _ (show (0 : Nat) ≠ 3 by decide)] at hi; exact hi), fun i hi x hx => by rw [fup_ne c _ (show (1 : Nat) ≠ 3 by decide)] at hi; have := (n1 1 (by decide)).2; rw [k7 (2 + i) (by omega) (fun w => absurd w (by decide))]; exact n3 i hi x hx, fun i hi => by rw [k9 (by decide)]; exact n4 i (by rw [fup_ne _ _ (show (2 : Nat) ≠ 3 by decide)] at hi; exact hi), fun i hi => ?_, fun i hi x hx => by rw [fup_ne c _ (show (4 : Nat) ≠ 3 by decide)] at hi; have := (n1 4 (by decide)).2; rw [k13 (4 + i) (by omega) (fun w => absurd w (by decide))]; exact n6 i hi x hx⟩
    obtain ⟨D, eD, qD⟩ := k10 rfl
    rw [eD]
    rcases cnt_lt hs hi with rfl | ⟨z, z2⟩
    · rw [fup_eq, fup_eq]
      exact (hC.2.2.2.2.2.1 rfl).same qD
    · rw [fup_ne _ _ z, fup_ne _ _ z]
      exact n5 i z2
  have hMP1 : MP S1 (fup c 3 (if xa = -1 then c 3 + 1 else c 3)) VL WT BK (fup SG k (rdX B len 3).2.1) GM := by
    refine MPx3 ⟨h1, h2, h3, h4, hh, h6⟩ (fun s hs5 => by rw [e5]; exact cnt_m h1 (by decide) hs s hs5) (.inr ⟨fup_ne c _ (show (0 : Nat) ≠ 3 by decide), hj 6 (by decide) (by decide) (by decide) (by decide) (by decide) (by decide)⟩) (.inr ⟨fup_ne c _ (show (1 : Nat) ≠ 3 by decide), hj 7 (by decide) (by decide) (by decide) (by decide) (by decide) (by decide)⟩) (.inr ⟨fup_ne c _ (show (2 : Nat) ≠ 3 by decide), hj 8 (by decide) (by decide) (by decide) (by decide) (by decide) (by decide)⟩) (fun l hl => ?_) (.inr ⟨fup_ne c _ (show (4 : Nat) ≠ 3 by decide), hj 10 (by decide) (by decide) (by decide) (by decide) (by decide) (by decide)⟩)
    rcases cnt_lt hs hl with rfl | ⟨z, z2⟩
    · rw [fup_eq]
      exact ⟨hs.1, (hC.2.2.2.2.2.1 rfl).1, fun i hi => by rw [hj6]; exact sto_in hi⟩
    · rw [fup_ne _ _ z]
      obtain ⟨a, b, d⟩ := hh l z2
      exact ⟨a, b, fun i hi => by rw [hj6, sto_out (by omega)]; exact d i hi⟩
  refine ⟨⟨_, _, _, _, _, _, 0, hTR, hMP1, ?_, ?_, ⟨Nat.zero_le _, by rw [k0]; rfl, by rw [e2]; rfl⟩, ⟨by rw [k0, e3]; rfl, by rw [k0, e4, hpl]; rfl⟩, fun x hx => ?_⟩, slx (fun j a b i hi => ?_)⟩
  · intro i hi
    rw [k5 (by decide)]
    exact hPL i (by rw [fup_ne _ _ (show (0 : Nat) ≠ 3 by decide)] at hi; exact hi)
  · intro i hi
    rw [k5 (by decide)]
    exact hBL i hi
  · rw [hj 1 (by decide) (by decide) (by decide) (by decide) (by decide) (by decide), k1]
    exact hTP x hx
  · by_cases j2 : j = 2
    · subst j2
      rw [e2]
      exact fup_ne _ _ (by have : nK 2 = 1 := rfl; omega)
    by_cases j3 : j = 3
    · subst j3
      rw [e3]
      exact fup_ne _ _ (by have : nK 3 = 1 := rfl; omega)
    by_cases j4 : j = 4
    · subst j4
      rw [e4]
      exact fup_ne _ _ (by have : nK 4 = 1 := rfl; omega)
    by_cases j5 : j = 5
    · subst j5
      rw [e5]
      exact fup_ne _ _ (by have : nK 5 = 5 := rfl; omega)
    by_cases j6 : j = 9
    · subst j6
      rw [hj6]
      exact sto_out (by have : nK 9 = 122 := rfl; have := hs.1; omega)
    · rw [hj j j2 j3 j4 j5 j6 b]
theorem MPx4 {S S1 : MS} {c c1 : Nat → Nat} {VL WT BK SG GM NV : Nat → Nat → Nat} (h : MP S c VL WT BK SG GM) (h5 : ∀ s, s < 5 → S1.2.2.1 5 s = nI (c1 s) ∧ c1 s ≤ 2) (e0 : (∀ l, l < c1 0 → ML S1 l (VL l)) ∨ c1 0 = c 0 ∧ S1.2.2.1 6 = S.2.2.1 6) (e1 : (∀ l, l < c1 1 → MT S1 l (WT l)) ∨ c1 1 = c 1 ∧ S1.2.2.1 7 = S.2.2.1 7) (e2 : (∀ l, l < c1 2 → MB S1 l (BK l)) ∨ c1 2 = c 2 ∧ S1.2.2.1 8 = S.2.2.1 8) (e3 : (∀ l, l < c1 3 → MSi S1 l (SG l)) ∨ c1 3 = c 3 ∧ S1.2.2.1 9 = S.2.2.1 9) (e4 : ∀ l, l < c1 4 → MG S1 l (NV l)) : MP S1 c1 VL WT BK SG NV := by
  obtain ⟨h1, h2, h3, h4, hh, h6⟩ := h
  refine ⟨h5, fun l hl => ?_, fun l hl => ?_, fun l hl => ?_, fun l hl => ?_, fun l hl => ?_⟩
  · rcases e0 with e | ⟨e, f⟩
    · exact e l hl
    · obtain ⟨a, b, d⟩ := h2 l (e ▸ hl)
      exact ⟨a, b, fun i hi => by rw [f]; exact d i hi⟩
  · rcases e1 with e | ⟨e, f⟩
    · exact e l hl
    · obtain ⟨a, d⟩ := h3 l (e ▸ hl)
      exact ⟨a, fun i hi => by rw [f]; exact d i hi⟩
  · rcases e2 with e | ⟨e, f⟩
    · exact e l hl
    · obtain ⟨a, b, d⟩ := h4 l (e ▸ hl)
      exact ⟨a, b, fun i hi => by rw [f]; exact d i hi⟩
  · rcases e3 with e | ⟨e, f⟩
    · exact e l hl
    · obtain ⟨a, b, d⟩ := hh l (e ▸ hl)
      exact ⟨a, b, fun i hi => by rw [f]; exact d i hi⟩
  · exact e4 l hl
theorem text_c4 {c : Nat → Nat} {VL WT BK SG GM : Nat → Nat → Nat} {len : Nat} {W W1 : TD} {S S1 : MS} {B : Nat → Nat} {xa : Int32} {k : Nat} {Z1 : RC} (hq : RELq c VL WT BK SG GM len W S) (hs : k < 2 ∧ (k = c 4 ↔ xa = -1) ∧ k ≤ c 4) (hf : ftN B len 4 = 0) (hC : CR 4 Z1 (rdX B len 4).2.1 (rdX B len 4).2.2.1) (hK : KPQ 4 k (if k = c 4 then fup (W.2.1 1) 4 (nI (c 4 + 1)) else W.2.1 1) Z1 (tx3 W.1 (nI 0) (-1), W.2) W1)
    (e2 : S1.2.2.1 2 = fup (S.2.2.1 2) 0 (nI 0)) (e3 : S1.2.2.1 3 = fup (S.2.2.1 3) 0 (nI 0)) (e4 : S1.2.2.1 4 = fup (S.2.2.1 4) 0 (plN B len 4)) (e5 : S1.2.2.1 5 = fup (S.2.2.1 5) 4 (nI (if xa = -1 then c 4 + 1 else c 4))) (hj6 : S1.2.2.1 10 = stoF (S.2.2.1 10) 8 k (rdX B len 4).2.1) (hj : ∀ j, j ≠ 2 → j ≠ 3 → j ≠ 4 → j ≠ 5 → j ≠ 6 + 4 → (j ≤ 10 ∨ j = 55) → S1.2.2.1 j = S.2.2.1 j) : REL W1 S1 ∧ ∀ q, AEq (slA S (q + 1)) (slA S1 (q + 1)) := by
  obtain ⟨⟨n1, n2, n3, n4, n5, n6⟩, hMP, hPL, hBL, -, -, hTP⟩ := hq
  obtain ⟨h1, h2, h3, h4, hh, h6⟩ := hMP
  obtain ⟨k0, k1, k2, k4, k5, k6, k7, k8, k9, k10, k11, k12, k13⟩ := hK
  obtain ⟨-, hnc, hpl⟩ := ft_0 hf
  obtain ⟨z14, hz14⟩ := hC.2.2.2.2.2.2.2
  replace hj : ∀ j, j ≠ 2 → j ≠ 3 → j ≠ 4 → j ≠ 5 → j ≠ 6 + 4 → j ≤ 10 → S1.2.2.1 j = S.2.2.1 j := fun j a b d e f g => hj j a b d e f (.inl g)
  have hTR : TR W1 (fup c 4 (if xa = -1 then c 4 + 1 else c 4)) VL WT BK SG (fup GM k (rdX B len 4).2.1) := by
    refine ⟨fun s hs5 => by rw [k2]; exact cnt_ok n1 (by decide) hs s hs5, fun i hi => by rw [k5 (by decide)]; exact n2 i (by rw [fup_ne _ _ (show (0 : Nat) ≠ 4 by decide)] at hi; exact hi), fun i hi x hx => by rw [fup_ne c _ (show (1 : Nat) ≠ 4 by decide)] at hi; have := (n1 1 (by decide)).2; rw [k7 (2 + i) (by omega) (fun w => absurd w (by decide))]; exact n3 i hi x hx, fun i hi => by rw [k9 (by decide)]; exact n4 i (by rw [fup_ne _ _ (show (2 : Nat) ≠ 4 by decide)] at hi; exact hi), fun i hi => by rw [k11 (by decide)]; exact n5 i (by rw [fup_ne _ _ (show (3 : Nat) ≠ 4 by decide)] at hi; exact hi), fun i hi x hx => ?_⟩
    rcases cnt_lt hs hi with rfl | ⟨z, z2⟩
    · rw [fup_eq, k12 rfl x hx]
      exact hC.2.2.2.2.2.2.1 rfl x hx
    · rw [fup_ne _ _ z, k13 (4 + i) (by have := (n1 4 (by decide)).2; omega) (fun _ => by omega)]
      exact n6 i z2 x hx
  have hMP1 : MP S1 (fup c 4 (if xa = -1 then c 4 + 1 else c 4)) VL WT BK SG (fup GM k (rdX B len 4).2.1) := by
    refine MPx4 ⟨h1, h2, h3, h4, hh, h6⟩ (fun s hs5 => by rw [e5]; exact cnt_m h1 (by decide) hs s hs5) (.inr ⟨fup_ne c _ (show (0 : Nat) ≠ 4 by decide), hj 6 (by decide) (by decide) (by decide) (by decide) (by decide) (by decide)⟩) (.inr ⟨fup_ne c _ (show (1 : Nat) ≠ 4 by decide), hj 7 (by decide) (by decide) (by decide) (by decide) (by decide) (by decide)⟩) (.inr ⟨fup_ne c _ (show (2 : Nat) ≠ 4 by decide), hj 8 (by decide) (by decide) (by decide) (by decide) (by decide) (by decide)⟩) (.inr ⟨fup_ne c _ (show (3 : Nat) ≠ 4 by decide), hj 9 (by decide) (by decide) (by decide) (by decide) (by decide) (by decide)⟩) (fun l hl => ?_)
    rcases cnt_lt hs hl with rfl | ⟨z, z2⟩
    · rw [fup_eq]
      exact ⟨hs.1, fun i hi => ⟨by rw [hj6]; exact sto_in hi, (hC.2.2.2.2.2.2.1 rfl i hi).2⟩⟩
    · rw [fup_ne _ _ z]
      obtain ⟨a, d⟩ := h6 l z2
      exact ⟨a, fun i hi => by rw [hj6, sto_out (by omega)]; exact d i hi⟩
  refine ⟨⟨_, _, _, _, _, _, 0, hTR, hMP1, ?_, ?_, ⟨Nat.zero_le _, by rw [k0]; rfl, by rw [e2]; rfl⟩, ⟨by rw [k0, e3]; rfl, by rw [k0, e4, hpl]; rfl⟩, fun x hx => ?_⟩, slx (fun j a b i hi => ?_)⟩
  · intro i hi
    rw [k5 (by decide)]
    exact hPL i (by rw [fup_ne _ _ (show (0 : Nat) ≠ 4 by decide)] at hi; exact hi)
  · intro i hi
    rw [k5 (by decide)]
    exact hBL i hi
  · rw [hj 1 (by decide) (by decide) (by decide) (by decide) (by decide) (by decide), k1]
    exact hTP x hx
  · by_cases j2 : j = 2
    · subst j2
      rw [e2]
      exact fup_ne _ _ (by have : nK 2 = 1 := rfl; omega)
    by_cases j3 : j = 3
    · subst j3
      rw [e3]
      exact fup_ne _ _ (by have : nK 3 = 1 := rfl; omega)
    by_cases j4 : j = 4
    · subst j4
      rw [e4]
      exact fup_ne _ _ (by have : nK 4 = 1 := rfl; omega)
    by_cases j5 : j = 5
    · subst j5
      rw [e5]
      exact fup_ne _ _ (by have : nK 5 = 5 := rfl; omega)
    by_cases j6 : j = 10
    · subst j6
      rw [hj6]
      exact sto_out (by have : nK 10 = 16 := rfl; have := hs.1; omega)
    · rw [hj j j2 j3 j4 j5 j6 b]
theorem text_rel {h h1 h0 h1' : AH} {n m len : Nat} {c : Nat → Nat} {VL WT BK SG GM : Nat → Nat → Nat} {W W1 : TD} {Z1 : RC} {S : MS} {B : Nat → Nat} {sa xa : Int32} {v v' : Option Value} (hq : RELq c VL WT BK SG GM len W S) (hC : TXC h h1 n B len c W sa xa v W1 Z1) (hM : TXQ h0 m S B len c sa xa v' h1') : v' = v ∧ ∃ S1, MW h0 h1' m S1 ∧ REL W1 S1 ∧ ∀ q, AEq (slA S (q + 1)) (slA S1 (q + 1)) := by
  have hq0 := hq
  obtain ⟨n1, hMP, hPL, hBL, -, -, hTP⟩ := hq
  have hc2 : ∀ s, s < 5 → c s ≤ 2 := fun s hs => (n1.1 s hs).2
  obtain ⟨-, -, -, -, hC⟩ := hC
  have eo : ∀ {a b : Nat}, a ≤ 4 → b ≤ 4 → nI a = nI b → a = b := fun ha hb e => (nI_eq (by omega) (by omega)).mp e
  have hin : ∀ {a : Nat}, a ≤ 4 → inB (nI a) (nI 0) (nI 4) = true := fun {a} ha => by rw [inB_N (by omega) (by decide) (by decide), decide_eq_true (show 0 ≤ a by omega), decide_eq_true ha]; rfl
  have old : ∀ {x y : Int32} {S1 : MS} {F : Nat → Int32}, F 1 = nI 0 → F 2 = x → F 3 = y → S1.2.2.1 2 = fup (S.2.2.1 2) 0 (nI 0) → S1.2.2.1 3 = fup (S.2.2.1 3) 0 x → S1.2.2.1 4 = fup (S.2.2.1 4) 0 y → (∀ j, j ≠ 2 → j ≠ 3 → j ≠ 4 → (j ≤ 10 ∨ j = 55) → S1.2.2.1 j = S.2.2.1 j) → REL (F, W.2) S1 ∧ ∀ q, AEq (slA S (q + 1)) (slA S1 (q + 1)) := by
    intro x y S1 F f1 f2 f3 e2 e3 e4 ej
    obtain ⟨h1, h2, h3, h4, hh, h6⟩ := hMP
    refine ⟨⟨c, VL, WT, BK, SG, GM, 0, n1, ⟨fun s hs => by rw [ej 5 (by decide) (by decide) (by decide) (by decide)]; exact h1 s hs, fun l hl => ?_, fun l hl => ?_, fun l hl => ?_, fun l hl => ?_, fun l hl => ?_⟩, hPL, hBL, ⟨Nat.zero_le _, f1, by rw [e2]; rfl⟩, ⟨by rw [e3]; exact f2, by rw [e4]; exact f3⟩, fun k hk => by rw [ej 1 (by decide) (by decide) (by decide) (by decide)]; exact hTP k hk⟩, slx (fun j a b i hi => ?_)⟩
    · obtain ⟨a, b, d⟩ := h2 l hl
      exact ⟨a, b, fun i hi => by rw [ej 6 (by decide) (by decide) (by decide) (by decide)]; exact d i hi⟩
    · obtain ⟨a, d⟩ := h3 l hl
      exact ⟨a, fun i hi => by rw [ej 7 (by decide) (by decide) (by decide) (by decide)]; exact d i hi⟩
    · obtain ⟨a, b, d⟩ := h4 l hl
      exact ⟨a, b, fun i hi => by rw [ej 8 (by decide) (by decide) (by decide) (by decide)]; exact d i hi⟩
    · obtain ⟨a, b, d⟩ := hh l hl
      exact ⟨a, b, fun i hi => by rw [ej 9 (by decide) (by decide) (by decide) (by decide)]; exact d i hi⟩
    · obtain ⟨a, d⟩ := h6 l hl
      exact ⟨a, fun i hi => by rw [ej 10 (by decide) (by decide) (by decide) (by decide)]; exact d i hi⟩
    · by_cases j2 : j = 2
      · subst j2
        rw [e2]
        exact fup_ne _ _ (by have : nK 2 = 1 := rfl; omega)
      by_cases j3 : j = 3
      · subst j3
        rw [e3]
        exact fup_ne _ _ (by have : nK 3 = 1 := rfl; omega)
      by_cases j4 : j = 4
      · subst j4
        rw [e4]
        exact fup_ne _ _ (by have : nK 4 = 1 := rfl; omega)
      · rw [ej j j2 j3 j4 (.inl b)]
  rcases hC with ⟨hA, rfl, rfl⟩ | ⟨of, k, rfl, hof, hs, hf, rfl, rfl⟩ | ⟨of, k, rfl, hof, hk, hs, hf, rfl, hCR, hKP⟩
  · rcases hM with ⟨-, rfl, S1, hMW, e2, e3, e4, ej⟩ | ⟨of, k, rfl, hof, hs, -⟩ | ⟨of, k, rfl, hof, -, hs, -⟩
    · exact ⟨rfl, S1, hMW, old rfl rfl rfl e2 e3 e4 ej⟩
    · exfalso
      rcases hA with z | ⟨o2, z1, z2, z3⟩
      · rw [hin hof] at z; cases z
      · rw [eo hof z2 z1, z3] at hs; cases hs
    · exfalso
      rcases hA with z | ⟨o2, z1, z2, z3⟩
      · rw [hin hof] at z; cases z
      · rw [eo hof z2 z1, z3] at hs; cases hs
  · rcases hM with ⟨hA, -⟩ | ⟨o2, k2, z1, z2, z3, -, rfl, S1, hMW, e2, e3, e4, ej⟩ | ⟨o2, k2, z1, z2, -, z3, z4, -⟩
    · exfalso
      rcases hA with z | ⟨o2, z1, z2, z3⟩
      · rw [hin hof] at z; cases z
      · rw [eo hof z2 z1, z3] at hs; cases hs
    · have := eo hof z2 z1
      subst this
      exact ⟨rfl, S1, hMW, old rfl rfl rfl e2 e3 e4 ej⟩
    · exfalso
      rw [← eo hof z2 z1] at z4
      exact hf z4
  · rcases hM with ⟨hA, -⟩ | ⟨o2, k2, z1, z2, z3, z4, -⟩ | ⟨o2, k2, z1, z2, -, z3, -, rfl, S1, hMW, e2, e3, e4, e5, e6, ej⟩
    · exfalso
      rcases hA with z | ⟨o2, z1, z2, z3⟩
      · rw [hin hof] at z; cases z
      · rw [eo hof z2 z1, z3] at hs; cases hs
    · exfalso
      rw [← eo hof z2 z1] at z4
      exact z4 hf
    · have := eo hof z2 z1
      subst this
      have : k2 = k := by rw [z3] at hs; cases hs; rfl
      subst this
      refine ⟨rfl, S1, hMW, ?_⟩
      have hsk := slo_k (hc2 of (by omega)) hs
      rcases (show of = 0 ∨ of = 1 ∨ of = 2 ∨ of = 3 ∨ of = 4 by omega) with rfl | rfl | rfl | rfl | rfl
      · exact text_c0 hq0 hsk hf hCR hKP e2 e3 e4 e5 e6 ej
      · exact text_c1 hq0 hsk hf hCR hKP e2 e3 e4 e5 e6 ej
      · exact text_c2 hq0 hsk hf hCR hKP e2 e3 e4 e5 e6 ej
      · exact text_c3 hq0 hsk hf hCR hKP e2 e3 e4 e5 e6 ej
      · exact text_c4 hq0 hsk hf hCR hKP e2 e3 e4 e5 e6 ej
