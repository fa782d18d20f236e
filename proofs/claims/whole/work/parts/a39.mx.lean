/-- x is the greatest of P, or tells that there is none -/
def MX (P : Int → Prop) (x : Int64) : Prop := (x = NTH ∧ ∀ z, ¬ P z) ∨ ∃ z, x = iL z ∧ P z ∧ (-(2 ^ 62) ≤ z ∧ z < 2 ^ 62) ∧ ∀ z', P z' → z' ≤ z
theorem MX.nth : MX (fun _ => False) NTH := .inl ⟨rfl, fun _ h => h⟩
theorem MX.congr {P Q : Int → Prop} {x : Int64} (h : MX P x) (e : ∀ z, P z ↔ Q z) : MX Q x := by
  rcases h with ⟨h1, h2⟩ | ⟨z, h1, h2, h3, h4⟩
  · exact .inl ⟨h1, fun z w => h2 z ((e z).mpr w)⟩
  · exact .inr ⟨z, h1, (e z).mp h2, h3, fun z' w => h4 z' ((e z').mpr w)⟩
theorem MX.max {P Q : Int → Prop} {x y : Int64} (hx : MX P x) (hy : MX Q y) : MX (fun z => P z ∨ Q z) (maxL x y) := by
  rcases hx with ⟨rfl, n1⟩ | ⟨a, rfl, pa, ba, ma⟩
  · rcases hy with ⟨rfl, n2⟩ | ⟨b, rfl, pb, bb, mb⟩
    · refine .inl ⟨?_, fun z h => h.elim (n1 z) (n2 z)⟩
      unfold maxL
      rw [if_neg Int64.lt_irrefl]
    · refine .inr ⟨b, ?_, .inr pb, bb, fun z h => h.elim (fun h => absurd h (n1 z)) (mb z)⟩
      rw [NTH_i, maxL_i (by omega) (by omega) (by omega) (by omega), if_pos (by omega)]
  · rcases hy with ⟨rfl, n2⟩ | ⟨b, rfl, pb, bb, mb⟩
    · refine .inr ⟨a, ?_, .inl pa, ba, fun z h => h.elim (ma z) (fun h => absurd h (n2 z))⟩
      rw [NTH_i, maxL_i (by omega) (by omega) (by omega) (by omega), if_neg (by omega)]
    · rw [maxL_i (by omega) (by omega) (by omega) (by omega)]
      by_cases q : a < b
      · rw [if_pos q]
        exact .inr ⟨b, rfl, .inr pb, bb, fun z h => h.elim (fun h => by have := ma z h; omega) (mb z)⟩
      · rw [if_neg q]
        exact .inr ⟨a, rfl, .inl pa, ba, fun z h => h.elim (ma z) (fun h => by have := mb z h; omega)⟩
theorem MX.ne {P : Int → Prop} {x : Int64} (h : MX P x) (hn : ¬ x = NTH) : ∃ z, x = iL z ∧ P z ∧ (-(2 ^ 62) ≤ z ∧ z < 2 ^ 62) ∧ ∀ z', P z' → z' ≤ z := h.resolve_left (fun w => hn w.1)
theorem iL_NTH {z : Int} (b : -(2 ^ 62) ≤ z ∧ z < 2 ^ 62) : ¬ iL z = NTH := by
  intro e
  have : (iL z).toInt = NTH.toInt := by rw [e]
  rw [NTH_i, iL_t (by omega) (by omega), iL_t (by omega) (by omega)] at this
  omega
theorem MX.no {P : Int → Prop} {x : Int64} (h : MX P x) (hn : x = NTH) : ∀ z, ¬ P z := by
  rcases h with ⟨-, n⟩ | ⟨z, e, -, b, -⟩
  · exact n
  · exact absurd (e.symm.trans hn) (iL_NTH b)
theorem enT_MX {L : Nat → Int64} {H Ca s dk ct : Nat} {v : Int64} {P Q : Int → Prop} {s' d' k' : Nat} (hd : d' ≤ H) (hk : k' < Ca) (hL : MX P (L (clN H Ca s' d' k'))) (hv : MX Q v) : MX (fun z => P z ∨ (s' = s ∧ d' = dk ∧ k' = ct ∧ Q z)) (enT L H Ca s dk ct v (clN H Ca s' d' k')) := by
  by_cases e : s' = s ∧ d' = dk ∧ k' = ct
  · obtain ⟨rfl, rfl, rfl⟩ := e
    rw [enT_eq hd hk]
    exact (hL.max hv).congr (fun z => ⟨fun h => h.imp id (fun h => ⟨rfl, rfl, rfl, h⟩), fun h => h.imp id (fun h => h.2.2.2)⟩)
  · rw [enT_ne hd hk e]
    exact hL.congr (fun z => ⟨.inl, fun h => h.elim id (fun h => absurd ⟨h.1, h.2.1, h.2.2.1⟩ e)⟩)
/-- what comes from one state by one way -/
def RQ (V : Nat → Nat) (first g s d k y t e q : Nat) (z : Int) : Prop := ¬ (2 ≤ s ∧ y = 1) ∧ t = nextN (V 1) s y ∧ e = d + moN (nextN (V 1) s y) 0 ∧ q = k + enA (V 1) s (nextN (V 1) s y) ∧ ∃ d1 z0, Fk V first g s d d1 k z0 ∧ z = z0 + scZ V (nextN (V 1) s y) (g + 1) - feZ V s (nextN (V 1) s y) (g + 1)
def RSy (V : Nat → Nat) (first g s d k t e q : Nat) (z : Int) : Prop := RQ V first g s d k 0 t e q z ∨ RQ V first g s d k 1 t e q z
theorem adS_MX {V : Nat → Nat} (ok : VOK V) {Z : PC} (hPR : PRP V (V 0) Z) {first g : Nat} (hg : g + 1 < V 0) {s d k : Nat} (hs : s < 2 + 2 * V 1) (hT : MX (fun z => ∃ d1, Fk V first g s d d1 k z) (Z.2.2.1 (clN (V 0) (carD V) s d k))) {L : Nat → Int64} {P : Int → Prop} {t e q : Nat} (he : e ≤ V 0) (hq : q < carD V) (hL : MX P (L (clN (V 0) (carD V) t e q))) : MX (fun z => P z ∨ RSy V first g s d k t e q z) (adS V Z (g + 1) s d k L (clN (V 0) (carD V) t e q)) := by
  have hC := ok.2.1
  have hH := ok.1.2
  unfold adS
  by_cases hN : Z.2.2.1 (clN (V 0) (carD V) s d k) = NTH
  · rw [if_pos hN]
    have hno := hT.no hN
    refine hL.congr (fun z => ⟨.inl, fun h => h.elim id (fun h => ?_)⟩)
    rcases h with ⟨-, -, -, -, d1, z0, hF, -⟩ | ⟨-, -, -, -, d1, z0, hF, -⟩
    · exact absurd ⟨d1, hF⟩ (hno z0)
    · exact absurd ⟨d1, hF⟩ (hno z0)
  · rw [if_neg hN]
    obtain ⟨z0, ez, ⟨d1, hF⟩, bz, mz⟩ := hT.ne hN
    have way : ∀ y, y < 2 → ¬ (2 ≤ s ∧ y = 1) → MX (fun z => ∃ d1 z0, Fk V first g s d d1 k z0 ∧ z = z0 + scZ V (nextN (V 1) s y) (g + 1) - feZ V s (nextN (V 1) s y) (g + 1)) (enV Z s (nextN (V 1) s y) (g + 1) (Z.2.2.1 (clN (V 0) (carD V) s d k))) := by
      intro y hy hv
      have hn := nextN_lt (way := y) hs
      refine .inr ⟨z0 + scZ V (nextN (V 1) s y) (g + 1) - feZ V s (nextN (V 1) s y) (g + 1), ?_, ⟨d1, z0, hF, rfl⟩, Fk_64 ok (first := first) (h := g + 1) hg ⟨s, y, hy, hv, rfl, d, d1, k, z0, hF, rfl, rfl, rfl, rfl⟩, ?_⟩
      · unfold enV
        rw [ez, scI_i ok hPR (by omega) hg, fe_i ok hPR hg, iL_add, iL_sub]
      · rintro z' ⟨d1', z0', hF', rfl⟩
        have := mz z0' ⟨d1', hF'⟩
        omega
    by_cases h2 : 2 ≤ s
    · rw [if_pos h2]
      refine (enT_MX he hq hL (way 0 (by decide) (by omega))).congr (fun z => ⟨?_, ?_⟩)
      · rintro (h | ⟨h1, h3, h4, h5⟩)
        · exact .inl h
        · exact .inr (.inl ⟨by omega, h1, h3, h4, h5⟩)
      · rintro (h | ⟨-, h1, h3, h4, h5⟩ | ⟨hv, -⟩)
        · exact .inl h
        · exact .inr ⟨h1, h3, h4, h5⟩
        · exact absurd ⟨h2, rfl⟩ hv
    · rw [if_neg h2]
      refine (enT_MX he hq (enT_MX he hq hL (way 0 (by decide) (by omega))) (way 1 (by decide) (by omega))).congr (fun z => ⟨?_, ?_⟩)
      · rintro ((h | ⟨h1, h3, h4, h5⟩) | ⟨h1, h3, h4, h5⟩)
        · exact .inl h
        · exact .inr (.inl ⟨by omega, h1, h3, h4, h5⟩)
        · exact .inr (.inr ⟨by omega, h1, h3, h4, h5⟩)
      · rintro (h | ⟨-, h1, h3, h4, h5⟩ | ⟨-, h1, h3, h4, h5⟩)
        · exact .inl (.inl h)
        · exact .inl (.inr ⟨h1, h3, h4, h5⟩)
        · exact .inr ⟨h1, h3, h4, h5⟩
theorem orlt {P : Prop} {R : Nat → Prop} {n : Nat} : ((P ∨ ∃ k, k < n ∧ R k) ∨ R n) ↔ (P ∨ ∃ k, k < n + 1 ∧ R k) := by
  constructor
  · rintro ((h | ⟨k, hk, h⟩) | h)
    · exact .inl h
    · exact .inr ⟨k, by omega, h⟩
    · exact .inr ⟨n, by omega, h⟩
  · rintro (h | ⟨k, hk, h⟩)
    · exact .inl (.inl h)
    · by_cases q : k = n
      · rw [q] at h
        exact .inr h
      · exact .inl (.inr ⟨k, by omega, h⟩)
theorem or0 {P : Prop} {R : Nat → Prop} : P ↔ (P ∨ ∃ k, k < 0 ∧ R k) := ⟨.inl, fun h => h.elim id (fun ⟨k, hk, _⟩ => absurd hk (Nat.not_lt_zero k))⟩
/-- the table of one hour: of each state the greatest score -/
def ISB (V : Nat → Nat) (first g : Nat) (T : Nat → Int64) : Prop := ∀ s d k, s < 2 + 2 * V 1 → d ≤ V 0 → k < carD V → MX (fun z => ∃ d1, Fk V first g s d d1 k z) (T (clN (V 0) (carD V) s d k))
section ADM
variable {V : Nat → Nat} {Z : PC} {first g : Nat} {L : Nat → Int64} {P : Int → Prop} {t e q : Nat}
theorem adK_MX (ok : VOK V) (hPR : PRP V (V 0) Z) (hg : g + 1 < V 0) (hB : ISB V first g Z.2.2.1) {s d : Nat} (hs : s < 2 + 2 * V 1) (hd : d ≤ V 0) (he : e ≤ V 0) (hq : q < carD V) (hL : MX P (L (clN (V 0) (carD V) t e q))) : ∀ n, n ≤ carD V → MX (fun z => P z ∨ ∃ k, k < n ∧ RSy V first g s d k t e q z) (adK V Z (g + 1) s d L n (clN (V 0) (carD V) t e q))
  | 0, _ => hL.congr (fun z => or0)
  | n + 1, hn => (adS_MX ok hPR hg hs (hB s d n hs hd (by omega)) he hq (adK_MX ok hPR hg hB hs hd he hq hL n (by omega))).congr (fun z => orlt)
theorem adD_MX (ok : VOK V) (hPR : PRP V (V 0) Z) (hg : g + 1 < V 0) (hB : ISB V first g Z.2.2.1) {s : Nat} (hs : s < 2 + 2 * V 1) (he : e ≤ V 0) (hq : q < carD V) (hL : MX P (L (clN (V 0) (carD V) t e q))) : ∀ n, n ≤ V 0 + 1 → MX (fun z => P z ∨ ∃ d, d < n ∧ ∃ k, k < carD V ∧ RSy V first g s d k t e q z) (adD V Z (g + 1) s L n (clN (V 0) (carD V) t e q))
  | 0, _ => hL.congr (fun z => or0)
  | n + 1, hn => (adK_MX ok hPR hg hB hs (by omega) he hq (adD_MX ok hPR hg hB hs he hq hL n (by omega)) (carD V) (Nat.le_refl _)).congr (fun z => orlt (R := fun d => ∃ k, k < carD V ∧ RSy V first g s d k t e q z))
theorem adA_MX (ok : VOK V) (hPR : PRP V (V 0) Z) (hg : g + 1 < V 0) (hB : ISB V first g Z.2.2.1) (he : e ≤ V 0) (hq : q < carD V) (hL : MX P (L (clN (V 0) (carD V) t e q))) : ∀ n, n ≤ 2 + 2 * V 1 → MX (fun z => P z ∨ ∃ s, s < n ∧ ∃ d, d < g + 2 ∧ ∃ k, k < carD V ∧ RSy V first g s d k t e q z) (adA V Z (g + 1) L n (clN (V 0) (carD V) t e q))
  | 0, _ => hL.congr (fun z => or0)
  | n + 1, hn => (adD_MX ok hPR hg hB (by omega) he hq (adA_MX ok hPR hg hB he hq hL n (by omega)) (g + 2) (by omega)).congr (fun z => orlt (R := fun s => ∃ d, d < g + 2 ∧ ∃ k, k < carD V ∧ RSy V first g s d k t e q z))
end ADM
def pgN (C s : Nat) : Nat := if s < 2 then 0 else (s - 2) % C + 1
def qfN (C s : Nat) : Nat := if s < 2 then 0 else (s - 2) % C
def pgOK (C s y : Nat) : Bool := !decide (s < 2 + 2 * C) || (decide (2 ≤ s) && decide (y = 1)) || Nat.beq (pgN C (nextN C s y) + C * enA C s (nextN C s y) + (moN (nextN C s y) 0 + moN (nextN C s y) 1)) (pgN C s + 1)
theorem pg_step0 : ∀ C, C < 4 → ∀ s, s < 8 → ∀ y, y < 2 → pgOK C s y = true := by decide +kernel
theorem pg_step1 (C s t : Nat) : enA C s t ≤ moN t 0 + moN t 1 := by
  unfold enA
  by_cases q : carB s t = true ∧ 0 < C
  · rw [if_pos q]
    have h : t < 2 := by
      have := q.1
      unfold carB at this
      rw [Bool.and_eq_true] at this
      exact of_decide_eq_true this.1
    rcases (show t = 0 ∨ t = 1 by omega) with rfl | rfl <;> decide
  · rw [if_neg q]
    exact Nat.zero_le _
theorem pg_step (C : Nat) (hC : C < 4) (s : Nat) (hs : s < 8) (h : s < 2 + 2 * C) (y : Nat) (hy : y < 2) (hv : ¬ (2 ≤ s ∧ y = 1)) : pgN C (nextN C s y) + C * enA C s (nextN C s y) + (moN (nextN C s y) 0 + moN (nextN C s y) 1) = pgN C s + 1 ∧ enA C s (nextN C s y) ≤ moN (nextN C s y) 0 + moN (nextN C s y) 1 := by
  have e := pg_step0 C hC s hs y hy
  unfold pgOK at e
  rw [decide_eq_true h, Bool.not_true, Bool.false_or, Bool.or_eq_true] at e
  rcases e with e | e
  · rw [Bool.and_eq_true] at e
    exact absurd ⟨of_decide_eq_true e.1, of_decide_eq_true e.2⟩ hv
  · exact ⟨Nat.eq_of_beq_eq_true e, pg_step1 _ _ _⟩
theorem pg_0 : ∀ C, C < 4 → ∀ s, s < 8 → s < 2 + 2 * C → 1 + qfN C s = moN s 0 + moN s 1 + pgN C s := by decide +kernel
theorem pg_close0 : ∀ C, C < 4 → ∀ s, s < 8 → ∀ f, f < 8 → (s < 2 + 2 * C ∧ f < 2 + 2 * C ∧ goesB C s f = true) → pgN C s = qfN C f + C * carN s f := by decide +kernel
theorem pg_close (C : Nat) (hC : C < 4) (s : Nat) (hs : s < 8) (h : s < 2 + 2 * C) (f : Nat) (hf : f < 8) (h2 : f < 2 + 2 * C) (hg : goesB C s f = true) : pgN C s = qfN C f + C * carN s f := pg_close0 C hC s hs f hf ⟨h, h2, hg⟩
theorem Fk_inv {V : Nat → Nat} (ok : VOK V) {first : Nat} (hf : first < 2 + 2 * V 1) : ∀ h t d0 d1 k z, Fk V first h t d0 d1 k z → t < 2 + 2 * V 1 ∧ h + 1 + qfN (V 1) first = d0 + d1 + V 1 * k + pgN (V 1) t ∧ k ≤ d0 + d1 ∧ (V 1 = 0 → k = 0) ∧ d0 + d1 ≤ h + 1
  | 0, t, d0, d1, k, z, hw => by
    have hC := ok.2.1
    obtain ⟨rfl, rfl, rfl, rfl, -⟩ := hw
    have h1 := pg_0 (V 1) (by omega) t (by omega) hf
    have h2 := moN2 t
    exact ⟨hf, by rw [Nat.mul_zero]; omega, Nat.zero_le _, fun _ => rfl, by omega⟩
  | h + 1, t, d0, d1, k, z, hw => by
    have hC := ok.2.1
    obtain ⟨s, y, hy, hv, rfl, a0, a1, k', z', hw, rfl, rfl, rfl, -⟩ := hw
    obtain ⟨i1, i2, i3, i4, i5⟩ := Fk_inv ok hf h s a0 a1 k' z' hw
    obtain ⟨p1, p2⟩ := pg_step (V 1) (by omega) s (by omega) i1 y hy hv
    have h2 := moN2 (nextN (V 1) s y)
    refine ⟨nextN_lt i1, ?_, by omega, fun q => ?_, by omega⟩
    · rw [Nat.mul_add]
      omega
    · rw [i4 q]
      unfold enA
      rw [if_neg (by omega)]
theorem ISB_step {V : Nat → Nat} (ok : VOK V) {Z : PC} (hPR : PRP V (V 0) Z) {first g : Nat} (hf : first < 2 + 2 * V 1) (hg : g + 1 < V 0) (hB : ISB V first g Z.2.2.1) {L : Nat → Int64} (hL : ∀ i, i < min 1400 ((2 + 2 * V 1) * (V 0 + 1) * carD V) → L i = NTH) : ISB V first (g + 1) (adA V Z (g + 1) L (2 + 2 * V 1)) := by
  intro t e q ht he hq
  have h0 : MX (fun _ => False) (L (clN (V 0) (carD V) t e q)) := by
    rw [hL _ (cl_lt2 ok ht he hq)]
    exact MX.nth
  refine (adA_MX ok hPR hg hB he hq h0 (2 + 2 * V 1) (Nat.le_refl _)).congr (fun z => ⟨?_, ?_⟩)
  · rintro (h | ⟨s, hs, d, hd, k, hk, ⟨hv, rfl, rfl, rfl, d1, z0, hF, rfl⟩ | ⟨hv, rfl, rfl, rfl, d1, z0, hF, rfl⟩⟩)
    · exact h.elim
    · exact ⟨_, s, 0, by decide, hv, rfl, d, d1, k, z0, hF, rfl, rfl, rfl, rfl⟩
    · exact ⟨_, s, 1, by decide, hv, rfl, d, d1, k, z0, hF, rfl, rfl, rfl, rfl⟩
  · rintro ⟨d1, s, y, hy, hv, rfl, a0, a1, k', z', hF, rfl, -, rfl, rfl⟩
    obtain ⟨i1, -, -, -, i5⟩ := Fk_inv ok hf g s a0 a1 k' z' hF
    refine .inr ⟨s, i1, a0, by omega, k', by omega, ?_⟩
    rcases (show y = 0 ∨ y = 1 by omega) with rfl | rfl
    · exact .inl ⟨hv, rfl, rfl, rfl, a1, z', hF, rfl⟩
    · exact .inr ⟨hv, rfl, rfl, rfl, a1, z', hF, rfl⟩
