/-- a closed row that fits, and its score -/
def CK (V : Nat → Nat) (first : Nat) (z : Int) : Prop := ∃ s d0 d1 k z1, Fk V first (V 0 - 1) s d0 d1 k z1 ∧ goesB (V 1) s first = true ∧ fitsB V d0 d1 = true ∧ z = z1 - feZ V s first 0
theorem Fk_close {V : Nat → Nat} (ok : VOK V) {first s d0 d1 k : Nat} {z : Int} (hf : first < 2 + 2 * V 1) (hw : Fk V first (V 0 - 1) s d0 d1 k z) (hg : goesB (V 1) s first = true) : V 0 = d0 + d1 + V 1 * (k + carN s first) ∧ k < carD V ∧ d0 ≤ V 0 := by
  have hC := ok.2.1
  have hH := ok.1
  obtain ⟨i1, i2, i3, i4, i5⟩ := Fk_inv ok hf _ _ _ _ _ _ hw
  have p := pg_close (V 1) (by omega) s (by omega) i1 first (by omega) hf hg
  have e : V 0 = d0 + d1 + V 1 * (k + carN s first) := by
    rw [Nat.mul_add]
    omega
  refine ⟨e, ?_, by omega⟩
  unfold carD
  by_cases q : 0 < V 1
  · rw [if_pos q]
    have : k * (V 1 + 1) ≤ V 0 := by
      have h1 : k * (V 1 + 1) = V 1 * k + k := by rw [Nat.mul_add, Nat.mul_one, Nat.mul_comm]
      have h2 : V 1 * k ≤ V 1 * (k + carN s first) := Nat.mul_le_mul_left _ (by omega)
      omega
    have := (Nat.le_div_iff_mul_le (by omega)).mpr this
    omega
  · rw [if_neg q, i4 (by omega)]
    decide
def BQ (V : Nat → Nat) (first s d k : Nat) (z : Int) : Prop := ∃ d1 z1, Fk V first (V 0 - 1) s d d1 k z1 ∧ fitsB V d d1 = true ∧ z = z1 - feZ V s first 0
theorem CK_64 {V : Nat → Nat} (ok : VOK V) {first s d0 d1 k : Nat} {z : Int} (hw : Fk V first (V 0 - 1) s d0 d1 k z) : -(2 ^ 62) ≤ z - feZ V s first 0 ∧ z - feZ V s first 0 < 2 ^ 62 := by
  have hH := ok.1
  have h1 := Fk_bd ok (V 0 - 1) (by omega) _ _ _ _ _ hw
  have h2 := feZ_bd ok (s := s) (t := first) (h := 0) (by omega)
  omega
theorem bnK_MX {V : Nat → Nat} (ok : VOK V) {Z : PC} (hPR : PRP V (V 0) Z) {first s d k : Nat} (hf : first < 2 + 2 * V 1) (hg : goesB (V 1) s first = true) (hT : MX (fun z => ∃ d1, Fk V first (V 0 - 1) s d d1 k z) (Z.2.2.1 (clN (V 0) (carD V) s d k))) {x : Int64} {P : Int → Prop} (hx : MX P x) : MX (fun z => P z ∨ BQ V first s d k z) (bnK V Z first s d k x) := by
  have hH := ok.1
  unfold bnK
  by_cases hN : Z.2.2.1 (clN (V 0) (carD V) s d k) = NTH
  · rw [if_pos hN]
    have hno := hT.no hN
    exact hx.congr (fun z => ⟨.inl, fun h => h.elim id (fun ⟨d1, z1, hF, _⟩ => absurd ⟨d1, hF⟩ (hno z1))⟩)
  · rw [if_neg hN]
    obtain ⟨z0, ez, ⟨d1, hF⟩, bz, mz⟩ := hT.ne hN
    have hd : ∀ d1 z, Fk V first (V 0 - 1) s d d1 k z → d1 = V 0 - d - V 1 * (k + carN s first) := fun d1 z hF => by
      have := (Fk_close ok hf hF hg).1
      omega
    by_cases hfit : fitsB V d (V 0 - d - V 1 * (k + carN s first)) = true
    · rw [if_pos hfit, ez, fe_i ok hPR (by omega), iL_sub]
      have hy : MX (BQ V first s d k) (iL (z0 - feZ V s first 0)) := .inr ⟨_, rfl, ⟨d1, z0, hF, by rw [hd d1 z0 hF]; exact hfit, rfl⟩, CK_64 ok hF, by
        rintro z' ⟨d1', z1', hF', -, rfl⟩
        have := mz z1' ⟨d1', hF'⟩
        omega⟩
      exact hx.max hy
    · rw [if_neg hfit]
      exact hx.congr (fun z => ⟨.inl, fun h => h.elim id (fun ⟨d1, z1, hF, hq, _⟩ => absurd (by rw [← hd d1 z1 hF]; exact hq) hfit)⟩)
theorem bnE_MX {V : Nat → Nat} (ok : VOK V) {Z : PC} (hPR : PRP V (V 0) Z) {first s d : Nat} (hf : first < 2 + 2 * V 1) (hs : s < 2 + 2 * V 1) (hd : d ≤ V 0) (hg : goesB (V 1) s first = true) (hB : ISB V first (V 0 - 1) Z.2.2.1) : ∀ n, n ≤ carD V → MX (fun z => False ∨ ∃ k, k < n ∧ BQ V first s d k z) (bnE V Z first s d n)
  | 0, _ => MX.nth.congr (fun z => or0)
  | n + 1, hn => (bnK_MX ok hPR hf hg (hB s d n hs hd (by omega)) (bnE_MX ok hPR hf hs hd hg hB n (by omega))).congr (fun z => orlt (R := fun k => BQ V first s d k z))
theorem bcD_MX {V : Nat → Nat} (ok : VOK V) {Z : PC} (hPR : PRP V (V 0) Z) {first s : Nat} (hf : first < 2 + 2 * V 1) (hs : s < 2 + 2 * V 1) (hg : goesB (V 1) s first = true) (hB : ISB V first (V 0 - 1) Z.2.2.1) {x : Int64} {P : Int → Prop} (hx : MX P x) : ∀ n, n ≤ V 0 + 1 → MX (fun z => P z ∨ ∃ d, d < n ∧ (False ∨ ∃ k, k < carD V ∧ BQ V first s d k z)) (bcD V Z first s x n)
  | 0, _ => hx.congr (fun z => or0)
  | n + 1, hn => ((bcD_MX ok hPR hf hs hg hB hx n (by omega)).max (bnE_MX ok hPR hf hs (d := n) (by omega) hg hB (carD V) (Nat.le_refl _))).congr (fun z => orlt (R := fun d => False ∨ ∃ k, k < carD V ∧ BQ V first s d k z))
theorem bcS_MXn {V : Nat → Nat} (ok : VOK V) {Z : PC} (hPR : PRP V (V 0) Z) {first : Nat} (hf : first < 2 + 2 * V 1) (hB : ISB V first (V 0 - 1) Z.2.2.1) : ∀ n, n ≤ 2 + 2 * V 1 → MX (fun z => False ∨ ∃ s, s < n ∧ (goesB (V 1) s first = true ∧ ∃ d, d < V 0 + 1 ∧ (False ∨ ∃ k, k < carD V ∧ BQ V first s d k z))) (bcS V Z first n)
  | 0, _ => MX.nth.congr (fun z => or0)
  | n + 1, hn => by
    have ih := bcS_MXn ok hPR hf hB n (by omega)
    by_cases hg : goesB (V 1) n first = true
    · rw [show bcS V Z first (n + 1) = bcD V Z first n (bcS V Z first n) (V 0 + 1) from if_pos hg]
      refine ((bcD_MX ok hPR hf (by omega) hg hB ih (V 0 + 1) (Nat.le_refl _)).congr (fun z => ?_)).congr (fun z => orlt (R := fun s => goesB (V 1) s first = true ∧ ∃ d, d < V 0 + 1 ∧ (False ∨ ∃ k, k < carD V ∧ BQ V first s d k z)))
      exact ⟨fun h => h.imp id (fun h => ⟨hg, h⟩), fun h => h.imp id (fun h => h.2)⟩
    · rw [show bcS V Z first (n + 1) = bcS V Z first n from if_neg hg]
      refine (ih.congr (fun z => ?_)).congr (fun z => orlt (R := fun s => goesB (V 1) s first = true ∧ ∃ d, d < V 0 + 1 ∧ (False ∨ ∃ k, k < carD V ∧ BQ V first s d k z)))
      exact ⟨.inl, fun h => h.elim id (fun h => absurd h.1 hg)⟩
theorem bcS_MX {V : Nat → Nat} (ok : VOK V) {Z : PC} (hPR : PRP V (V 0) Z) {first : Nat} (hf : first < 2 + 2 * V 1) (hB : ISB V first (V 0 - 1) Z.2.2.1) : MX (CK V first) (bcS V Z first (2 + 2 * V 1)) := by
  refine (bcS_MXn ok hPR hf hB (2 + 2 * V 1) (Nat.le_refl _)).congr (fun z => ⟨?_, ?_⟩)
  · rintro (h | ⟨s, hs, hg, d, hd, h | ⟨k, hk, d1, z1, hF, hq, rfl⟩⟩)
    · exact h.elim
    · exact h.elim
    · exact ⟨s, d, d1, k, z1, hF, hg, hq, rfl⟩
  · rintro ⟨s, d0, d1, k, z1, hF, hg, hq, rfl⟩
    obtain ⟨-, c2, c3⟩ := Fk_close ok hf hF hg
    exact .inr ⟨s, (Fk_inv ok hf _ _ _ _ _ _ hF).1, hg, d0, by omega, .inr ⟨k, c2, d1, z1, hF, hq, rfl⟩⟩
theorem ISB_hD {V : Nat → Nat} (ok : VOK V) {first : Nat} (hf : first < 2 + 2 * V 1) {T : Nat → Int64} (hB : ISB V first (V 0 - 1) T) : ∀ s d, s < 2 + 2 * V 1 → goesB (V 1) s first = true → d ≤ V 0 → ∀ k, k < carD V → ¬ T (clN (V 0) (carD V) s d k) = NTH → d + V 1 * (k + carN s first) ≤ V 0 := by
  intro s d hs hg hd k hk hn
  obtain ⟨z0, -, ⟨d1, hF⟩, -, -⟩ := (hB s d k hs hd hk).ne hn
  have := (Fk_close ok hf hF hg).1
  omega
theorem ISB_0 {V : Nat → Nat} (ok : VOK V) {first : Nat} (hf : first < 2 + 2 * V 1) {L : Nat → Int64} (hL : ∀ i, i < min 1400 ((2 + 2 * V 1) * (V 0 + 1) * carD V) → L i = NTH) : ISB V first 0 (fup L (clN (V 0) (carD V) first (moN first 0) 0) (iL (scZ V first 0))) := by
  intro s d k hs hd hk
  have hH := ok.1
  have hm := moN2 first
  by_cases e : s = first ∧ d = moN first 0 ∧ k = 0
  · obtain ⟨rfl, rfl, rfl⟩ := e
    rw [fup_eq]
    exact .inr ⟨_, rfl, ⟨_, rfl, rfl, rfl, rfl, rfl⟩, Fk_64 ok (h := 0) (first := s) (by omega) ⟨rfl, rfl, rfl, rfl, rfl⟩, fun z' ⟨d1, h⟩ => by rw [h.2.2.2.2]; exact Int.le_refl _⟩
  · rw [fup_ne _ _ (fun w => e (by
      obtain ⟨e1, e2, e3⟩ := cl_inj hd (by omega) hk (by omega) w
      exact ⟨e1, e2, e3⟩)), hL _ (cl_lt2 ok hs hd hk)]
    exact .inl ⟨rfl, fun z ⟨d1, h⟩ => e ⟨h.1, h.2.1, h.2.2.2.1⟩⟩
