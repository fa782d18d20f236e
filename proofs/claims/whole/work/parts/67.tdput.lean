theorem LAt.kept {h h1 : AH} {a : Nat} {D : LD} (A : LAt h a D) (f : ∀ i, a ≤ i → i < a + 9 → h1 i = h i) : LAt h1 a D := by
  exact ⟨A.ge, (f _ (by omega) (by omega)).trans A.o, (f _ (by omega) (by omega)).trans A.a5, (f _ (by omega) (by omega)).trans A.a6, (f _ (by omega) (by omega)).trans A.a7, (f _ (by omega) (by omega)).trans A.a8, (f _ (by omega) (by omega)).trans A.a10, (f _ (by omega) (by omega)).trans A.a11, (f _ (by omega) (by omega)).trans A.a12, (f _ (by omega) (by omega)).trans A.a17⟩
theorem BAt.kept {h h1 : AH} {a : Nat} {D : LD} (A : BAt h a D) (f : ∀ i, a ≤ i → i < a + 4 → h1 i = h i) : BAt h1 a D := by
  exact ⟨A.ge, (f _ (by omega) (by omega)).trans A.o, (f _ (by omega) (by omega)).trans A.a2, (f _ (by omega) (by omega)).trans A.a3, (f _ (by omega) (by omega)).trans A.a4⟩
theorem SAt.kept {h h1 : AH} {a : Nat} {D : LD} (A : SAt h a D) (f : ∀ i, a ≤ i → i < a + 4 → h1 i = h i) : SAt h1 a D := by
  exact ⟨A.ge, (f _ (by omega) (by omega)).trans A.o, (f _ (by omega) (by omega)).trans A.a1, (f _ (by omega) (by omega)).trans A.a2, (f _ (by omega) (by omega)).trans A.a3⟩
theorem TdAt.obj {h : AH} {t : Nat} {W : TD} (A : TdAt h t W) (f : Nat → Int32) : TdAt (hset h t (.inr (6, tdfs t (f, W.2)))) t (f, W.2) := ⟨A.ge, hset_eq _ _ _, (hset_ne (by omega)).trans A.tape, (hset_ne (by omega)).trans A.counts, (hset_ne (by omega)).trans A.lands, (hset_ne (by omega)).trans A.treaties, (hset_ne (by omega)).trans A.t0, (hset_ne (by omega)).trans A.t1, (hset_ne (by omega)).trans A.books, (hset_ne (by omega)).trans A.sights, (hset_ne (by omega)).trans A.games, (hset_ne (by omega)).trans A.g0, (hset_ne (by omega)).trans A.g1, fun i hi => (A.l i hi).kept (fun j _ _ => hset_ne (by omega)), fun i hi => (A.b i hi).kept (fun j _ _ => hset_ne (by omega)), fun i hi => (A.s i hi).kept (fun j _ _ => hset_ne (by omega))⟩
theorem TdAt.ptape {h : AH} {t : Nat} {W : TD} (A : TdAt h t W) (g : Nat → Int32) : TdAt (hset h (t + 1) (.inl (0, 600, .inl g))) t (W.1, fup W.2.1 0 g, W.2.2) := ⟨A.ge, (hset_ne (by omega)).trans A.o, hset_eq _ _ _, (hset_ne (by omega)).trans A.counts, (hset_ne (by omega)).trans A.lands, (hset_ne (by omega)).trans A.treaties, (hset_ne (by omega)).trans A.t0, (hset_ne (by omega)).trans A.t1, (hset_ne (by omega)).trans A.books, (hset_ne (by omega)).trans A.sights, (hset_ne (by omega)).trans A.games, (hset_ne (by omega)).trans A.g0, (hset_ne (by omega)).trans A.g1, fun i hi => (A.l i hi).kept (fun j _ _ => hset_ne (by omega)), fun i hi => (A.b i hi).kept (fun j _ _ => hset_ne (by omega)), fun i hi => (A.s i hi).kept (fun j _ _ => hset_ne (by omega))⟩
theorem TdAt.pcnt {h : AH} {t : Nat} {W : TD} (A : TdAt h t W) (g : Nat → Int32) : TdAt (hset h (t + 2) (.inl (0, 5, .inl g))) t (W.1, fup W.2.1 1 g, W.2.2) := ⟨A.ge, (hset_ne (by omega)).trans A.o, (hset_ne (by omega)).trans A.tape, hset_eq _ _ _, (hset_ne (by omega)).trans A.lands, (hset_ne (by omega)).trans A.treaties, (hset_ne (by omega)).trans A.t0, (hset_ne (by omega)).trans A.t1, (hset_ne (by omega)).trans A.books, (hset_ne (by omega)).trans A.sights, (hset_ne (by omega)).trans A.games, (hset_ne (by omega)).trans A.g0, (hset_ne (by omega)).trans A.g1, fun i hi => (A.l i hi).kept (fun j _ _ => hset_ne (by omega)), fun i hi => (A.b i hi).kept (fun j _ _ => hset_ne (by omega)), fun i hi => (A.s i hi).kept (fun j _ _ => hset_ne (by omega))⟩
theorem TdAt.pt0 {h : AH} {t : Nat} {W : TD} (A : TdAt h t W) (g : Nat → Int32) : TdAt (hset h (t + 5) (.inl (0, 24, .inl g))) t (W.1, fup W.2.1 2 g, W.2.2) := ⟨A.ge, (hset_ne (by omega)).trans A.o, (hset_ne (by omega)).trans A.tape, (hset_ne (by omega)).trans A.counts, (hset_ne (by omega)).trans A.lands, (hset_ne (by omega)).trans A.treaties, hset_eq _ _ _, (hset_ne (by omega)).trans A.t1, (hset_ne (by omega)).trans A.books, (hset_ne (by omega)).trans A.sights, (hset_ne (by omega)).trans A.games, (hset_ne (by omega)).trans A.g0, (hset_ne (by omega)).trans A.g1, fun i hi => (A.l i hi).kept (fun j _ _ => hset_ne (by omega)), fun i hi => (A.b i hi).kept (fun j _ _ => hset_ne (by omega)), fun i hi => (A.s i hi).kept (fun j _ _ => hset_ne (by omega))⟩
theorem TdAt.pt1 {h : AH} {t : Nat} {W : TD} (A : TdAt h t W) (g : Nat → Int32) : TdAt (hset h (t + 6) (.inl (0, 24, .inl g))) t (W.1, fup W.2.1 3 g, W.2.2) := ⟨A.ge, (hset_ne (by omega)).trans A.o, (hset_ne (by omega)).trans A.tape, (hset_ne (by omega)).trans A.counts, (hset_ne (by omega)).trans A.lands, (hset_ne (by omega)).trans A.treaties, (hset_ne (by omega)).trans A.t0, hset_eq _ _ _, (hset_ne (by omega)).trans A.books, (hset_ne (by omega)).trans A.sights, (hset_ne (by omega)).trans A.games, (hset_ne (by omega)).trans A.g0, (hset_ne (by omega)).trans A.g1, fun i hi => (A.l i hi).kept (fun j _ _ => hset_ne (by omega)), fun i hi => (A.b i hi).kept (fun j _ _ => hset_ne (by omega)), fun i hi => (A.s i hi).kept (fun j _ _ => hset_ne (by omega))⟩
theorem TdAt.pg0 {h : AH} {t : Nat} {W : TD} (A : TdAt h t W) (g : Nat → Int32) : TdAt (hset h (t + 10) (.inl (0, 8, .inl g))) t (W.1, fup W.2.1 4 g, W.2.2) := ⟨A.ge, (hset_ne (by omega)).trans A.o, (hset_ne (by omega)).trans A.tape, (hset_ne (by omega)).trans A.counts, (hset_ne (by omega)).trans A.lands, (hset_ne (by omega)).trans A.treaties, (hset_ne (by omega)).trans A.t0, (hset_ne (by omega)).trans A.t1, (hset_ne (by omega)).trans A.books, (hset_ne (by omega)).trans A.sights, (hset_ne (by omega)).trans A.games, hset_eq _ _ _, (hset_ne (by omega)).trans A.g1, fun i hi => (A.l i hi).kept (fun j _ _ => hset_ne (by omega)), fun i hi => (A.b i hi).kept (fun j _ _ => hset_ne (by omega)), fun i hi => (A.s i hi).kept (fun j _ _ => hset_ne (by omega))⟩
theorem TdAt.pg1 {h : AH} {t : Nat} {W : TD} (A : TdAt h t W) (g : Nat → Int32) : TdAt (hset h (t + 11) (.inl (0, 8, .inl g))) t (W.1, fup W.2.1 5 g, W.2.2) := ⟨A.ge, (hset_ne (by omega)).trans A.o, (hset_ne (by omega)).trans A.tape, (hset_ne (by omega)).trans A.counts, (hset_ne (by omega)).trans A.lands, (hset_ne (by omega)).trans A.treaties, (hset_ne (by omega)).trans A.t0, (hset_ne (by omega)).trans A.t1, (hset_ne (by omega)).trans A.books, (hset_ne (by omega)).trans A.sights, (hset_ne (by omega)).trans A.games, (hset_ne (by omega)).trans A.g0, hset_eq _ _ _, fun i hi => (A.l i hi).kept (fun j _ _ => hset_ne (by omega)), fun i hi => (A.b i hi).kept (fun j _ _ => hset_ne (by omega)), fun i hi => (A.s i hi).kept (fun j _ _ => hset_ne (by omega))⟩
theorem TdAt.ptr {h : AH} {t : Nat} {W : TD} (A : TdAt h t W) {i : Nat} (hi : i < 2) (g : Nat → Int32) : TdAt (hset h (t + 5 + i) (.inl (0, 24, .inl g))) t (W.1, fup W.2.1 (2 + i) g, W.2.2) := by
  rcases (show i = 0 ∨ i = 1 by omega) with rfl | rfl
  · exact A.pt0 g
  · exact A.pt1 g
theorem TdAt.pgm {h : AH} {t : Nat} {W : TD} (A : TdAt h t W) {i : Nat} (hi : i < 2) (g : Nat → Int32) : TdAt (hset h (t + 10 + i) (.inl (0, 8, .inl g))) t (W.1, fup W.2.1 (4 + i) g, W.2.2) := by
  rcases (show i = 0 ∨ i = 1 by omega) with rfl | rfl
  · exact A.pg0 g
  · exact A.pg1 g
theorem TdAt.pl {h h1 : AH} {t : Nat} {W : TD} (A : TdAt h t W) {i : Nat} (hi : i < 2) {D : LD} (M : Rg h h1 (t + 12 + 17 * i) (esL (t + 12 + 17 * i) D)) : TdAt h1 t (W.1, W.2.1, fup W.2.2.1 i D, W.2.2.2) := by
  have f : ∀ j, (j < t + 12 + 17 * i ∨ t + 12 + 17 * i + 9 ≤ j) → h1 j = h j := fun j hj => M.far (m := 9) rfl hj
  refine ⟨A.ge, (f _ (by omega)).trans A.o, (f _ (by omega)).trans A.tape, (f _ (by omega)).trans A.counts, (f _ (by omega)).trans A.lands, (f _ (by omega)).trans A.treaties, (f _ (by omega)).trans A.t0, (f _ (by omega)).trans A.t1, (f _ (by omega)).trans A.books, (f _ (by omega)).trans A.sights, (f _ (by omega)).trans A.games, (f _ (by omega)).trans A.g0, (f _ (by omega)).trans A.g1, fun j hj => ?_, fun j hj => (A.b j hj).kept (fun k h1 h2 => f k (by omega)), fun j hj => (A.s j hj).kept (fun k h1 h2 => f k (by omega))⟩
  by_cases e : j = i
  · subst e
    show LAt h1 _ (fup _ j D j)
    rw [fup_eq]
    exact LAt.of_rg M
  · show LAt h1 _ (fup _ i D j)
    rw [fup_ne _ _ e]
    exact (A.l j hj).kept (fun k h1 h2 => f k (by omega))
theorem TdAt.pb {h h1 : AH} {t : Nat} {W : TD} (A : TdAt h t W) {i : Nat} (hi : i < 2) {D : LD} (M : Rg h h1 (t + 21 + 17 * i) (esB (t + 21 + 17 * i) D)) : TdAt h1 t (W.1, W.2.1, W.2.2.1, fup W.2.2.2.1 i D, W.2.2.2.2) := by
  have f : ∀ j, (j < t + 21 + 17 * i ∨ t + 21 + 17 * i + 4 ≤ j) → h1 j = h j := fun j hj => M.far (m := 4) rfl hj
  refine ⟨A.ge, (f _ (by omega)).trans A.o, (f _ (by omega)).trans A.tape, (f _ (by omega)).trans A.counts, (f _ (by omega)).trans A.lands, (f _ (by omega)).trans A.treaties, (f _ (by omega)).trans A.t0, (f _ (by omega)).trans A.t1, (f _ (by omega)).trans A.books, (f _ (by omega)).trans A.sights, (f _ (by omega)).trans A.games, (f _ (by omega)).trans A.g0, (f _ (by omega)).trans A.g1, fun j hj => (A.l j hj).kept (fun k h1 h2 => f k (by omega)), fun j hj => ?_, fun j hj => (A.s j hj).kept (fun k h1 h2 => f k (by omega))⟩
  by_cases e : j = i
  · subst e
    show BAt h1 _ (fup _ j D j)
    rw [fup_eq]
    exact BAt.of_rg M
  · show BAt h1 _ (fup _ i D j)
    rw [fup_ne _ _ e]
    exact (A.b j hj).kept (fun k h1 h2 => f k (by omega))
theorem TdAt.ps {h h1 : AH} {t : Nat} {W : TD} (A : TdAt h t W) {i : Nat} (hi : i < 2) {D : LD} (M : Rg h h1 (t + 25 + 17 * i) (esS (t + 25 + 17 * i) D)) : TdAt h1 t (W.1, W.2.1, W.2.2.1, W.2.2.2.1, fup W.2.2.2.2 i D) := by
  have f : ∀ j, (j < t + 25 + 17 * i ∨ t + 25 + 17 * i + 4 ≤ j) → h1 j = h j := fun j hj => M.far (m := 4) rfl hj
  refine ⟨A.ge, (f _ (by omega)).trans A.o, (f _ (by omega)).trans A.tape, (f _ (by omega)).trans A.counts, (f _ (by omega)).trans A.lands, (f _ (by omega)).trans A.treaties, (f _ (by omega)).trans A.t0, (f _ (by omega)).trans A.t1, (f _ (by omega)).trans A.books, (f _ (by omega)).trans A.sights, (f _ (by omega)).trans A.games, (f _ (by omega)).trans A.g0, (f _ (by omega)).trans A.g1, fun j hj => (A.l j hj).kept (fun k h1 h2 => f k (by omega)), fun j hj => (A.b j hj).kept (fun k h1 h2 => f k (by omega)), fun j hj => ?_⟩
  by_cases e : j = i
  · subst e
    show SAt h1 _ (fup _ j D j)
    rw [fup_eq]
    exact SAt.of_rg M
  · show SAt h1 _ (fup _ i D j)
    rw [fup_ne _ _ e]
    exact (A.s j hj).kept (fun k h1 h2 => f k (by omega))
