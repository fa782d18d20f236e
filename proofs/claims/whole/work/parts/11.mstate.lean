/-! the reference's state: its int fields by number, word, its int arrays by number, its long arrays -/
abbrev MS : Type := (Nat → Int32) × Int64 × (Nat → Nat → Int32) × (Nat → Nat → Int64)
abbrev MS.f (S : MS) : Nat → Int32 := S.1
abbrev MS.w (S : MS) : Int64 := S.2.1
abbrev MS.a (S : MS) : Nat → Nat → Int32 := S.2.2.1
abbrev MS.b (S : MS) : Nat → Nat → Int64 := S.2.2.2
def MS.sf (S : MS) (k : Nat) (x : Int32) : MS := (fup S.1 k x, S.2)
def MS.sw (S : MS) (x : Int64) : MS := (S.1, x, S.2.2)
def MS.sa (S : MS) (k : Nat) (x : Nat → Int32) : MS := (S.1, S.2.1, fup S.2.2.1 k x, S.2.2.2)
def MS.sb (S : MS) (k : Nat) (x : Nat → Int64) : MS := (S.1, S.2.1, S.2.2.1, fup S.2.2.2 k x)
def mfs (m : Nat) (S : MS) : List Value := [.int (S.1 0), .ref (m + 1), .ref (m + 2), .ref (m + 3), .ref (m + 4), .ref (m + 5), .ref (m + 6), .ref (m + 7), .ref (m + 8), .ref (m + 9), .ref (m + 10), .int (S.1 11), .int (S.1 12), .int (S.1 13), .int (S.1 14), .int (S.1 15), .long S.2.1, .int (S.1 17), .int (S.1 18), .int (S.1 19), .ref (m + 11), .ref (m + 12), .int (S.1 22), .int (S.1 23), .int (S.1 24), .int (S.1 25), .int (S.1 26), .int (S.1 27), .int (S.1 28), .int (S.1 29), .int (S.1 30), .ref (m + 13), .int (S.1 32), .int (S.1 33), .int (S.1 34), .int (S.1 35), .ref (m + 14), .ref (m + 15), .ref (m + 16), .ref (m + 17), .ref (m + 18), .int (S.1 41), .int (S.1 42), .int (S.1 43), .int (S.1 44), .int (S.1 45), .ref (m + 19), .ref (m + 20), .int (S.1 48), .int (S.1 49), .int (S.1 50), .int (S.1 51), .int (S.1 52), .int (S.1 53), .ref (m + 21), .ref (m + 22)]
def MAt (h : AH) (m : Nat) (S : MS) : Prop := 1000 ≤ m ∧ h m = some (.inr (8, mfs m S)) ∧ h (m + 1) = some (.inl (2, 2400, .inl (S.2.2.1 1))) ∧ h (m + 2) = some (.inl (0, 4, .inl (S.2.2.1 2))) ∧ h (m + 3) = some (.inl (0, 4, .inl (S.2.2.1 3))) ∧ h (m + 4) = some (.inl (0, 4, .inl (S.2.2.1 4))) ∧ h (m + 5) = some (.inl (0, 20, .inl (S.2.2.1 5))) ∧ h (m + 6) = some (.inl (0, 2496, .inl (S.2.2.1 6))) ∧ h (m + 7) = some (.inl (0, 192, .inl (S.2.2.1 7))) ∧ h (m + 8) = some (.inl (0, 488, .inl (S.2.2.1 8))) ∧ h (m + 9) = some (.inl (0, 488, .inl (S.2.2.1 9))) ∧ h (m + 10) = some (.inl (0, 64, .inl (S.2.2.1 10))) ∧ h (m + 11) = some (.inl (0, 312, .inl (S.2.2.1 20))) ∧ h (m + 12) = some (.inl (0, 4, .inl (S.2.2.1 21))) ∧ h (m + 13) = some (.inl (0, 24, .inl (S.2.2.1 31))) ∧ h (m + 14) = some (.inl (0, 96, .inl (S.2.2.1 36))) ∧ h (m + 15) = some (.inl (1, 5000, .inr (.inl (S.2.2.2 37)))) ∧ h (m + 16) = some (.inl (1, 5000, .inr (.inl (S.2.2.2 38)))) ∧ h (m + 17) = some (.inl (0, 125000, .inl (S.2.2.1 39))) ∧ h (m + 18) = some (.inl (0, 48, .inl (S.2.2.1 40))) ∧ h (m + 19) = some (.inl (0, 24, .inl (S.2.2.1 46))) ∧ h (m + 20) = some (.inl (0, 6, .inl (S.2.2.1 47))) ∧ h (m + 21) = some (.inl (0, 10, .inl (S.2.2.1 54))) ∧ h (m + 22) = some (.inl (3, 3, .inl (S.2.2.1 55)))
/-- the reference's cells as S has them, all others as they were -/
def MW (h0 h : AH) (m : Nat) (S : MS) : Prop := MAt h m S ∧ ∀ i, (i < m ∨ m + 22 < i) → h i = h0 i
theorem MW.ge {h0 h : AH} {m : Nat} {S : MS} (H : MW h0 h m S) : 1000 ≤ m := H.1.1
theorem MW.o {h0 h : AH} {m : Nat} {S : MS} (H : MW h0 h m S) : h m = some (.inr (8, mfs m S)) := H.1.2.1
theorem MW.a1 {h0 h : AH} {m : Nat} {S : MS} (H : MW h0 h m S) : h (m + 1) = some (.inl (2, 2400, .inl (S.2.2.1 1))) := H.1.2.2.1
theorem MW.a2 {h0 h : AH} {m : Nat} {S : MS} (H : MW h0 h m S) : h (m + 2) = some (.inl (0, 4, .inl (S.2.2.1 2))) := H.1.2.2.2.1
theorem MW.a3 {h0 h : AH} {m : Nat} {S : MS} (H : MW h0 h m S) : h (m + 3) = some (.inl (0, 4, .inl (S.2.2.1 3))) := H.1.2.2.2.2.1
theorem MW.a4 {h0 h : AH} {m : Nat} {S : MS} (H : MW h0 h m S) : h (m + 4) = some (.inl (0, 4, .inl (S.2.2.1 4))) := H.1.2.2.2.2.2.1
theorem MW.a5 {h0 h : AH} {m : Nat} {S : MS} (H : MW h0 h m S) : h (m + 5) = some (.inl (0, 20, .inl (S.2.2.1 5))) := H.1.2.2.2.2.2.2.1
theorem MW.a6 {h0 h : AH} {m : Nat} {S : MS} (H : MW h0 h m S) : h (m + 6) = some (.inl (0, 2496, .inl (S.2.2.1 6))) := H.1.2.2.2.2.2.2.2.1
theorem MW.a7 {h0 h : AH} {m : Nat} {S : MS} (H : MW h0 h m S) : h (m + 7) = some (.inl (0, 192, .inl (S.2.2.1 7))) := H.1.2.2.2.2.2.2.2.2.1
theorem MW.a8 {h0 h : AH} {m : Nat} {S : MS} (H : MW h0 h m S) : h (m + 8) = some (.inl (0, 488, .inl (S.2.2.1 8))) := H.1.2.2.2.2.2.2.2.2.2.1
theorem MW.a9 {h0 h : AH} {m : Nat} {S : MS} (H : MW h0 h m S) : h (m + 9) = some (.inl (0, 488, .inl (S.2.2.1 9))) := H.1.2.2.2.2.2.2.2.2.2.2.1
theorem MW.a10 {h0 h : AH} {m : Nat} {S : MS} (H : MW h0 h m S) : h (m + 10) = some (.inl (0, 64, .inl (S.2.2.1 10))) := H.1.2.2.2.2.2.2.2.2.2.2.2.1
theorem MW.a20 {h0 h : AH} {m : Nat} {S : MS} (H : MW h0 h m S) : h (m + 11) = some (.inl (0, 312, .inl (S.2.2.1 20))) := H.1.2.2.2.2.2.2.2.2.2.2.2.2.1
theorem MW.a21 {h0 h : AH} {m : Nat} {S : MS} (H : MW h0 h m S) : h (m + 12) = some (.inl (0, 4, .inl (S.2.2.1 21))) := H.1.2.2.2.2.2.2.2.2.2.2.2.2.2.1
theorem MW.a31 {h0 h : AH} {m : Nat} {S : MS} (H : MW h0 h m S) : h (m + 13) = some (.inl (0, 24, .inl (S.2.2.1 31))) := H.1.2.2.2.2.2.2.2.2.2.2.2.2.2.2.1
theorem MW.a36 {h0 h : AH} {m : Nat} {S : MS} (H : MW h0 h m S) : h (m + 14) = some (.inl (0, 96, .inl (S.2.2.1 36))) := H.1.2.2.2.2.2.2.2.2.2.2.2.2.2.2.2.1
theorem MW.a37 {h0 h : AH} {m : Nat} {S : MS} (H : MW h0 h m S) : h (m + 15) = some (.inl (1, 5000, .inr (.inl (S.2.2.2 37)))) := H.1.2.2.2.2.2.2.2.2.2.2.2.2.2.2.2.2.1
theorem MW.a38 {h0 h : AH} {m : Nat} {S : MS} (H : MW h0 h m S) : h (m + 16) = some (.inl (1, 5000, .inr (.inl (S.2.2.2 38)))) := H.1.2.2.2.2.2.2.2.2.2.2.2.2.2.2.2.2.2.1
theorem MW.a39 {h0 h : AH} {m : Nat} {S : MS} (H : MW h0 h m S) : h (m + 17) = some (.inl (0, 125000, .inl (S.2.2.1 39))) := H.1.2.2.2.2.2.2.2.2.2.2.2.2.2.2.2.2.2.2.1
theorem MW.a40 {h0 h : AH} {m : Nat} {S : MS} (H : MW h0 h m S) : h (m + 18) = some (.inl (0, 48, .inl (S.2.2.1 40))) := H.1.2.2.2.2.2.2.2.2.2.2.2.2.2.2.2.2.2.2.2.1
theorem MW.a46 {h0 h : AH} {m : Nat} {S : MS} (H : MW h0 h m S) : h (m + 19) = some (.inl (0, 24, .inl (S.2.2.1 46))) := H.1.2.2.2.2.2.2.2.2.2.2.2.2.2.2.2.2.2.2.2.2.1
theorem MW.a47 {h0 h : AH} {m : Nat} {S : MS} (H : MW h0 h m S) : h (m + 20) = some (.inl (0, 6, .inl (S.2.2.1 47))) := H.1.2.2.2.2.2.2.2.2.2.2.2.2.2.2.2.2.2.2.2.2.2.1
theorem MW.a54 {h0 h : AH} {m : Nat} {S : MS} (H : MW h0 h m S) : h (m + 21) = some (.inl (0, 10, .inl (S.2.2.1 54))) := H.1.2.2.2.2.2.2.2.2.2.2.2.2.2.2.2.2.2.2.2.2.2.2.1
theorem MW.a55 {h0 h : AH} {m : Nat} {S : MS} (H : MW h0 h m S) : h (m + 22) = some (.inl (3, 3, .inl (S.2.2.1 55))) := H.1.2.2.2.2.2.2.2.2.2.2.2.2.2.2.2.2.2.2.2.2.2.2.2
theorem MW.obj {h0 h : AH} {m : Nat} {S S1 : MS} (H : MW h0 h m S) (ea : S1.2.2 = S.2.2) : MW h0 (hset h m (.inr (8, mfs m S1))) m S1 := by
  obtain ⟨⟨h1, h2, h3⟩, h4⟩ := H
  refine ⟨⟨h1, hset_eq _ _ _, ?_⟩, fun i hi => by rw [hset_ne (by omega)]; exact h4 i hi⟩
  rw [ea]
  simp only [hset, show ∀ j : Nat, 0 < j → ¬ m + j = m from fun j hj => by omega, Nat.zero_lt_succ, Nat.lt_add_left, if_false] at h3 ⊢
  simpa [hset] using h3
theorem MW.sf {h0 h : AH} {m : Nat} {S : MS} (H : MW h0 h m S) (k : Nat) (x : Int32) (hk : (mfs m S).set k (.int x) = mfs m (S.sf k x)) : MW h0 (hset h m (.inr (8, (mfs m S).set k (.int x)))) m (S.sf k x) := by
  rw [hk]
  exact H.obj rfl
theorem MW.sw {h0 h : AH} {m : Nat} {S : MS} (H : MW h0 h m S) (x : Int64) : MW h0 (hset h m (.inr (8, (mfs m S).set 16 (.long x)))) m (S.sw x) := by
  rw [show (mfs m S).set 16 (.long x) = mfs m (S.sw x) from rfl]
  exact H.obj rfl
theorem MW.u1 {h0 h : AH} {m : Nat} {S : MS} (H : MW h0 h m S) (g : Nat → Int32) : MW h0 (hset h (m + 1) (.inl (2, 2400, .inl g))) m (S.sa 1 g) := by
  obtain ⟨⟨h1, h2, h3⟩, h4⟩ := H
  refine ⟨⟨h1, by rw [hset_ne (by omega)]; exact h2, ?_⟩, fun i hi => by rw [hset_ne (by omega)]; exact h4 i hi⟩
  simpa [hset, MS.sa, fup] using h3
theorem MW.u2 {h0 h : AH} {m : Nat} {S : MS} (H : MW h0 h m S) (g : Nat → Int32) : MW h0 (hset h (m + 2) (.inl (0, 4, .inl g))) m (S.sa 2 g) := by
  obtain ⟨⟨h1, h2, h3⟩, h4⟩ := H
  refine ⟨⟨h1, by rw [hset_ne (by omega)]; exact h2, ?_⟩, fun i hi => by rw [hset_ne (by omega)]; exact h4 i hi⟩
  simpa [hset, MS.sa, fup] using h3
theorem MW.u3 {h0 h : AH} {m : Nat} {S : MS} (H : MW h0 h m S) (g : Nat → Int32) : MW h0 (hset h (m + 3) (.inl (0, 4, .inl g))) m (S.sa 3 g) := by
  obtain ⟨⟨h1, h2, h3⟩, h4⟩ := H
  refine ⟨⟨h1, by rw [hset_ne (by omega)]; exact h2, ?_⟩, fun i hi => by rw [hset_ne (by omega)]; exact h4 i hi⟩
  simpa [hset, MS.sa, fup] using h3
theorem MW.u4 {h0 h : AH} {m : Nat} {S : MS} (H : MW h0 h m S) (g : Nat → Int32) : MW h0 (hset h (m + 4) (.inl (0, 4, .inl g))) m (S.sa 4 g) := by
  obtain ⟨⟨h1, h2, h3⟩, h4⟩ := H
  refine ⟨⟨h1, by rw [hset_ne (by omega)]; exact h2, ?_⟩, fun i hi => by rw [hset_ne (by omega)]; exact h4 i hi⟩
  simpa [hset, MS.sa, fup] using h3
theorem MW.u5 {h0 h : AH} {m : Nat} {S : MS} (H : MW h0 h m S) (g : Nat → Int32) : MW h0 (hset h (m + 5) (.inl (0, 20, .inl g))) m (S.sa 5 g) := by
  obtain ⟨⟨h1, h2, h3⟩, h4⟩ := H
  refine ⟨⟨h1, by rw [hset_ne (by omega)]; exact h2, ?_⟩, fun i hi => by rw [hset_ne (by omega)]; exact h4 i hi⟩
  simpa [hset, MS.sa, fup] using h3
theorem MW.u6 {h0 h : AH} {m : Nat} {S : MS} (H : MW h0 h m S) (g : Nat → Int32) : MW h0 (hset h (m + 6) (.inl (0, 2496, .inl g))) m (S.sa 6 g) := by
  obtain ⟨⟨h1, h2, h3⟩, h4⟩ := H
  refine ⟨⟨h1, by rw [hset_ne (by omega)]; exact h2, ?_⟩, fun i hi => by rw [hset_ne (by omega)]; exact h4 i hi⟩
  simpa [hset, MS.sa, fup] using h3
theorem MW.u7 {h0 h : AH} {m : Nat} {S : MS} (H : MW h0 h m S) (g : Nat → Int32) : MW h0 (hset h (m + 7) (.inl (0, 192, .inl g))) m (S.sa 7 g) := by
  obtain ⟨⟨h1, h2, h3⟩, h4⟩ := H
  refine ⟨⟨h1, by rw [hset_ne (by omega)]; exact h2, ?_⟩, fun i hi => by rw [hset_ne (by omega)]; exact h4 i hi⟩
  simpa [hset, MS.sa, fup] using h3
theorem MW.u8 {h0 h : AH} {m : Nat} {S : MS} (H : MW h0 h m S) (g : Nat → Int32) : MW h0 (hset h (m + 8) (.inl (0, 488, .inl g))) m (S.sa 8 g) := by
  obtain ⟨⟨h1, h2, h3⟩, h4⟩ := H
  refine ⟨⟨h1, by rw [hset_ne (by omega)]; exact h2, ?_⟩, fun i hi => by rw [hset_ne (by omega)]; exact h4 i hi⟩
  simpa [hset, MS.sa, fup] using h3
theorem MW.u9 {h0 h : AH} {m : Nat} {S : MS} (H : MW h0 h m S) (g : Nat → Int32) : MW h0 (hset h (m + 9) (.inl (0, 488, .inl g))) m (S.sa 9 g) := by
  obtain ⟨⟨h1, h2, h3⟩, h4⟩ := H
  refine ⟨⟨h1, by rw [hset_ne (by omega)]; exact h2, ?_⟩, fun i hi => by rw [hset_ne (by omega)]; exact h4 i hi⟩
  simpa [hset, MS.sa, fup] using h3
theorem MW.u10 {h0 h : AH} {m : Nat} {S : MS} (H : MW h0 h m S) (g : Nat → Int32) : MW h0 (hset h (m + 10) (.inl (0, 64, .inl g))) m (S.sa 10 g) := by
  obtain ⟨⟨h1, h2, h3⟩, h4⟩ := H
  refine ⟨⟨h1, by rw [hset_ne (by omega)]; exact h2, ?_⟩, fun i hi => by rw [hset_ne (by omega)]; exact h4 i hi⟩
  simpa [hset, MS.sa, fup] using h3
theorem MW.u20 {h0 h : AH} {m : Nat} {S : MS} (H : MW h0 h m S) (g : Nat → Int32) : MW h0 (hset h (m + 11) (.inl (0, 312, .inl g))) m (S.sa 20 g) := by
  obtain ⟨⟨h1, h2, h3⟩, h4⟩ := H
  refine ⟨⟨h1, by rw [hset_ne (by omega)]; exact h2, ?_⟩, fun i hi => by rw [hset_ne (by omega)]; exact h4 i hi⟩
  simpa [hset, MS.sa, fup] using h3
theorem MW.u21 {h0 h : AH} {m : Nat} {S : MS} (H : MW h0 h m S) (g : Nat → Int32) : MW h0 (hset h (m + 12) (.inl (0, 4, .inl g))) m (S.sa 21 g) := by
  obtain ⟨⟨h1, h2, h3⟩, h4⟩ := H
  refine ⟨⟨h1, by rw [hset_ne (by omega)]; exact h2, ?_⟩, fun i hi => by rw [hset_ne (by omega)]; exact h4 i hi⟩
  simpa [hset, MS.sa, fup] using h3
theorem MW.u31 {h0 h : AH} {m : Nat} {S : MS} (H : MW h0 h m S) (g : Nat → Int32) : MW h0 (hset h (m + 13) (.inl (0, 24, .inl g))) m (S.sa 31 g) := by
  obtain ⟨⟨h1, h2, h3⟩, h4⟩ := H
  refine ⟨⟨h1, by rw [hset_ne (by omega)]; exact h2, ?_⟩, fun i hi => by rw [hset_ne (by omega)]; exact h4 i hi⟩
  simpa [hset, MS.sa, fup] using h3
theorem MW.u36 {h0 h : AH} {m : Nat} {S : MS} (H : MW h0 h m S) (g : Nat → Int32) : MW h0 (hset h (m + 14) (.inl (0, 96, .inl g))) m (S.sa 36 g) := by
  obtain ⟨⟨h1, h2, h3⟩, h4⟩ := H
  refine ⟨⟨h1, by rw [hset_ne (by omega)]; exact h2, ?_⟩, fun i hi => by rw [hset_ne (by omega)]; exact h4 i hi⟩
  simpa [hset, MS.sa, fup] using h3
theorem MW.u37 {h0 h : AH} {m : Nat} {S : MS} (H : MW h0 h m S) (g : Nat → Int64) : MW h0 (hset h (m + 15) (.inl (1, 5000, .inr (.inl g)))) m (S.sb 37 g) := by
  obtain ⟨⟨h1, h2, h3⟩, h4⟩ := H
  refine ⟨⟨h1, by rw [hset_ne (by omega)]; exact h2, ?_⟩, fun i hi => by rw [hset_ne (by omega)]; exact h4 i hi⟩
  simpa [hset, MS.sb, fup] using h3
theorem MW.u38 {h0 h : AH} {m : Nat} {S : MS} (H : MW h0 h m S) (g : Nat → Int64) : MW h0 (hset h (m + 16) (.inl (1, 5000, .inr (.inl g)))) m (S.sb 38 g) := by
  obtain ⟨⟨h1, h2, h3⟩, h4⟩ := H
  refine ⟨⟨h1, by rw [hset_ne (by omega)]; exact h2, ?_⟩, fun i hi => by rw [hset_ne (by omega)]; exact h4 i hi⟩
  simpa [hset, MS.sb, fup] using h3
theorem MW.u39 {h0 h : AH} {m : Nat} {S : MS} (H : MW h0 h m S) (g : Nat → Int32) : MW h0 (hset h (m + 17) (.inl (0, 125000, .inl g))) m (S.sa 39 g) := by
  obtain ⟨⟨h1, h2, h3⟩, h4⟩ := H
  refine ⟨⟨h1, by rw [hset_ne (by omega)]; exact h2, ?_⟩, fun i hi => by rw [hset_ne (by omega)]; exact h4 i hi⟩
  simpa [hset, MS.sa, fup] using h3
theorem MW.u40 {h0 h : AH} {m : Nat} {S : MS} (H : MW h0 h m S) (g : Nat → Int32) : MW h0 (hset h (m + 18) (.inl (0, 48, .inl g))) m (S.sa 40 g) := by
  obtain ⟨⟨h1, h2, h3⟩, h4⟩ := H
  refine ⟨⟨h1, by rw [hset_ne (by omega)]; exact h2, ?_⟩, fun i hi => by rw [hset_ne (by omega)]; exact h4 i hi⟩
  simpa [hset, MS.sa, fup] using h3
theorem MW.u46 {h0 h : AH} {m : Nat} {S : MS} (H : MW h0 h m S) (g : Nat → Int32) : MW h0 (hset h (m + 19) (.inl (0, 24, .inl g))) m (S.sa 46 g) := by
  obtain ⟨⟨h1, h2, h3⟩, h4⟩ := H
  refine ⟨⟨h1, by rw [hset_ne (by omega)]; exact h2, ?_⟩, fun i hi => by rw [hset_ne (by omega)]; exact h4 i hi⟩
  simpa [hset, MS.sa, fup] using h3
theorem MW.u47 {h0 h : AH} {m : Nat} {S : MS} (H : MW h0 h m S) (g : Nat → Int32) : MW h0 (hset h (m + 20) (.inl (0, 6, .inl g))) m (S.sa 47 g) := by
  obtain ⟨⟨h1, h2, h3⟩, h4⟩ := H
  refine ⟨⟨h1, by rw [hset_ne (by omega)]; exact h2, ?_⟩, fun i hi => by rw [hset_ne (by omega)]; exact h4 i hi⟩
  simpa [hset, MS.sa, fup] using h3
theorem MW.u54 {h0 h : AH} {m : Nat} {S : MS} (H : MW h0 h m S) (g : Nat → Int32) : MW h0 (hset h (m + 21) (.inl (0, 10, .inl g))) m (S.sa 54 g) := by
  obtain ⟨⟨h1, h2, h3⟩, h4⟩ := H
  refine ⟨⟨h1, by rw [hset_ne (by omega)]; exact h2, ?_⟩, fun i hi => by rw [hset_ne (by omega)]; exact h4 i hi⟩
  simpa [hset, MS.sa, fup] using h3
theorem MW.u55 {h0 h : AH} {m : Nat} {S : MS} (H : MW h0 h m S) (g : Nat → Int32) : MW h0 (hset h (m + 22) (.inl (3, 3, .inl g))) m (S.sa 55 g) := by
  obtain ⟨⟨h1, h2, h3⟩, h4⟩ := H
  refine ⟨⟨h1, by rw [hset_ne (by omega)]; exact h2, ?_⟩, fun i hi => by rw [hset_ne (by omega)]; exact h4 i hi⟩
  simpa [hset, MS.sa, fup] using h3
