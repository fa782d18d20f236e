theorem f3a {α : Type} (f : Nat → α) {i j k : Nat} {A B C : α} (h1 : i ≠ j) (h2 : i ≠ k) : fup (fup (fup f i A) j B) k C i = A := (fup_ne _ _ h2).trans ((fup_ne _ _ h1).trans (fup_eq _ _ _))
theorem f3b {α : Type} (f : Nat → α) {i j k : Nat} {A B C : α} (h2 : j ≠ k) : fup (fup (fup f i A) j B) k C j = B := (fup_ne _ _ h2).trans (fup_eq _ _ _)
theorem f3c {α : Type} (f : Nat → α) {i j k : Nat} {A B C : α} : fup (fup (fup f i A) j B) k C k = C := fup_eq _ _ _
theorem f3n {α : Type} (f : Nat → α) {i j k x : Nat} {A B C : α} (h1 : x ≠ i) (h2 : x ≠ j) (h3 : x ≠ k) : fup (fup (fup f i A) j B) k C x = f x := (fup_ne _ _ h3).trans ((fup_ne _ _ h2).trans (fup_ne _ _ h1))
/-- a land being read -/
def LX (D : LD) (T : Nat → Nat) : Prop := LVr D T ∧ (∀ p, p < 10 → ∀ x, x < 24 → D.2 8 (p * 24 + x) = nI (T (42 + 27 * p + (3 + x)))) ∧ D.1 13 = bI false
theorem LX_k {D : LD} {T : Nat → Nat} (h : LX D T) {k x : Nat} (hk : k ≤ 3) (hx : (k = 0 → 4 ≤ x ∧ x ≤ 24) ∧ (k = 1 → x ≤ 3) ∧ (k = 2 → x ≤ 9) ∧ (k = 3 → 1 ≤ x ∧ x ≤ 4)) : LX (fup D.1 k (nI x), D.2) (fup T k x) := by
  obtain ⟨⟨⟨o0, o1, o2, o3, o4, o5, o6, o7, o8⟩, ⟨f0, f1, f2, f3, f4, f9⟩, hP, hB, hT⟩, hL, h13⟩ := h
  obtain ⟨x0, x1, x2, x3⟩ := hx
  have en : ∀ j, 4 ≤ j → fup T k x j = T j := fun j hj => fup_ne _ _ (by omega)
  have eg : ∀ j, fup T k x j = if j = k then x else T j := fun j => rfl
  have ed : ∀ j, fup D.1 k (nI x) j = if j = k then nI x else D.1 j := fun j => rfl
  refine ⟨⟨⟨?_, ?_, ?_, ?_, by rw [en 4 (by decide)]; exact o4, by rw [en 5 (by decide)]; exact o5, fun p hp => ?_, fun b hb => ?_, fun y hy => ?_⟩, ⟨?_, ?_, ?_, ?_, ?_, ?_⟩, fun p hp => ?_, fun b hb => ?_, fun y hy => ?_⟩, fun p hp y hy => ?_, ?_⟩
  · rw [eg 0]; split <;> omega
  · rw [eg 1]; split <;> omega
  · rw [eg 2]; split <;> omega
  · rw [eg 3]; split <;> omega
  · obtain ⟨a, b, c, d⟩ := o6 p hp
    exact ⟨by rw [en _ (by omega)]; exact a, by rw [en _ (by omega)]; exact b, by rw [en _ (by omega)]; exact c, fun y hy => by rw [en _ (by omega)]; exact d y hy⟩
  · rw [en _ (by omega), en _ (by omega)]; exact o7 b hb
  · rw [en _ (by omega)]; exact o8 y hy
  · show fup D.1 k (nI x) 0 = _
    rw [eg 0, ed 0]; split
    · rfl
    · exact f0
  · show fup D.1 k (nI x) 1 = _
    rw [eg 1, ed 1]; split
    · rfl
    · exact f1
  · show fup D.1 k (nI x) 2 = _
    rw [eg 2, ed 2]; split
    · rfl
    · exact f2
  · show fup D.1 k (nI x) 3 = _
    rw [eg 3, ed 3]; split
    · rfl
    · exact f3
  · show fup D.1 k (nI x) 4 = _
    rw [en 4 (by decide), fup_ne _ _ (by omega)]; exact f4
  · show fup D.1 k (nI x) 9 = _
    rw [en 5 (by decide), fup_ne _ _ (by omega)]; exact f9
  · rw [en 4 (by decide)] at hp
    obtain ⟨a, b, c, d⟩ := hP p hp
    exact ⟨by rw [en _ (by omega)]; exact a, by rw [en _ (by omega)]; exact b, by rw [en _ (by omega)]; exact c, fun y hy => by rw [en _ (by omega)]; exact d y hy⟩
  · rw [en 5 (by decide)] at hb
    rw [en _ (by omega), en _ (by omega)]; exact hB b hb
  · rw [en _ (by omega)]; exact hT y hy
  · rw [en _ (by omega)]; exact hL p hp y hy
  · show fup D.1 k (nI x) 13 = _
    rw [fup_ne _ _ (by omega)]; exact h13
theorem LX_person {D : LD} {T v : Nat → Nat} (h : LX D T) (hs : T 4 ≠ 10) (h0 : v 0 ≤ 1) (h1 : v 1 ≤ 12) (h2 : v 2 ≤ 12) : LX (fup D.1 4 (nI (T 4 + 1)), fup (fup (fup D.2 5 (fup (D.2 5) (T 4) (nI (v 0)))) 6 (fup (D.2 6) (T 4) (nI (v 1)))) 7 (fup (D.2 7) (T 4) (nI (v 2)))) (kpF T v 4 42 27 3 10) := by
  obtain ⟨⟨⟨o0, o1, o2, o3, o4, o5, o6, o7, o8⟩, ⟨f0, f1, f2, f3, f4, f9⟩, hP, hB, hT⟩, hL, h13⟩ := h
  obtain ⟨s, hs0⟩ : ∃ s, T 4 = s := ⟨_, rfl⟩
  have e : ∀ j, kpF T v 4 42 27 3 10 j = if j = 4 then s + 1 else if 42 + 27 * s ≤ j ∧ j < 42 + 27 * s + 3 then v (j - (42 + 27 * s)) else T j := fun j => by
    unfold kpF
    rw [if_neg hs, hs0]
    rfl
  have e4 : kpF T v 4 42 27 3 10 4 = s + 1 := by rw [e, if_pos rfl]
  have en : ∀ j, j ≠ 4 → ¬ (42 + 27 * s ≤ j ∧ j < 42 + 27 * s + 3) → kpF T v 4 42 27 3 10 j = T j := fun j a b => by rw [e, if_neg a, if_neg b]
  have ev : ∀ i, i < 3 → kpF T v 4 42 27 3 10 (42 + 27 * s + i) = v i := fun i hi => by rw [e, if_neg (by omega), if_pos (by omega)]; exact congrArg v (by omega)
  have hs9 : s < 10 := by omega
  rw [hs0]
  refine ⟨⟨⟨by rw [en 0 (by decide) (by omega)]; exact o0, by rw [en 1 (by decide) (by omega)]; exact o1, by rw [en 2 (by decide) (by omega)]; exact o2, by rw [en 3 (by decide) (by omega)]; exact o3, by rw [e4]; omega, by rw [en 5 (by decide) (by omega)]; exact o5, fun p hp => ?_, fun b hb => ?_, fun y hy => ?_⟩, ⟨?_, ?_, ?_, ?_, ?_, ?_⟩, fun p hp => ?_, fun b hb => ?_, fun y hy => ?_⟩, fun p hp y hy => ?_, ?_⟩
  · by_cases z : p = s
    · subst z
      exact ⟨by rw [ev 0 (by decide)]; exact h0, by rw [ev 1 (by decide)]; exact h1, by rw [ev 2 (by decide)]; exact h2, fun y hy => by rw [en _ (by omega) (by omega)]; exact (o6 p hp).2.2.2 y hy⟩
    · obtain ⟨a, b, c, d⟩ := o6 p hp
      exact ⟨by rw [en _ (by omega) (by omega)]; exact a, by rw [en _ (by omega) (by omega)]; exact b, by rw [en _ (by omega) (by omega)]; exact c, fun y hy => by rw [en _ (by omega) (by omega)]; exact d y hy⟩
  · rw [en _ (by omega) (by omega), en _ (by omega) (by omega)]; exact o7 b hb
  · rw [en _ (by omega) (by omega)]; exact o8 y hy
  · rw [en 0 (by decide) (by omega)]; exact (fup_ne D.1 (nI (s + 1)) (show (0 : Nat) ≠ 4 by decide)).trans f0
  · rw [en 1 (by decide) (by omega)]; exact (fup_ne D.1 (nI (s + 1)) (show (1 : Nat) ≠ 4 by decide)).trans f1
  · rw [en 2 (by decide) (by omega)]; exact (fup_ne D.1 (nI (s + 1)) (show (2 : Nat) ≠ 4 by decide)).trans f2
  · rw [en 3 (by decide) (by omega)]; exact (fup_ne D.1 (nI (s + 1)) (show (3 : Nat) ≠ 4 by decide)).trans f3
  · rw [e4]; exact fup_eq D.1 4 (nI (s + 1))
  · rw [en 5 (by decide) (by omega)]; exact (fup_ne D.1 (nI (s + 1)) (show (9 : Nat) ≠ 4 by decide)).trans f9
  · rw [e4] at hp
    have q5 : ∀ A B C : Nat → Int32, fup (fup (fup D.2 5 A) 6 B) 7 C 5 = A := fun _ _ _ => f3a _ (by decide) (by decide)
    have q6 : ∀ A B C : Nat → Int32, fup (fup (fup D.2 5 A) 6 B) 7 C 6 = B := fun _ _ _ => f3b _ (by decide)
    have q7 : ∀ A B C : Nat → Int32, fup (fup (fup D.2 5 A) 6 B) 7 C 7 = C := fun _ _ _ => f3c _
    have q8 : ∀ A B C : Nat → Int32, fup (fup (fup D.2 5 A) 6 B) 7 C 8 = D.2 8 := fun _ _ _ => f3n _ (by decide) (by decide) (by decide)
    dsimp only
    rw [q5, q6, q7, q8]
    by_cases z : p = s
    · subst z
      exact ⟨by rw [ev 0 (by decide), fup_eq], by rw [ev 1 (by decide), fup_eq], by rw [ev 2 (by decide), fup_eq], fun y hy => by rw [en _ (by omega) (by omega)]; exact hL p hs9 y hy⟩
    · obtain ⟨a, b, c, d⟩ := hP p (by omega)
      exact ⟨by rw [en _ (by omega) (by omega), fup_ne _ _ z]; exact a, by rw [en _ (by omega) (by omega), fup_ne _ _ z]; exact b, by rw [en _ (by omega) (by omega), fup_ne _ _ z]; exact c, fun y hy => by rw [en _ (by omega) (by omega)]; exact d y hy⟩
  · rw [en 5 (by decide) (by omega)] at hb
    rw [en _ (by omega) (by omega), en _ (by omega) (by omega)]
    exact hB b hb
  · rw [en _ (by omega) (by omega)]; exact hT y hy
  · rw [en _ (by omega) (by omega)]; exact hL p hp y hy
  · exact (fup_ne D.1 (nI (s + 1)) (show (13 : Nat) ≠ 4 by decide)).trans h13
theorem LX_bearer {D : LD} {T v : Nat → Nat} (h : LX D T) (hs : T 5 ≠ 6) (h0 : v 0 ≤ 99) (h1 : v 1 ≤ 10) : LX (fup D.1 9 (nI (T 5 + 1)), fup (fup D.2 10 (fup (D.2 10) (T 5) (nI (v 0)))) 11 (fup (D.2 11) (T 5) (nI (v 1)))) (kpF T v 5 30 2 2 6) := by
  obtain ⟨⟨⟨o0, o1, o2, o3, o4, o5, o6, o7, o8⟩, ⟨f0, f1, f2, f3, f4, f9⟩, hP, hB, hT⟩, hL, h13⟩ := h
  obtain ⟨s, hs0⟩ : ∃ s, T 5 = s := ⟨_, rfl⟩
  have e : ∀ j, kpF T v 5 30 2 2 6 j = if j = 5 then s + 1 else if 30 + 2 * s ≤ j ∧ j < 30 + 2 * s + 2 then v (j - (30 + 2 * s)) else T j := fun j => by
    unfold kpF
    rw [if_neg hs, hs0]
    rfl
  have e5 : kpF T v 5 30 2 2 6 5 = s + 1 := by rw [e, if_pos rfl]
  have en : ∀ j, j ≠ 5 → ¬ (30 + 2 * s ≤ j ∧ j < 30 + 2 * s + 2) → kpF T v 5 30 2 2 6 j = T j := fun j a b => by rw [e, if_neg a, if_neg b]
  have ev : ∀ i, i < 2 → kpF T v 5 30 2 2 6 (30 + 2 * s + i) = v i := fun i hi => by rw [e, if_neg (by omega), if_pos (by omega)]; exact congrArg v (by omega)
  have hs9 : s < 6 := by omega
  rw [hs0]
  refine ⟨⟨⟨by rw [en 0 (by decide) (by omega)]; exact o0, by rw [en 1 (by decide) (by omega)]; exact o1, by rw [en 2 (by decide) (by omega)]; exact o2, by rw [en 3 (by decide) (by omega)]; exact o3, by rw [en 4 (by decide) (by omega)]; exact o4, by rw [e5]; omega, fun p hp => ?_, fun b hb => ?_, fun y hy => ?_⟩, ⟨?_, ?_, ?_, ?_, ?_, ?_⟩, fun p hp => ?_, fun b hb => ?_, fun y hy => ?_⟩, fun p hp y hy => ?_, ?_⟩
  · obtain ⟨a, b, c, d⟩ := o6 p hp
    exact ⟨by rw [en _ (by omega) (by omega)]; exact a, by rw [en _ (by omega) (by omega)]; exact b, by rw [en _ (by omega) (by omega)]; exact c, fun y hy => by rw [en _ (by omega) (by omega)]; exact d y hy⟩
  · by_cases z : b = s
    · subst z
      exact ⟨by rw [show 30 + 2 * b = 30 + 2 * b + 0 from rfl, ev 0 (by decide)]; exact h0, by rw [ev 1 (by decide)]; exact h1⟩
    · rw [en _ (by omega) (by omega), en _ (by omega) (by omega)]; exact o7 b hb
  · rw [en _ (by omega) (by omega)]; exact o8 y hy
  · rw [en 0 (by decide) (by omega)]; exact (fup_ne D.1 (nI (s + 1)) (show (0 : Nat) ≠ 9 by decide)).trans f0
  · rw [en 1 (by decide) (by omega)]; exact (fup_ne D.1 (nI (s + 1)) (show (1 : Nat) ≠ 9 by decide)).trans f1
  · rw [en 2 (by decide) (by omega)]; exact (fup_ne D.1 (nI (s + 1)) (show (2 : Nat) ≠ 9 by decide)).trans f2
  · rw [en 3 (by decide) (by omega)]; exact (fup_ne D.1 (nI (s + 1)) (show (3 : Nat) ≠ 9 by decide)).trans f3
  · rw [en 4 (by decide) (by omega)]; exact (fup_ne D.1 (nI (s + 1)) (show (4 : Nat) ≠ 9 by decide)).trans f4
  · rw [e5]; exact fup_eq D.1 9 (nI (s + 1))
  · rw [en 4 (by decide) (by omega)] at hp
    obtain ⟨a, b, c, d⟩ := hP p hp
    exact ⟨by rw [en _ (by omega) (by omega)]; exact a, by rw [en _ (by omega) (by omega)]; exact b, by rw [en _ (by omega) (by omega)]; exact c, fun y hy => by rw [en _ (by omega) (by omega)]; exact d y hy⟩
  · rw [e5] at hb
    have q5 : ∀ A B : Nat → Int32, fup (fup D.2 10 A) 11 B 10 = A := fun _ _ => (fup_ne _ _ (by decide)).trans (fup_eq _ _ _)
    have q6 : ∀ A B : Nat → Int32, fup (fup D.2 10 A) 11 B 11 = B := fun _ _ => fup_eq _ _ _
    dsimp only
    rw [q5, q6]
    by_cases z : b = s
    · subst z
      exact ⟨by rw [show 30 + 2 * b = 30 + 2 * b + 0 from rfl, ev 0 (by decide), fup_eq], by rw [ev 1 (by decide), fup_eq]⟩
    · rw [en _ (by omega) (by omega), en _ (by omega) (by omega), fup_ne _ _ z, fup_ne _ _ z]
      exact hB b (by omega)
  · rw [en _ (by omega) (by omega)]; exact hT y hy
  · rw [en _ (by omega) (by omega)]; exact hL p hp y hy
  · exact (fup_ne D.1 (nI (s + 1)) (show (13 : Nat) ≠ 9 by decide)).trans h13
theorem LX_likes {D : LD} {T : Nat → Nat} (h : LX D T) {a b c d : Nat} (h0 : a ≤ 9) (h1 : b ≤ c) (h2 : c ≤ 23) (h3 : d ≤ 9) : LX (D.1, fup D.2 8 (filF (D.2 8) (nI d) (a * 24 + b) (a * 24 + c + 1))) (spF (42 + 27 * a + 3) b c d T) := by
  obtain ⟨⟨⟨o0, o1, o2, o3, o4, o5, o6, o7, o8⟩, ⟨f0, f1, f2, f3, f4, f9⟩, hP, hB, hT⟩, hL, h13⟩ := h
  have e : ∀ j, spF (42 + 27 * a + 3) b c d T j = if 42 + 27 * a + 3 + b ≤ j ∧ j ≤ 42 + 27 * a + 3 + c then d else T j := fun j => rfl
  have en : ∀ j, ¬ (42 + 27 * a + 3 + b ≤ j ∧ j ≤ 42 + 27 * a + 3 + c) → spF (42 + 27 * a + 3) b c d T j = T j := fun j hj => by rw [e, if_neg hj]
  have hl : ∀ p, p < 10 → ∀ y, y < 24 → filF (D.2 8) (nI d) (a * 24 + b) (a * 24 + c + 1) (p * 24 + y) = nI (spF (42 + 27 * a + 3) b c d T (42 + 27 * p + (3 + y))) := fun p hp y hy => by
    rw [e]
    unfold filF
    by_cases z : p = a ∧ b ≤ y ∧ y ≤ c
    · obtain ⟨rfl, z1, z2⟩ := z
      rw [if_pos (by omega), if_pos (by omega)]
    · rw [if_neg (by omega), if_neg (by omega)]
      exact hL p hp y hy
  refine ⟨⟨⟨by rw [en 0 (by omega)]; exact o0, by rw [en 1 (by omega)]; exact o1, by rw [en 2 (by omega)]; exact o2, by rw [en 3 (by omega)]; exact o3, by rw [en 4 (by omega)]; exact o4, by rw [en 5 (by omega)]; exact o5, fun p hp => ?_, fun b hb => ?_, fun y hy => ?_⟩, ⟨?_, ?_, ?_, ?_, ?_, ?_⟩, fun p hp => ?_, fun b hb => ?_, fun y hy => ?_⟩, fun p hp y hy => hl p hp y hy, h13⟩
  · obtain ⟨q1, q2, q3, q4⟩ := o6 p hp
    refine ⟨by rw [en _ (by omega)]; exact q1, by rw [en _ (by omega)]; exact q2, by rw [en _ (by omega)]; exact q3, fun y hy => ?_⟩
    rw [e]
    split
    · exact h3
    · exact q4 y hy
  · rw [en _ (by omega), en _ (by omega)]; exact o7 b hb
  · rw [en _ (by omega)]; exact o8 y hy
  · rw [en 0 (by omega)]; exact f0
  · rw [en 1 (by omega)]; exact f1
  · rw [en 2 (by omega)]; exact f2
  · rw [en 3 (by omega)]; exact f3
  · rw [en 4 (by omega)]; exact f4
  · rw [en 5 (by omega)]; exact f9
  · rw [en 4 (by omega)] at hp
    obtain ⟨q1, q2, q3, q4⟩ := hP p hp
    exact ⟨by rw [en _ (by omega)]; exact q1, by rw [en _ (by omega)]; exact q2, by rw [en _ (by omega)]; exact q3, fun y hy => hl p (by omega) y hy⟩
  · rw [en 5 (by omega)] at hb
    rw [en _ (by omega), en _ (by omega)]; exact hB b hb
  · rw [en _ (by omega)]; exact hT y hy
theorem LX_toll {D : LD} {T : Nat → Nat} (h : LX D T) {a b : Nat} (h0 : a ≤ 23) (h1 : b ≤ 99) : LX (D.1, fup D.2 12 (fup (D.2 12) a (nI b))) (fup T (6 + a) b) := by
  obtain ⟨⟨⟨o0, o1, o2, o3, o4, o5, o6, o7, o8⟩, ⟨f0, f1, f2, f3, f4, f9⟩, hP, hB, hT⟩, hL, h13⟩ := h
  have en : ∀ j, j ≠ 6 + a → fup T (6 + a) b j = T j := fun j hj => fup_ne _ _ hj
  refine ⟨⟨⟨by rw [en 0 (by omega)]; exact o0, by rw [en 1 (by omega)]; exact o1, by rw [en 2 (by omega)]; exact o2, by rw [en 3 (by omega)]; exact o3, by rw [en 4 (by omega)]; exact o4, by rw [en 5 (by omega)]; exact o5, fun p hp => ?_, fun b hb => ?_, fun y hy => ?_⟩, ⟨?_, ?_, ?_, ?_, ?_, ?_⟩, fun p hp => ?_, fun b hb => ?_, fun y hy => ?_⟩, fun p hp y hy => ?_, h13⟩
  · obtain ⟨q1, q2, q3, q4⟩ := o6 p hp
    exact ⟨by rw [en _ (by omega)]; exact q1, by rw [en _ (by omega)]; exact q2, by rw [en _ (by omega)]; exact q3, fun y hy => by rw [en _ (by omega)]; exact q4 y hy⟩
  · rw [en _ (by omega), en _ (by omega)]; exact o7 b hb
  · by_cases z : y = a
    · subst z
      rw [fup_eq]; exact h1
    · rw [en _ (by omega)]; exact o8 y hy
  · rw [en 0 (by omega)]; exact f0
  · rw [en 1 (by omega)]; exact f1
  · rw [en 2 (by omega)]; exact f2
  · rw [en 3 (by omega)]; exact f3
  · rw [en 4 (by omega)]; exact f4
  · rw [en 5 (by omega)]; exact f9
  · rw [en 4 (by omega)] at hp
    obtain ⟨q1, q2, q3, q4⟩ := hP p hp
    exact ⟨by rw [en _ (by omega)]; exact q1, by rw [en _ (by omega)]; exact q2, by rw [en _ (by omega)]; exact q3, fun y hy => by rw [en _ (by omega)]; exact q4 y hy⟩
  · rw [en 5 (by omega)] at hb
    rw [en _ (by omega), en _ (by omega)]; exact hB b hb
  · dsimp only
    rw [show fup D.2 12 (fup (D.2 12) a (nI b)) 12 = fup (D.2 12) a (nI b) from fup_eq _ _ _]
    by_cases z : y = a
    · subst z
      rw [fup_eq, fup_eq]
    · rw [en _ (by omega), fup_ne _ _ z]; exact hT y hy
  · rw [en _ (by omega)]; exact hL p hp y hy
/-- a book being read: it may have more hours than a book may -/
def BX (D : LD) (T : Nat → Nat) : Prop := T 0 ≤ 30 ∧ (∀ k, k < T 0 → T (1 + 2 * k + 0) ≤ 2 ∧ 1 ≤ T (1 + 2 * k + 1) ∧ T (1 + 2 * k + 1) ≤ 24) ∧ D.1 0 = nI (T 0) ∧ D.1 1 = nI (totB T) ∧ (∀ k, k < T 0 → D.2 2 k = nI (T (1 + 2 * k + 0)) ∧ D.2 3 k = nI (T (1 + 2 * k + 1))) ∧ ∀ t, t < totB T → t < 96 → D.2 4 t = nI (wentB T t)
theorem preB_cong {T T' : Nat → Nat} : ∀ k, (∀ i, i < k → T' (1 + 2 * i + 1) = T (1 + 2 * i + 1)) → preB T' k = preB T k
  | 0, _ => rfl
  | k + 1, h => by
    show preB T' k + lenB T' k = preB T k + lenB T k
    rw [preB_cong k (fun i hi => h i (by omega)), show lenB T' k = lenB T k from h k (by omega)]
theorem trk_cong {T T' : Nat → Nat} : ∀ k, (∀ i, i < k → T' (1 + 2 * i + 1) = T (1 + 2 * i + 1)) → (∀ i, i < k → T' (1 + 2 * i + 0) = T (1 + 2 * i + 0)) → ∀ t, trk T' k t = trk T k t
  | 0, _, _, _ => rfl
  | k + 1, h, g, t => by
    show (if preB T' k ≤ t ∧ t < preB T' (k + 1) then T' (1 + 2 * k + 0) else trk T' k t) = if preB T k ≤ t ∧ t < preB T (k + 1) then T (1 + 2 * k + 0) else trk T k t
    rw [preB_cong k (fun i hi => h i (by omega)), preB_cong (k + 1) h, g k (by omega), trk_cong k (fun i hi => h i (by omega)) (fun i hi => g i (by omega)) t]
theorem BX_at {D : LD} {T v : Nat → Nat} (h : BX D T) (hs : T 0 ≠ 30) (h0 : v 0 ≤ 2) (h1 : 1 ≤ v 1) (h2 : v 1 ≤ 24) : BX (fup (fup D.1 0 (nI (T 0 + 1))) 1 (nI (totB T + v 1)), fup (fup (fup D.2 2 (fup (D.2 2) (T 0) (nI (v 0)))) 3 (fup (D.2 3) (T 0) (nI (v 1)))) 4 (fun j => if totB T ≤ j ∧ j < totB T + v 1 ∧ j < 96 then nI (v 0) else D.2 4 j)) (kpF T v 0 1 2 2 30) ∧ totB (kpF T v 0 1 2 2 30) = totB T + v 1 := by
  obtain ⟨b0, b1, f0, f1, hS, hW⟩ := h
  obtain ⟨s, hs0⟩ : ∃ s, T 0 = s := ⟨_, rfl⟩
  have e : ∀ j, kpF T v 0 1 2 2 30 j = if j = 0 then s + 1 else if 1 + 2 * s ≤ j ∧ j < 1 + 2 * s + 2 then v (j - (1 + 2 * s)) else T j := fun j => by
    unfold kpF
    rw [if_neg hs, hs0]
    rfl
  have e0 : kpF T v 0 1 2 2 30 0 = s + 1 := by rw [e, if_pos rfl]
  have en : ∀ j, j ≠ 0 → ¬ (1 + 2 * s ≤ j ∧ j < 1 + 2 * s + 2) → kpF T v 0 1 2 2 30 j = T j := fun j a b => by rw [e, if_neg a, if_neg b]
  have ev : ∀ i, i < 2 → kpF T v 0 1 2 2 30 (1 + 2 * s + i) = v i := fun i hi => by rw [e, if_neg (by omega), if_pos (by omega)]; exact congrArg v (by omega)
  have eT : totB T = preB T s := by unfold totB; rw [hs0]
  have hp : preB (kpF T v 0 1 2 2 30) s = totB T := by
    rw [eT]
    exact preB_cong s (fun i hi => en _ (by omega) (by omega))
  have htot : totB (kpF T v 0 1 2 2 30) = totB T + v 1 := by
    unfold totB
    rw [e0]
    show preB (kpF T v 0 1 2 2 30) s + lenB (kpF T v 0 1 2 2 30) s = _
    rw [hp, show lenB (kpF T v 0 1 2 2 30) s = v 1 from ev 1 (by decide)]
    rfl
  have hwt : ∀ t, wentB (kpF T v 0 1 2 2 30) t = if totB T ≤ t ∧ t < totB T + v 1 then v 0 else wentB T t := fun t => by
    unfold wentB
    rw [e0]
    show (if preB (kpF T v 0 1 2 2 30) s ≤ t ∧ t < preB (kpF T v 0 1 2 2 30) (s + 1) then kpF T v 0 1 2 2 30 (1 + 2 * s + 0) else trk (kpF T v 0 1 2 2 30) s t) = _
    have hp1 : preB (kpF T v 0 1 2 2 30) (s + 1) = totB T + v 1 := by
      rw [← htot]
      unfold totB
      rw [e0]
    rw [hp, hp1, ev 0 (by decide), hs0, trk_cong s (fun i hi => en _ (by omega) (by omega)) (fun i hi => en _ (by omega) (by omega)) t]
  refine ⟨⟨by rw [e0]; omega, fun k hk => ?_, ?_, ?_, fun k hk => ?_, fun t ht h96 => ?_⟩, htot⟩
  · rw [e0] at hk
    by_cases z : k = s
    · subst z
      exact ⟨by rw [ev 0 (by decide)]; exact h0, by rw [ev 1 (by decide)]; exact h1, by rw [ev 1 (by decide)]; exact h2⟩
    · rw [en _ (by omega) (by omega), en _ (by omega) (by omega)]
      exact b1 k (by omega)
  · rw [e0, hs0]; exact (fup_ne (fup D.1 0 (nI (s + 1))) (nI (totB T + v 1)) (show (0 : Nat) ≠ 1 by decide)).trans (fup_eq D.1 0 _)
  · rw [htot]; exact fup_eq (fup D.1 0 (nI (T 0 + 1))) 1 _
  · rw [e0] at hk
    rw [hs0]
    have q5 : ∀ A B C : Nat → Int32, fup (fup (fup D.2 2 A) 3 B) 4 C 2 = A := fun _ _ _ => f3a _ (by decide) (by decide)
    have q6 : ∀ A B C : Nat → Int32, fup (fup (fup D.2 2 A) 3 B) 4 C 3 = B := fun _ _ _ => f3b _ (by decide)
    dsimp only
    rw [q5, q6]
    by_cases z : k = s
    · subst z
      exact ⟨by rw [ev 0 (by decide), fup_eq], by rw [ev 1 (by decide), fup_eq]⟩
    · rw [en _ (by omega) (by omega), en _ (by omega) (by omega), fup_ne _ _ z, fup_ne _ _ z]
      exact hS k (by omega)
  · have q7 : ∀ A B C : Nat → Int32, fup (fup (fup D.2 2 A) 3 B) 4 C 4 = C := fun _ _ _ => f3c _
    dsimp only
    rw [q7, hwt t]
    by_cases z : totB T ≤ t ∧ t < totB T + v 1
    · rw [if_pos z, if_pos ⟨z.1, z.2, h96⟩]
    · rw [if_neg z, if_neg (fun y => z ⟨y.1, y.2.1⟩)]
      exact hW t (by rw [htot] at ht; omega) h96
theorem SX_saw {D : LD} {T v : Nat → Nat} (h : SVr D T) (hs : T 0 ≠ 20) (h0 : v 0 ≤ 9) (h1 : v 1 ≤ 23) {d : Nat} (h2 : d ≤ 1) : SVr (fup D.1 0 (nI (T 0 + 1)), fup (fup (fup D.2 1 (fup (D.2 1) (T 0) (nI (v 0)))) 2 (fup (D.2 2) (T 0) (nI (v 1)))) 3 (fup (D.2 3) (T 0) (nI d))) (kpF T (fup v 2 d) 0 1 3 3 20) := by
  obtain ⟨⟨b0, b1⟩, f0, hS⟩ := h
  obtain ⟨s, hs0⟩ : ∃ s, T 0 = s := ⟨_, rfl⟩
  have e : ∀ j, kpF T (fup v 2 d) 0 1 3 3 20 j = if j = 0 then s + 1 else if 1 + 3 * s ≤ j ∧ j < 1 + 3 * s + 3 then fup v 2 d (j - (1 + 3 * s)) else T j := fun j => by
    unfold kpF
    rw [if_neg hs, hs0]
    rfl
  have e0 : kpF T (fup v 2 d) 0 1 3 3 20 0 = s + 1 := by rw [e, if_pos rfl]
  have en : ∀ j, j ≠ 0 → ¬ (1 + 3 * s ≤ j ∧ j < 1 + 3 * s + 3) → kpF T (fup v 2 d) 0 1 3 3 20 j = T j := fun j a b => by rw [e, if_neg a, if_neg b]
  have ev : ∀ i, i < 3 → kpF T (fup v 2 d) 0 1 3 3 20 (1 + 3 * s + i) = fup v 2 d i := fun i hi => by rw [e, if_neg (by omega), if_pos (by omega)]; exact congrArg (fup v 2 d) (by omega)
  refine ⟨⟨by rw [e0]; omega, fun k hk => ?_⟩, by rw [e0, hs0]; exact fup_eq D.1 0 _, fun k hk => ?_⟩
  · rw [e0] at hk
    by_cases z : k = s
    · subst z
      exact ⟨by rw [ev 0 (by decide)]; exact h0, by rw [ev 1 (by decide)]; exact h1, by rw [ev 2 (by decide)]; exact h2⟩
    · rw [en _ (by omega) (by omega), en _ (by omega) (by omega), en _ (by omega) (by omega)]
      exact b1 k (by omega)
  · rw [e0] at hk
    rw [hs0]
    have q5 : ∀ A B C : Nat → Int32, fup (fup (fup D.2 1 A) 2 B) 3 C 1 = A := fun _ _ _ => f3a _ (by decide) (by decide)
    have q6 : ∀ A B C : Nat → Int32, fup (fup (fup D.2 1 A) 2 B) 3 C 2 = B := fun _ _ _ => f3b _ (by decide)
    have q7 : ∀ A B C : Nat → Int32, fup (fup (fup D.2 1 A) 2 B) 3 C 3 = C := fun _ _ _ => f3c _
    dsimp only
    rw [q5, q6, q7]
    by_cases z : k = s
    · subst z
      exact ⟨by rw [ev 0 (by decide), fup_eq]; rfl, by rw [ev 1 (by decide), fup_eq]; rfl, by rw [ev 2 (by decide), fup_eq]; rfl⟩
    · rw [en _ (by omega) (by omega), en _ (by omega) (by omega), en _ (by omega) (by omega), fup_ne _ _ z, fup_ne _ _ z, fup_ne _ _ z]
      exact hS k (by omega)
