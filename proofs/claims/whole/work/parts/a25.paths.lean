theorem maxO_or {a b : Option Int} {m : Int} (h : maxO a b = some m) : a = some m ∨ b = some m := by
  cases a with
  | none => exact .inr h
  | some x =>
    cases b with
    | none => exact .inl h
    | some y =>
      have h : some (if x ≤ y then y else x) = some m := h
      by_cases q : x ≤ y
      · rw [if_pos q] at h; exact .inr h
      · rw [if_neg q] at h; exact .inl h
theorem maxO_l {a b : Option Int} {x : Int} (h : a = some x) : ∃ m, maxO a b = some m ∧ x ≤ m := by
  subst h
  cases b with
  | none => exact ⟨x, rfl, Int.le_refl _⟩
  | some y =>
    refine ⟨if x ≤ y then y else x, rfl, ?_⟩
    split <;> omega
theorem maxO_r {a b : Option Int} {x : Int} (h : b = some x) : ∃ m, maxO a b = some m ∧ x ≤ m := by
  subst h
  cases a with
  | none => exact ⟨x, rfl, Int.le_refl _⟩
  | some y =>
    refine ⟨if y ≤ x then x else y, rfl, ?_⟩
    split <;> omega
theorem addO_some {a : Option Int} {g m : Int} (h : addO a g = some m) : ∃ z, a = some z ∧ m = z + g := by
  cases a with
  | none => cases h
  | some z => exact ⟨z, rfl, by have h : some (z + g) = some m := h; cases h; rfl⟩
/-- a row goes on from a stand for n hours more, closes and fits: what it gains -/
def Pt (few : Bool) (V : Nat → Nat) (first : Nat) : Nat → Nat → Nat → Nat → Int → Prop
  | 0, s, d0, d1, z => goesB (V 1) s first = true ∧ fitsB V d0 d1 = true ∧ z = gainsZ few V s first 0
  | n + 1, s, d0, d1, z => ∃ y, y < 2 ∧ ¬ (2 ≤ s ∧ y = 1) ∧ ∃ z', Pt few V first n (nextN (V 1) s y) (d0 + moN (nextN (V 1) s y) 0) (d1 + moN (nextN (V 1) s y) 1) z' ∧ z = z' + gainsZ few V s (nextN (V 1) s y) (V 0 - 1 - n)
theorem bestB_Pt {few : Bool} {V : Nat → Nat} {first : Nat} : ∀ n s d0 d1, (∀ m, bestB few V first n s d0 d1 = some m → Pt few V first n s d0 d1 m) ∧ ∀ z, Pt few V first n s d0 d1 z → ∃ m, bestB few V first n s d0 d1 = some m ∧ z ≤ m
  | 0, s, d0, d1 => by
    refine ⟨fun m h => ?_, fun z h => ?_⟩
    · simp only [bestB] at h
      split at h
      · rename_i q
        cases h
        exact ⟨q.1, q.2, rfl⟩
      · cases h
    · obtain ⟨h1, h2, h3⟩ := h
      refine ⟨z, ?_, Int.le_refl _⟩
      simp only [bestB]
      rw [if_pos ⟨h1, h2⟩, h3]
  | n + 1, s, d0, d1 => by
    refine ⟨fun m h => ?_, fun z h => ?_⟩
    · simp only [bestB] at h
      rcases maxO_or h with h | h
      · obtain ⟨z, h, e⟩ := addO_some h
        exact ⟨0, by decide, fun w => absurd w.2 (by decide), z, (bestB_Pt n _ _ _).1 z h, e⟩
      · by_cases q : 2 ≤ s
        · rw [if_pos q] at h; cases h
        · rw [if_neg q] at h
          obtain ⟨z, h, e⟩ := addO_some h
          exact ⟨1, by decide, fun w => q w.1, z, (bestB_Pt n _ _ _).1 z h, e⟩
    · obtain ⟨y, hy, hv, z', hp, e⟩ := h
      obtain ⟨m, hm, hle⟩ := (bestB_Pt n _ _ _).2 z' hp
      simp only [bestB]
      rcases (show y = 0 ∨ y = 1 by omega) with rfl | rfl
      · obtain ⟨M, h1, h2⟩ := maxO_l (b := if 2 ≤ s then none else addO (bestB few V first n (nextN (V 1) s 1) (d0 + moN (nextN (V 1) s 1) 0) (d1 + moN (nextN (V 1) s 1) 1)) (gainsZ few V s (nextN (V 1) s 1) (V 0 - 1 - n))) (show addO (bestB few V first n (nextN (V 1) s 0) (d0 + moN (nextN (V 1) s 0) 0) (d1 + moN (nextN (V 1) s 0) 1)) (gainsZ few V s (nextN (V 1) s 0) (V 0 - 1 - n)) = some (m + gainsZ few V s (nextN (V 1) s 0) (V 0 - 1 - n)) by rw [hm]; rfl)
        exact ⟨M, h1, by omega⟩
      · have q : ¬ 2 ≤ s := fun w => hv ⟨w, rfl⟩
        rw [if_neg q]
        obtain ⟨M, h1, h2⟩ := maxO_r (a := addO (bestB few V first n (nextN (V 1) s 0) (d0 + moN (nextN (V 1) s 0) 0) (d1 + moN (nextN (V 1) s 0) 1)) (gainsZ few V s (nextN (V 1) s 0) (V 0 - 1 - n))) (show addO (bestB few V first n (nextN (V 1) s 1) (d0 + moN (nextN (V 1) s 1) 0) (d1 + moN (nextN (V 1) s 1) 1)) (gainsZ few V s (nextN (V 1) s 1) (V 0 - 1 - n)) = some (m + gainsZ few V s (nextN (V 1) s 1) (V 0 - 1 - n)) by rw [hm]; rfl)
        exact ⟨M, h1, by omega⟩
/-- forward: a row has come to a stand by hour h -/
def Fw (few : Bool) (V : Nat → Nat) (first : Nat) : Nat → Nat → Nat → Nat → Int → Prop
  | 0, t, d0, d1, z => t = first ∧ d0 = moN first 0 ∧ d1 = moN first 1 ∧ z = 0
  | h + 1, t, d0, d1, z => ∃ s y, y < 2 ∧ ¬ (2 ≤ s ∧ y = 1) ∧ nextN (V 1) s y = t ∧ ∃ a0 a1 z', Fw few V first h s a0 a1 z' ∧ d0 = a0 + moN t 0 ∧ d1 = a1 + moN t 1 ∧ z = z' + gainsZ few V s t (h + 1)
theorem fw_step {few : Bool} {V : Nat → Nat} {first h n : Nat} (hn : h + (n + 1) = V 0 - 1) (z : Int) : (∃ t d0 d1 z1 z2, Fw few V first h t d0 d1 z1 ∧ Pt few V first (n + 1) t d0 d1 z2 ∧ z = z1 + z2) ↔ (∃ t d0 d1 z1 z2, Fw few V first (h + 1) t d0 d1 z1 ∧ Pt few V first n t d0 d1 z2 ∧ z = z1 + z2) := by
  have e : V 0 - 1 - n = h + 1 := by omega
  constructor
  · rintro ⟨t, d0, d1, z1, z2, hf, ⟨y, hy, hv, z', hp, e2⟩, rfl⟩
    rw [e] at e2
    exact ⟨nextN (V 1) t y, _, _, z1 + gainsZ few V t (nextN (V 1) t y) (h + 1), z', ⟨t, y, hy, hv, rfl, d0, d1, z1, hf, rfl, rfl, rfl⟩, hp, by omega⟩
  · rintro ⟨t, d0, d1, z1, z2, ⟨s, y, hy, hv, rfl, a0, a1, z', hf, rfl, rfl, rfl⟩, hp, rfl⟩
    exact ⟨s, a0, a1, z', z2 + gainsZ few V s (nextN (V 1) s y) (h + 1), hf, ⟨y, hy, hv, z2, hp, by rw [e]⟩, by omega⟩
theorem fw_all {few : Bool} {V : Nat → Nat} {first : Nat} (z : Int) : ∀ h n, h + n = V 0 - 1 → ((∃ t d0 d1 z1 z2, Fw few V first h t d0 d1 z1 ∧ Pt few V first n t d0 d1 z2 ∧ z = z1 + z2) ↔ Pt few V first (V 0 - 1) first (moN first 0) (moN first 1) z)
  | 0, n, hn => by
    have hn : n = V 0 - 1 := by omega
    subst hn
    constructor
    · rintro ⟨t, d0, d1, z1, z2, ⟨rfl, rfl, rfl, rfl⟩, hp, rfl⟩
      rw [Int.zero_add]
      exact hp
    · intro hp
      exact ⟨first, _, _, 0, z, ⟨rfl, rfl, rfl, rfl⟩, hp, by omega⟩
  | h + 1, n, hn => by
    rw [← fw_step (by omega) z]
    exact fw_all z h (n + 1) (by omega)
/-- a closed row that fits, and what it gains -/
def Cl (few : Bool) (V : Nat → Nat) (first : Nat) (z : Int) : Prop := ∃ s d0 d1 z1, Fw few V first (V 0 - 1) s d0 d1 z1 ∧ goesB (V 1) s first = true ∧ fitsB V d0 d1 = true ∧ z = z1 + gainsZ few V s first 0
theorem Cl_Pt {few : Bool} {V : Nat → Nat} {first : Nat} (z : Int) : Cl few V first z ↔ Pt few V first (V 0 - 1) first (moN first 0) (moN first 1) z := by
  rw [← fw_all z (V 0 - 1) 0 (by omega)]
  constructor
  · rintro ⟨s, d0, d1, z1, hf, hg, hfit, e⟩
    exact ⟨s, d0, d1, z1, _, hf, ⟨hg, hfit, rfl⟩, e⟩
  · rintro ⟨s, d0, d1, z1, z2, hf, ⟨hg, hfit, rfl⟩, e⟩
    exact ⟨s, d0, d1, z1, hf, hg, hfit, e⟩
theorem allB_Cl {few : Bool} {V : Nat → Nat} : ∀ n, (∀ m, allB few V n = some m → ∃ s, s < n ∧ Cl few V s m) ∧ ∀ s z, s < n → Cl few V s z → ∃ m, allB few V n = some m ∧ z ≤ m
  | 0 => ⟨(fun m h => by cases h), fun s z h => absurd h (Nat.not_lt_zero _)⟩
  | n + 1 => by
    obtain ⟨i1, i2⟩ := allB_Cl (few := few) (V := V) n
    have e : allB few V (n + 1) = maxO (allB few V n) (bestF few V n) := rfl
    refine ⟨fun m h => ?_, fun s z hs hc => ?_⟩
    · rw [e] at h
      rcases maxO_or h with h | h
      · obtain ⟨s, hs, hc⟩ := i1 m h
        exact ⟨s, by omega, hc⟩
      · exact ⟨n, Nat.lt_succ_self n, (Cl_Pt m).mpr ((bestB_Pt _ _ _ _).1 m h)⟩
    · rw [e]
      by_cases q : s = n
      · subst q
        obtain ⟨m, hm, hle⟩ := (bestB_Pt _ _ _ _).2 z ((Cl_Pt z).mp hc)
        obtain ⟨M, h1, h2⟩ := maxO_r (a := allB few V s) (show bestF few V s = some m from hm)
        exact ⟨M, h1, by omega⟩
      · obtain ⟨m, hm, hle⟩ := i2 s z (by omega) hc
        obtain ⟨M, h1, h2⟩ := maxO_l (b := bestF few V n) hm
        exact ⟨M, h1, by omega⟩
