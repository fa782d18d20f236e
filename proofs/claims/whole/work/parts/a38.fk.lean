theorem scZ_bd {V : Nat → Nat} (ok : VOK V) {s h : Nat} (hh : h < V 0) : -564859072962 ≤ scZ V s h ∧ scZ V s h ≤ 120814882820477370 := by
  have hH := ok.1.2
  have hl := likedInN_le ok s (show h < 24 by omega)
  have p1 : (3 : Nat) ^ (V 0 - 1 - h) ≤ 3 ^ 24 := Nat.pow_le_pow_right (by decide) (by omega)
  have p2 : (3 : Nat) ^ V 0 ≤ 3 ^ 24 := Nat.pow_le_pow_right (by decide) hH
  have e24 : (3 : Nat) ^ 24 = 282429536481 := by decide
  have p3 : likedInN V s h * 4753 * 3 ^ V 0 ≤ 90 * 4753 * 3 ^ 24 := Nat.mul_le_mul (Nat.mul_le_mul_right _ hl) p2
  rw [e24] at p1 p2 p3
  unfold scZ
  by_cases z : 1 < s
  · rw [if_pos z]
    generalize 3 ^ (V 0 - 1 - h) = q at *
    omega
  · rw [if_neg z]
    have p4 : s * 3 ^ (V 0 - 1 - h) ≤ 1 * 282429536481 := Nat.mul_le_mul (by omega) p1
    generalize s * 3 ^ (V 0 - 1 - h) = q at *
    obtain ⟨w, hw⟩ : ∃ w, likedInN V s h * 4753 * 3 ^ V 0 = w := ⟨_, rfl⟩
    rw [hw] at p3 ⊢
    omega
theorem feZ_bd {V : Nat → Nat} (ok : VOK V) {s t h : Nat} (hh : h < V 0) : 0 ≤ feZ V s t h ∧ feZ V s t h ≤ 55921048223238 := by
  have hH := ok.1.2
  have hc := cheapN_99 ok
  have hb := ok.2.2.2.2.2.2.2.2 h (by omega)
  have p2 : (3 : Nat) ^ V 0 ≤ 3 ^ 24 := Nat.pow_le_pow_right (by decide) hH
  have e24 : (3 : Nat) ^ 24 = 282429536481 := by decide
  have p3 : (V (6 + h) + cheapN V) * 3 ^ V 0 ≤ 198 * 3 ^ 24 := Nat.mul_le_mul (by omega) p2
  rw [e24] at p3
  unfold feZ
  by_cases z : carB s t = true
  · rw [if_pos z]
    generalize (V (6 + h) + cheapN V) * 3 ^ V 0 = w at *
    omega
  · rw [if_neg z]
    omega
/-- forward: a row has come to a stand by hour h, with so many carryings told apart, and its score -/
def Fk (V : Nat → Nat) (first : Nat) : Nat → Nat → Nat → Nat → Nat → Int → Prop
  | 0, t, d0, d1, k, z => t = first ∧ d0 = moN first 0 ∧ d1 = moN first 1 ∧ k = 0 ∧ z = scZ V first 0
  | h + 1, t, d0, d1, k, z => ∃ s y, y < 2 ∧ ¬ (2 ≤ s ∧ y = 1) ∧ nextN (V 1) s y = t ∧ ∃ a0 a1 k' z', Fk V first h s a0 a1 k' z' ∧ d0 = a0 + moN t 0 ∧ d1 = a1 + moN t 1 ∧ k = k' + enA (V 1) s t ∧ z = z' + scZ V t (h + 1) - feZ V s t (h + 1)
theorem Fk_bd {V : Nat → Nat} (ok : VOK V) {first : Nat} : ∀ h, h < V 0 → ∀ t d0 d1 k z, Fk V first h t d0 d1 k z → -(56485907296200 * ((h : Int) + 1)) ≤ z ∧ z ≤ 120814882820477370 * ((h : Int) + 1)
  | 0, hh, t, d0, d1, k, z, hw => by
    obtain ⟨rfl, -, -, -, rfl⟩ := hw
    have := scZ_bd ok (s := t) hh
    omega
  | h + 1, hh, t, d0, d1, k, z, hw => by
    obtain ⟨s, y, -, -, -, a0, a1, k', z', hw, -, -, -, rfl⟩ := hw
    have i := Fk_bd ok h (by omega) s a0 a1 k' z' hw
    have b1 := scZ_bd ok (s := t) hh
    have b2 := feZ_bd ok (s := s) (t := t) hh
    omega
theorem Fk_64 {V : Nat → Nat} (ok : VOK V) {first h t d0 d1 k : Nat} {z : Int} (hh : h < V 0) (hw : Fk V first h t d0 d1 k z) : -(2 ^ 62) ≤ z ∧ z < 2 ^ 62 := by
  have hH := ok.1.2
  have := Fk_bd ok h hh t d0 d1 k z hw
  omega
