theorem mul_inj {w a b a' b' : Nat} (hb : b < w) (hb' : b' < w) (e : a * w + b = a' * w + b') : a = a' ∧ b = b' := by
  have h1 : (a * w + b) / w = a := by
    rw [Nat.add_comm, Nat.add_mul_div_right _ _ (by omega), Nat.div_eq_of_lt hb, Nat.zero_add]
  have h2 : (a' * w + b') / w = a' := by
    rw [Nat.add_comm, Nat.add_mul_div_right _ _ (by omega), Nat.div_eq_of_lt hb', Nat.zero_add]
  have h3 : a = a' := by rw [← h1, ← h2, e]
  subst h3
  exact ⟨rfl, by omega⟩
theorem cl_inj {H Ca s d k s' d' k' : Nat} (hd : d ≤ H) (hd' : d' ≤ H) (hk : k < Ca) (hk' : k' < Ca) (e : clN H Ca s d k = clN H Ca s' d' k') : s = s' ∧ d = d' ∧ k = k' := by
  unfold clN at e
  obtain ⟨e1, e2⟩ := mul_inj hk hk' e
  obtain ⟨e3, e4⟩ := mul_inj (w := H + 1) (by omega) (by omega) e1
  exact ⟨e3, e4, e2⟩
theorem cl_lt2 {V : Nat → Nat} (ok : VOK V) {s d k : Nat} (hs : s < 2 + 2 * V 1) (hd : d ≤ V 0) (hk : k < carD V) : clN (V 0) (carD V) s d k < min 1400 ((2 + 2 * V 1) * (V 0 + 1) * carD V) := by
  have h1 := cl_lt ok hs hd hk
  have h2 : s * (V 0 + 1) + (V 0 + 1) ≤ (2 + 2 * V 1) * (V 0 + 1) := by
    rw [← Nat.succ_mul]
    exact Nat.mul_le_mul_right _ hs
  have h3 : (s * (V 0 + 1) + d) * carD V + carD V ≤ (2 + 2 * V 1) * (V 0 + 1) * carD V := by
    rw [← Nat.succ_mul]
    exact Nat.mul_le_mul_right _ (by omega)
  unfold clN at *
  omega
/-- entering a state changes its own cell alone -/
theorem enT_ne {L : Nat → Int64} {H Ca s dk ct : Nat} {v : Int64} {s' d' k' : Nat} (hd : d' ≤ H) (hk : k' < Ca) (h : ¬ (s' = s ∧ d' = dk ∧ k' = ct)) : enT L H Ca s dk ct v (clN H Ca s' d' k') = L (clN H Ca s' d' k') := by
  unfold enT
  by_cases z : Ca ≤ ct ∨ H < dk
  · rw [if_pos z]
  · rw [if_neg z, fup_ne]
    intro e
    obtain ⟨e1, e2, e3⟩ := cl_inj hd (by omega) hk (by omega) e
    exact h ⟨e1, e2, e3⟩
theorem enT_eq {L : Nat → Int64} {H Ca s dk ct : Nat} {v : Int64} (hd : dk ≤ H) (hk : ct < Ca) : enT L H Ca s dk ct v (clN H Ca s dk ct) = maxL (L (clN H Ca s dk ct)) v := by
  unfold enT maxL
  rw [if_neg (by omega), fup_eq]
