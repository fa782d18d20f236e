def carN (s t : Nat) : Nat := if carB s t = true then 1 else 0
def dlN (s t : Nat) : Nat := evN t + 625 * carN s t
def kL (cr B first : Nat) : Nat → List Nat
  | 0 => (List.range (2 + 2 * cr)).map (fun t => if t = first then B ^ evN t else 0)
  | h + 1 => (List.range (2 + 2 * cr)).map (fun t => sumN (fun s => adjN cr s t * ((kL cr B first h).getD s 0 * B ^ dlN s t)) (2 + 2 * cr))
def pkK (cr B h : Nat) : Nat := sumN (fun first => sumN (fun s => if goesB cr s first = true then (kL cr B first h).getD s 0 * B ^ (625 * carN s first) else 0) (2 + 2 * cr)) (2 + 2 * cr)
def fkK (C B H : Nat) : Nat := sumN (fun p => sumN (fun a => if a + 2 * p * C ≤ H then rowN H p a (H - 2 * p * C - a) * B ^ (25 * a + (H - 2 * p * C - a) + 1250 * p) else 0) 25) 13
theorem kk_all : ∀ C, C < 4 → ∀ H, H < 25 → 4 ≤ H → pkK C (2 ^ 64) (H - 1) = fkK C (2 ^ 64) H := by decide +kernel
theorem rw_lt : ∀ H, H < 25 → ∀ p, p < 13 → ∀ a, a < 25 → ∀ b, b < 25 → rowN H p a b < 2 ^ 53 := fun H hH p hp a ha b hb => by
  unfold rowN
  split
  · split <;> decide
  · rename_i h0
    split
    · decide
    · rename_i h1
      have e1 := ch_le (a - 1) (by omega) (p - 1) (by omega) (by omega) (p - 1) (by omega) (Nat.le_refl _)
      have e2 := ch_le (b - 1) (by omega) (p - 1) (by omega) (by omega) (p - 1) (by omega) (Nat.le_refl _)
      have e3 : H * chN (a - 1) (p - 1) ≤ 24 * 2 ^ 24 := Nat.mul_le_mul (by omega) (Nat.le_of_lt e1)
      have e4 : H * chN (a - 1) (p - 1) * chN (b - 1) (p - 1) ≤ 24 * 2 ^ 24 * 2 ^ 24 := Nat.mul_le_mul e3 (Nat.le_of_lt e2)
      have e5 : (24 : Nat) * 2 ^ 24 * 2 ^ 24 < 2 ^ 53 := by decide
      have e6 := Nat.div_le_self (H * chN (a - 1) (p - 1) * chN (b - 1) (p - 1)) p
      omega
