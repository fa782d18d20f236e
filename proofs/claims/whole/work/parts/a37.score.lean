def iL (z : Int) : Int64 := Int64.ofInt z
theorem iL_add (a b : Int) : iL a + iL b = iL (a + b) := (Int64.ofInt_add a b).symm
theorem iL_sub (a b : Int) : iL a - iL b = iL (a - b) := (Int64.ofInt_sub a b).symm
theorem iL_mul (a b : Int) : iL a * iL b = iL (a * b) := (Int64.ofInt_mul a b).symm
theorem iL_N (n : Nat) : lN n = iL (n : Int) := Int64.ofInt_eq_ofNat.symm
theorem iL_t {z : Int} (h1 : -(2 ^ 63) ≤ z) (h2 : z < 2 ^ 63) : (iL z).toInt = z := Int64.toInt_ofInt_of_le h1 h2
theorem iL_lt {a b : Int} (a1 : -(2 ^ 63) ≤ a) (a2 : a < 2 ^ 63) (b1 : -(2 ^ 63) ≤ b) (b2 : b < 2 ^ 63) : iL a < iL b ↔ a < b := by
  rw [Int64.lt_iff_toInt_lt, iL_t a1 a2, iL_t b1 b2]
theorem maxL_i {a b : Int} (a1 : -(2 ^ 63) ≤ a) (a2 : a < 2 ^ 63) (b1 : -(2 ^ 63) ≤ b) (b2 : b < 2 ^ 63) : maxL (iL a) (iL b) = iL (if a < b then b else a) := by
  unfold maxL
  by_cases z : a < b
  · rw [if_pos ((iL_lt a1 a2 b1 b2).mpr z), if_pos z]
  · rw [if_neg (fun w => z ((iL_lt a1 a2 b1 b2).mp w)), if_neg z]
theorem NTH_i : NTH = iL (-(2 ^ 63 - 1)) := by decide
/-- a stand's score at an hour, a carrying's fee -/
def scZ (V : Nat → Nat) (s h : Nat) : Int := if 1 < s then -2 * (3 ^ (V 0 - 1 - h) : Nat) else ((likedInN V s h * 4753 * 3 ^ V 0 : Nat) : Int) - ((s * 3 ^ (V 0 - 1 - h) : Nat) : Int)
def feZ (V : Nat → Nat) (s t h : Nat) : Int := if carB s t = true then (((V (6 + h) + cheapN V) * 3 ^ V 0 : Nat) : Int) else 0
theorem scI_i {V : Nat → Nat} (ok : VOK V) {Z : PC} (hP : PRP V (V 0) Z) {s h : Nat} (hs : s < 8) (hh : h < V 0) : scI Z s h = iL (scZ V s h) := by
  obtain ⟨hu, hk⟩ := hP
  obtain ⟨k1, k2, k3, k4⟩ := hk h (by omega) hh
  have hH := ok.1.2
  have hl := fun c => likedInN_le ok c (show h < 24 by omega)
  unfold scI scZ
  by_cases z : 1 < s
  · rw [if_pos z, if_pos z, k1, iL_N, show (-2 : Int64) = iL (-2) from by decide, iL_mul]
  · rw [if_neg z, if_neg z, k1, hu]
    have e : Z.2.2.2.2.2.1 (s * 24 + h) = nI (likedInN V s h * 4753) := by
      rcases (show s = 0 ∨ s = 1 by omega) with rfl | rfl
      · rw [Nat.zero_mul, Nat.zero_add]; exact k2
      · rw [Nat.one_mul]; exact k3
    have := hl s
    rw [e, nI_l (by omega), nI_l (by omega), lN_mul, lN_mul, iL_N, iL_N, iL_sub]
theorem fe_i {V : Nat → Nat} (ok : VOK V) {Z : PC} (hP : PRP V (V 0) Z) {s t h : Nat} (hh : h < V 0) : (if carB s t = true then (Z.2.2.2.2.2.2 h).toInt64 * Z.2.1 else 0) = iL (feZ V s t h) := by
  obtain ⟨hu, hk⟩ := hP
  obtain ⟨k1, k2, k3, k4⟩ := hk h (by omega) hh
  have hH := ok.1.2
  have hc := cheapN_99 ok
  have hb := ok.2.2.2.2.2.2.2.2 h (by omega)
  unfold feZ
  by_cases z : carB s t = true
  · rw [if_pos z, if_pos z, k4, hu, nI_l (by omega), lN_mul, iL_N]
  · rw [if_neg z, if_neg z]
    decide
