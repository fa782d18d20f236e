theorem xorneg {a b : Int64} (hb : 0 ≤ b.toInt) : (a ^^^ b) < 0 ↔ a.toInt < 0 := by
  rw [Int64.lt_iff_toInt_lt]
  show (a.toBitVec ^^^ b.toBitVec).toInt < 0 ↔ a.toBitVec.toInt < 0
  have h1 : (a.toBitVec ^^^ b.toBitVec).msb = decide ((a.toBitVec ^^^ b.toBitVec).toInt < 0) := BitVec.msb_eq_toInt
  have h2 : a.toBitVec.msb = decide (a.toBitVec.toInt < 0) := BitVec.msb_eq_toInt
  have h3 : b.toBitVec.msb = decide (b.toBitVec.toInt < 0) := BitVec.msb_eq_toInt
  have h4 : decide (b.toBitVec.toInt < 0) = false := decide_eq_false (by have hb2 : 0 ≤ b.toBitVec.toInt := hb; omega)
  rw [BitVec.msb_xor, h2, h3, h4, Bool.xor_false] at h1
  exact ⟨fun h => of_decide_eq_true (h1.trans (decide_eq_true h)), fun h => of_decide_eq_true (h1.symm.trans (decide_eq_true h))⟩
theorem fdL {A u : Int} (a1 : -(2 ^ 62) ≤ A) (a2 : A ≤ 2 ^ 62) (u1 : 0 < u) (u2 : u < 2 ^ 62) : (if (iL A ^^^ iL u) < 0 ∧ iL A / iL u * iL u ≠ iL A then iL A / iL u - 1 else iL A / iL u) = iL (A / u) := by
  have eA : (iL A).toInt = A := iL_t (by omega) (by omega)
  have eu : (iL u).toInt = u := iL_t (by omega) (by omega)
  have m1 : Int64.minValue.toInt = -(2 ^ 63) := by decide
  have m2 : Int64.maxValue.toInt = 2 ^ 63 - 1 := by decide
  have ht : iL A / iL u = iL (A.tdiv u) := (Int64.ofInt_tdiv (by omega) (by omega) (by omega) (by omega)).symm
  by_cases h0 : 0 ≤ A
  · rw [if_neg (fun w => by
      have := (xorneg (by omega)).mp w.1
      omega), ht, Int.tdiv_eq_ediv_of_nonneg h0]
  · by_cases hd : u ∣ A
    · have e2 : iL A / iL u = iL (A / u) := by rw [ht, Int.tdiv_eq_ediv_of_dvd hd]
      rw [e2, if_neg (fun w => w.2 (by rw [iL_mul, Int.ediv_mul_cancel hd]))]
    · have e2 : iL A / iL u = iL (A / u + 1) := by
        rw [ht, Int.tdiv_eq_ediv, if_neg (by
          rintro (w | w)
          · exact h0 w
          · exact hd w), Int.sign_eq_one_of_pos u1]
      have h1 := Int.lt_ediv_add_one_mul_self A u1
      have h2 := Int.ediv_mul_le A (b := u) (by omega)
      have h3 : (A / u + 1) * u = A / u * u + u := by rw [Int.add_mul, Int.one_mul]
      rw [e2, if_pos ⟨(xorneg (by omega)).mpr (by omega), fun w => by
        rw [iL_mul] at w
        have w2 : (iL ((A / u + 1) * u)).toInt = (iL A).toInt := by rw [w]
        rw [eA, iL_t (by omega) (by omega)] at w2
        omega⟩, show (1 : Int64) = iL 1 from by decide, iL_sub]
      exact congrArg iL (by omega)
theorem fl_eq {u g w : Int} (h0 : 0 ≤ w) (h1 : w < u) : (-(u * g - w)) / u = -g := by
  rw [show -(u * g - w) = w + u * (-g) by rw [Int.mul_neg]; omega, Int.add_mul_ediv_left w (-g) (by omega), Int.ediv_eq_zero_of_lt h0 h1, Int.zero_add]
theorem iL_neg (a : Int) : -iL a = iL (-a) := (Int64.ofInt_neg a).symm
theorem iL_32 (a : Int) : (iL a).toInt32 = Int32.ofInt a := Int64.toInt32_ofInt
theorem nI_Zn (n : Nat) : Int32.ofInt (n : Int) = nI n := (nI_Z n).symm
theorem lN_rem3 {m : Nat} (h : m < 2 ^ 62) : lN m - lN m / 3 * 3 = lN (m % 3) := by
  rw [show lN m / 3 = lN (m / 3) from lN_div (b := 3) (by omega) (by decide), show lN (m / 3) * 3 = lN (m / 3 * 3) from lN_mul (m / 3) 3, iL_N, iL_N, iL_N, iL_sub]
  exact congrArg iL (by omega)
theorem lN_32 (m : Nat) : (lN m).toInt32 = nI m := Int64.toInt32_ofNat'
theorem maxU {u : Nat} (h0 : 0 < u) (h : u < 2 ^ 62) : (if 1 < lN u then lN u else 1) = iL (u : Int) := by
  rw [iL_N]
  by_cases q : 1 < u
  · rw [if_pos]
    rw [show (1 : Int64) = iL 1 from by decide]
    exact (iL_lt (by omega) (by omega) (by omega) (by omega)).mpr (by omega)
  · rw [if_neg, show u = 1 by omega]
    · decide
    · rw [show u = 1 by omega]
      decide
