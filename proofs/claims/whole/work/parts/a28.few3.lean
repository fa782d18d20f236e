theorem sum_pos {f : Nat → Nat} : ∀ n, 0 < sumN f n ↔ ∃ i, i < n ∧ 0 < f i
  | 0 => ⟨fun h => absurd h (Nat.lt_irrefl 0), fun ⟨_, h, _⟩ => absurd h (Nat.not_lt_zero _)⟩
  | n + 1 => by
    have ih := sum_pos (f := f) n
    rw [sumN_s]
    constructor
    · intro h
      by_cases z : 0 < f n
      · exact ⟨n, Nat.lt_succ_self n, z⟩
      · obtain ⟨i, h1, h2⟩ := ih.mp (by omega)
        exact ⟨i, by omega, h2⟩
    · rintro ⟨i, h1, h2⟩
      by_cases z : i = n
      · subst z; omega
      · have := ih.mpr ⟨i, by omega, h2⟩
        omega
theorem gT (V : Nat → Nat) (s t h : Nat) : gainsZ true V s t h = -(carN s t : Nat) := by
  unfold gainsZ carN
  by_cases z : carB s t = true
  · rw [if_pos z, if_pos rfl, if_pos (.inl rfl), if_pos z]; rfl
  · rw [if_neg z, if_pos (.inl rfl), if_neg z]; rfl
theorem ev_mo (t : Nat) : evN t = 25 * moN t 0 + moN t 1 := rfl
theorem Fw_sum {few : Bool} {V : Nat → Nat} {first : Nat} (hf : first < 2 + 2 * V 1) : ∀ h t d0 d1 z, Fw few V first h t d0 d1 z → t < 2 + 2 * V 1 ∧ d0 + d1 ≤ h + 1
  | 0, t, d0, d1, z, hw => by
    obtain ⟨rfl, rfl, rfl, -⟩ := hw
    exact ⟨hf, by have := moN2 t; omega⟩
  | h + 1, t, d0, d1, z, hw => by
    obtain ⟨s, y, hy, hv, ht, a0, a1, z', hw, rfl, rfl, -⟩ := hw
    obtain ⟨i1, i2⟩ := Fw_sum hf h s a0 a1 z' hw
    subst ht
    exact ⟨nextN_lt i1, by have := moN2 (nextN (V 1) s y); omega⟩
theorem Fw_cC {V : Nat → Nat} {first : Nat} (hf : first < 2 + 2 * V 1) : ∀ h t d0 d1 z, Fw true V first h t d0 d1 z → ∃ j : Nat, z = -(j : Int) ∧ j ≤ h ∧ 0 < cC (V 1) first h t (25 * d0 + d1 + 625 * j)
  | 0, t, d0, d1, z, hw => by
    obtain ⟨rfl, rfl, rfl, rfl⟩ := hw
    refine ⟨0, rfl, Nat.le_refl _, ?_⟩
    show 0 < (if t = t ∧ 25 * moN t 0 + moN t 1 + 625 * 0 = evN t then 1 else 0)
    rw [if_pos ⟨rfl, by rw [ev_mo]; omega⟩]
    decide
  | h + 1, t, d0, d1, z, hw => by
    obtain ⟨s, y, hy, hv, ht, a0, a1, z', hw, rfl, rfl, rfl⟩ := hw
    have hs := (Fw_sum hf h s a0 a1 z' hw).1
    obtain ⟨j, rfl, hj, hc⟩ := Fw_cC hf h s a0 a1 z' hw
    have hcar := car_le s t
    refine ⟨j + carN s t, by rw [gT]; omega, by omega, ?_⟩
    refine (sum_pos _).mpr ⟨s, hs, Nat.mul_pos ?_ ?_⟩
    · unfold adjN
      rcases (show y = 0 ∨ y = 1 by omega) with rfl | rfl
      · rw [if_pos ht]; omega
      · rw [if_pos (show s < 2 ∧ nextN (V 1) s 1 = t from ⟨by omega, ht⟩)]; omega
    · have e : 25 * (a0 + moN t 0) + (a1 + moN t 1) + 625 * (j + carN s t) = 25 * a0 + a1 + 625 * j + dlN s t := by
        unfold dlN
        rw [ev_mo]
        omega
      rw [e, if_pos (by omega), Nat.add_sub_cancel]
      exact hc
theorem cC_Fw {V : Nat → Nat} {first : Nat} : ∀ h t e, 0 < cC (V 1) first h t e → ∃ d0 d1 j : Nat, e = 25 * d0 + d1 + 625 * j ∧ Fw true V first h t d0 d1 (-(j : Int))
  | 0, t, e, hc => by
    have hc : 0 < (if t = first ∧ e = evN first then 1 else 0) := hc
    by_cases z : t = first ∧ e = evN first
    · obtain ⟨rfl, rfl⟩ := z
      exact ⟨moN t 0, moN t 1, 0, by rw [ev_mo]; omega, rfl, rfl, rfl, rfl⟩
    · rw [if_neg z] at hc
      omega
  | h + 1, t, e, hc => by
    obtain ⟨s, hs, hm⟩ := (sum_pos _).mp hc
    have h1 := Nat.pos_of_mul_pos_right hm
    have h2 := Nat.pos_of_mul_pos_left hm
    by_cases hd : dlN s t ≤ e
    · rw [if_pos hd] at h2
      obtain ⟨d0, d1, j, he, hw⟩ := cC_Fw h s _ h2
      refine ⟨d0 + moN t 0, d1 + moN t 1, j + carN s t, by unfold dlN at he hd; rw [ev_mo] at he hd; omega, ?_⟩
      have hy : ∃ y, y < 2 ∧ ¬ (2 ≤ s ∧ y = 1) ∧ nextN (V 1) s y = t := by
        unfold adjN at h1
        by_cases z : nextN (V 1) s 0 = t
        · exact ⟨0, by decide, fun w => absurd w.2 (by decide), z⟩
        · by_cases w : s < 2 ∧ nextN (V 1) s 1 = t
          · exact ⟨1, by decide, fun x => by omega, w.2⟩
          · rw [if_neg z, if_neg w] at h1
            omega
      obtain ⟨y, y1, y2, y3⟩ := hy
      exact ⟨s, y, y1, y2, y3, d0, d1, _, hw, rfl, rfl, by rw [gT]; omega⟩
    · rw [if_neg hd] at h2
      omega
theorem dec3 {a b j a' b' j' : Nat} (h : a + b ≤ 24) (h' : a' + b' ≤ 24) (e : 25 * a + b + 625 * j = 25 * a' + b' + 625 * j') : a = a' ∧ b = b' ∧ j = j' := by
  have e1 : j = j' := by omega
  subst e1
  have e2 : a = a' := by omega
  subst e2
  exact ⟨rfl, by omega, rfl⟩
theorem Cl_nK {V : Nat → Nat} (h4 : 4 ≤ V 0) (hH : V 0 ≤ 24) (z : Int) : (∃ first, first < 2 + 2 * V 1 ∧ Cl true V first z) ↔ ∃ d0 d1 j : Nat, d0 + d1 ≤ V 0 ∧ j ≤ V 0 ∧ fitsB V d0 d1 = true ∧ z = -(j : Int) ∧ 0 < nKc (V 1) (V 0 - 1) (25 * d0 + d1 + 625 * j) := by
  constructor
  · rintro ⟨first, hf, s, d0, d1, z1, hw, hg, hfit, rfl⟩
    have hs := Fw_sum hf _ _ _ _ _ hw
    obtain ⟨j, rfl, hj, hc⟩ := Fw_cC hf _ _ _ _ _ hw
    have hcar := car_le s first
    refine ⟨d0, d1, j + carN s first, by omega, by omega, hfit, by rw [gT]; omega, ?_⟩
    refine (sum_pos _).mpr ⟨first, hf, (sum_pos _).mpr ⟨s, hs.1, ?_⟩⟩
    rw [if_pos hg, if_pos (by omega), show 25 * d0 + d1 + 625 * (j + carN s first) - 625 * carN s first = 25 * d0 + d1 + 625 * j by omega]
    exact hc
  · rintro ⟨d0, d1, j, hd, hj, hfit, rfl, hn⟩
    obtain ⟨first, hf, hn⟩ := (sum_pos _).mp hn
    obtain ⟨s, hs, hn⟩ := (sum_pos _).mp hn
    by_cases hg : goesB (V 1) s first = true
    · rw [if_pos hg] at hn
      by_cases hc : 625 * carN s first ≤ 25 * d0 + d1 + 625 * j
      · rw [if_pos hc] at hn
        obtain ⟨a0, a1, j', he, hw⟩ := cC_Fw _ _ _ hn
        have hsum := (Fw_sum hf _ _ _ _ _ hw).2
        obtain ⟨rfl, rfl, rfl⟩ := dec3 (a := a0) (b := a1) (j := j' + carN s first) (a' := d0) (b' := d1) (j' := j) (by omega) (by omega) (by omega)
        exact ⟨first, hf, s, a0, a1, _, hw, hg, hfit, by rw [gT]; omega⟩
      · rw [if_neg hc] at hn; omega
    · rw [if_neg hg] at hn; omega
theorem Cl_wy {V : Nat → Nat} (h1 : V 1 ≤ 3) (h4 : 4 ≤ V 0) (hH : V 0 ≤ 24) (z : Int) : (∃ first, first < 2 + 2 * V 1 ∧ Cl true V first z) ↔ ∃ p : Nat, p < 13 ∧ 0 < wyN V p ∧ z = -((2 * p : Nat) : Int) := by
  rw [Cl_nK h4 hH]
  constructor
  · rintro ⟨d0, d1, j, hd, hj, hfit, rfl, hn⟩
    rw [nKc_fK h1 h4 hH (by omega)] at hn
    obtain ⟨p, hp, hn2⟩ := (sum_pos _).mp hn
    obtain ⟨a, ha, hn3⟩ := (sum_pos _).mp hn2
    clear hn hn2
    by_cases c : a + 2 * p * V 1 ≤ V 0 ∧ 25 * d0 + d1 + 625 * j = 25 * a + (V 0 - 2 * p * V 1 - a) + 1250 * p
    · rw [if_pos c] at hn3
      obtain ⟨c1, c2⟩ := c
      obtain ⟨rfl, e1, rfl⟩ := dec3 (a := a) (b := V 0 - 2 * p * V 1 - a) (j := 2 * p) (a' := d0) (b' := d1) (j' := j) (by omega) (by omega) (by omega)
      rw [← e1] at hfit
      refine ⟨p, hp, ?_, rfl⟩
      unfold wyN
      rw [if_pos (by omega)]
      exact (sum_pos _).mpr ⟨a, by omega, by rw [if_pos hfit]; exact hn3⟩
    · rw [if_neg c] at hn3; omega
  · rintro ⟨p, hp, hw, rfl⟩
    unfold wyN at hw
    by_cases c : 2 * p * V 1 ≤ V 0
    · rw [if_pos c] at hw
      obtain ⟨a, ha, hw⟩ := (sum_pos _).mp hw
      by_cases hfit : fitsB V a (V 0 - 2 * p * V 1 - a) = true
      · rw [if_pos hfit] at hw
        have hp2 : 2 * p ≤ V 0 := by
          unfold rowN at hw
          by_cases p0 : p = 0
          · omega
          · rw [if_neg p0] at hw
            by_cases w : a < p ∨ V 0 - 2 * p * V 1 - a < p
            · rw [if_pos w] at hw; omega
            · omega
        refine ⟨a, V 0 - 2 * p * V 1 - a, 2 * p, by omega, hp2, hfit, rfl, ?_⟩
        rw [nKc_fK h1 h4 hH (by omega)]
        refine (sum_pos _).mpr ⟨p, hp, (sum_pos _).mpr ⟨a, by omega, ?_⟩⟩
        rw [if_pos ⟨by omega, by omega⟩]
        exact hw
      · rw [if_neg hfit] at hw; omega
    · rw [if_neg c] at hw; omega
theorem few_some {V : Nat → Nat} (h1 : V 1 ≤ 3) (h4 : 4 ≤ V 0) (hH : V 0 ≤ 24) {p : Nat} (hp : p < 13) (hw : 0 < wyN V p) (hl : ∀ q, q < p → ¬ 0 < wyN V q) : allB true V (2 + 2 * V 1) = some (-((2 * p : Nat) : Int)) := by
  obtain ⟨a1, a2⟩ := allB_Cl (few := true) (V := V) (2 + 2 * V 1)
  obtain ⟨s, hs, hc⟩ := (Cl_wy h1 h4 hH _).mpr ⟨p, hp, hw, rfl⟩
  obtain ⟨m, hm, hle⟩ := a2 s _ hs hc
  obtain ⟨q, hq, hwq, rfl⟩ := (Cl_wy h1 h4 hH m).mp (a1 m hm)
  have : ¬ q < p := fun z => hl q z hwq
  rw [hm]
  congr 1
  omega
theorem few_none {V : Nat → Nat} (h1 : V 1 ≤ 3) (h4 : 4 ≤ V 0) (hH : V 0 ≤ 24) (hl : ∀ q, q < V 0 / 2 + 1 → ¬ 0 < wyN V q) : allB true V (2 + 2 * V 1) = none := by
  obtain ⟨a1, a2⟩ := allB_Cl (few := true) (V := V) (2 + 2 * V 1)
  cases hm : allB true V (2 + 2 * V 1) with
  | none => rfl
  | some m =>
    exfalso
    obtain ⟨q, hq, hwq, rfl⟩ := (Cl_wy h1 h4 hH m).mp (a1 m hm)
    by_cases hq2 : q < V 0 / 2 + 1
    · exact hl q hq2 hwq
    · unfold wyN at hwq
      by_cases c : 2 * q * V 1 ≤ V 0
      · rw [if_pos c] at hwq
        obtain ⟨a, ha, hwq⟩ := (sum_pos _).mp hwq
        split at hwq
        · unfold rowN at hwq
          rw [if_neg (by omega), if_pos (by omega)] at hwq
          omega
        · omega
      · rw [if_neg c] at hwq; omega
