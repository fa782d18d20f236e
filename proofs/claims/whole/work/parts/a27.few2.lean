theorem ev_le (t : Nat) : evN t ≤ 25 := by rcases ev_cases t with ⟨-, e⟩ | ⟨-, e⟩ | ⟨-, e⟩ <;> omega
theorem car_le (s t : Nat) : carN s t ≤ 1 := by unfold carN; split <;> omega
theorem dl_le (s t : Nat) : dlN s t ≤ 650 := by
  have := ev_le t
  have := car_le s t
  unfold dlN
  omega
def cC (cr first : Nat) : Nat → Nat → Nat → Nat
  | 0, t, e => if t = first ∧ e = evN first then 1 else 0
  | h + 1, t, e => sumN (fun s => adjN cr s t * (if dlN s t ≤ e then cC cr first h s (e - dlN s t) else 0)) (2 + 2 * cr)
theorem cC_sup {cr first : Nat} : ∀ h t e, 650 * (h + 1) < e → cC cr first h t e = 0
  | 0, t, e, he => if_neg (fun z => by have := ev_le first; have := z.2; omega)
  | h + 1, t, e, he => sumN_0 _ (fun s _ => by
    have hd := dl_le s t
    rw [if_pos (by omega), cC_sup h s (e - dlN s t) (by omega), Nat.mul_zero])
theorem sum_shf (c : Nat → Nat) (B d E : Nat) (hd : d ≤ E) (hz : ∀ e, E - d ≤ e → c e = 0) : sumN (fun e => (if d ≤ e then c (e - d) else 0) * B ^ e) E = sumN (fun e => c e * B ^ e) E * B ^ d := by
  obtain ⟨m, rfl⟩ : ∃ m, E = d + m := ⟨E - d, by omega⟩
  rw [sum_app, sumN_0 d (fun e he => by rw [if_neg (by omega), Nat.zero_mul]), Nat.zero_add, Nat.add_comm d m, sum_app _ m d, sumN_0 d (fun e _ => by rw [hz (m + e) (by omega), Nat.zero_mul]), Nat.add_zero, sumN_mul]
  refine sumN_congr m (fun e _ => ?_)
  rw [if_pos (by omega), Nat.add_sub_cancel_left, Nat.pow_add, Nat.mul_assoc, Nat.mul_comm (B ^ d)]
theorem kL_pl {cr first B E : Nat} (hE : E = 17000) : ∀ h, h ≤ 23 → ∀ t, t < 2 + 2 * cr → (kL cr B first h).getD t 0 = sumN (fun e => cC cr first h t e * B ^ e) E
  | 0, _, t, ht => by
    show ((List.range (2 + 2 * cr)).map (fun t => if t = first then B ^ evN t else 0)).getD t 0 = _
    rw [List.getD_eq_getElem?_getD, List.getElem?_map, List.getElem?_range ht]
    show (if t = first then B ^ evN t else 0) = sumN (fun e => (if t = first ∧ e = evN first then 1 else 0) * B ^ e) E
    by_cases z : t = first
    · subst z
      rw [if_pos rfl, sumN_congr (g := fun e => if e = evN t then B ^ e else 0) E (fun e _ => by
        by_cases w : e = evN t
        · rw [if_pos ⟨rfl, w⟩, if_pos w, Nat.one_mul]
        · rw [if_neg (fun y => w y.2), if_neg w, Nat.zero_mul]), sumN_one, if_pos (by have := ev_le t; omega)]
    · rw [if_neg z]
      exact (sumN_0 E (fun e _ => by rw [if_neg (fun y => z y.1), Nat.zero_mul])).symm
  | h + 1, hh, t, ht => by
    show ((List.range (2 + 2 * cr)).map (fun t => sumN (fun s => adjN cr s t * ((kL cr B first h).getD s 0 * B ^ dlN s t)) (2 + 2 * cr))).getD t 0 = _
    rw [List.getD_eq_getElem?_getD, List.getElem?_map, List.getElem?_range ht]
    show sumN (fun s => adjN cr s t * ((kL cr B first h).getD s 0 * B ^ dlN s t)) (2 + 2 * cr) = sumN (fun e => sumN (fun s => adjN cr s t * (if dlN s t ≤ e then cC cr first h s (e - dlN s t) else 0)) (2 + 2 * cr) * B ^ e) E
    rw [sumN_congr (g := fun e => sumN (fun s => adjN cr s t * (if dlN s t ≤ e then cC cr first h s (e - dlN s t) else 0) * B ^ e) (2 + 2 * cr)) E (fun e _ => sumN_mul _ _ _), sumN_swap (fun e s => adjN cr s t * (if dlN s t ≤ e then cC cr first h s (e - dlN s t) else 0) * B ^ e)]
    refine sumN_congr _ (fun s hs => ?_)
    have hd := dl_le s t
    rw [kL_pl hE h (by omega) s hs, ← sum_shf (cC cr first h s) B (dlN s t) E (by omega) (fun e he => cC_sup h s e (by omega)), Nat.mul_comm, sumN_mul]
    refine sumN_congr E (fun e _ => ?_)
    rw [Nat.mul_comm (adjN cr s t), Nat.mul_assoc, Nat.mul_assoc, Nat.mul_comm (adjN cr s t)]
theorem cC_le {cr first : Nat} (hcr : cr ≤ 3) : ∀ h t e, t < 8 → cC cr first h t e ≤ 2 ^ h
  | 0, t, e, _ => by
    show (if _ then 1 else 0) ≤ 1
    split <;> omega
  | h + 1, t, e, ht => by
    have h1 := pred2 cr (by omega) t ht
    have h2 : cC cr first (h + 1) t e ≤ sumN (fun s => adjN cr s t * 2 ^ h) (2 + 2 * cr) := by
      show sumN (fun s => adjN cr s t * (if dlN s t ≤ e then cC cr first h s (e - dlN s t) else 0)) (2 + 2 * cr) ≤ _
      refine sumN_mono _ (fun s hs => Nat.mul_le_mul_left _ ?_)
      split
      · exact cC_le hcr h s _ (by omega)
      · exact Nat.zero_le _
    rw [← sumN_mul (fun s => adjN cr s t) (2 ^ h)] at h2
    have h3 : sumN (fun s => adjN cr s t) (2 + 2 * cr) * 2 ^ h ≤ 2 * 2 ^ h := Nat.mul_le_mul_right _ h1
    rw [Nat.pow_succ, Nat.mul_comm (2 ^ h)]
    exact Nat.le_trans h2 h3
/-- closed rows by the exponent -/
def nKc (cr h e : Nat) : Nat := sumN (fun first => sumN (fun s => if goesB cr s first = true then (if 625 * carN s first ≤ e then cC cr first h s (e - 625 * carN s first) else 0) else 0) (2 + 2 * cr)) (2 + 2 * cr)
theorem pk_nKc {cr B E h : Nat} (hE : E = 17000) (hh : h ≤ 23) : pkK cr B h = sumN (fun e => nKc cr h e * B ^ e) E := by
  unfold pkK nKc
  rw [sumN_congr (g := fun first => sumN (fun e => sumN (fun s => if goesB cr s first = true then (if 625 * carN s first ≤ e then cC cr first h s (e - 625 * carN s first) else 0) else 0) (2 + 2 * cr) * B ^ e) E) _ (fun first hf => ?_)]
  · rw [sumN_swap (fun first e => sumN (fun s => if goesB cr s first = true then (if 625 * carN s first ≤ e then cC cr first h s (e - 625 * carN s first) else 0) else 0) (2 + 2 * cr) * B ^ e)]
    exact sumN_congr E (fun e _ => (sumN_mul _ _ _).symm)
  · rw [sumN_congr (g := fun s => sumN (fun e => (if goesB cr s first = true then (if 625 * carN s first ≤ e then cC cr first h s (e - 625 * carN s first) else 0) else 0) * B ^ e) E) _ (fun s hs => ?_)]
    · rw [sumN_swap (fun s e => (if goesB cr s first = true then (if 625 * carN s first ≤ e then cC cr first h s (e - 625 * carN s first) else 0) else 0) * B ^ e)]
      exact sumN_congr E (fun e _ => (sumN_mul _ _ _).symm)
    · have hc := car_le s first
      by_cases z : goesB cr s first = true
      · rw [if_pos z, kL_pl hE h hh s hs, ← sum_shf (cC cr first h s) B (625 * carN s first) E (by omega) (fun e he => cC_sup h s e (by omega))]
        exact sumN_congr E (fun e _ => by rw [if_pos z])
      · rw [if_neg z]
        exact (sumN_0 E (fun e _ => by rw [if_neg z, Nat.zero_mul])).symm
theorem nKc_lt {cr h e : Nat} (hcr : cr ≤ 3) (hh : h ≤ 23) : nKc cr h e < 2 ^ 64 := by
  have h1 : nKc cr h e ≤ (2 + 2 * cr) * ((2 + 2 * cr) * 2 ^ h) := by
    unfold nKc
    refine sumN_le _ (fun first _ => sumN_le _ (fun s hs => ?_))
    split
    · split
      · exact cC_le hcr h s _ (by omega)
      · exact Nat.zero_le _
    · exact Nat.zero_le _
  have h2 : (2 : Nat) ^ h ≤ 2 ^ 23 := Nat.pow_le_pow_right (by decide) hh
  have h3 : (2 + 2 * cr) * ((2 + 2 * cr) * 2 ^ h) ≤ 8 * (8 * 2 ^ 23) := Nat.mul_le_mul (by omega) (Nat.mul_le_mul (by omega) h2)
  have h4 : (8 : Nat) * (8 * 2 ^ 23) < 2 ^ 64 := by decide
  omega
/-- the same by the closed form -/
def fK (C H e : Nat) : Nat := sumN (fun p => sumN (fun a => if a + 2 * p * C ≤ H ∧ e = 25 * a + (H - 2 * p * C - a) + 1250 * p then rowN H p a (H - 2 * p * C - a) else 0) 25) 13
theorem fK_lt {C H e : Nat} (hH : H ≤ 24) : fK C H e < 2 ^ 64 := by
  have h1 : fK C H e ≤ 13 * (25 * 2 ^ 53) := by
    unfold fK
    refine sumN_le _ (fun p hp => sumN_le _ (fun a ha => ?_))
    split
    · exact Nat.le_of_lt (rw_lt H (by omega) p hp a ha _ (by omega))
    · exact Nat.zero_le _
  have h2 : (13 : Nat) * (25 * 2 ^ 53) < 2 ^ 64 := by decide
  omega
theorem fk_fK {C B E H : Nat} (hE : E = 17000) (hH : H ≤ 24) : fkK C B H = sumN (fun e => fK C H e * B ^ e) E := by
  unfold fkK fK
  rw [sumN_congr (g := fun e => sumN (fun p => sumN (fun a => (if a + 2 * p * C ≤ H ∧ e = 25 * a + (H - 2 * p * C - a) + 1250 * p then rowN H p a (H - 2 * p * C - a) else 0) * B ^ e) 25) 13) E (fun e _ => by
    rw [sumN_mul]
    exact sumN_congr 13 (fun p _ => sumN_mul _ _ _)), sumN_swap (fun e p => sumN (fun a => (if a + 2 * p * C ≤ H ∧ e = 25 * a + (H - 2 * p * C - a) + 1250 * p then rowN H p a (H - 2 * p * C - a) else 0) * B ^ e) 25)]
  refine sumN_congr 13 (fun p hp => ?_)
  rw [sumN_swap (fun e a => (if a + 2 * p * C ≤ H ∧ e = 25 * a + (H - 2 * p * C - a) + 1250 * p then rowN H p a (H - 2 * p * C - a) else 0) * B ^ e)]
  refine sumN_congr 25 (fun a ha => ?_)
  by_cases z : a + 2 * p * C ≤ H
  · rw [if_pos z, sumN_congr (g := fun e => if e = 25 * a + (H - 2 * p * C - a) + 1250 * p then rowN H p a (H - 2 * p * C - a) * B ^ e else 0) E (fun e _ => by
      by_cases w : e = 25 * a + (H - 2 * p * C - a) + 1250 * p
      · rw [if_pos ⟨z, w⟩, if_pos w]
      · rw [if_neg (fun y => w y.2), if_neg w, Nat.zero_mul]), sumN_one, if_pos (by omega)]
  · rw [if_neg z]
    exact (sumN_0 E (fun e _ => by rw [if_neg (fun y => z y.1), Nat.zero_mul])).symm
theorem nKc_fK {C H e : Nat} (hC : C ≤ 3) (h4 : 4 ≤ H) (hH : H ≤ 24) (he : e < 17000) : nKc C (H - 1) e = fK C H e := by
  have key : ∀ B E, B = 2 ^ 64 → E = 17000 → nKc C (H - 1) e = fK C H e := fun B E eB eE => by
    have h1 : pkK C B (H - 1) = fkK C B H := by
      rw [eB]
      exact kk_all C (by omega) H (by omega) h4
    rw [pk_nKc eE (by omega), fk_fK eE hH] at h1
    have hB : 0 < B := by rw [eB]; exact Nat.pow_pos (by decide)
    have d1 := (dig hB (c := nKc C (H - 1)) (fun d => by rw [eB]; exact nKc_lt hC (by omega)) E).2 e (by omega)
    have d2 := (dig hB (c := fK C H) (fun d => by rw [eB]; exact fK_lt hH) E).2 e (by omega)
    rw [← d1, h1, d2]
  exact key _ _ rfl rfl
