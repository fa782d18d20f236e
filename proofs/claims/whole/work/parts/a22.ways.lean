def wtN (X Y t : Nat) : Nat := if t = 0 then X else if t = 1 then Y else 1
def adjN (cr s t : Nat) : Nat := (if nextN cr s 0 = t then 1 else 0) + (if s < 2 ∧ nextN cr s 1 = t then 1 else 0)
def stL (cr X Y : Nat) (l : List Nat) : List Nat := (List.range (2 + 2 * cr)).map (fun t => sumN (fun s => adjN cr s t * l.getD s 0) (2 + 2 * cr) * wtN X Y t)
def rL (cr X Y first : Nat) : Nat → List Nat
  | 0 => (List.range (2 + 2 * cr)).map (fun t => if t = first then wtN X Y t else 0)
  | h + 1 => stL cr X Y (rL cr X Y first h)
def pkW (cr X Y h : Nat) : Nat := sumN (fun first => sumN (fun s => if goesB cr s first = true then (rL cr X Y first h).getD s 0 else 0) (2 + 2 * cr)) (2 + 2 * cr)
def chN (n k : Nat) : Nat := foldN (fun i r => r * (n - k + (i + 1)) / (i + 1)) 1 k
def rowN (H p a b : Nat) : Nat := if p = 0 then (if a = 0 ∨ b = 0 then 1 else 0) else if a < p ∨ b < p then 0 else H * chN (a - 1) (p - 1) * chN (b - 1) (p - 1) / p
def rwF (C H d : Nat) : Nat := if H < d / 25 + d % 25 then 0 else sumN (fun p => if d / 25 + d % 25 + 2 * p * C = H then rowN H p (d / 25) (d % 25) else 0) (H / 2 + 1)
theorem pk_all : ∀ C, C < 4 → ∀ H, H < 25 → 4 ≤ H → (List.range 625).all (fun d => pkW C (2 ^ 1000) (2 ^ 40) (H - 1) / 2 ^ (40 * d) % 2 ^ 40 == rwF C H d) = true := by decide +kernel
/-- weight of d -/
def wdD (X Y d : Nat) : Nat := X ^ (d / 25) * Y ^ (d % 25)
def evN (t : Nat) : Nat := 25 * moN t 0 + moN t 1
theorem ev_cases (t : Nat) : t = 0 ∧ evN t = 25 ∨ t = 1 ∧ evN t = 1 ∨ 2 ≤ t ∧ evN t = 0 := by
  unfold evN moN
  rcases (show t = 0 ∨ t = 1 ∨ 2 ≤ t by omega) with rfl | rfl | h
  · exact .inl ⟨rfl, rfl⟩
  · exact .inr (.inl ⟨rfl, rfl⟩)
  · exact .inr (.inr ⟨h, by rw [if_neg (by omega), if_neg (by omega)]⟩)
theorem off_ev (t : Nat) : offN t = 625 * t + evN t := rfl
theorem wd_ev {X Y t j : Nat} (h : j / 25 + j % 25 ≤ 23) : wdD X Y (evN t + j) = wdD X Y j * wtN X Y t := by
  unfold wdD wtN
  rcases ev_cases t with ⟨rfl, e⟩ | ⟨rfl, e⟩ | ⟨ht, e⟩
  · rw [e, if_pos rfl, show (25 + j) / 25 = j / 25 + 1 by omega, show (25 + j) % 25 = j % 25 by omega, Nat.pow_succ, Nat.mul_assoc, Nat.mul_comm X, ← Nat.mul_assoc]
  · rw [e, if_neg (by decide), if_pos rfl, show (1 + j) / 25 = j / 25 by omega, show (1 + j) % 25 = j % 25 + 1 by omega, Nat.pow_succ, ← Nat.mul_assoc]
  · rw [e, if_neg (by omega), if_neg (by omega), Nat.zero_add, Nat.mul_one]
theorem scat {cr : Nat} {f : Nat → Nat} {hh s way t : Nat} (W : Nat → Nat) (hh2 : hh ≤ 23) {K : Nat} (hK : K = 625) : ∀ n, n ≤ 625 → sumN (fun i => ctbN cr f hh s way n (625 * t + i) * W i) K = sumN (fun j => if ¬ (2 ≤ s ∧ way = 1) ∧ j / 25 + j % 25 ≤ hh ∧ nextN cr s way = t then f (625 * s + j) * W (evN t + j) else 0) n
  | 0, _ => by
    show _ = 0
    exact sumN_0 _ (fun i _ => by rw [ctbN_0, Nat.zero_mul])
  | n + 1, hn => by
    rw [sumN_succ _ n, ← scat W hh2 hK n (by omega)]
    by_cases hv : 2 ≤ s ∧ way = 1
    · rw [if_neg (fun z => z.1 hv), Nat.add_zero]
      exact sumN_congr K (fun i _ => by unfold ctbN; rw [if_pos hv, if_pos hv])
    by_cases hc : n / 25 + n % 25 ≤ hh
    · by_cases ht : nextN cr s way = t
      · rw [if_pos ⟨hv, hc, ht⟩]
        have hq : evN t + n < K := by
          rcases ev_cases t with ⟨-, e⟩ | ⟨-, e⟩ | ⟨-, e⟩ <;> omega
        have hne : ∀ i, i ≠ evN t + n → ctbN cr f hh s way (n + 1) (625 * t + i) * W i = ctbN cr f hh s way n (625 * t + i) * W i := fun i hi => by
          rw [ctbN_ne (by rw [ht, off_ev]; omega)]
        have hup := sumN_upd (f := fun i => ctbN cr f hh s way (n + 1) (625 * t + i) * W i) (g := fun i => ctbN cr f hh s way n (625 * t + i) * W i) (j := evN t + n) K hne
        have hat := ctbN_at (cr := cr) (f := f) (hh := hh) (s := s) (way := way) (i := n) hv hc
        rw [ht, off_ev, Nat.add_assoc] at hat
        rw [if_pos hq, if_pos hq] at hup
        rw [hat, Nat.add_mul] at hup
        omega
      · rw [if_neg (fun z => ht z.2.2), Nat.add_zero]
        refine sumN_congr K (fun i hi => ?_)
        rw [ctbN_ne (by
          rw [off_ev]
          rcases ev_cases (nextN cr s way) with ⟨-, e⟩ | ⟨-, e⟩ | ⟨-, e⟩ <;> omega)]
    · rw [if_neg (fun z => hc z.2.1), Nat.add_zero]
      exact sumN_congr K (fun i _ => by rw [ctbN_far hc])
/-- a stand's polynomial -/
def plT (X Y : Nat) (f : Nat → Nat) (s : Nat) : Nat := sumN (fun j => f (625 * s + j) * wdD X Y j) 625
theorem scat2 {cr : Nat} {f : Nat → Nat} {hh s way t X Y : Nat} (hh2 : hh ≤ 23) (hf : ∀ j, j < 625 → hh < j / 25 + j % 25 → f (625 * s + j) = 0) : sumN (fun i => ctbN cr f hh s way 625 (625 * t + i) * wdD X Y i) 625 = (if ¬ (2 ≤ s ∧ way = 1) ∧ nextN cr s way = t then 1 else 0) * plT X Y f s * wtN X Y t := by
  rw [scat (wdD X Y) hh2 rfl 625 (Nat.le_refl _)]
  by_cases z : ¬ (2 ≤ s ∧ way = 1) ∧ nextN cr s way = t
  · rw [if_pos z, Nat.one_mul]
    unfold plT
    rw [sumN_mul]
    refine sumN_congr _ (fun j hj => ?_)
    by_cases c : j / 25 + j % 25 ≤ hh
    · rw [if_pos ⟨z.1, c, z.2⟩, wd_ev (by omega), Nat.mul_assoc]
    · rw [if_neg (fun y => c y.2.1), hf j hj (by omega), Nat.zero_mul, Nat.zero_mul]
  · rw [if_neg z, Nat.zero_mul, Nat.zero_mul]
    exact sumN_0 _ (fun j _ => if_neg (fun y => z ⟨y.1, y.2.2⟩))
theorem step_pl {cr : Nat} {f : Nat → Nat} {hh t X Y : Nat} (hh2 : hh ≤ 23) (hf : ∀ s j, j < 625 → hh < j / 25 + j % 25 → f (625 * s + j) = 0) : plT X Y (fun k => stepN cr f hh (2 + 2 * cr) k) t = sumN (fun s => adjN cr s t * plT X Y f s) (2 + 2 * cr) * wtN X Y t := by
  have e : plT X Y (fun k => stepN cr f hh (2 + 2 * cr) k) t = sumN (fun j => sumN (fun s => ctbN cr f hh s 0 625 (625 * t + j) * wdD X Y j + ctbN cr f hh s 1 625 (625 * t + j) * wdD X Y j) (2 + 2 * cr)) 625 := by
    unfold plT stepN
    refine sumN_congr _ (fun j _ => ?_)
    dsimp only
    rw [sumN_mul]
    exact sumN_congr _ (fun s _ => Nat.add_mul _ _ _)
  rw [e, sumN_swap (fun j s => ctbN cr f hh s 0 625 (625 * t + j) * wdD X Y j + ctbN cr f hh s 1 625 (625 * t + j) * wdD X Y j), sumN_mul]
  refine sumN_congr _ (fun s hs => ?_)
  rw [sumN_add (fun j => ctbN cr f hh s 0 625 (625 * t + j) * wdD X Y j), scat2 hh2 (hf s), scat2 hh2 (hf s), ← Nat.add_mul, ← Nat.add_mul]
  congr 2
  unfold adjN
  congr 1
  · by_cases z : nextN cr s 0 = t
    · rw [if_pos z, if_pos ⟨fun y => absurd y.2 (by decide), z⟩]
    · rw [if_neg z, if_neg (fun y => z y.2)]
  · by_cases z : s < 2 ∧ nextN cr s 1 = t
    · rw [if_pos z, if_pos ⟨fun y => by omega, z.2⟩]
    · rw [if_neg z, if_neg (fun y => z ⟨by have := y.1; omega, y.2⟩)]
theorem now_van {cr first : Nat} : ∀ h, h ≤ 22 → ∀ s j, j < 625 → h + 1 < j / 25 + j % 25 → nowN cr first h (625 * s + j) = 0
  | 0, _, s, j, hj, h1 => by
    show (if 625 * s + j = offN first then 1 else 0) = 0
    rw [if_neg]
    rw [off_ev]
    rcases ev_cases first with ⟨-, e⟩ | ⟨-, e⟩ | ⟨-, e⟩ <;> omega
  | h + 1, hh, s, j, hj, h1 => by
    show stepN cr (nowN cr first h) (h + 1) (2 + 2 * cr) (625 * s + j) = 0
    unfold stepN
    refine sumN_0 _ (fun q _ => ?_)
    have key : ∀ way, ctbN cr (nowN cr first h) (h + 1) q way 625 (625 * s + j) = 0 := fun way => by
      unfold ctbN
      split
      · rfl
      · refine if_neg (fun z => ?_)
        rw [off_ev] at z
        rcases ev_cases (nextN cr q way) with ⟨-, e⟩ | ⟨-, e⟩ | ⟨-, e⟩ <;> rw [e] at z <;> omega
    rw [key 0, key 1]
theorem base_pl {cr first t X Y : Nat} : plT X Y (nowN cr first 0) t = if t = first then wtN X Y t else 0 := by
  unfold plT
  by_cases z : t = first
  · subst z
    rw [if_pos rfl, sumN_congr (g := fun i => if i = evN t then wdD X Y i else 0) _ (fun i _ => by
      show (if 625 * t + i = offN t then 1 else 0) * wdD X Y i = _
      rw [off_ev]
      by_cases w : i = evN t
      · rw [if_pos (by omega), if_pos w, Nat.one_mul]
      · rw [if_neg (by omega), if_neg w, Nat.zero_mul]), sumN_one, if_pos (by rcases ev_cases t with ⟨-, e⟩ | ⟨-, e⟩ | ⟨-, e⟩ <;> omega)]
    have := wd_ev (X := X) (Y := Y) (t := t) (j := 0) (by decide)
    rw [Nat.add_zero] at this
    rw [this]
    show X ^ 0 * Y ^ 0 * wtN X Y t = wtN X Y t
    simp
  · rw [if_neg z]
    refine sumN_0 _ (fun i hi => ?_)
    show (if 625 * t + i = offN first then 1 else 0) * wdD X Y i = 0
    rw [if_neg, Nat.zero_mul]
    rw [off_ev]
    rcases ev_cases first with ⟨-, e⟩ | ⟨-, e⟩ | ⟨-, e⟩ <;> omega
theorem rL_pl {cr first X Y : Nat} : ∀ h, h ≤ 23 → ∀ t, t < 2 + 2 * cr → (rL cr X Y first h).getD t 0 = plT X Y (nowN cr first h) t
  | 0, _, t, ht => by
    rw [base_pl]
    show ((List.range (2 + 2 * cr)).map (fun t => if t = first then wtN X Y t else 0)).getD t 0 = _
    rw [List.getD_eq_getElem?_getD, List.getElem?_map, List.getElem?_range ht]
    rfl
  | h + 1, hh, t, ht => by
    have e := step_pl (cr := cr) (f := nowN cr first h) (hh := h + 1) (t := t) (X := X) (Y := Y) (by omega) (fun s j hj h1 => now_van h (by omega) s j hj h1)
    show ((List.range (2 + 2 * cr)).map (fun t => sumN (fun s => adjN cr s t * (rL cr X Y first h).getD s 0) (2 + 2 * cr) * wtN X Y t)).getD t 0 = plT X Y (fun k => stepN cr (nowN cr first h) (h + 1) (2 + 2 * cr) k) t
    rw [e, List.getD_eq_getElem?_getD, List.getElem?_map, List.getElem?_range ht]
    show sumN (fun s => adjN cr s t * (rL cr X Y first h).getD s 0) (2 + 2 * cr) * wtN X Y t = _
    congr 1
    exact sumN_congr _ (fun s hs => by rw [rL_pl h (by omega) s hs])
/-- closed rows with d -/
def cwN (cr h d : Nat) : Nat := sumN (fun first => sumN (fun s => if goesB cr s first = true then nowN cr first h (625 * s + d) else 0) (2 + 2 * cr)) (2 + 2 * cr)
theorem pk_cw {cr X Y h : Nat} (hh : h ≤ 23) : pkW cr X Y h = sumN (fun d => cwN cr h d * wdD X Y d) 625 := by
  unfold pkW cwN
  rw [sumN_congr (g := fun first => sumN (fun d => sumN (fun s => if goesB cr s first = true then nowN cr first h (625 * s + d) else 0) (2 + 2 * cr) * wdD X Y d) 625) _ (fun first hf => ?_)]
  · rw [sumN_swap (fun first d => sumN (fun s => if goesB cr s first = true then nowN cr first h (625 * s + d) else 0) (2 + 2 * cr) * wdD X Y d)]
    exact sumN_congr _ (fun d _ => (sumN_mul _ _ _).symm)
  · rw [sumN_congr (g := fun s => sumN (fun d => (if goesB cr s first = true then nowN cr first h (625 * s + d) else 0) * wdD X Y d) 625) _ (fun s hs => ?_)]
    · rw [sumN_swap (fun s d => (if goesB cr s first = true then nowN cr first h (625 * s + d) else 0) * wdD X Y d)]
      exact sumN_congr _ (fun d _ => (sumN_mul _ _ _).symm)
    · by_cases z : goesB cr s first = true
      · rw [if_pos z, rL_pl h hh s hs]
        unfold plT
        exact sumN_congr _ (fun d _ => by rw [if_pos z])
      · rw [if_neg z]
        exact (sumN_0 _ (fun d _ => by rw [if_neg z, Nat.zero_mul])).symm
theorem dig {B : Nat} (hB : 0 < B) {c : Nat → Nat} (hc : ∀ d, c d < B) : ∀ n, sumN (fun d => c d * B ^ d) n < B ^ n ∧ ∀ k, k < n → sumN (fun d => c d * B ^ d) n / B ^ k % B = c k
  | 0 => ⟨Nat.one_pos, fun k hk => absurd hk (Nat.not_lt_zero _)⟩
  | n + 1 => by
    obtain ⟨h1, h2⟩ := dig hB hc n
    rw [sumN_succ]
    have hp : 0 < B ^ n := Nat.pow_pos hB
    refine ⟨?_, fun k hk => ?_⟩
    · have : c n * B ^ n + B ^ n ≤ B * B ^ n := by
        rw [← Nat.succ_mul]
        exact Nat.mul_le_mul_right _ (hc n)
      rw [Nat.pow_succ, Nat.mul_comm (B ^ n)]
      omega
    · by_cases z : k = n
      · subst z
        rw [Nat.add_mul_div_right _ _ hp, Nat.div_eq_of_lt h1, Nat.zero_add, Nat.mod_eq_of_lt (hc k)]
      · have hkn : k < n := by omega
        obtain ⟨j, rfl⟩ : ∃ j, n = k + 1 + j := ⟨n - k - 1, by omega⟩
        have e : c (k + 1 + j) * B ^ (k + 1 + j) = c (k + 1 + j) * B ^ j * B * B ^ k := by
          rw [Nat.pow_add, Nat.pow_succ]
          simp only [Nat.mul_assoc, Nat.mul_comm, Nat.mul_left_comm]
        rw [e, Nat.add_mul_div_right _ _ (Nat.pow_pos hB), Nat.add_mul_mod_self_right]
        exact h2 k hkn
theorem cw_lt {cr h d : Nat} (hcr : cr ≤ 3) (hh : h ≤ 23) : cwN cr h d < 2 ^ 40 := by
  have h1 : cwN cr h d ≤ (2 + 2 * cr) * ((2 + 2 * cr) * 2 ^ h) := by
    unfold cwN
    refine sumN_le _ (fun first _ => sumN_le _ (fun s _ => ?_))
    split
    · exact nowN_le hcr h hh _
    · exact Nat.zero_le _
  have h2 : (2 : Nat) ^ h ≤ 2 ^ 23 := Nat.pow_le_pow_right (by decide) hh
  have h3 : (2 + 2 * cr) * ((2 + 2 * cr) * 2 ^ h) ≤ 8 * (8 * 2 ^ 23) := Nat.mul_le_mul (by omega) (Nat.mul_le_mul (by omega) h2)
  have h4 : (8 : Nat) * (8 * 2 ^ 23) < 2 ^ 40 := by decide
  omega
theorem wd_pow (d : Nat) : wdD (2 ^ 1000) (2 ^ 40) d = (2 ^ 40) ^ d := by
  unfold wdD
  rw [← Nat.pow_mul, ← Nat.pow_mul, ← Nat.pow_mul, ← Nat.pow_add]
  congr 1
  omega
theorem cw_rw {cr H d : Nat} (hcr : cr ≤ 3) (h4 : 4 ≤ H) (hH : H ≤ 24) (hd : d < 625) : cwN cr (H - 1) d = rwF cr H d := by
  have h1 := List.all_eq_true.mp (pk_all cr (by omega) H (by omega) h4) d (List.mem_range.mpr hd)
  have h1 := eq_of_beq h1
  have h1 : pkW cr (2 ^ 1000) (2 ^ 40) (H - 1) / 2 ^ (40 * d) % 2 ^ 40 = rwF cr H d := h1
  rw [pk_cw (by omega), sumN_congr (g := fun d => cwN cr (H - 1) d * (2 ^ 40) ^ d) _ (fun d _ => by rw [wd_pow]), Nat.pow_mul] at h1
  rw [← h1]
  have key : ∀ B, B = 2 ^ 40 → sumN (fun d => cwN cr (H - 1) d * B ^ d) 625 / B ^ d % B = cwN cr (H - 1) d := fun B e => (dig (by rw [e]; exact Nat.pow_pos (by decide)) (fun d => by rw [e]; exact cw_lt hcr (by omega)) 625).2 d hd
  exact (key _ rfl).symm
theorem ways_cw (V : Nat → Nat) : waysN V = sumN (fun d => if fitsB V (d / 25) (d % 25) = true then cwN (V 1) (V 0 - 1) d else 0) 625 := by
  unfold waysN fromN lastN cwN
  rw [sumN_congr (g := fun first => sumN (fun d => sumN (fun s => if fitsB V (d / 25) (d % 25) = true then (if goesB (V 1) s first = true then nowN (V 1) first (V 0 - 1) (625 * s + d) else 0) else 0) (2 + 2 * V 1)) 625) _ (fun first _ => ?_)]
  · rw [sumN_swap (fun first d => sumN (fun s => if fitsB V (d / 25) (d % 25) = true then (if goesB (V 1) s first = true then nowN (V 1) first (V 0 - 1) (625 * s + d) else 0) else 0) (2 + 2 * V 1))]
    refine sumN_congr _ (fun d _ => ?_)
    by_cases z : fitsB V (d / 25) (d % 25) = true
    · rw [if_pos z]
      exact sumN_congr _ (fun first _ => sumN_congr _ (fun s _ => if_pos z))
    · rw [if_neg z]
      exact sumN_0 _ (fun first _ => sumN_0 _ (fun s _ => if_neg z))
  · rw [← sumN_swap (fun s d => if fitsB V (d / 25) (d % 25) = true then (if goesB (V 1) s first = true then nowN (V 1) first (V 0 - 1) (625 * s + d) else 0) else 0)]
    refine sumN_congr _ (fun s _ => ?_)
    by_cases z : goesB (V 1) s first = true
    · rw [if_pos z]
      exact sumN_congr _ (fun d _ => by rw [if_pos z])
    · rw [if_neg z]
      exact (sumN_0 _ (fun d _ => by rw [if_neg z]; exact ite_self _)).symm
