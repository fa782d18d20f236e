theorem sumN_add (f g : Nat → Nat) : ∀ n, sumN (fun i => f i + g i) n = sumN f n + sumN g n
  | 0 => rfl
  | n + 1 => by
    rw [sumN_s, sumN_s, sumN_s, sumN_add f g n]
    omega
theorem sumN_zz : ∀ n, sumN (fun _ => 0) n = 0
  | 0 => rfl
  | n + 1 => by rw [sumN_s, sumN_zz n]
theorem sumN_swap (f : Nat → Nat → Nat) (n : Nat) : ∀ m, sumN (fun p => sumN (fun x => f p x) n) m = sumN (fun x => sumN (fun p => f p x) m) n
  | 0 => (sumN_zz n).symm
  | m + 1 => by
    rw [sumN_s, sumN_swap f n m, ← sumN_add]
    exact sumN_congr n (fun i _ => rfl)
theorem valC_eq {V t : Nat → Nat} (hc : ∀ p, p < V 4 → V (42 + 27 * p + 0) ≤ 1) : valC V t = valN V t := by
  unfold valC valN lkdN
  rw [sumN_swap]
  refine sumN_congr _ (fun x _ => ?_)
  by_cases q : t x = 2
  · rw [if_pos q]
    rw [sumN_congr (g := fun _ => 0) (V 4) (fun p hp => if_neg (by have := hc p hp; omega)), sumN_zz]
  · rw [if_neg q]
    unfold likedInN
    refine sumN_congr _ (fun p _ => ?_)
    by_cases z : t x = V (42 + 27 * p + 0)
    · rw [if_pos z, if_pos z.symm]
    · rw [if_neg z, if_neg (fun y => z y.symm)]
theorem least {p : Nat → Prop} : ∀ n, (∃ i, i < n ∧ p i) → ∃ m, m < n ∧ p m ∧ ∀ i, i < m → ¬ p i
  | 0, h => by obtain ⟨i, hi, _⟩ := h; exact absurd hi (Nat.not_lt_zero i)
  | n + 1, h => by
    by_cases q : ∃ i, i < n ∧ p i
    · obtain ⟨m, a, b, c⟩ := least n q
      exact ⟨m, by omega, b, c⟩
    · obtain ⟨i, hi, hp⟩ := h
      have : i = n := by
        rcases Nat.lt_or_ge i n with z | z
        · exact absurd ⟨i, z, hp⟩ q
        · omega
      subst this
      exact ⟨i, by omega, hp, fun j hj hpj => q ⟨j, hj, hpj⟩⟩
theorem firstU_at {α : Type} {c : Nat → Bool} {r : Nat → α} {d : α} {n m : Nat} (hm : m < n) (h : c m = true) : ∀ j k, k + j = m → (∀ i, k ≤ i → i < m → c i = false) → firstU c r d n k = r m
  | 0, k, e, _ => by
    obtain rfl : k = m := by omega
    rw [firstU_step _ _ _ hm, if_pos h]
  | j + 1, k, e, g => by
    rw [firstU_step _ _ _ (by omega), if_neg (by rw [g k (Nat.le_refl _) (by omega)]; decide)]
    exact firstU_at hm h j (k + 1) (by omega) (fun i a b => g i (by omega) b)
theorem firstU_no {α : Type} {c : Nat → Bool} {r : Nat → α} {d : α} {n : Nat} : ∀ j k, k + j = n → (∀ i, k ≤ i → i < n → c i = false) → firstU c r d n k = d
  | 0, k, e, _ => by
    obtain rfl : k = n := by omega
    exact firstU_end _ _ _ _
  | j + 1, k, e, g => by
    rw [firstU_step _ _ _ (by omega), if_neg (by rw [g k (Nat.le_refl _) (by omega)]; decide)]
    exact firstU_no j (k + 1) (by omega) (fun i a b => g i (by omega) b)
theorem firstU_iff {c : Nat → Bool} {b : Bool} {n : Nat} : firstU c (fun _ => false) b n 0 = true ↔ (b = true ∧ ∀ k, k < n → c k = false) := by
  by_cases q : ∃ i, i < n ∧ c i = true
  · obtain ⟨m, a, hm, hl⟩ := least n q
    rw [firstU_at a hm m 0 (by omega) (fun i _ hi => by have := hl i hi; simpa using this)]
    exact ⟨fun h => Bool.noConfusion h, fun h => absurd (hm.symm.trans (h.2 m a)) (by decide)⟩
  · have g : ∀ k, k < n → c k = false := fun k hk => by
      cases e : c k
      · rfl
      · exact absurd ⟨k, hk, e⟩ q
    rw [firstU_no n 0 (by omega) (fun i _ hi => g i hi)]
    exact ⟨fun h => ⟨h, g⟩, fun h => h.1⟩
theorem md_cg {H a b : Nat} (z : Nat) (h : a % H = b % H) : (a + z) % H = (b + z) % H := by rw [Nat.add_mod a, Nat.add_mod b, h]
/-- how long it was on the bridge ahead of an hour, and where ahead of that -/
theorem stay_spec {t : Nat → Nat} {H h : Nat} (hh : h < H) (hn : t h ≠ 2) : ∃ k, k < H ∧ stayN t H h = k ∧ (∀ i, i < k → t ((h + H - 1 - i) % H) = 2) ∧ t ((h + H - 1 - k) % H) ≠ 2 ∧ caI t H h = nI (t ((h + H - 1 - k) % H)) := by
  obtain ⟨k, a, b, c⟩ := least (p := fun k => t ((h + H - 1 - k) % H) ≠ 2) H ⟨H - 1, by omega, by
    rw [show h + H - 1 - (H - 1) = h by omega, Nat.mod_eq_of_lt hh]
    exact hn⟩
  have c' : ∀ i, i < k → t ((h + H - 1 - i) % H) = 2 := fun i hi => Decidable.not_not.mp (c i hi)
  refine ⟨k, a, ?_, c', b, ?_⟩
  · exact firstU_at (c := fun k => !decide (t ((h + H - 1 - k) % H) = 2)) (r := fun k => k) a (by rw [decide_eq_false b]; rfl) k 0 (by omega) (fun i _ hi => by rw [decide_eq_true (c' i hi)]; rfl)
  · have e := firstU_at (c := fun k => !decide (t ((h + H - k) % H) = 2)) (r := fun k => nI (t ((h + H - k) % H))) (d := (-1 : Int32)) (n := H + 1) (m := k + 1) (by omega) (by rw [show h + H - (k + 1) = h + H - 1 - k by omega, decide_eq_false b]; rfl) k 1 (by omega) (fun i h1 hi => by rw [show h + H - i = h + H - 1 - (i - 1) by omega, decide_eq_true (c' (i - 1) (by omega))]; rfl)
    rw [show h + H - (k + 1) = h + H - 1 - k by omega] at e
    exact e
theorem anyB_iff (t : Nat → Nat) : ∀ n, anyB t n = true ↔ ∃ i, i < n ∧ t i ≠ 2
  | 0 => ⟨fun h => Bool.noConfusion h, fun ⟨i, h, _⟩ => absurd h (Nat.not_lt_zero i)⟩
  | n + 1 => by
    rw [anyB_s, Bool.or_eq_true, anyB_iff t n]
    constructor
    · rintro (⟨i, a, b⟩ | h)
      · exact ⟨i, by omega, b⟩
      · exact ⟨n, by omega, by simpa using h⟩
    · rintro ⟨i, a, b⟩
      rcases Nat.lt_or_ge i n with z | z
      · exact .inl ⟨i, z, b⟩
      · obtain rfl : i = n := by omega
        exact .inr (by simpa using b)
theorem dark_iff (t : Nat → Nat) (cc : Nat) : ∀ n, darkN t cc n = 0 ↔ ∀ i, i < n → t i ≠ cc
  | 0 => ⟨fun _ i h => absurd h (Nat.not_lt_zero i), fun _ => rfl⟩
  | n + 1 => by
    have ih := dark_iff t cc n
    show darkN t cc n + (if t n = cc then 1 else 0) = 0 ↔ _
    by_cases q : t n = cc
    · rw [if_pos q]
      exact ⟨fun h => absurd h (by omega), fun h => absurd q (h n (by omega))⟩
    · rw [if_neg q, Nat.add_zero, ih]
      refine ⟨fun h i hi => ?_, fun h i hi => h i (by omega)⟩
      rcases Nat.lt_or_ge i n with z | z
      · exact h i z
      · obtain rfl : i = n := by omega
        exact q
theorem crB_iff {t : Nat → Nat} {H C st : Nat} (h1 : t ((st + H - 1) % H) ≤ 1) (h2 : t ((st + C) % H) ≤ 2) : crB t H C st = true ↔ (t ((st + C) % H) = 1 - t ((st + H - 1) % H) ∧ ∀ i, i < C → t ((st + i) % H) = 2) := by
  unfold crB
  rw [firstU_iff, decide_eq_true_iff, nI_sub h1, nI_eq (by omega) (by omega)]
  exact and_congr Iff.rfl ⟨fun h i hi => by simpa using h i hi, fun h i hi => by rw [decide_eq_true (h i hi)]; rfl⟩
theorem legC_eq {V t : Nat → Nat} (hH : 4 ≤ V 0) (ht : ∀ i, i < V 0 → t i ≤ 2) : legC t (V 0) (V 1) = legalB V t := by
  have hm : ∀ x, x % V 0 < V 0 := fun x => Nat.mod_lt _ (by omega)
  have ht' : ∀ x, t (x % V 0) ≤ 2 := fun x => ht _ (hm x)
  have e0 : (!(decide (darkN t 0 (V 0) = 0) && decide (darkN t 1 (V 0) = 0))) = anyB t (V 0) := by
    apply Bool.eq_iff_iff.mpr
    rw [anyB_iff]
    constructor
    · intro h
      refine Classical.byContradiction fun n => ?_
      have n' : ∀ i, i < V 0 → t i = 2 := fun i hi => Classical.byContradiction fun z => n ⟨i, hi, z⟩
      rw [decide_eq_true ((dark_iff t 0 (V 0)).mpr (fun i hi => by have := n' i hi; omega)), decide_eq_true ((dark_iff t 1 (V 0)).mpr (fun i hi => by have := n' i hi; omega))] at h
      exact absurd h (by decide)
    · rintro ⟨i, hi, hn⟩
      have := ht i hi
      by_cases z : t i = 0
      · rw [decide_eq_false (p := darkN t 0 (V 0) = 0) (fun q => (dark_iff t 0 (V 0)).mp q i hi z)]
        rfl
      · rw [decide_eq_false (p := darkN t 1 (V 0) = 0) (fun q => (dark_iff t 1 (V 0)).mp q i hi (by omega)), Bool.and_false]
        rfl
  unfold legC legalB
  rw [e0]
  apply Bool.eq_iff_iff.mpr
  rw [firstU_iff, Bool.and_eq_true, firstU_iff]
  refine and_congr Iff.rfl ⟨fun h => ⟨rfl, fun x hx => ?_⟩, fun h x hx => ?_⟩
  · -- each hour in a city has a right stay ahead
    unfold illB
    by_cases hn : t x = 2
    · rw [decide_eq_true hn]; rfl
    obtain ⟨k, hk, e1, hb, he, e2⟩ := stay_spec hx hn
    rw [e1, e2, decide_eq_false hn, Bool.not_false, Bool.true_and]
    have hx2 := ht x hx
    have hc2 := ht' (x + V 0 - 1 - k)
    have goal : k = if nI (t ((x + V 0 - 1 - k) % V 0)) = nI (1 - t x) then V 1 else 0 := by
      rcases Nat.eq_zero_or_pos k with rfl | hk0
      · have hx' := h x hx
        unfold badL at hx'
        rw [if_neg hn] at hx'
        rw [Nat.sub_zero] at *
        by_cases q : t ((x + V 0 - 1) % V 0) = 1 - t x
        · rw [decide_eq_true q, Bool.and_true] at hx'
          rw [if_pos (by rw [q])]
          have := of_decide_eq_false hx'
          omega
        · rw [if_neg (fun z => q ((nI_eq (by omega) (by omega)).mp z))]
      · -- the stay begins at y
        have ey : ∀ i, i ≤ k → ((x + V 0 - k) % V 0 + i) % V 0 = (x + V 0 - k + i) % V 0 := fun i _ => md_cg i (Nat.mod_mod _ _)
        have hy := h ((x + V 0 - k) % V 0) (hm _)
        unfold badL at hy
        have ty : t ((x + V 0 - k) % V 0) = 2 := by
          have := hb (k - 1) (by omega)
          rw [show x + V 0 - 1 - (k - 1) = x + V 0 - k by omega] at this
          exact this
        rw [if_pos ty] at hy
        have ep : ((x + V 0 - k) % V 0 + V 0 - 1) % V 0 = (x + V 0 - 1 - k) % V 0 := by
          rw [show (x + V 0 - k) % V 0 + V 0 - 1 = (x + V 0 - k) % V 0 + (V 0 - 1) by omega, md_cg (V 0 - 1) (Nat.mod_mod _ _), show x + V 0 - k + (V 0 - 1) = x + V 0 - 1 - k + V 0 by omega, Nat.add_mod_right]
        rw [ep, decide_eq_false he, Bool.not_false, Bool.true_and, Bool.not_eq_false'] at hy
        have hcr := (crB_iff (by rw [ep]; omega) (ht' _)).mp hy
        rw [ep] at hcr
        have hf : ∀ i, i < k → t (((x + V 0 - k) % V 0 + i) % V 0) = 2 := fun i hi => by
          rw [ey i (by omega)]
          have := hb (k - 1 - i) (by omega)
          rw [show x + V 0 - 1 - (k - 1 - i) = x + V 0 - k + i by omega] at this
          exact this
        have hl : ((x + V 0 - k) % V 0 + k) % V 0 = x := by
          rw [ey k (Nat.le_refl _), show x + V 0 - k + k = x + V 0 by omega, Nat.add_mod_right, Nat.mod_eq_of_lt hx]
        have eC : V 1 = k := by
          rcases Nat.lt_trichotomy (V 1) k with z | z | z
          · have := hf (V 1) z
            omega
          · exact z
          · have := hcr.2 k z
            rw [hl] at this
            exact absurd this hn
        rw [eC, hl] at hcr
        rw [if_pos (by rw [hcr.1]; congr 1; omega)]
        exact eC.symm
    rw [decide_eq_true goal]
    rfl
  · have h := h.2
    unfold badL
    by_cases hn : t x = 2
    · rw [if_pos hn]
      by_cases hp : t ((x + V 0 - 1) % V 0) = 2
      · rw [decide_eq_true hp]; rfl
      rw [decide_eq_false hp, Bool.not_false, Bool.true_and, Bool.not_eq_false']
      have hp2 := ht' (x + V 0 - 1)
      obtain ⟨j, hj, hjn, hjb⟩ := least (p := fun j => t ((x + j) % V 0) ≠ 2) (V 0) ⟨V 0 - 1, by omega, by
        rw [show x + (V 0 - 1) = x + V 0 - 1 by omega]
        exact hp⟩
      have hjb' : ∀ i, i < j → t ((x + i) % V 0) = 2 := fun i hi => Decidable.not_not.mp (hjb i hi)
      have hj0 : 0 < j := by
        rcases Nat.eq_zero_or_pos j with rfl | q
        · exact absurd (by rw [Nat.add_zero, Nat.mod_eq_of_lt hx]; exact hn) hjn
        · exact q
      have hy := h ((x + j) % V 0) (hm _)
      obtain ⟨k, hk, e1, hb, he, e2⟩ := stay_spec (hm (x + j)) hjn
      have eb : ∀ i, i ≤ j → ((x + j) % V 0 + V 0 - 1 - i) % V 0 = (x + V 0 - 1 + (j - i)) % V 0 := fun i hi => by
        rw [show (x + j) % V 0 + V 0 - 1 - i = (x + j) % V 0 + (V 0 - 1 - i) by omega, md_cg (V 0 - 1 - i) (Nat.mod_mod _ _), show x + j + (V 0 - 1 - i) = x + V 0 - 1 + (j - i) by omega]
      have ekj : k = j := by
        rcases Nat.lt_trichotomy k j with z | z | z
        · rw [eb k (by omega), show x + V 0 - 1 + (j - k) = x + (j - k - 1) + V 0 by omega, Nat.add_mod_right] at he
          exact absurd (hjb' (j - k - 1) (by omega)) he
        · exact z
        · have := hb j z
          rw [eb j (Nat.le_refl _), Nat.sub_self, Nat.add_zero] at this
          exact absurd this hp
      subst ekj
      rw [eb k (Nat.le_refl _), Nat.sub_self, Nat.add_zero] at e2
      have hjn2 := ht' (x + k)
      unfold illB at hy
      rw [e1, e2, decide_eq_false hjn, Bool.not_false, Bool.true_and, Bool.not_eq_false', decide_eq_true_iff] at hy
      by_cases q : nI (t ((x + V 0 - 1) % V 0)) = nI (1 - t ((x + k) % V 0))
      · rw [if_pos q] at hy
        have q' := (nI_eq (by omega) (by omega)).mp q
        refine (crB_iff (by omega) (ht' _)).mpr ⟨?_, fun i hi => hjb' i (by omega)⟩
        rw [← hy]
        omega
      · rw [if_neg q] at hy
        omega
    · rw [if_neg hn]
      by_cases q : 0 < V 1 ∧ t ((x + V 0 - 1) % V 0) = 1 - t x
      · have hx2 := ht x hx
        have hy := h x hx
        unfold illB at hy
        obtain ⟨k, hk, e1, hb, he, e2⟩ := stay_spec hx hn
        have ek : k = 0 := by
          rcases Nat.eq_zero_or_pos k with z | z
          · exact z
          · have := hb 0 z
            rw [Nat.sub_zero] at this
            omega
        subst ek
        rw [Nat.sub_zero] at e2
        rw [e1, e2, decide_eq_false hn, Bool.not_false, Bool.true_and, Bool.not_eq_false', decide_eq_true_iff, if_pos (by rw [q.2])] at hy
        omega
      · by_cases a : 0 < V 1
        · rw [decide_eq_true a, decide_eq_false (fun z => q ⟨a, z⟩)]; rfl
        · rw [decide_eq_false a]; rfl
