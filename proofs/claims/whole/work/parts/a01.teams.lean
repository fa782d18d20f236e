theorem prodN_upd {f g : Nat → Nat} {j : Nat} : ∀ n, (∀ i, i ≠ j → f i = g i) → prodN f n * (if j < n then g j else 1) = prodN g n * (if j < n then f j else 1)
  | 0, _ => by rw [if_neg (Nat.not_lt_zero _), if_neg (Nat.not_lt_zero _)]; rfl
  | n + 1, h => by
    have ih := prodN_upd n h
    rw [prodN_s, prodN_s]
    by_cases z : n = j
    · subst z
      rw [if_neg (Nat.lt_irrefl _), if_neg (Nat.lt_irrefl _), Nat.mul_one, Nat.mul_one] at ih
      rw [if_pos (Nat.lt_succ_self _), if_pos (Nat.lt_succ_self _), ih, Nat.mul_assoc, Nat.mul_assoc, Nat.mul_comm (f n)]
    · rw [h n z]
      by_cases y : j < n
      · rw [if_pos y, if_pos y] at ih
        rw [if_pos (by omega), if_pos (by omega), Nat.mul_right_comm, ih, Nat.mul_right_comm]
      · rw [if_neg y, if_neg y, Nat.mul_one, Nat.mul_one] at ih
        rw [if_neg (by omega), if_neg (by omega), ih]
theorem prodN_zero {f : Nat → Nat} {j : Nat} (h : f j = 0) : ∀ n, j < n → prodN f n = 0
  | 0, q => absurd q (Nat.not_lt_zero _)
  | n + 1, q => by
    rw [prodN_s]
    by_cases z : n = j
    · subst z; rw [h, Nat.mul_zero]
    · rw [prodN_zero h n (by omega), Nat.zero_mul]
def swp (cc x : Nat) : Nat := if x = 0 then cc else if x = cc then 0 else x
theorem swp_swp (cc x : Nat) : swp cc (swp cc x) = x := by
  unfold swp
  by_cases a : x = 0
  · subst a
    rw [if_pos rfl]
    by_cases b : cc = 0
    · rw [if_pos b, b]
    · rw [if_neg b, if_pos rfl]
  · rw [if_neg a]
    by_cases b : x = cc
    · rw [if_pos b, if_pos rfl, b]
    · rw [if_neg b, if_neg a, if_neg b]
theorem swp_lt {cc k x : Nat} (hc : cc < k) (hx : x < k) : swp cc x < k := by
  unfold swp
  split
  · exact hc
  · split <;> omega
theorem prodN_swp {g : Nat → Nat} {cc k : Nat} (hc : cc < k) : prodN (fun t => g (swp cc t)) k = prodN g k := by
  by_cases h0 : cc = 0
  · subst h0
    exact prodN_congr _ (fun i _ => by
      show g (swp 0 i) = g i
      unfold swp
      by_cases a : i = 0
      · rw [if_pos a, a]
      · rw [if_neg a, if_neg a])
  have e1 := prodN_upd (f := fun t => if t = 0 then g cc else g t) (g := g) (j := 0) k (fun i hi => if_neg hi)
  rw [if_pos (by omega), if_pos (by omega), if_pos rfl] at e1
  have e2 := prodN_upd (f := fun t => g (swp cc t)) (g := fun t => if t = 0 then g cc else g t) (j := cc) k (fun i hi => by
    show g (swp cc i) = if i = 0 then g cc else g i
    unfold swp
    by_cases a : i = 0
    · rw [if_pos a, if_pos a]
    · rw [if_neg a, if_neg a, if_neg hi])
  rw [if_pos hc, if_pos hc, if_neg h0, show g (swp cc cc) = g 0 by unfold swp; rw [if_neg h0, if_pos rfl]] at e2
  rw [e1] at e2
  rcases Nat.eq_zero_or_pos (g cc) with z | z
  · rw [prodN_zero (f := g) z k hc, prodN_zero (f := fun t => g (swp cc t)) (j := 0) (show g (swp cc 0) = 0 from z) k (by omega)]
  · exact Nat.eq_of_mul_eq_mul_right z e2
theorem chT_some {V tm : Nat → Nat} : ∀ k, (∀ t, t < k → cntT tm t (V 5) ≠ 0) → chT V tm k = some (prodN (fun t => 10 ^ cntT tm t (V 5) - tirT V tm t (V 5)) k)
  | 0, _ => rfl
  | k + 1, h => by
    rw [chT_s, chT_some k (fun t ht => h t (by omega))]
    exact if_neg (h k (by omega))
theorem chT_no {V tm : Nat → Nat} {k t : Nat} (ht : t < k) (h : cntT tm t (V 5) = 0) : chT V tm k = none := by
  have e : chT V tm (t + 1) = none := by
    rw [chT_s]
    cases chT V tm t with
    | none => rfl
    | some a => exact if_pos h
  have := chT_none e (k - (t + 1))
  rw [show t + 1 + (k - (t + 1)) = k by omega] at this
  exact this
theorem chT_swp {V tm tm' : Nat → Nat} {cc k : Nat} (hc : cc < k) (h : ∀ b, b < V 5 → tm' b = swp cc (tm b)) : chT V tm' k = chT V tm k := by
  have e : ∀ b t, b < V 5 → (tm' b = t ↔ tm b = swp cc t) := fun b t hb => by
    rw [h b hb]
    exact ⟨fun z => by rw [← z, swp_swp], fun z => by rw [z, swp_swp]⟩
  have e1 : ∀ t, cntT tm' t (V 5) = cntT tm (swp cc t) (V 5) := fun t => sumN_congr _ (fun b hb => by
    by_cases z : tm' b = t
    · rw [if_pos z, if_pos ((e b t hb).mp z)]
    · rw [if_neg z, if_neg (fun y => z ((e b t hb).mpr y))])
  have e2 : ∀ t, tirT V tm' t (V 5) = tirT V tm (swp cc t) (V 5) := fun t => prodN_congr _ (fun b hb => by
    by_cases z : tm' b = t
    · rw [if_pos z, if_pos ((e b t hb).mp z)]
    · rw [if_neg z, if_neg (fun y => z ((e b t hb).mpr y))])
  by_cases q : ∃ t, t < k ∧ cntT tm t (V 5) = 0
  · obtain ⟨t, a, b⟩ := q
    rw [chT_no a b, chT_no (swp_lt hc a) (by rw [e1, swp_swp]; exact b)]
  · have g : ∀ t, t < k → cntT tm t (V 5) ≠ 0 := fun t ht z => q ⟨t, ht, z⟩
    rw [chT_some k g, chT_some k (fun t ht => by rw [e1]; exact g _ (swp_lt hc ht))]
    congr 1
    rw [prodN_congr (g := fun t => (fun t => 10 ^ cntT tm t (V 5) - tirT V tm t (V 5)) (swp cc t)) k (fun t _ => by rw [e1, e2])]
    exact prodN_swp (g := fun t => 10 ^ cntT tm t (V 5) - tirT V tm t (V 5)) hc
/-- the number whose figures, base k, are given -/
def encT (k : Nat) (tm : Nat → Nat) : Nat → Nat
  | 0 => 0
  | b + 1 => encT k tm b * k + tm b
theorem digN_enc {k : Nat} {tm : Nat → Nat} (hk : 1 ≤ k) : ∀ B, (∀ b, b < B → tm b < k) → ∀ b, b < B → digN k B (encT k tm B) b = tm b
  | 0, _, b, hb => absurd hb (Nat.not_lt_zero b)
  | B + 1, h, b, hb => by
    show (encT k tm B * k + tm B) / k ^ (B + 1 - 1 - b) % k = tm b
    have ht := h B (by omega)
    by_cases z : b = B
    · subst z
      rw [show b + 1 - 1 - b = 0 by omega, Nat.pow_zero, Nat.div_one, Nat.mul_add_mod_self_right, Nat.mod_eq_of_lt ht]
    · have ih := digN_enc hk B (fun b hb => h b (by omega)) b (by omega)
      unfold digN at ih
      rw [show B + 1 - 1 - b = B - 1 - b + 1 by omega, Nat.pow_succ, Nat.mul_comm (k ^ _) k, ← Nat.div_div_eq_div_mul, Nat.mul_comm _ k, Nat.mul_add_div (by omega), Nat.div_eq_of_lt ht, Nat.add_zero]
      exact ih
theorem encT_lt {k : Nat} {tm : Nat → Nat} (hk : 1 ≤ k) (h0 : tm 0 = 0) : ∀ B, (∀ b, b < B + 1 → tm b < k) → encT k tm (B + 1) < k ^ B
  | 0, _ => by show 0 * k + tm 0 < 1; omega
  | B + 1, h => by
    have ih := encT_lt hk h0 B (fun b hb => h b (by omega))
    have ht := h (B + 1) (by omega)
    show encT k tm (B + 1) * k + tm (B + 1) < k ^ (B + 1)
    have : (encT k tm (B + 1) + 1) * k ≤ k ^ B * k := Nat.mul_le_mul_right k ih
    rw [Nat.pow_succ]
    rw [Nat.add_mul] at this
    omega
theorem chT_cg {V tm tm' : Nat → Nat} {k : Nat} (hk : 1 ≤ k) (h : ∀ b, b < V 5 → tm' b = tm b) : chT V tm' k = chT V tm k := by
  refine chT_swp (cc := 0) (by omega) (fun b hb => ?_)
  rw [h b hb]
  unfold swp
  by_cases a : tm b = 0
  · rw [if_pos a, a]
  · rw [if_neg a, if_neg a]
/-- each parting has one like it with bearer 0 in team 0 -/
theorem team0 {V : Nat → Nat} {k n : Nat} (hk : 1 ≤ k) (h5 : 1 ≤ V 5) : o1 (chT V (digN k (V 5) n) k) ≤ (tmS V k (k ^ (V 5 - 1))).1 := by
  have hlt : ∀ b, digN k (V 5) n b < k := fun b => digN_lt hk
  have hsl : ∀ b, swp (digN k (V 5) n 0) (digN k (V 5) n b) < k := fun b => swp_lt (hlt 0) (hlt b)
  have e0 : swp (digN k (V 5) n 0) (digN k (V 5) n 0) = 0 := by
    unfold swp
    by_cases a : digN k (V 5) n 0 = 0
    · rw [if_pos a, a]
    · rw [if_neg a, if_pos rfl]
  have hn := encT_lt (tm := fun b => swp (digN k (V 5) n 0) (digN k (V 5) n b)) hk e0 (V 5 - 1) (fun b _ => hsl b)
  rw [show V 5 - 1 + 1 = V 5 by omega] at hn
  have hd := digN_enc (tm := fun b => swp (digN k (V 5) n 0) (digN k (V 5) n b)) hk (V 5) (fun b _ => hsl b)
  rw [← chT_swp (V := V) (tm := digN k (V 5) n) (cc := digN k (V 5) n 0) (hlt 0) hd]
  have := tmS_all (V := V) (k := k) (n := encT k (fun b => swp (digN k (V 5) n 0) (digN k (V 5) n b)) (V 5)) (k ^ (V 5 - 1) - (encT k (fun b => swp (digN k (V 5) n 0) (digN k (V 5) n b)) (V 5) + 1))
  rw [show encT k (fun b => swp (digN k (V 5) n 0) (digN k (V 5) n b)) (V 5) + 1 + (k ^ (V 5 - 1) - (encT k (fun b => swp (digN k (V 5) n 0) (digN k (V 5) n b)) (V 5) + 1)) = k ^ (V 5 - 1) by omega] at this
  exact this
theorem tmS_few {V : Nat → Nat} {k : Nat} (hk : 1 ≤ k) (h5 : 1 ≤ V 5) : ∀ d, tmS V k (k ^ (V 5 - 1) + d) = tmS V k (k ^ (V 5 - 1))
  | 0 => rfl
  | d + 1 => by
    have ih := tmS_few (V := V) hk h5 d
    have ht := team0 (V := V) (n := k ^ (V 5 - 1) + d) hk h5
    show (if (tmS V k (k ^ (V 5 - 1) + d)).1 < o1 (chT V (digN k (V 5) (k ^ (V 5 - 1) + d)) k) then _ else tmS V k (k ^ (V 5 - 1) + d)) = _
    rw [ih, if_neg (by omega)]
theorem tmS_end {V : Nat → Nat} {k : Nat} (hk : 1 ≤ k) (h5 : 1 ≤ V 5) : tmS V k (k ^ V 5) = tmS V k (k ^ (V 5 - 1)) := by
  have e : k ^ (V 5 - 1) ≤ k ^ V 5 := Nat.pow_le_pow_right hk (by omega)
  have := tmS_few (V := V) hk h5 (k ^ V 5 - k ^ (V 5 - 1))
  rw [show k ^ (V 5 - 1) + (k ^ V 5 - k ^ (V 5 - 1)) = k ^ V 5 by omega] at this
  exact this
/-- the best chance and its number -/
def tmC (V : Nat → Nat) (k : Nat) : Nat → Nat × Nat
  | 0 => (0, 0)
  | n + 1 => if (tmC V k n).1 < o1 (chT V (digN k (V 5) n) k) then (o1 (chT V (digN k (V 5) n) k), n) else tmC V k n
theorem fig_0 {k B : Nat} : ∀ n, figN (digN k B 0) n = 0
  | 0 => rfl
  | n + 1 => by
    show 8 * figN (digN k B 0) n + 0 / _ % k = 0
    rw [fig_0 n, Nat.zero_div, Nat.zero_mod]
theorem tmC_S (V : Nat → Nat) (k : Nat) : ∀ n, (tmS V k n).1 = (tmC V k n).1 ∧ (tmS V k n).2 = figN (digN k (V 5) (tmC V k n).2) (V 5)
  | 0 => ⟨rfl, (fig_0 _).symm⟩
  | n + 1 => by
    obtain ⟨h1, h2⟩ := tmC_S V k n
    unfold tmS tmC
    rw [h1]
    by_cases z : (tmC V k n).1 < o1 (chT V (digN k (V 5) n) k)
    · rw [if_pos z, if_pos z]
      exact ⟨rfl, rfl⟩
    · rw [if_neg z, if_neg z]
      exact ⟨h1, h2⟩
theorem tmC_lt {V : Nat → Nat} {k : Nat} : ∀ n, 0 < n → (tmC V k n).2 < n
  | 0, h => absurd h (Nat.lt_irrefl _)
  | n + 1, _ => by
    unfold tmC
    split
    · exact Nat.lt_succ_self n
    · rcases Nat.eq_zero_or_pos n with z | z
      · subst z; exact Nat.zero_lt_one
      · have := tmC_lt (V := V) (k := k) n z
        omega
/-- Euclid, step by step -/
def euS (a b : Nat) : Nat → Nat × Nat
  | 0 => (a, b)
  | n + 1 => if 0 < (euS a b n).2 then ((euS a b n).2, (euS a b n).1 % (euS a b n).2) else euS a b n
theorem euS_gcd (a b : Nat) : ∀ n, Nat.gcd (euS a b n).1 (euS a b n).2 = Nat.gcd a b
  | 0 => rfl
  | n + 1 => by
    have ih := euS_gcd a b n
    unfold euS
    split
    · rw [← ih]
      show Nat.gcd (euS a b n).2 ((euS a b n).1 % (euS a b n).2) = _
      rw [Nat.gcd_comm, ← Nat.gcd_rec, Nat.gcd_comm]
    · exact ih
theorem euS_le (a b : Nat) (ha : a < 2 ^ 31) (hb : b < 2 ^ 31) : ∀ n, (euS a b n).1 < 2 ^ 31 ∧ (euS a b n).2 < 2 ^ 31
  | 0 => ⟨ha, hb⟩
  | n + 1 => by
    have ih := euS_le a b ha hb n
    unfold euS
    split
    · exact ⟨ih.2, Nat.lt_of_le_of_lt (Nat.mod_le _ _) ih.1⟩
    · exact ih
theorem euS_2 (a b n d : Nat) (h : (euS a b n).2 < 2 ^ (d + 1)) : (euS a b (n + 2)).2 < 2 ^ d := by
  show (if 0 < (euS a b (n + 1)).2 then ((euS a b (n + 1)).2, (euS a b (n + 1)).1 % (euS a b (n + 1)).2) else euS a b (n + 1)).2 < 2 ^ d
  have e : euS a b (n + 1) = if 0 < (euS a b n).2 then ((euS a b n).2, (euS a b n).1 % (euS a b n).2) else euS a b n := rfl
  have hp : 0 < 2 ^ d := Nat.two_pow_pos d
  by_cases z : 0 < (euS a b n).2
  · rw [if_pos z] at e
    rw [e]
    dsimp only
    have hr := Nat.mod_lt (euS a b n).1 z
    rw [Nat.pow_succ] at h
    generalize (euS a b n).1 % (euS a b n).2 = r at *
    generalize (euS a b n).2 = y at *
    by_cases q : 0 < r
    · rw [if_pos q]
      show y % r < 2 ^ d
      by_cases w : r < 2 ^ d
      · exact Nat.lt_trans (Nat.mod_lt _ q) w
      · rw [Nat.mod_eq_sub_mod (by omega), Nat.mod_eq_of_lt (by omega)]
        omega
    · rw [if_neg q]
      show r < 2 ^ d
      omega
  · rw [if_neg z] at e
    rw [e, if_neg z]
    omega
theorem euS_64 {a b : Nat} (hb : b < 2 ^ 31) : (euS a b 64).2 = 0 := by
  have key : ∀ j, j ≤ 31 → (euS a b (2 * j)).2 < 2 ^ (31 - j) := by
    intro j
    induction j with
    | zero => exact fun _ => hb
    | succ j ih =>
      intro hj
      have := euS_2 a b (2 * j) (31 - (j + 1)) (by rw [show 31 - (j + 1) + 1 = 31 - j by omega]; exact ih (by omega))
      exact this
  have h62 := key 31 (by decide)
  have h0 : (euS a b 62).2 = 0 := by
    have : (euS a b 62).2 < 1 := h62
    omega
  have e63 : euS a b 63 = euS a b 62 := if_neg (show ¬ 0 < (euS a b 62).2 by rw [h0]; exact Nat.lt_irrefl 0)
  have e64 : euS a b 64 = euS a b 63 := if_neg (show ¬ 0 < (euS a b 63).2 by rw [e63, h0]; exact Nat.lt_irrefl 0)
  rw [e64, e63, h0]
theorem sumN_sh (f : Nat → Nat) : ∀ n, sumN f (n + 1) = f 0 + sumN (fun i => f (i + 1)) n
  | 0 => by rw [sumN_s]; show 0 + f 0 = f 0 + 0; omega
  | n + 1 => by
    rw [sumN_s, sumN_sh f n, sumN_s]
    omega
/-- figures, base 8, the lowest first -/
def oct (k n i : Nat) : Nat := sumN (fun j => n / k ^ j % k * 8 ^ j) i
theorem sumN_8 (f : Nat → Nat) : ∀ n, sumN (fun j => f j * 8 ^ (j + 1)) n = 8 * sumN (fun j => f j * 8 ^ j) n
  | 0 => rfl
  | n + 1 => by
    rw [sumN_s, sumN_s, sumN_8 f n, Nat.mul_add, Nat.pow_succ, Nat.mul_comm (8 ^ n) 8, ← Nat.mul_assoc, Nat.mul_comm (f n) 8, Nat.mul_assoc]
theorem fig_oct (k B n : Nat) : ∀ m, m ≤ B → figN (digN k B n) m = sumN (fun j => n / k ^ (B - m + j) % k * 8 ^ j) m
  | 0, _ => rfl
  | m + 1, h => by
    show 8 * figN (digN k B n) m + n / k ^ (B - 1 - m) % k = _
    rw [fig_oct k B n m (by omega), sumN_sh, Nat.pow_zero, Nat.mul_one, Nat.add_zero, show B - (m + 1) = B - 1 - m by omega]
    have ec : sumN (fun i => n / k ^ (B - 1 - m + (i + 1)) % k * 8 ^ (i + 1)) m = sumN (fun i => n / k ^ (B - m + i) % k * 8 ^ (i + 1)) m := sumN_congr m (fun i _ => by rw [show B - 1 - m + (i + 1) = B - m + i by omega])
    have e8 := sumN_8 (fun i => n / k ^ (B - m + i) % k) m
    rw [ec, e8]
    omega
theorem fig_end (k B n : Nat) : figN (digN k B n) B = oct k n B := by
  rw [fig_oct k B n B (Nat.le_refl _), Nat.sub_self]
  exact sumN_congr _ (fun i _ => by rw [Nat.zero_add])
theorem oct_lt {k n : Nat} (hk : 1 ≤ k) (h8 : k ≤ 8) : ∀ i, oct k n i < 8 ^ i
  | 0 => Nat.zero_lt_one
  | i + 1 => by
    have ih := oct_lt (n := n) hk h8 i
    have hm := Nat.mod_lt (n / k ^ i) (show 0 < k by omega)
    show oct k n i + n / k ^ i % k * 8 ^ i < 8 ^ (i + 1)
    have : n / k ^ i % k * 8 ^ i ≤ 7 * 8 ^ i := Nat.mul_le_mul_right _ (by omega)
    rw [Nat.pow_succ]
    omega
theorem nI_or (a b : Nat) : nI a ||| nI b = nI (a ||| b) := b_ext fun i hi => by rw [b_or, bt_nI hi, bt_nI hi, bt_nI hi, Nat.testBit_or]
theorem nI_shl {a j : Nat} (hj : j < 32) : nI a <<< (nI j &&& 31) = nI (a <<< j) := b_ext fun i hi => by
  rw [b_shl j hj _ hi, bt_nI (by omega), bt_nI hi, Nat.testBit_shiftLeft]
theorem oct_s {k n i : Nat} (hk : 1 ≤ k) (h8 : k ≤ 8) (hi : i < 8) : nI (oct k n i) ||| (nI (n / k ^ i % k) <<< (nI (3 * i) &&& 31)) = nI (oct k n (i + 1)) := by
  rw [nI_shl (by omega), nI_or]
  have e : (8 : Nat) ^ i = 2 ^ (3 * i) := by rw [Nat.pow_mul]
  have hl := oct_lt (n := n) hk h8 i
  rw [e] at hl
  rw [Nat.or_comm, ← Nat.shiftLeft_add_eq_or_of_lt hl, Nat.shiftLeft_eq]
  show nI _ = nI (oct k n i + n / k ^ i % k * 8 ^ i)
  rw [e, Nat.add_comm]
