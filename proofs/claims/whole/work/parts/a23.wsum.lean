theorem sum_cut (f : Nat → Nat) {m : Nat} : ∀ n, m ≤ n → sumN (fun a => if a < m then f a else 0) n = sumN f m
  | 0, h => by rw [Nat.le_zero.mp h]; rfl
  | n + 1, h => by
    rw [sumN_s]
    by_cases z : m = n + 1
    · subst z
      rw [sumN_s f n, if_pos (Nat.lt_succ_self n)]
      congr 1
      exact sumN_congr n (fun i hi => if_pos (by omega))
    · rw [sum_cut f n (by omega), if_neg (by omega), Nat.add_zero]
theorem sum_app (g : Nat → Nat) (a : Nat) : ∀ b, sumN g (a + b) = sumN g a + sumN (fun i => g (a + i)) b
  | 0 => rfl
  | b + 1 => by
    rw [← Nat.add_assoc, sumN_s, sum_app g a b, sumN_s, Nat.add_assoc]
theorem sum_blk (g : Nat → Nat) (w : Nat) : ∀ m, sumN g (w * m) = sumN (fun a => sumN (fun b => g (w * a + b)) w) m
  | 0 => rfl
  | m + 1 => by rw [Nat.mul_succ, sum_app, sum_blk g w m, sumN_s]
def wyN (V : Nat → Nat) (p : Nat) : Nat := if 2 * p * V 1 ≤ V 0 then sumN (fun a => if fitsB V a (V 0 - 2 * p * V 1 - a) = true then rowN (V 0) p a (V 0 - 2 * p * V 1 - a) else 0) (V 0 - 2 * p * V 1 + 1) else 0
theorem wy_p {V : Nat → Nat} {p : Nat} (hH : V 0 ≤ 24) : sumN (fun d => if d / 25 + d % 25 + 2 * p * V 1 = V 0 ∧ fitsB V (d / 25) (d % 25) = true then rowN (V 0) p (d / 25) (d % 25) else 0) 625 = wyN V p := by
  rw [show (625 : Nat) = 25 * 25 from rfl, sum_blk]
  generalize hK : (25 : Nat) = K
  unfold wyN
  by_cases hp : 2 * p * V 1 ≤ V 0
  · rw [if_pos hp]
    obtain ⟨D, hD⟩ : ∃ D, V 0 - 2 * p * V 1 = D := ⟨_, rfl⟩
    rw [hD, ← sum_cut (fun a => if fitsB V a (D - a) = true then rowN (V 0) p a (D - a) else 0) (m := D + 1) K (by omega)]
    refine sumN_congr K (fun a ha => ?_)
    by_cases hz : a < D + 1
    · rw [if_pos hz, sumN_congr (g := fun b => if b = D - a then (if fitsB V a b = true then rowN (V 0) p a b else 0) else 0) K (fun b hb => ?_), sumN_one, if_pos (by omega)]
      subst hK
      rw [show (25 * a + b) / 25 = a by omega, show (25 * a + b) % 25 = b by omega]
      by_cases w : b = D - a
      · rw [if_pos w]
        by_cases y : fitsB V a b = true
        · rw [if_pos y, if_pos ⟨by omega, y⟩]
        · rw [if_neg y, if_neg (fun x => y x.2)]
      · rw [if_neg w, if_neg (fun x => w (by have := x.1; omega))]
    · rw [if_neg hz]
      refine sumN_0 K (fun b hb => if_neg (fun x => ?_))
      subst hK
      have := x.1
      omega
  · rw [if_neg hp]
    refine sumN_0 K (fun a ha => sumN_0 K (fun b hb => if_neg (fun x => ?_)))
    subst hK
    have := x.1
    omega
theorem ways_wy {V : Nat → Nat} (h1 : V 1 ≤ 3) (h4 : 4 ≤ V 0) (hH : V 0 ≤ 24) : waysN V = sumN (wyN V) (V 0 / 2 + 1) := by
  rw [ways_cw]
  generalize hK : (625 : Nat) = K
  rw [sumN_congr (g := fun d => sumN (fun p => if d / 25 + d % 25 + 2 * p * V 1 = V 0 ∧ fitsB V (d / 25) (d % 25) = true then rowN (V 0) p (d / 25) (d % 25) else 0) (V 0 / 2 + 1)) K (fun d hd => ?_)]
  · rw [sumN_swap (fun d p => if d / 25 + d % 25 + 2 * p * V 1 = V 0 ∧ fitsB V (d / 25) (d % 25) = true then rowN (V 0) p (d / 25) (d % 25) else 0)]
    subst hK
    exact sumN_congr (V 0 / 2 + 1) (fun p _ => wy_p hH)
  · by_cases z : fitsB V (d / 25) (d % 25) = true
    · rw [if_pos z, cw_rw h1 h4 hH (by omega)]
      unfold rwF
      by_cases y : V 0 < d / 25 + d % 25
      · rw [if_pos y]
        exact (sumN_0 _ (fun p _ => if_neg (fun x => by have := x.1; omega))).symm
      · rw [if_neg y]
        refine sumN_congr _ (fun p _ => ?_)
        by_cases w : d / 25 + d % 25 + 2 * p * V 1 = V 0
        · rw [if_pos w, if_pos ⟨w, z⟩]
        · rw [if_neg w, if_neg (fun x => w x.1)]
    · rw [if_neg z]
      exact (sumN_0 _ (fun p _ => if_neg (fun x => z x.2))).symm
theorem lT {n : Nat} (h : n < 2 ^ 63) : (lN n).toInt = (n : Int) := lg_ofNat_toInt h
theorem lN_div {a b : Nat} (ha : a < 2 ^ 63) (hb : b < 2 ^ 63) : lN a / lN b = lN (a / b) := Int64.toInt_inj.mp (by
  have hab : a / b < 2 ^ 63 := Nat.lt_of_le_of_lt (Nat.div_le_self a b) ha
  rw [Int64.toInt_div, lT ha, lT hb, lT hab, ← Int.ofNat_tdiv]
  generalize a / b = q at hab ⊢
  exact Int.bmod_eq_of_le (by omega) (by omega))
theorem ch_le : ∀ n, n < 24 → ∀ k, k < 24 → k ≤ n → ∀ i, i < 24 → i ≤ k → foldN (fun i r => r * (n - k + (i + 1)) / (i + 1)) 1 i < 2 ^ 24 := by decide +kernel
theorem orz {x y : Int32} : x ||| y = 0 ↔ x = 0 ∧ y = 0 := by
  rw [← Int32.toBitVec_inj, ← Int32.toBitVec_inj, ← Int32.toBitVec_inj]
  exact BitVec.or_eq_zero_iff
theorem awake_0 {V : Nat → Nat} (ok : VOK V) {d0 d1 : Nat} (hd0 : d0 ≤ V 0) (hd1 : d1 ≤ V 0) : awakeI V d0 d1 = 0 ↔ fitsB V d0 d1 = true := by
  obtain ⟨-, -, -, -, o4, -, o6, -⟩ := ok
  have hone : ∀ p, p < 10 → ¬ nI 1 <<< (nI p &&& 31) = 0 := by decide +kernel
  rw [fitsB_iff]
  unfold awakeI needN lightN
  have key : ∀ n, n ≤ V 4 → (foldN (fun p x => x ||| (if sleepsB V p (if V (42 + 27 * p + 0) = 0 then d0 else d1) = true then nI 0 else nI 1 <<< (nI p &&& 31))) (nI 0) n = 0 ↔ foldN (fun p x => if V (42 + 27 * p + 0) = 0 then max x (V (42 + 27 * p + 1)) else x) 0 n ≤ d0 ∧ d0 + foldN (fun p x => if V (42 + 27 * p + 0) = 0 then max x (V (42 + 27 * p + 2)) else x) 0 n ≤ V 0 ∧ foldN (fun p x => if V (42 + 27 * p + 0) = 1 then max x (V (42 + 27 * p + 1)) else x) 0 n ≤ d1 ∧ d1 + foldN (fun p x => if V (42 + 27 * p + 0) = 1 then max x (V (42 + 27 * p + 2)) else x) 0 n ≤ V 0) := by
    intro n
    induction n with
    | zero =>
      intro _
      constructor
      · intro _
        exact ⟨Nat.zero_le _, hd0, Nat.zero_le _, hd1⟩
      · intro _
        rfl
    | succ n ih =>
      intro hn
      have ih := ih (by omega)
      have hc := (o6 n (by omega)).1
      simp only [foldN]
      rw [orz, ih]
      generalize foldN (fun p x => if V (42 + 27 * p + 0) = 0 then max x (V (42 + 27 * p + 1)) else x) 0 n = a1
      generalize foldN (fun p x => if V (42 + 27 * p + 0) = 0 then max x (V (42 + 27 * p + 2)) else x) 0 n = a2
      generalize foldN (fun p x => if V (42 + 27 * p + 0) = 1 then max x (V (42 + 27 * p + 1)) else x) 0 n = a3
      generalize foldN (fun p x => if V (42 + 27 * p + 0) = 1 then max x (V (42 + 27 * p + 2)) else x) 0 n = a4
      have hs : ∀ d, d ≤ V 0 → ((if sleepsB V n d = true then nI 0 else nI 1 <<< (nI n &&& 31)) = 0 ↔ V (42 + 27 * n + 1) ≤ d ∧ d + V (42 + 27 * n + 2) ≤ V 0) := fun d hd => by
        unfold sleepsB
        by_cases y : V (42 + 27 * n + 1) ≤ d ∧ V (42 + 27 * n + 2) ≤ V 0 - d
        · rw [if_pos (by rw [decide_eq_true y.1, decide_eq_true y.2]; rfl)]
          exact ⟨fun _ => ⟨y.1, by omega⟩, fun _ => rfl⟩
        · rw [if_neg (by
            rw [Bool.and_eq_true]
            exact fun w => y ⟨of_decide_eq_true w.1, of_decide_eq_true w.2⟩)]
          exact ⟨fun w => absurd w (hone n (by omega)), fun w => absurd ⟨w.1, by omega⟩ y⟩
      by_cases z : V (42 + 27 * n + 0) = 0
      · have z1 : ¬ V (42 + 27 * n + 0) = 1 := by omega
        rw [if_pos z, if_pos z, if_pos z, if_neg z1, if_neg z1, hs d0 hd0]
        omega
      · have z1 : V (42 + 27 * n + 0) = 1 := by omega
        rw [if_neg z, if_neg z, if_neg z, if_pos z1, if_pos z1, hs d1 hd1]
        omega
  exact key (V 4) (Nat.le_refl _)
