/-- those in city 1 who never leave it while there are at most B -/
noncomputable def fxP (V w : Nat → Nat) (y : Int32) (B q : Nat) : Nat := by
  classical
  exact if bt y q = true ∧ upQ V w q (B - 1) then 1 else 0
noncomputable def fxN (V w : Nat → Nat) (y : Int32) (B : Nat) : Nat := sumN (fxP V w y B) (V 4)
theorem fxP_y {V w : Nat → Nat} {y : Int32} {B q : Nat} (h : bt y q = true ∧ upQ V w q (B - 1)) : fxP V w y B q = 1 := if_pos h
theorem fxP_n {V w : Nat → Nat} {y : Int32} {B q : Nat} (h : ¬ (bt y q = true ∧ upQ V w q (B - 1))) : fxP V w y B q = 0 := if_neg h
theorem sumN_mon2 {f g : Nat → Nat} : ∀ n, (∀ i, i < n → f i ≤ g i) → sumN f n ≤ sumN g n
  | 0, _ => Nat.le_refl _
  | n + 1, h => by
    have := sumN_mon2 n (fun i hi => h i (by omega))
    have := h n (by omega)
    rw [sumN_s, sumN_s]
    omega
theorem sumN_lt {f g : Nat → Nat} {k : Nat} : ∀ n, k < n → (∀ i, i < n → f i ≤ g i) → f k < g k → sumN f n < sumN g n
  | 0, hk, _, _ => absurd hk (Nat.not_lt_zero _)
  | n + 1, hk, h, hlt => by
    have hn := h n (by omega)
    rw [sumN_s, sumN_s]
    rcases Nat.lt_or_ge k n with q | q
    · have := sumN_lt n q (fun i hi => h i (by omega)) hlt
      omega
    · obtain rfl : k = n := by omega
      have := sumN_mon2 k (fun i hi => h i (show i < k + 1 by omega))
      omega
theorem fxP_mono {V w : Nat → Nat} {y y' : Int32} {B B' q : Nat} (hB : B' ≤ B) (h : bt y q = true → upQ V w q (B - 1) → bt y' q = true) : fxP V w y B q ≤ fxP V w y' B' q := by
  by_cases z : bt y q = true ∧ upQ V w q (B - 1)
  · rw [fxP_y z, fxP_y ⟨h z.1 z.2, up_mono z.2 (by omega)⟩]
    exact Nat.le_refl _
  · rw [fxP_n z]
    exact Nat.zero_le _
theorem fxN_le {V w : Nat → Nat} (y : Int32) (B : Nat) : fxN V w y B ≤ V 4 := by
  have := sumN_le (f := fxP V w y B) (c := 1) (V 4) (fun i _ => by
    by_cases z : bt y i = true ∧ upQ V w i (B - 1)
    · rw [fxP_y z]; exact Nat.le_refl _
    · rw [fxP_n z]; exact Nat.zero_le _)
  unfold fxN
  omega
/-- a fixed one stays through a visit -/
theorem fix_step {V w : Nat → Nat} (ok : VOK V) {x : Int32} (hx : BI x (V 4)) {B : Nat} (hB : Bd V w x B) {i q : Nat} (hi : i < V 4) (hq : q < V 4) (hb : bt (yR V w x i) q = true) (hu : upQ V w q (B - 1)) : bt (yR V w x (i + 1)) q = true := by
  have h4 := ok.2.2.2.2.1
  by_cases e : q = i
  · subst e
    have hy : BI (yR V w x q) (V 4) := BI.round (w := w) hx h4 q (by omega)
    have hd := would_dn (w := w) ok hy hq hb
    have hc := hB q (by omega)
    rw [yR_n (fun hw => up_dn hu (by omega) (hd.2.mp hw))]
    exact hb
  · rw [yR_far (by omega) (by omega) e]
    exact hb
theorem fix_steps {V w : Nat → Nat} (ok : VOK V) {x : Int32} (hx : BI x (V 4)) {B : Nat} (hB : Bd V w x B) {i q : Nat} (hq : q < V 4) (hb : bt (yR V w x i) q = true) (hu : upQ V w q (B - 1)) : ∀ d, i + d ≤ V 4 → bt (yR V w x (i + d)) q = true
  | 0, _ => hb
  | d + 1, hd => by
    rw [← Nat.add_assoc]
    exact fix_step ok hx hB (by omega) hq (fix_steps ok hx hB hq hb hu d (by omega)) hu
theorem fix_round {V w : Nat → Nat} (ok : VOK V) {x : Int32} (hx : BI x (V 4)) {B : Nat} (hB : Bd V w x B) {q : Nat} (hq : q < V 4) (hb : bt x q = true) (hu : upQ V w q (B - 1)) : bt (RD V w x) q = true := by
  have := fix_steps ok hx hB (i := 0) hq hb hu (V 4) (by omega)
  rw [Nat.zero_add] at this
  exact this
/-- one enters and so many are reached -/
def hit (V w : Nat → Nat) (x : Int32) (B : Nat) : Prop := ∃ i, i < V 4 ∧ wouldB V w i (yR V w x i) = true ∧ bt (yR V w x i) i = false ∧ cnV V (yR V w x (i + 1)) = B
theorem hit_new {V w : Nat → Nat} (ok : VOK V) {x : Int32} (hx : BI x (V 4)) {B : Nat} (hB : Bd V w x B) (h : hit V w x B) : fxN V w x B < fxN V w (RD V w x) B := by
  have h4 := ok.2.2.2.2.1
  obtain ⟨i, hi, hw, hb, hc⟩ := h
  have hy : BI (yR V w x i) (V 4) := BI.round (w := w) hx h4 i (by omega)
  have hu := (would_up ok hy hi hb).mp hw
  have hcu := cn_up ok hi hw hb
  have hu' : upQ V w i (B - 1) := up_mono hu (by omega)
  refine sumN_lt (k := i) (V 4) hi (fun q hq => fxP_mono (Nat.le_refl _) (fun a b => fix_round ok hx hB hq a b)) ?_
  have e1 : bt (yR V w x (i + 1)) i = true := by rw [yR_y hw, bt_flip (by omega) (by omega), if_pos rfl, hb]; rfl
  have e2 := fix_steps ok hx hB hi e1 hu' (V 4 - (i + 1)) (by omega)
  rw [show i + 1 + (V 4 - (i + 1)) = V 4 by omega] at e2
  rw [fxP_y (y := RD V w x) ⟨e2, hu'⟩, fxP_n (fun z => ?_)]
  · exact Nat.zero_lt_one
  · rw [yR_late (by omega) i (Nat.le_refl _)] at hb
    rw [hb] at z
    exact absurd z.1 (by decide)
/-- without a hit: at B only while nobody has moved -/
theorem nohit {V w : Nat → Nat} (ok : VOK V) {x : Int32} {B : Nat} (hB : Bd V w x B) (h : ¬ hit V w x B) : ∀ i, i ≤ V 4 → cnV V (yR V w x i) = B → ∀ k, k < i → wouldB V w k (yR V w x k) = false
  | 0, _, _ => fun k hk => absurd hk (Nat.not_lt_zero k)
  | i + 1, hi, hc => by
    have e : wouldB V w i (yR V w x i) = false := by
      cases hw : wouldB V w i (yR V w x i)
      · rfl
      · cases hb : bt (yR V w x i) i
        · exact absurd ⟨i, by omega, hw, hb, hc⟩ h
        · have h1 := cn_dn ok (by omega) hw hb
          have h2 := hB i (by omega)
          omega
    have hc' : cnV V (yR V w x i) = B := by
      rw [← hc, yR_n (by rw [e]; decide)]
    intro k hk
    rcases Nat.lt_or_ge k i with q | q
    · exact nohit ok hB h i (by omega) hc' k q
    · obtain rfl : k = i := by omega
      exact e
theorem step2 {V w : Nat → Nat} (ok : VOK V) {x : Int32} (hx : BI x (V 4)) {B : Nat} (hB : Bd V w x B) (h1 : ¬ quiet V w x) (h2 : ¬ quiet V w (RD V w x)) :
    ∃ B', B' ≤ B ∧ Bd V w (RD V w x) B' ∧ B' + (V 4 - fxN V w (RD V w (RD V w x)) B') < B + (V 4 - fxN V w x B) := by
  have h4 := ok.2.2.2.2.1
  have hR : BI (RD V w x) (V 4) := BI.round (w := w) hx h4 (V 4) (Nat.le_refl _)
  have hBR := hB.next ok hx
  have m1 : fxN V w x B ≤ fxN V w (RD V w x) B := sumN_mon2 (V 4) (fun q hq => fxP_mono (Nat.le_refl _) (fun a b => fix_round ok hx hB hq a b))
  have m2 : fxN V w (RD V w x) B ≤ fxN V w (RD V w (RD V w x)) B := sumN_mon2 (V 4) (fun q hq => fxP_mono (Nat.le_refl _) (fun a b => fix_round ok hR hBR hq a b))
  have l2 := fxN_le (V := V) (w := w) (RD V w (RD V w x)) B
  by_cases a : hit V w x B
  · have := hit_new ok hx hB a
    exact ⟨B, Nat.le_refl _, hBR, by omega⟩
  by_cases b : hit V w (RD V w x) B
  · have := hit_new ok hR hBR b
    exact ⟨B, Nat.le_refl _, hBR, by omega⟩
  -- the most falls
  have c0 : cnV V (RD V w x) < B := by
    have : cnV V (RD V w x) ≤ B := hB (V 4) (Nat.le_refl _)
    rcases Nat.lt_or_ge (cnV V (RD V w x)) B with q | q
    · exact q
    · exact absurd (fun i hi => nohit ok hB a (V 4) (Nat.le_refl _) (show cnV V (RD V w x) = B by omega) i hi) h1
  have c1 : Bd V w (RD V w x) (B - 1) := by
    intro i
    induction i with
    | zero => exact fun _ => show cnV V (RD V w x) ≤ B - 1 by omega
    | succ i ih =>
      intro hi
      have ih := ih (by omega)
      by_cases hw : wouldB V w i (yR V w (RD V w x) i) = true
      · cases hb : bt (yR V w (RD V w x) i) i
        · have e := cn_up ok (by omega) hw hb
          have hh := hBR (i + 1) hi
          rcases Nat.lt_or_ge (cnV V (yR V w (RD V w x) (i + 1))) B with q | q
          · omega
          · exact absurd ⟨i, by omega, hw, hb, by omega⟩ b
        · have := cn_dn ok (by omega) hw hb
          omega
      · rw [yR_n hw]
        exact ih
  have m3 : fxN V w (RD V w (RD V w x)) B ≤ fxN V w (RD V w (RD V w x)) (B - 1) := sumN_mon2 (V 4) (fun q hq => fxP_mono (by omega) (fun a _ => a))
  have l3 := fxN_le (V := V) (w := w) (RD V w (RD V w x)) (B - 1)
  exact ⟨B - 1, by omega, c1, by omega⟩
def itR (V w : Nat → Nat) (x : Int32) : Nat → Int32
  | 0 => x
  | n + 1 => itR V w (RD V w x) n
theorem rests {V w : Nat → Nat} (ok : VOK V) : ∀ d x, BI x (V 4) → ∀ B, Bd V w x B → B + (V 4 - fxN V w x B) ≤ d → ∃ j, j ≤ 2 * d + 1 ∧ quiet V w (itR V w x j)
  | 0, x, hx, B, hB, hd => by
    by_cases h1 : quiet V w x
    · exact ⟨0, by omega, h1⟩
    by_cases h2 : quiet V w (RD V w x)
    · exact ⟨1, by omega, h2⟩
    obtain ⟨B', _, _, h⟩ := step2 ok hx hB h1 h2
    omega
  | d + 1, x, hx, B, hB, hd => by
    have h4 := ok.2.2.2.2.1
    have hR : BI (RD V w x) (V 4) := BI.round (w := w) hx h4 (V 4) (Nat.le_refl _)
    by_cases h1 : quiet V w x
    · exact ⟨0, by omega, h1⟩
    by_cases h2 : quiet V w (RD V w x)
    · exact ⟨1, by omega, h2⟩
    obtain ⟨B', _, hB', h⟩ := step2 ok hx hB h1 h2
    obtain ⟨j, hj, hq⟩ := rests ok d (RD V w (RD V w x)) (BI.round (w := w) hR h4 (V 4) (Nat.le_refl _)) B' (hB'.next ok hR) (by omega)
    exact ⟨j + 2, by omega, hq⟩
theorem settles {V w : Nat → Nat} (ok : VOK V) {x : Int32} (hx : BI x (V 4)) : ∃ j, j < 60 ∧ quiet V w (itR V w x j) ∧ ∀ k, k < j → ¬ quiet V w (itR V w x k) := by
  have h4 := ok.2.2.2.2.1
  have hB : Bd V w x (V 4) := fun i _ => cntB_le _ _
  have hl := fxN_le (V := V) (w := w) x (V 4)
  obtain ⟨j, hj, hq⟩ := rests ok (V 4 + V 4) x hx (V 4) hB (by omega)
  exact least 60 ⟨j, by omega, hq⟩
theorem itR_BI {V w : Nat → Nat} (h4 : V 4 ≤ 10) : ∀ n x, BI x (V 4) → BI (itR V w x n) (V 4)
  | 0, _, hx => hx
  | n + 1, _, hx => itR_BI h4 n _ (BI.round (w := w) hx h4 (V 4) (Nat.le_refl _))
theorem itR_s {V w : Nat → Nat} : ∀ n x, itR V w x (n + 1) = RD V w (itR V w x n)
  | 0, _ => rfl
  | n + 1, x => itR_s n (RD V w x)
theorem roundsN_at {V w : Nat → Nat} : ∀ j r i x, j < r → (∀ k, k < j → ¬ quiet V w (itR V w x k)) → quiet V w (itR V w x j) → roundsN V w r i x = some (i + j, itR V w x j)
  | 0, r + 1, i, x, _, _, hq => by
    unfold roundsN
    have hq : quiet V w x := hq
    rw [if_pos ((quiet_2 (V 4)).mpr hq)]
    rfl
  | j + 1, r + 1, i, x, hj, hn, hq => by
    have h0 : ¬ quiet V w x := hn 0 (by omega)
    unfold roundsN
    rw [if_neg (fun z => h0 ((quiet_2 (V 4)).mp z)), roundsN_at j r (i + 1) (RD V w x) (by omega) (fun k hk => hn (k + 1) (by omega)) hq]
    congr 2
    omega
