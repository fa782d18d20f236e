theorem nsub_toInt {a b : Nat} (ha : a < 2 ^ 30) (hb : b < 2 ^ 30) : (nI a - nI b).toInt = (a : Int) - (b : Int) := by
  rw [Int32.toInt_sub, nI_toInt (by omega), nI_toInt (by omega)]
  exact Int.bmod_eq_of_le (by omega) (by omega)
theorem nsub_le {a b a' b' : Nat} (ha : a < 2 ^ 30) (hb : b < 2 ^ 30) (ha' : a' < 2 ^ 30) (hb' : b' < 2 ^ 30) : (nI a - nI b ≤ nI a' - nI b') ↔ a + b' ≤ a' + b := by
  rw [Int32.le_iff_toInt_le, nsub_toInt ha hb, nsub_toInt ha' hb']
  omega
theorem lkdN_le {V : Nat → Nat} (ok : VOK V) (t : Nat → Nat) {p : Nat} (hp : p < 10) (cc : Nat) : lkdN V t p cc ≤ 216 := by
  have h0 := ok.1
  have := sumN_le (f := fun x => if t x = cc then V (42 + 27 * p + (3 + x)) else 0) (c := 9) (V 0) (fun i hi => by
    have := (ok.2.2.2.2.2.2.1 p hp).2.2.2 i (by omega)
    split <;> omega)
  unfold lkdN
  omega
/-- one out enters, when so many others are in city 1; one in leaves -/
def upQ (V w : Nat → Nat) (p j : Nat) : Prop := lkdN V w p 0 + V 2 * j < lkdN V w p 1 + V 2 * (V 4 - 1 - j)
def dnQ (V w : Nat → Nat) (p j : Nat) : Prop := lkdN V w p 1 + V 2 * (V 4 - 1 - j) < lkdN V w p 0 + V 2 * j
theorem up_mono {V w : Nat → Nat} {p j k : Nat} (h : upQ V w p j) (hk : k ≤ j) : upQ V w p k := by
  have e1 := Nat.mul_le_mul_left (V 2) hk
  have e2 := Nat.mul_le_mul_left (V 2) (show V 4 - 1 - j ≤ V 4 - 1 - k by omega)
  unfold upQ at *
  omega
theorem up_dn {V w : Nat → Nat} {p j k : Nat} (h : upQ V w p j) (hk : k ≤ j) (hd : dnQ V w p k) : False := by
  have := up_mono h hk
  unfold upQ at this
  unfold dnQ at hd
  omega
abbrev cnV (V : Nat → Nat) (x : Int32) : Nat := cntB x (V 4)
theorem cntB_le (x : Int32) : ∀ n, cntB x n ≤ n
  | 0 => Nat.le_refl _
  | n + 1 => by
    have := cntB_le x n
    rw [cntB_s]
    split <;> omega
theorem clr_off {x : Int32} {p : Nat} (hp : p < 32) (hb : bt x p = false) : clrI x p = x := b_ext fun i hi => by
  rw [b_clr x hp hi]
  by_cases z : i = p
  · subst z; rw [hb]; rfl
  · rw [decide_eq_false z, Bool.not_false, Bool.and_true]
theorem would_up {V w : Nat → Nat} (ok : VOK V) {x : Int32} {p : Nat} (hx : BI x (V 4)) (hp : p < V 4) (hb : bt x p = false) : wouldB V w p x = true ↔ upQ V w p (cnV V x) := by
  have h4 := ok.2.2.2.2.1
  have h2 := ok.2.2.1
  have l1 := liv_cc (cc := 1) hx h4 hp (by decide)
  have l0 := liv_cc (cc := 0) hx h4 hp (by decide)
  have e10 : cntB (clrI x p) 10 = cnV V x := by
    rw [clr_off (by omega) hb]
    have := cnt_hi hx (10 - V 4) (by omega)
    rw [show V 4 + (10 - V 4) = 10 by omega] at this
    exact this
  rw [e10] at l1 l0
  rw [if_pos rfl] at l1
  rw [if_neg (by decide)] at l0
  have k0 := lkdN_le ok w (p := p) (by omega) 0
  have k1 := lkdN_le ok w (p := p) (by omega) 1
  have m1 : V 2 * livN V 1 x p ≤ 9 * 10 := Nat.mul_le_mul h2 (by omega)
  have m0 : V 2 * livN V 0 x p ≤ 9 * 10 := Nat.mul_le_mul h2 (by omega)
  unfold wouldB
  rw [hasB_bt x (by omega), hb, show bN false = 0 from rfl, Nat.sub_zero, gain_eq, gain_eq, Bool.not_eq_true', decide_eq_false_iff_not, nsub_le (by omega) (by omega) (by omega) (by omega)]
  unfold upQ
  rw [l1.2, l0.2]
  omega
theorem would_dn {V w : Nat → Nat} (ok : VOK V) {x : Int32} {p : Nat} (hx : BI x (V 4)) (hp : p < V 4) (hb : bt x p = true) : 1 ≤ cnV V x ∧ (wouldB V w p x = true ↔ dnQ V w p (cnV V x - 1)) := by
  have h4 := ok.2.2.2.2.1
  have h2 := ok.2.2.1
  have l1 := liv_cc (cc := 1) hx h4 hp (by decide)
  have l0 := liv_cc (cc := 0) hx h4 hp (by decide)
  have e10 : cntB (clrI x p) 10 + 1 = cnV V x := by
    have e := cnt_clr (x := x) (p := p) (by omega) hb (V 4) (by omega)
    rw [if_pos hp] at e
    have := cnt_hi (hx.clr (p := p) (by omega)) (10 - V 4) (by omega)
    rw [show V 4 + (10 - V 4) = 10 by omega] at this
    unfold cnV
    omega
  rw [if_pos rfl] at l1
  rw [if_neg (by decide)] at l0
  have k0 := lkdN_le ok w (p := p) (by omega) 0
  have k1 := lkdN_le ok w (p := p) (by omega) 1
  have m1 : V 2 * livN V 1 x p ≤ 9 * 10 := Nat.mul_le_mul h2 (by omega)
  have m0 : V 2 * livN V 0 x p ≤ 9 * 10 := Nat.mul_le_mul h2 (by omega)
  refine ⟨by omega, ?_⟩
  unfold wouldB
  rw [hasB_bt x (by omega), hb, show bN true = 1 from rfl, Nat.sub_self, gain_eq, gain_eq, Bool.not_eq_true', decide_eq_false_iff_not, nsub_le (by omega) (by omega) (by omega) (by omega)]
  unfold dnQ
  rw [l1.2, l0.2, show cnV V x - 1 = cntB (clrI x p) 10 by omega]
  omega
theorem bt_flip {x : Int32} {p i : Nat} (hp : p < 31) (hi : i < 32) : bt (x ^^^ nI (2 ^ p)) i = if i = p then !bt x i else bt x i := by
  rw [b_xor, sh_p hp, b_1shl (by omega) hi]
  by_cases z : i = p
  · rw [if_pos z, decide_eq_true z, Bool.xor_true]
  · rw [if_neg z, decide_eq_false z, Bool.xor_false]
theorem cnt_flip {x : Int32} {p : Nat} (hp : p < 31) : ∀ n, n ≤ 32 → cntB (x ^^^ nI (2 ^ p)) n + (if p < n ∧ bt x p = true then 1 else 0) = cntB x n + (if p < n ∧ bt x p = false then 1 else 0)
  | 0, _ => by rw [if_neg (fun z => absurd z.1 (Nat.not_lt_zero _)), if_neg (fun z => absurd z.1 (Nat.not_lt_zero _))]; rfl
  | n + 1, hn => by
    have ih := cnt_flip (x := x) hp n (by omega)
    rw [cntB_s, cntB_s, bt_flip hp (by omega)]
    by_cases z : n = p
    · subst z
      rw [if_neg (by omega), if_neg (by omega)] at ih
      rw [if_pos rfl]
      cases bt x n <;> simp <;> omega
    · rw [if_neg z]
      by_cases y : p < n
      · simp only [y, show p < n + 1 by omega, true_and] at ih ⊢
        omega
      · simp only [y, show ¬ p < n + 1 by omega, false_and, if_false] at ih ⊢
        omega
abbrev yR (V w : Nat → Nat) (x : Int32) (i : Nat) : Int32 := (roundF V w x i).1
theorem yR_y {V w : Nat → Nat} {x : Int32} {i : Nat} (h : wouldB V w i (yR V w x i) = true) : yR V w x (i + 1) = yR V w x i ^^^ nI (2 ^ i) := by
  show (roundF V w x (i + 1)).1 = _
  rw [roundF_succ, if_pos h]
theorem yR_n {V w : Nat → Nat} {x : Int32} {i : Nat} (h : ¬ wouldB V w i (yR V w x i) = true) : yR V w x (i + 1) = yR V w x i := by
  show (roundF V w x (i + 1)).1 = _
  rw [roundF_succ, if_neg h]
theorem yR_far {V w : Nat → Nat} {x : Int32} {i q : Nat} (hi : i < 31) (hq : q < 32) (hne : q ≠ i) : bt (yR V w x (i + 1)) q = bt (yR V w x i) q := by
  by_cases h : wouldB V w i (yR V w x i) = true
  · rw [yR_y h, bt_flip hi hq, if_neg hne]
  · rw [yR_n h]
theorem yR_late {V w : Nat → Nat} {x : Int32} {q : Nat} (hq : q < 31) : ∀ i, i ≤ q → bt (yR V w x i) q = bt x q
  | 0, _ => rfl
  | i + 1, hi => by rw [yR_far (by omega) (by omega) (by omega), yR_late hq i (by omega)]
theorem yR_early {V w : Nat → Nat} {x : Int32} {q : Nat} (hq : q < 31) : ∀ d, q + 1 + d ≤ 31 → bt (yR V w x (q + 1 + d)) q = bt (yR V w x (q + 1)) q
  | 0, _ => rfl
  | d + 1, hd => by rw [← Nat.add_assoc, yR_far (by omega) (by omega) (by omega), yR_early hq d (by omega)]
abbrev RD (V w : Nat → Nat) (x : Int32) : Int32 := yR V w x (V 4)
/-- nobody moves in the round -/
def quiet (V w : Nat → Nat) (x : Int32) : Prop := ∀ i, i < V 4 → wouldB V w i (yR V w x i) = false
theorem quiet_same {V w : Nat → Nat} {x : Int32} (h : quiet V w x) : ∀ i, i ≤ V 4 → yR V w x i = x
  | 0, _ => rfl
  | i + 1, hi => by rw [yR_n (by rw [h i (by omega)]; decide), quiet_same h i (by omega)]
theorem quiet_iff {V w : Nat → Nat} (h4 : V 4 ≤ 10) {x : Int32} : quiet V w x ↔ RD V w x = x := by
  refine ⟨fun h => quiet_same h (V 4) (Nat.le_refl _), fun h i hi => ?_⟩
  cases hw : wouldB V w i (yR V w x i)
  · rfl
  · have e1 : bt (yR V w x (i + 1)) i = !bt x i := by rw [yR_y hw, bt_flip (by omega) (by omega), if_pos rfl, yR_late (by omega) i (Nat.le_refl _)]
    have e2 := yR_early (V := V) (w := w) (x := x) (q := i) (by omega) (V 4 - (i + 1)) (by omega)
    rw [show i + 1 + (V 4 - (i + 1)) = V 4 by omega, e1] at e2
    have e3 : bt (RD V w x) i = bt x i := by rw [h]
    rw [e3] at e2
    revert e2
    generalize bt x i = b2
    cases b2 <;> decide
theorem quiet_2 {V w : Nat → Nat} {x : Int32} : ∀ n, ((roundF V w x n).2 = 0 ↔ ∀ i, i < n → wouldB V w i (yR V w x i) = false)
  | 0 => ⟨fun _ i h => absurd h (Nat.not_lt_zero i), fun _ => rfl⟩
  | n + 1 => by
    have ih := quiet_2 (V := V) (w := w) (x := x) n
    rw [roundF_succ]
    by_cases h : wouldB V w n (yR V w x n) = true
    · rw [if_pos h]
      exact ⟨fun z => absurd (show (1 : Nat) = 0 from z) (by decide), fun z => absurd ((z n (by omega)).symm.trans h) (by decide)⟩
    · rw [if_neg h, ih]
      refine ⟨fun z i hi => ?_, fun z i hi => z i (by omega)⟩
      rcases Nat.lt_or_ge i n with q | q
      · exact z i q
      · obtain rfl : i = n := by omega
        simpa using h
/-- all counts of a round are at most B -/
def Bd (V w : Nat → Nat) (x : Int32) (B : Nat) : Prop := ∀ i, i ≤ V 4 → cnV V (yR V w x i) ≤ B
theorem cn_up {V w : Nat → Nat} (ok : VOK V) {x : Int32} {i : Nat} (hi : i < V 4) (hw : wouldB V w i (yR V w x i) = true) (hb : bt (yR V w x i) i = false) : cnV V (yR V w x (i + 1)) = cnV V (yR V w x i) + 1 := by
  have h4 := ok.2.2.2.2.1
  have := cnt_flip (x := yR V w x i) (p := i) (by omega) (V 4) (by omega)
  rw [if_neg (fun z => by rw [hb] at z; exact absurd z.2 (by decide)), if_pos ⟨hi, hb⟩] at this
  rw [yR_y hw]
  unfold cnV
  omega
theorem cn_dn {V w : Nat → Nat} (ok : VOK V) {x : Int32} {i : Nat} (hi : i < V 4) (hw : wouldB V w i (yR V w x i) = true) (hb : bt (yR V w x i) i = true) : cnV V (yR V w x (i + 1)) + 1 = cnV V (yR V w x i) := by
  have h4 := ok.2.2.2.2.1
  have := cnt_flip (x := yR V w x i) (p := i) (by omega) (V 4) (by omega)
  rw [if_pos ⟨hi, hb⟩, if_neg (fun z => by rw [hb] at z; exact absurd z.2 (by decide))] at this
  rw [yR_y hw]
  unfold cnV
  omega
/-- one who is out behind his turn would not have entered there -/
theorem out_no {V w : Nat → Nat} (ok : VOK V) {x : Int32} (hx : BI x (V 4)) {i : Nat} (hi : i < V 4) (ho : bt (yR V w x (i + 1)) i = false) : ¬ upQ V w i (cnV V (yR V w x (i + 1))) := by
  have h4 := ok.2.2.2.2.1
  have hy : BI (yR V w x i) (V 4) := BI.round (w := w) hx h4 i (by omega)
  by_cases hw : wouldB V w i (yR V w x i) = true
  · have hb : bt (yR V w x i) i = true := by
      rw [yR_y hw, bt_flip (by omega) (by omega), if_pos rfl] at ho
      cases hq : bt (yR V w x i) i
      · rw [hq] at ho; cases ho
      · rfl
    have hd := would_dn (w := w) ok hy hi hb
    have hc := cn_dn ok hi hw hb
    have hdq := hd.2.mp hw
    intro hu
    exact up_dn hu (by omega) hdq
  · rw [yR_n hw] at ho ⊢
    exact fun hu => hw ((would_up ok hy hi ho).mpr hu)
theorem Bd.next {V w : Nat → Nat} (ok : VOK V) {x : Int32} (hx : BI x (V 4)) {B : Nat} (h : Bd V w x B) : Bd V w (RD V w x) B := by
  have h4 := ok.2.2.2.2.1
  have hR := BI.round (w := w) hx h4 (V 4) (Nat.le_refl _)
  intro i
  induction i with
  | zero => exact fun _ => h (V 4) (Nat.le_refl _)
  | succ i ih =>
    intro hi
    have ih := ih (by omega)
    have hz : BI (yR V w (RD V w x) i) (V 4) := BI.round (w := w) hR h4 i (by omega)
    by_cases hw : wouldB V w i (yR V w (RD V w x) i) = true
    · cases hb : bt (yR V w (RD V w x) i) i
      · rw [cn_up ok (by omega) hw hb]
        have hu := (would_up ok hz (by omega) hb).mp hw
        have e1 : bt (yR V w x (i + 1)) i = false := by
          rw [yR_late (by omega) i (Nat.le_refl _)] at hb
          have e2 := yR_early (V := V) (w := w) (x := x) (q := i) (by omega) (V 4 - (i + 1)) (by omega)
          rw [show i + 1 + (V 4 - (i + 1)) = V 4 by omega] at e2
          rw [← e2]
          exact hb
        have hno := out_no ok hx (by omega) e1
        have hB := h (i + 1) (by omega)
        rcases Nat.lt_or_ge (cnV V (yR V w (RD V w x) i)) (cnV V (yR V w x (i + 1))) with q | q
        · omega
        · exact absurd (up_mono hu q) hno
      · have := cn_dn ok (by omega) hw hb
        omega
    · rw [yR_n hw]
      exact ih
