theorem wb_tb (n : Nat) : (lN n).toBitVec = BitVec.ofNat 64 n := rfl
theorem wb_inj {a b : Int64} (h : a.toBitVec = b.toBitVec) : a = b := Int64.toBitVec_inj.mp h
theorem wb_tn {n : Nat} (h : n < 2 ^ 64) : (lN n).toBitVec.toNat = n := by rw [wb_tb, BitVec.toNat_ofNat, Nat.mod_eq_of_lt h]
theorem wb_c : ∀ k, k < 64 → ((nI k).toInt64 &&& 63) = lN k := by decide +kernel
theorem wb_sm : ∀ k, k < 64 → (BitVec.ofNat 64 k).smod 64 = BitVec.ofNat 64 k := by decide +kernel
theorem wb_shl (n : Nat) {k : Nat} (hk : k < 64) : lN n <<< ((nI k).toInt64 &&& 63) = lN (n * 2 ^ k) := by
  rw [wb_c k hk]
  apply wb_inj
  rw [Int64.toBitVec_shiftLeft, wb_tb, wb_tb, wb_tb, wb_sm k hk]
  apply BitVec.eq_of_toNat_eq
  rw [BitVec.shiftLeft_eq', BitVec.toNat_shiftLeft, BitVec.toNat_ofNat, BitVec.toNat_ofNat, BitVec.toNat_ofNat, Nat.mod_eq_of_lt (show k < 2 ^ 64 by omega), Nat.shiftLeft_eq, Nat.mul_mod, Nat.mod_mod, ← Nat.mul_mod]
theorem u_tn {n : Nat} (h : n < 2 ^ 64) : (UInt64.ofNat n).toNat = n := Nat.mod_eq_of_lt h
theorem g_or {k p a b : Nat} (hp : 2 ^ k = p) (ha : a < p) (h : b * p + a < 2 ^ 64) : lN (b * p) ||| lN a = lN (b * p + a) := by
  subst hp
  have h1 : b * 2 ^ k ||| a = b * 2 ^ k + a := by rw [← Nat.shiftLeft_eq, Nat.shiftLeft_add_eq_or_of_lt ha]
  have h3 : UInt64.ofNat (b * 2 ^ k) ||| UInt64.ofNat a = UInt64.ofNat (b * 2 ^ k + a) := UInt64.toNat_inj.mp (by rw [UInt64.toNat_or, u_tn (by omega), u_tn (by omega), u_tn h, h1])
  have h2 := congrArg UInt64.toInt64 h3
  exact h2
def pkF (f : Nat → Nat) : Nat → Nat
  | 0 => 0
  | i + 1 => 256 * pkF f i + f i
theorem pkF_lt {f : Nat → Nat} : ∀ i, (∀ j, j < i → f j < 256) → pkF f i < 256 ^ i
  | 0, _ => by show 0 < 1; omega
  | i + 1, h => by
    have ih := pkF_lt i (fun j hj => h j (by omega))
    have := h i (by omega)
    show 256 * pkF f i + f i < 256 ^ (i + 1)
    rw [Nat.pow_succ]
    omega
theorem pkF_inj {f g : Nat → Nat} : ∀ i j, (∀ k, k < i → 1 ≤ f k ∧ f k < 256) → (∀ k, k < j → 1 ≤ g k ∧ g k < 256) → pkF f i = pkF g j → i = j ∧ ∀ k, k < i → f k = g k
  | 0, 0, _, _, _ => ⟨rfl, fun k hk => absurd hk (Nat.not_lt_zero k)⟩
  | 0, j + 1, _, h2, e => by
    have := h2 j (by omega)
    have e : 0 = 256 * pkF g j + g j := e
    omega
  | i + 1, 0, h1, _, e => by
    have := h1 i (by omega)
    have e : 256 * pkF f i + f i = 0 := e
    omega
  | i + 1, j + 1, h1, h2, e => by
    have q1 := h1 i (by omega)
    have q2 := h2 j (by omega)
    have e : 256 * pkF f i + f i = 256 * pkF g j + g j := e
    obtain ⟨r1, r2⟩ := pkF_inj i j (fun k hk => h1 k (by omega)) (fun k hk => h2 k (by omega)) (by omega)
    subst r1
    refine ⟨rfl, fun k hk => ?_⟩
    by_cases q : k = i
    · subst q; omega
    · exact r2 k (by omega)
theorem pkF_congr {f g : Nat → Nat} : ∀ i, (∀ k, k < i → f k = g k) → pkF f i = pkF g i
  | 0, _ => rfl
  | i + 1, h => by
    show 256 * pkF f i + f i = 256 * pkF g i + g i
    rw [pkF_congr i (fun k hk => h k (by omega)), h i (by omega)]
theorem wdI_pk {B : Nat → Nat} {q : Nat} : ∀ i, i ≤ 8 → (∀ j, j < i → B (q + j) < 128) → wdI B q i = lN (pkF (fun j => B (q + j)) i) ∧ (i < 8 → pkF (fun j => B (q + j)) i < 2 ^ 55)
  | 0, _, _ => ⟨rfl, fun _ => by show 0 < _; omega⟩
  | i + 1, h, hb => by
    obtain ⟨e, -⟩ := wdI_pk i (by omega) (fun j hj => hb j (by omega))
    have hlt := pkF_lt (f := fun j => B (q + j)) i (fun j hj => by have := hb j (by omega); omega)
    have hp : 256 ^ i ≤ 256 ^ 7 := Nat.pow_le_pow_right (by decide) (by omega)
    have hbi := hb i (by omega)
    refine ⟨?_, fun h8 => ?_⟩
    · show (wdI B q i <<< ((nI 8).toInt64 &&& 63)) ||| (nI (B (q + i))).toInt64 = lN (256 * pkF (fun j => B (q + j)) i + B (q + i))
      rw [e, wb_shl _ (by decide), nI_l (by omega), show 2 ^ 8 = 256 from rfl, g_or (k := 8) (p := 256) rfl (by omega) (by omega), Nat.mul_comm]
    · have hl2 := pkF_lt (f := fun j => B (q + j)) (i + 1) (fun j hj => by have := hb j (by omega); omega)
      have hp2 : 256 ^ (i + 1) ≤ 256 ^ 7 := Nat.pow_le_pow_right (by decide) (by omega)
      have q1 : pkF (fun j => B (q + j)) (i + 1) = 256 * pkF (fun j => B (q + j)) i + B (q + i) := rfl
      by_cases q2 : i = 6
      · subst q2
        have q3 : pkF (fun j => B (q + j)) 6 = 256 * pkF (fun j => B (q + j)) 5 + B (q + 5) := rfl
        have q4 : pkF (fun j => B (q + j)) 5 = 256 * pkF (fun j => B (q + j)) 4 + B (q + 4) := rfl
        have q5 : pkF (fun j => B (q + j)) 4 = 256 * pkF (fun j => B (q + j)) 3 + B (q + 3) := rfl
        have q6 : pkF (fun j => B (q + j)) 3 = 256 * pkF (fun j => B (q + j)) 2 + B (q + 2) := rfl
        have q7 : pkF (fun j => B (q + j)) 2 = 256 * pkF (fun j => B (q + j)) 1 + B (q + 1) := rfl
        have q8 : pkF (fun j => B (q + j)) 1 = B (q + 0) := by show 256 * 0 + B (q + 0) = _; omega
        have b0 := hb 0 (by omega)
        have b1 := hb 1 (by omega)
        have b2 := hb 2 (by omega)
        have b3 := hb 3 (by omega)
        have b4 := hb 4 (by omega)
        have b5 := hb 5 (by omega)
        omega
      · have hp3 : 256 ^ (i + 1) ≤ 256 ^ 6 := Nat.pow_le_pow_right (by decide) (by omega)
        omega
/-- a token that is this word -/
def isW (B : Nat → Nat) (n q : Nat) (l : List Nat) : Bool := decide (kN B n q = 2) && (decide (eN B n q - q = l.length) && (List.range l.length).all (fun i => B (q + i) == l.getD i 0))
/-- the word as the reference hands it on -/
def wdW (B : Nat → Nat) (n q : Nat) : Int64 := if kN B n q = 2 then wdL B n q else 0
theorem kN_2 {B : Nat → Nat} {n q : Nat} (h : kN B n q = 2) : q < n ∧ inN 97 122 (B q) = true ∧ eN B n q = rnN 97 122 B n q ∧ ∀ i, q ≤ i → i < eN B n q → 97 ≤ B i ∧ B i ≤ 122 := by
  have h1 := kN_lt (B := B) (n := n) (q := q) (by omega)
  unfold kN at h
  rw [if_neg (by omega)] at h
  split at h
  · rename_i c1
    have e : eN B n q = rnN 97 122 B n q := by
      unfold eN
      rw [if_neg (by omega), if_pos c1]
    refine ⟨h1, c1, e, fun i h2 h3 => ?_⟩
    have := rnN_in (lo := 97) (hi := 122) (B := B) (n := n) (n - q) q (by omega) i h2 (by omega)
    simp only [inN, Bool.and_eq_true, decide_eq_true_eq] at this
    exact this
  · split at h
    · split at h <;> omega
    · split at h <;> omega
def okW (l : List Nat) : Prop := 1 ≤ l.length ∧ l.length ≤ 8 ∧ ∀ k, k < l.length → 97 ≤ l.getD k 0 ∧ l.getD k 0 ≤ 122
theorem wdW_eq {B : Nat → Nat} {n q : Nat} {l : List Nat} (hl : okW l) : wdW B n q = lN (pkF (fun k => l.getD k 0) l.length) ↔ isW B n q l = true := by
  obtain ⟨l1, l2, l3⟩ := hl
  have hg := pkF_lt (f := fun k => l.getD k 0) l.length (fun k hk => by have := l3 k hk; omega)
  have hgp : 256 ^ l.length ≤ 256 ^ 8 := Nat.pow_le_pow_right (by decide) l2
  have hpos : pkF (fun k => l.getD k 0) l.length ≠ 0 := by
    obtain ⟨j, hj⟩ : ∃ j, l.length = j + 1 := ⟨l.length - 1, by omega⟩
    rw [hj]
    show 256 * pkF (fun k => l.getD k 0) j + l.getD j 0 ≠ 0
    have := l3 j (by omega)
    omega
  have h0 : (0 : Int64) ≠ lN (pkF (fun k => l.getD k 0) l.length) := fun z => by
    have e := congrArg (fun w : Int64 => w.toBitVec.toNat) z
    have e : (0 : Int64).toBitVec.toNat = (lN (pkF (fun k => l.getD k 0) l.length)).toBitVec.toNat := e
    rw [wb_tn (by omega)] at e
    have : (0 : Int64).toBitVec.toNat = 0 := rfl
    omega
  unfold wdW isW
  by_cases hk : kN B n q = 2
  · rw [if_pos hk, decide_eq_true hk, Bool.true_and]
    obtain ⟨k1, k2, k3, k4⟩ := kN_2 hk
    unfold wdL
    by_cases h8 : eN B n q - q ≤ 8
    · rw [if_pos h8, (wdI_pk _ h8 (fun j hj => by have := k4 (q + j) (by omega) (by omega); omega)).1]
      have hf := pkF_lt (f := fun j => B (q + j)) (eN B n q - q) (fun j hj => by have := k4 (q + j) (by omega) (by omega); omega)
      have hfp : 256 ^ (eN B n q - q) ≤ 256 ^ 8 := Nat.pow_le_pow_right (by decide) h8
      constructor
      · intro e
        have e2 : (lN (pkF (fun j => B (q + j)) (eN B n q - q))).toBitVec.toNat = (lN (pkF (fun k => l.getD k 0) l.length)).toBitVec.toNat := by rw [e]
        rw [wb_tn (by omega), wb_tn (by omega)] at e2
        obtain ⟨r1, r2⟩ := pkF_inj _ _ (fun j hj => by have := k4 (q + j) (by omega) (by omega); omega) (fun j hj => by have := l3 j hj; omega) e2
        rw [decide_eq_true r1, Bool.true_and, List.all_eq_true]
        intro x hx
        rw [List.mem_range] at hx
        have := r2 x (by omega)
        simpa using this
      · intro e
        rw [Bool.and_eq_true, decide_eq_true_eq, List.all_eq_true] at e
        rw [e.1]
        congr 1
        refine pkF_congr _ (fun k hk => ?_)
        have := e.2 k (List.mem_range.mpr hk)
        simpa using this
    · rw [if_neg h8]
      constructor
      · intro e
        exact absurd e h0
      · intro e
        rw [Bool.and_eq_true, decide_eq_true_eq] at e
        omega
  · rw [if_neg hk, decide_eq_false hk, Bool.false_and]
    exact ⟨fun e => absurd e h0, fun e => absurd e (by decide)⟩
abbrev wd_hours : List Nat := [104, 111, 117, 114, 115]
theorem okw_hours : okW wd_hours := by unfold okW; decide +kernel
theorem wc_hours {B : Nat → Nat} {n q : Nat} : wdW B n q = (448546566771 : Int64) ↔ isW B n q wd_hours = true := by
  rw [← wdW_eq okw_hours]
  rw [show (448546566771 : Int64) = lN (pkF (fun k => wd_hours.getD k 0) wd_hours.length) by decide +kernel]
abbrev wd_cross : List Nat := [99, 114, 111, 115, 115]
theorem okw_cross : okW wd_cross := by unfold okW; decide +kernel
theorem wc_cross {B : Nat → Nat} {n q : Nat} : wdW B n q = (427121668979 : Int64) ↔ isW B n q wd_cross = true := by
  rw [← wdW_eq okw_cross]
  rw [show (427121668979 : Int64) = lN (pkF (fun k => wd_cross.getD k 0) wd_cross.length) by decide +kernel]
abbrev wd_crowd : List Nat := [99, 114, 111, 119, 100]
theorem okw_crowd : okW wd_crowd := by unfold okW; decide +kernel
theorem wc_crowd {B : Nat → Nat} {n q : Nat} : wdW B n q = (427121669988 : Int64) ↔ isW B n q wd_crowd = true := by
  rw [← wdW_eq okw_crowd]
  rw [show (427121669988 : Int64) = lN (pkF (fun k => wd_crowd.getD k 0) wd_crowd.length) by decide +kernel]
abbrev wd_walk : List Nat := [119, 97, 108, 107]
theorem okw_walk : okW wd_walk := by unfold okW; decide +kernel
theorem wc_walk {B : Nat → Nat} {n q : Nat} : wdW B n q = (2002873451 : Int64) ↔ isW B n q wd_walk = true := by
  rw [← wdW_eq okw_walk]
  rw [show (2002873451 : Int64) = lN (pkF (fun k => wd_walk.getD k 0) wd_walk.length) by decide +kernel]
abbrev wd_person : List Nat := [112, 101, 114, 115, 111, 110]
theorem okw_person : okW wd_person := by unfold okW; decide +kernel
theorem wc_person {B : Nat → Nat} {n q : Nat} : wdW B n q = (123581014175598 : Int64) ↔ isW B n q wd_person = true := by
  rw [← wdW_eq okw_person]
  rw [show (123581014175598 : Int64) = lN (pkF (fun k => wd_person.getD k 0) wd_person.length) by decide +kernel]
abbrev wd_likes : List Nat := [108, 105, 107, 101, 115]
theorem okw_likes : okW wd_likes := by unfold okW; decide +kernel
theorem wc_likes {B : Nat → Nat} {n q : Nat} : wdW B n q = (465625113971 : Int64) ↔ isW B n q wd_likes = true := by
  rw [← wdW_eq okw_likes]
  rw [show (465625113971 : Int64) = lN (pkF (fun k => wd_likes.getD k 0) wd_likes.length) by decide +kernel]
abbrev wd_bearer : List Nat := [98, 101, 97, 114, 101, 114]
theorem okw_bearer : okW wd_bearer := by unfold okW; decide +kernel
theorem wc_bearer {B : Nat → Nat} {n q : Nat} : wdW B n q = (108187566105970 : Int64) ↔ isW B n q wd_bearer = true := by
  rw [← wdW_eq okw_bearer]
  rw [show (108187566105970 : Int64) = lN (pkF (fun k => wd_bearer.getD k 0) wd_bearer.length) by decide +kernel]
abbrev wd_toll : List Nat := [116, 111, 108, 108]
theorem okw_toll : okW wd_toll := by unfold okW; decide +kernel
theorem wc_toll {B : Nat → Nat} {n q : Nat} : wdW B n q = (1953459308 : Int64) ↔ isW B n q wd_toll = true := by
  rw [← wdW_eq okw_toll]
  rw [show (1953459308 : Int64) = lN (pkF (fun k => wd_toll.getD k 0) wd_toll.length) by decide +kernel]
abbrev wd_night : List Nat := [110, 105, 103, 104, 116]
theorem okw_night : okW wd_night := by unfold okW; decide +kernel
theorem wc_night {B : Nat → Nat} {n q : Nat} : wdW B n q = (474214787188 : Int64) ↔ isW B n q wd_night = true := by
  rw [← wdW_eq okw_night]
  rw [show (474214787188 : Int64) = lN (pkF (fun k => wd_night.getD k 0) wd_night.length) by decide +kernel]
abbrev wd_at : List Nat := [97, 116]
theorem okw_at : okW wd_at := by unfold okW; decide +kernel
theorem wc_at {B : Nat → Nat} {n q : Nat} : wdW B n q = (24948 : Int64) ↔ isW B n q wd_at = true := by
  rw [← wdW_eq okw_at]
  rw [show (24948 : Int64) = lN (pkF (fun k => wd_at.getD k 0) wd_at.length) by decide +kernel]
abbrev wd_saw : List Nat := [115, 97, 119]
theorem okw_saw : okW wd_saw := by unfold okW; decide +kernel
theorem wc_saw {B : Nat → Nat} {n q : Nat} : wdW B n q = (7561591 : Int64) ↔ isW B n q wd_saw = true := by
  rw [← wdW_eq okw_saw]
  rw [show (7561591 : Int64) = lN (pkF (fun k => wd_saw.getD k 0) wd_saw.length) by decide +kernel]
abbrev wd_worth : List Nat := [119, 111, 114, 116, 104]
theorem okw_worth : okW wd_worth := by unfold okW; decide +kernel
theorem wc_worth {B : Nat → Nat} {n q : Nat} : wdW B n q = (512970880104 : Int64) ↔ isW B n q wd_worth = true := by
  rw [← wdW_eq okw_worth]
  rw [show (512970880104 : Int64) = lN (pkF (fun k => wd_worth.getD k 0) wd_worth.length) by decide +kernel]
abbrev wd_dark : List Nat := [100, 97, 114, 107]
theorem okw_dark : okW wd_dark := by unfold okW; decide +kernel
theorem wc_dark {B : Nat → Nat} {n q : Nat} : wdW B n q = (1684107883 : Int64) ↔ isW B n q wd_dark = true := by
  rw [← wdW_eq okw_dark]
  rw [show (1684107883 : Int64) = lN (pkF (fun k => wd_dark.getD k 0) wd_dark.length) by decide +kernel]
abbrev wd_light : List Nat := [108, 105, 103, 104, 116]
theorem okw_light : okW wd_light := by unfold okW; decide +kernel
theorem wc_light {B : Nat → Nat} {n q : Nat} : wdW B n q = (465624852596 : Int64) ↔ isW B n q wd_light = true := by
  rw [← wdW_eq okw_light]
  rw [show (465624852596 : Int64) = lN (pkF (fun k => wd_light.getD k 0) wd_light.length) by decide +kernel]
