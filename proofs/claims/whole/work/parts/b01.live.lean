theorem PlAt.kept {h h1 : AH} {r x y : Nat} {Z : PC} (A : PlAt h r x y Z) (e : ∀ i, r ≤ i → i < r + 6 → h1 i = h i) : PlAt h1 r x y Z := ⟨A.ge, A.xy, (e _ (by omega) (by omega)).trans A.o, (e _ (by have := A.xy; omega) (by have := A.xy; omega)).trans A.be, (e _ (by have := A.xy; omega) (by have := A.xy; omega)).trans A.th, (e _ (by omega) (by omega)).trans A.rk, (e _ (by omega) (by omega)).trans A.po, (e _ (by omega) (by omega)).trans A.fe⟩
theorem SCR.kept {h h1 : AH} {n : Nat} (A : SCR h n) (e : ∀ i, n + 78 ≤ i → i < n + 82 → h1 i = h i) : SCR h1 n := by
  obtain ⟨⟨f1, a1⟩, ⟨f2, a2⟩, ⟨f3, a3⟩, ⟨f4, a4⟩⟩ := A
  exact ⟨⟨f1, (e _ (by omega) (by omega)).trans a1⟩, ⟨f2, (e _ (by omega) (by omega)).trans a2⟩, ⟨f3, (e _ (by omega) (by omega)).trans a3⟩, ⟨f4, (e _ (by omega) (by omega)).trans a4⟩⟩
theorem IMG.kept {h h1 : AH} {n m nx : Nat} {f : Nat → Option Nat} {IE : Nat → TD} (A : IMG h n m f IE nx) (e0 : h1 (n + 47) = h (n + 47)) (e : ∀ i, m + 23 ≤ i → h1 i = h i) : IMG h1 n m f IE nx := by
  obtain ⟨a1, a2, a3⟩ := A
  refine ⟨e0.trans a1, fun k p hk hp => ?_, a3⟩
  obtain ⟨b1, b2, b3, b4⟩ := a2 k p hk hp
  exact ⟨b1.kept (fun i h1 h2 => e i (by omega)), b2, b3, b4⟩
theorem MAt.full {h : AH} {m : Nat} {S : MS} (A : MAt h m S) {i : Nat} (h1 : m ≤ i) (h2 : i < m + 23) : h i ≠ none := by
  obtain ⟨j, rfl⟩ : ∃ j, i = m + j := ⟨i - m, by omega⟩
  have hj : j < 23 := by omega
  have z : ∀ (q : Nat) (e : va_E), h q = some e → h q ≠ none := fun q e he y => by rw [he] at y; cases y
  obtain ⟨-, c0, c1, c2, c3, c4, c5, c6, c7, c8, c9, c10, c11, c12, c13, c14, c15, c16, c17, c18, c19, c20, c21, c22⟩ := A
  rcases (show j = 0 ∨ j = 1 ∨ j = 2 ∨ j = 3 ∨ j = 4 ∨ j = 5 ∨ j = 6 ∨ j = 7 ∨ j = 8 ∨ j = 9 ∨ j = 10 ∨ j = 11 ∨ j = 12 ∨ j = 13 ∨ j = 14 ∨ j = 15 ∨ j = 16 ∨ j = 17 ∨ j = 18 ∨ j = 19 ∨ j = 20 ∨ j = 21 ∨ j = 22 by omega) with rfl | rfl | rfl | rfl | rfl | rfl | rfl | rfl | rfl | rfl | rfl | rfl | rfl | rfl | rfl | rfl | rfl | rfl | rfl | rfl | rfl | rfl | rfl
  · exact z _ _ c0
  · exact z _ _ c1
  · exact z _ _ c2
  · exact z _ _ c3
  · exact z _ _ c4
  · exact z _ _ c5
  · exact z _ _ c6
  · exact z _ _ c7
  · exact z _ _ c8
  · exact z _ _ c9
  · exact z _ _ c10
  · exact z _ _ c11
  · exact z _ _ c12
  · exact z _ _ c13
  · exact z _ _ c14
  · exact z _ _ c15
  · exact z _ _ c16
  · exact z _ _ c17
  · exact z _ _ c18
  · exact z _ _ c19
  · exact z _ _ c20
  · exact z _ _ c21
  · exact z _ _ c22
theorem IMG.nx {h : AH} {n m nx nx1 : Nat} {f : Nat → Option Nat} {IE : Nat → TD} (A : IMG h n m f IE nx) (x : Nx h nx1) : IMG h n m f IE nx1 := by
  obtain ⟨a1, a2, a3⟩ := A
  refine ⟨a1, fun k p hk hp => ?_, a3⟩
  obtain ⟨b1, b2, b3, b4⟩ := a2 k p hk hp
  have := (x.2 (p + 45) (by have := b1.ge; omega)).mp (b1.full (by omega) (by omega))
  exact ⟨b1, b2, b3, by omega⟩
theorem MAt.kept {h h1 : AH} {m : Nat} {S : MS} (A : MAt h m S) (e : ∀ i, m ≤ i → i < m + 23 → h1 i = h i) : MAt h1 m S := by
  obtain ⟨c, c0, c1, c2, c3, c4, c5, c6, c7, c8, c9, c10, c11, c12, c13, c14, c15, c16, c17, c18, c19, c20, c21, c22⟩ := A
  exact ⟨c, (e _ (by omega) (by omega)).trans c0, (e _ (by omega) (by omega)).trans c1, (e _ (by omega) (by omega)).trans c2, (e _ (by omega) (by omega)).trans c3, (e _ (by omega) (by omega)).trans c4, (e _ (by omega) (by omega)).trans c5, (e _ (by omega) (by omega)).trans c6, (e _ (by omega) (by omega)).trans c7, (e _ (by omega) (by omega)).trans c8, (e _ (by omega) (by omega)).trans c9, (e _ (by omega) (by omega)).trans c10, (e _ (by omega) (by omega)).trans c11, (e _ (by omega) (by omega)).trans c12, (e _ (by omega) (by omega)).trans c13, (e _ (by omega) (by omega)).trans c14, (e _ (by omega) (by omega)).trans c15, (e _ (by omega) (by omega)).trans c16, (e _ (by omega) (by omega)).trans c17, (e _ (by omega) (by omega)).trans c18, (e _ (by omega) (by omega)).trans c19, (e _ (by omega) (by omega)).trans c20, (e _ (by omega) (by omega)).trans c21, (e _ (by omega) (by omega)).trans c22⟩
/-- the class's cells, its images, what was there before -/
def CIv (L : Nat) (xs : Nat → Int32) (h : AH) (n m nx : Nat) (W : TD) (f : Nat → Option Nat) (IE : Nat → TD) : Prop :=
  (h n = some (.inr (7, nfs n)) ∧ 1000 ≤ n ∧ m = n + 82) ∧ TdAt h (n + 1) W ∧ IMG h n m f IE nx ∧ (∃ Z, RdAt h (n + 48) Z ∧ ∃ z, Z.2.2.2.1.1 14 = bI z) ∧ (∃ x y Z, PlAt h (n + 72) x y Z) ∧ SCR h n ∧ OLD h ∧ h 5 = some (.inl (0, L, .inl xs))
section CIV
variable {L : Nat} {xs : Nat → Int32} {h h1 : AH} {n m nx : Nat} {W : TD} {f : Nat → Option Nat} {IE : Nat → TD}
theorem CIv.cls (A : CIv L xs h n m nx W f IE) {W1 : TD} (e : ∀ i, (i < n + 1 ∨ (n + 47 ≤ i ∧ i < n + 48) ∨ n + 82 ≤ i) → h1 i = h i) (hT : TdAt h1 (n + 1) W1) (hR : ∃ Z, RdAt h1 (n + 48) Z ∧ ∃ z, Z.2.2.2.1.1 14 = bI z) (hP : ∃ x y Z, PlAt h1 (n + 72) x y Z) (hS : SCR h1 n) : CIv L xs h1 n m nx W1 f IE := by
  obtain ⟨⟨a1, a2, a3⟩, -, a5, -, -, -, a11, a12⟩ := A
  refine ⟨⟨(e n (by omega)).trans a1, a2, a3⟩, hT, a5.kept (e _ (by omega)) (fun i hi => e i (by omega)), hR, hP, hS, a11.kept (fun i hi => e i (by omega)), (e 5 (by omega)).trans a12⟩
theorem CIv.tw (A : CIv L xs h n m nx W f IE) {W1 : TD} (M : TW h h1 (n + 1) W1) : CIv L xs h1 n m nx W1 f IE := by
  have A0 := A
  obtain ⟨⟨a1, a2, a3⟩, -, a5, ⟨Z, hR, hz⟩, ⟨x, y, Zp, hP⟩, hS, -⟩ := A
  exact A0.cls (fun i hi => M.2 i (by omega)) M.1 ⟨Z, hR.kept (fun i _ _ => M.2 i (by omega)), hz⟩ ⟨x, y, Zp, hP.kept (fun i _ _ => M.2 i (by omega))⟩ (hS.kept (fun i _ _ => M.2 i (by omega)))
theorem CIv.sx (A : CIv L xs h n m nx W f IE) (hs : SCR h1 n) (e : ∀ i, (i < n + 78 ∨ n + 82 ≤ i) → h1 i = h i) : CIv L xs h1 n m nx W f IE := by
  have A0 := A
  obtain ⟨⟨a1, a2, a3⟩, hT, a5, ⟨Z, hR, hz⟩, ⟨x, y, Zp, hP⟩, -, -⟩ := A
  exact A0.cls (fun i hi => e i (by omega)) (hT.kept (fun i _ _ => e i (by omega))) ⟨Z, hR.kept (fun i _ _ => e i (by omega)), hz⟩ ⟨x, y, Zp, hP.kept (fun i _ _ => e i (by omega))⟩ hs
theorem CIv.mod (A : CIv L xs h n m nx W f IE) {S : MS} (hM : MW h h1 m S) : CIv L xs h1 n m nx W f IE := by
  obtain ⟨⟨a1, a2, a3⟩, hT, a5, ⟨Z, hR, hz⟩, ⟨x, y, Zp, hP⟩, hS, a11, a12⟩ := A
  have e : ∀ i, (i < m ∨ m + 22 < i) → h1 i = h i := hM.2
  refine ⟨⟨(e n (by omega)).trans a1, a2, a3⟩, hT.kept (fun i _ _ => e i (by omega)), a5.kept (e _ (by omega)) (fun i hi => e i (by omega)), ⟨Z, hR.kept (fun i _ _ => e i (by omega)), hz⟩, ⟨x, y, Zp, hP.kept (fun i _ _ => e i (by omega))⟩, hS.kept (fun i _ _ => e i (by omega)), a11.kept (fun i hi => e i (by omega)), (e 5 (by omega)).trans a12⟩
end CIV
/-- class and reference say the same, in their images too -/
def RIv (W : TD) (S : MS) (f : Nat → Option Nat) (IE : Nat → TD) : Prop :=
  REL W S ∧ (∀ k, k < 3 → S.2.2.1 55 k = bI (f k).isSome) ∧ (∀ k p, k < 3 → f k = some p → REL (IE k) (slA S (k + 1))) ∧ ∀ i, i < 2400 → vp_nar .byte (S.2.2.1 1 i) = S.2.2.1 1 i
theorem RIv.keep {W W1 : TD} {S S1 : MS} {f : Nat → Option Nat} {IE : Nat → TD} (A : RIv W S f IE) (hW : REL W S → REL W1 S1) (h55 : S1.2.2.1 55 = S.2.2.1 55) (hsl : ∀ q, AEq (slA S (q + 1)) (slA S1 (q + 1))) (h1 : ∀ i, i < 2400 → vp_nar .byte (S1.2.2.1 1 i) = S1.2.2.1 1 i) : RIv W1 S1 f IE :=
  ⟨hW A.1, fun k hk => by rw [h55]; exact A.2.1 k hk, fun k p hk hp => (A.2.2.1 k p hk hp).cong (hsl k), h1⟩
theorem RIv.tk {W : TD} {S S1 : MS} {f : Nat → Option Nat} {IE : Nat → TD} (A : RIv W S f IE) (hk : Keep S S1) : RIv W S1 f IE :=
  A.keep (fun h => h.cong hk.aeq) (hk 55 (.inr rfl)) (fun q => AEq.of (fun j _ b => by
    show (fun i => S1.2.2.1 j (nK j * (q + 1) + i)) = fun i => S.2.2.1 j (nK j * (q + 1) + i)
    rw [hk j (.inl b)])) (fun i hi => by rw [hk 1 (.inl (by decide))]; exact A.2.2.2 i hi)
def LIv (L : Nat) (xs : Nat → Int32) (h : AH) (n m nx : Nat) (W : TD) (S : MS) (f : Nat → Option Nat) (IE : Nat → TD) : Prop := CIv L xs h n m nx W f IE ∧ MAt h m S ∧ RIv W S f IE
theorem LIv.tk {L : Nat} {xs : Nat → Int32} {h1 h2 : AH} {n m nx : Nat} {W : TD} {S S1 : MS} {f : Nat → Option Nat} {IE : Nat → TD} (hC : CIv L xs h1 n m nx W f IE) (hR : RIv W S f IE) (hM : MW h1 h2 m S1) (hk : Keep S S1) : LIv L xs h2 n m nx W S1 f IE := ⟨hC.mod hM, hM.1, hR.tk hk⟩
/-- the lands' kept best rows may change -/
theorem REL.pls {c : Nat → Nat} {VL WT BK SG GM : Nat → Nat → Nat} {len : Nat} {W W1 : TD} {S : MS} (h : RELq c VL WT BK SG GM len W S) (hp : PLS c VL W W1) : REL W1 S := by
  obtain ⟨⟨n1, n2, n3, n4, n5, n6⟩, h2, h3, h4, ⟨h5, h6, h7⟩, ⟨h8, h9⟩, h10⟩ := h
  obtain ⟨p1, p2, p3, p4⟩ := hp
  refine ⟨c, VL, WT, BK, SG, GM, len, ⟨fun s hs => by rw [p2]; exact n1 s hs, fun i hi => ?_, fun i hi x hx => by rw [p2]; exact n3 i hi x hx, fun i hi => by rw [p3]; exact n4 i hi, fun i hi => by rw [p3]; exact n5 i hi, fun i hi x hx => by rw [p2]; exact n6 i hi x hx⟩, h2, fun i hi => ?_, fun i hi => ?_, ⟨h5, by rw [p1]; exact h6, h7⟩, ⟨by rw [p1]; exact h8, by rw [p1]; exact h9⟩, fun k hk => by rw [p2]; exact h10 k hk⟩
  · rcases p4 i with e | ⟨-, e1, e2, -, -⟩
    · rw [e]; exact n2 i hi
    · obtain ⟨v1, ⟨f0, f1, f2, f3, f4, f9⟩, v3, v4, v5⟩ := n2 i hi
      exact ⟨v1, ⟨(e1 0 (by decide)).trans f0, (e1 1 (by decide)).trans f1, (e1 2 (by decide)).trans f2, (e1 3 (by decide)).trans f3, (e1 4 (by decide)).trans f4, (e1 9 (by decide)).trans f9⟩, fun p hp => by rw [e2 5 (by decide), e2 6 (by decide), e2 7 (by decide), e2 8 (by decide)]; exact v3 p hp, fun b hb => by rw [e2 10 (by decide), e2 11 (by decide)]; exact v4 b hb, fun x hx => by rw [e2 12 (by decide)]; exact v5 x hx⟩
  · rcases p4 i with e | ⟨-, -, -, -, e4⟩
    · rw [e]; exact h3 i hi
    · exact fun _ => e4
  · rcases p4 i with e | ⟨hi', -, -, e3, e4⟩
    · rw [e]; exact h4 i hi
    · exact ⟨true, _, e3, e4.1⟩
theorem CIv.bx {L : Nat} {xs : Nat → Int32} {h h1 : AH} {n m nx : Nat} {W W1 : TD} {f : Nat → Option Nat} {IE : Nat → TD} (A : CIv L xs h n m nx W f IE) {x y : Nat} {Z : PC} (hT : TdAt h1 (n + 1) W1) (hP : PlAt h1 (n + 72) x y Z) (e : ∀ i, (i < n + 1 ∨ n + 47 ≤ i) → (i < n + 72 ∨ n + 78 ≤ i) → h1 i = h i) : CIv L xs h1 n m nx W1 f IE := by
  have A0 := A
  obtain ⟨⟨a1, a2, a3⟩, -, a5, ⟨Zr, hR, hz⟩, -, hS, -⟩ := A
  exact A0.cls (fun i hi => e i (by omega) (by omega)) hT ⟨Zr, hR.kept (fun i _ _ => e i (by omega) (by omega)), hz⟩ ⟨x, y, Z, hP⟩ (hS.kept (fun i _ _ => e i (by omega) (by omega)))
theorem CIv.tx {L : Nat} {xs : Nat → Int32} {h h1 : AH} {n m nx : Nat} {W W1 : TD} {f : Nat → Option Nat} {IE : Nat → TD} (A : CIv L xs h n m nx W f IE) {B : Nat → Nat} {len : Nat} {c : Nat → Nat} {sa xa : Int32} {v : Option Value} {Z1 : RC} (hX : TXC h h1 n B len c W sa xa v W1 Z1) : CIv L xs h1 n m nx W1 f IE := by
  have A0 := A
  obtain ⟨⟨a1, a2, a3⟩, -, a5, -, ⟨x, y, Zp, hP⟩, hS, -⟩ := A
  obtain ⟨x1, x2, x3, x4, -⟩ := hX
  exact A0.cls (fun i hi => x4 i (by omega)) x1 ⟨Z1, x2, x3⟩ ⟨x, y, Zp, hP.kept (fun i _ _ => x4 i (by omega))⟩ (hS.kept (fun i _ _ => x4 i (by omega)))
