/-- the same in all that lasts of what is told now -/
def AEq (S S1 : MS) : Prop := ∀ j, 1 ≤ j → j ≤ 10 → ∀ i, i < nK j → S1.2.2.1 j i = S.2.2.1 j i
/-- the reference's state with one of its images in the place of what is told now -/
def slA (S : MS) (s : Nat) : MS := (S.1, S.2.1, fun j i => S.2.2.1 j (nK j * s + i), S.2.2.2)
theorem MP.cong {S S1 : MS} (e : AEq S S1) {c : Nat → Nat} {VL WT BK SG GM : Nat → Nat → Nat} (h : MP S c VL WT BK SG GM) : MP S1 c VL WT BK SG GM := by
  obtain ⟨h1, h2, h3, h4, h5, h6⟩ := h
  refine ⟨fun s hs => ?_, fun l hl => ?_, fun l hl => ?_, fun l hl => ?_, fun l hl => ?_, fun l hl => ?_⟩
  · rw [e 5 (by decide) (by decide) s hs]; exact h1 s hs
  · obtain ⟨a, b, d⟩ := h2 l hl
    exact ⟨a, b, fun i hi => by rw [e 6 (by decide) (by decide) _ (show 312 * l + i < 624 by omega)]; exact d i hi⟩
  · obtain ⟨a, d⟩ := h3 l hl
    exact ⟨a, fun i hi => by rw [e 7 (by decide) (by decide) _ (show 24 * l + i < 48 by omega)]; exact d i hi⟩
  · obtain ⟨a, b, d⟩ := h4 l hl
    exact ⟨a, b, fun i hi => by rw [e 8 (by decide) (by decide) _ (show 61 * l + i < 122 by omega)]; exact d i hi⟩
  · obtain ⟨a, b, d⟩ := h5 l hl
    exact ⟨a, b, fun i hi => by rw [e 9 (by decide) (by decide) _ (show 61 * l + i < 122 by omega)]; exact d i hi⟩
  · obtain ⟨a, d⟩ := h6 l hl
    exact ⟨a, fun i hi => by rw [e 10 (by decide) (by decide) _ (show 8 * l + i < 16 by omega)]; exact d i hi⟩
/-- what a land keeps of its best row is right -/
def PLq (D : LD) (V : Nat → Nat) : Prop := D.1 14 = bI (allB false V (2 + 2 * V 1)).isSome ∧ ∀ z, allB false V (2 + 2 * V 1) = some z → D.1 15 = nI ((z + 9999).toNat / 10000) ∧ D.1 16 = Int32.ofInt (10000 * (((z + 9999).toNat / 10000 : Nat) : Int) - z) ∧ ∀ x, x < V 0 → D.2 17 x = nI (frowN V (some z) (2 + 2 * V 1) x)
def PLr (D : LD) (V : Nat → Nat) : Prop := D.1 13 = bI true → PLq D V
def BLz (W : TD) : Prop := ∀ i, i < 2 → ∃ z13 z14, (W.2.2.1 i).1 13 = bI z13 ∧ (W.2.2.1 i).1 14 = bI z14
/-- THE CLASS'S ROWS AND THE REFERENCE'S SAY THE SAME -/
def RELq (c : Nat → Nat) (VL WT BK SG GM : Nat → Nat → Nat) (len : Nat) (W : TD) (S : MS) : Prop :=
  TR W c VL WT BK SG GM ∧ MP S c VL WT BK SG GM ∧ (∀ i, i < c 0 → PLr (W.2.2.1 i) (VL i)) ∧ BLz W ∧ (len ≤ 600 ∧ W.1 1 = nI len ∧ S.2.2.1 2 0 = nI len) ∧ (W.1 2 = S.2.2.1 3 0 ∧ W.1 3 = S.2.2.1 4 0) ∧ ∀ k, k < 600 → S.2.2.1 1 k &&& nI 255 = W.2.1 0 k ∧ ∃ b, b < 256 ∧ W.2.1 0 k = nI b
def REL (W : TD) (S : MS) : Prop := ∃ c VL WT BK SG GM len, RELq c VL WT BK SG GM len W S
theorem REL.cong {W : TD} {S S1 : MS} (e : AEq S S1) (h : REL W S) : REL W S1 := by
  obtain ⟨c, VL, WT, BK, SG, GM, len, h1, h2, h3, h4, ⟨h5, h6, h7⟩, ⟨h8, h9⟩, h10⟩ := h
  refine ⟨c, VL, WT, BK, SG, GM, len, h1, h2.cong e, h3, h4, ⟨h5, h6, ?_⟩, ⟨?_, ?_⟩, fun k hk => ?_⟩
  · rw [e 2 (by decide) (by decide) 0 (by decide)]; exact h7
  · rw [e 3 (by decide) (by decide) 0 (by decide)]; exact h8
  · rw [e 4 (by decide) (by decide) 0 (by decide)]; exact h9
  · rw [e 1 (by decide) (by decide) k hk]; exact h10 k hk
theorem LVr.same {D E : LD} {V : Nat → Nat} (q : esLq D E) (h : LVr E V) : LVr D V := by
  obtain ⟨q0, q1, q2, q3, q4, q9, q13, q14, q15, q16, a5, a6, a7, a8, a10, a11, a12, a17⟩ := q
  obtain ⟨ok, ⟨f0, f1, f2, f3, f4, f9⟩, hP, hB, hT⟩ := h
  have h4 := ok.2.2.2.2.1
  have h5 := ok.2.2.2.2.2.1
  refine ⟨ok, ⟨q0.trans f0, q1.trans f1, q2.trans f2, q3.trans f3, q4.trans f4, q9.trans f9⟩, fun p hp => ?_, fun b hb => ?_, fun x hx => ?_⟩
  · obtain ⟨p1, p2, p3, p4⟩ := hP p hp
    exact ⟨(a5 p (by omega)).trans p1, (a6 p (by omega)).trans p2, (a7 p (by omega)).trans p3, fun x hx => (a8 _ (by omega)).trans (p4 x hx)⟩
  · obtain ⟨b1, b2⟩ := hB b hb
    exact ⟨(a10 b (by omega)).trans b1, (a11 b (by omega)).trans b2⟩
  · exact (a12 x hx).trans (hT x hx)
theorem PLr.same {D E : LD} {V : Nat → Nat} (hH : V 0 ≤ 24) (q : esLq D E) (h : PLr E V) : PLr D V := by
  obtain ⟨q0, q1, q2, q3, q4, q9, q13, q14, q15, q16, a5, a6, a7, a8, a10, a11, a12, a17⟩ := q
  intro hz
  obtain ⟨b1, b2⟩ := h (q13.symm.trans hz)
  refine ⟨q14.trans b1, fun z hz => ?_⟩
  obtain ⟨c1, c2, c3⟩ := b2 z hz
  exact ⟨q15.trans c1, q16.trans c2, fun x hx => (a17 x (by omega)).trans (c3 x hx)⟩
theorem BVr.same {D E : LD} {bk : Nat → Nat} (q : esBq D E) (h : BVr E bk) : BVr D bk := by
  obtain ⟨q0, q1, a2, a3, a4⟩ := q
  obtain ⟨ok, h0, h1, hS, hW⟩ := h
  have h30 := ok.1
  have htot := ok.tot
  refine ⟨ok, q0.trans h0, q1.trans h1, fun k hk => ?_, fun t ht => (a4 t (by omega)).trans (hW t ht)⟩
  obtain ⟨s1, s2⟩ := hS k hk
  exact ⟨(a2 k (by omega)).trans s1, (a3 k (by omega)).trans s2⟩
theorem SVr.same {D E : LD} {sg : Nat → Nat} (q : esSq D E) (h : SVr E sg) : SVr D sg := by
  obtain ⟨q0, a1, a2, a3⟩ := q
  obtain ⟨ok, h0, hS⟩ := h
  have h20 := ok.1
  refine ⟨ok, q0.trans h0, fun k hk => ?_⟩
  obtain ⟨s1, s2, s3⟩ := hS k hk
  exact ⟨(a1 k (by omega)).trans s1, (a2 k (by omega)).trans s2, (a3 k (by omega)).trans s3⟩
theorem REL.copy {W E : TD} {S : MS} (q : CPd 2 W E) (h : REL E S) : REL W S := by
  obtain ⟨c, VL, WT, BK, SG, GM, len, ⟨n1, n2, n3, n4, n5, n6⟩, h2, h3, h4, ⟨h5, h6, h7⟩, ⟨h8, h9⟩, h10⟩ := h
  obtain ⟨⟨i1, i2, i3⟩, qT, qN, qA⟩ := q
  have c2 : ∀ s, s < 5 → c s ≤ 2 := fun s hs => (n1 s hs).2
  have c0 := c2 0 (by decide)
  have c1 := c2 1 (by decide)
  have c2' := c2 2 (by decide)
  have c3 := c2 3 (by decide)
  have c4 := c2 4 (by decide)
  refine ⟨c, VL, WT, BK, SG, GM, len, ⟨fun s hs => ?_, fun i hi => ?_, fun i hi x hx => ?_, fun i hi => ?_, fun i hi => ?_, fun i hi x hx => ?_⟩, h2, fun i hi => ?_, fun i hi => ?_, ⟨h5, i1.trans h6, h7⟩, ⟨i2.trans h8, i3.trans h9⟩, fun k hk => ?_⟩
  · rw [qN s hs]; exact n1 s hs
  · exact (n2 i hi).same (qA i (by omega)).1
  · rw [(qA i (by omega)).2.1 x hx]; exact n3 i hi x hx
  · exact (n4 i hi).same (qA i (by omega)).2.2.1
  · exact (n5 i hi).same (qA i (by omega)).2.2.2.1
  · rw [(qA i (by omega)).2.2.2.2 x hx]; exact n6 i hi x hx
  · exact (h3 i hi).same (by have := (n2 i hi).1.1; omega) (qA i (by omega)).1
  · obtain ⟨z1, z2, e1, e2⟩ := h4 i hi
    obtain ⟨q0, q1, q2, q3, q4, q9, q13, q14, q15⟩ := (qA i hi).1
    exact ⟨z1, z2, q13.trans e1, q14.trans e2⟩
  · rw [qT k hk]; exact h10 k hk
theorem AEq.of {S S1 : MS} (h : ∀ j, 1 ≤ j → j ≤ 10 → S1.2.2.1 j = S.2.2.1 j) : AEq S S1 := fun j a b i _ => by rw [h j a b]
theorem Keep.aeq {S S1 : MS} (h : Keep S S1) : AEq S S1 := AEq.of (fun j _ b => h j (.inl b))
/-- an image taken: its place holds what is told now, the others are as they were -/
theorem img_slot {S S1 : MS} {k : Nat} (h : ∀ j, 1 ≤ j → j ≤ 10 → S1.2.2.1 j = cpyF (S.2.2.1 j) (nK j) 0 (k + 1)) : AEq S (slA S1 (k + 1)) ∧ AEq S S1 ∧ ∀ j, j ≠ k → AEq (slA S (j + 1)) (slA S1 (j + 1)) := by
  have e : ∀ j, 1 ≤ j → j ≤ 10 → ∀ i, S1.2.2.1 j i = if nK j * (k + 1) ≤ i ∧ i < nK j * (k + 1) + nK j then S.2.2.1 j (nK j * 0 + (i - nK j * (k + 1))) else S.2.2.1 j i := fun j a b i => by rw [h j a b]; rfl
  refine ⟨fun j a b i hi => ?_, fun j a b i hi => ?_, fun q hq j a b i hi => ?_⟩
  · show S1.2.2.1 j (nK j * (k + 1) + i) = _
    rw [e j a b, if_pos ⟨by omega, by omega⟩, Nat.mul_zero, Nat.zero_add, Nat.add_sub_cancel_left]
  · rw [e j a b, if_neg (fun z => by have := Nat.mul_le_mul_left (nK j) (show 1 ≤ k + 1 by omega); omega)]
  · show S1.2.2.1 j (nK j * (q + 1) + i) = S.2.2.1 j (nK j * (q + 1) + i)
    rw [e j a b, if_neg (fun z => ?_)]
    rcases Nat.lt_or_ge q k with w | w
    · have := Nat.mul_le_mul_left (nK j) (show q + 1 + 1 ≤ k + 1 by omega)
      rw [Nat.mul_succ] at this
      omega
    · have := Nat.mul_le_mul_left (nK j) (show k + 1 + 1 ≤ q + 1 by omega)
      rw [Nat.mul_succ] at this
      omega
/-- an image taken back -/
theorem again_slot {S S1 : MS} {k : Nat} (h : ∀ j, 1 ≤ j → j ≤ 10 → S1.2.2.1 j = cpyF (S.2.2.1 j) (nK j) (k + 1) 0) : AEq (slA S (k + 1)) S1 ∧ ∀ q, AEq (slA S (q + 1)) (slA S1 (q + 1)) := by
  have e : ∀ j, 1 ≤ j → j ≤ 10 → ∀ i, S1.2.2.1 j i = if nK j * 0 ≤ i ∧ i < nK j * 0 + nK j then S.2.2.1 j (nK j * (k + 1) + (i - nK j * 0)) else S.2.2.1 j i := fun j a b i => by rw [h j a b]; rfl
  refine ⟨fun j a b i hi => ?_, fun q j a b i hi => ?_⟩
  · show _ = S.2.2.1 j (nK j * (k + 1) + i)
    rw [e j a b, if_pos ⟨by omega, by omega⟩, Nat.mul_zero, Nat.sub_zero]
  · show S1.2.2.1 j (nK j * (q + 1) + i) = S.2.2.1 j (nK j * (q + 1) + i)
    rw [e j a b, if_neg (fun z => by have := Nat.mul_le_mul_left (nK j) (show 1 ≤ q + 1 by omega); omega)]
