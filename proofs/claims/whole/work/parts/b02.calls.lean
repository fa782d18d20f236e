theorem b255 (x : Int32) : ∃ b, b < 256 ∧ x &&& nI 255 = nI b := by
  refine ⟨(x &&& nI 255).toBitVec.toNat, ?_, ?_⟩
  · show (x.toBitVec &&& (nI 255).toBitVec).toNat < 256
    rw [BitVec.toNat_and]
    exact Nat.lt_of_le_of_lt Nat.and_le_right (by decide)
  · apply Int32.toBitVec_inj.mp
    show (x &&& nI 255).toBitVec = BitVec.ofNat 32 _
    apply BitVec.eq_of_toNat_eq
    rw [BitVec.toNat_ofNat, Nat.mod_eq_of_lt (BitVec.isLt _)]
theorem nar8 (x : Int32) : vp_nar .byte (vp_nar .byte x) = vp_nar .byte x := by
  show x.toInt8.toInt32.toInt8.toInt32 = x.toInt8.toInt32
  rw [Int8.toInt8_toInt32]
/-- the class's tape shows the reference's bytes -/
def TPq (g : Nat → Int32) (W : TD) : Prop := ∀ k, k < 600 → g k &&& nI 255 = W.2.1 0 k ∧ ∃ b, b < 256 ∧ W.2.1 0 k = nI b
theorem TPq.step {g : Nat → Int32} {W : TD} (h : TPq g W) (n : Nat) (v : Int32) : TPq (put4 g n v) (apS W n v 4) := by
  intro k hk
  show fup (fup (fup (fup g n (byS v (nI 24))) (n + 1) (byS v (nI 16))) (n + 2) (byS v (nI 8))) (n + 3) (byS v (nI 0)) k &&& nI 255 = fup (fup (fup (fup (W.2.1 0) n (byU v (nI 24))) (n + 1) (byU v (nI 16))) (n + 2) (byU v (nI 8))) (n + 3) (byU v (nI 0)) k ∧ ∃ b, b < 256 ∧ fup (fup (fup (fup (W.2.1 0) n (byU v (nI 24))) (n + 1) (byU v (nI 16))) (n + 2) (byU v (nI 8))) (n + 3) (byU v (nI 0)) k = nI b
  by_cases h3 : k = n + 3
  · rw [h3, fup_eq, fup_eq]
    exact ⟨byt_U v 0 (by omega), b255 _⟩
  rw [fup_ne _ _ h3, fup_ne _ _ h3]
  by_cases h2 : k = n + 2
  · rw [h2, fup_eq, fup_eq]
    exact ⟨byt_U v 8 (by omega), b255 _⟩
  rw [fup_ne _ _ h2, fup_ne _ _ h2]
  by_cases h1 : k = n + 1
  · rw [h1, fup_eq, fup_eq]
    exact ⟨byt_U v 16 (by omega), b255 _⟩
  rw [fup_ne _ _ h1, fup_ne _ _ h1]
  by_cases h0 : k = n
  · rw [h0, fup_eq, fup_eq]
    exact ⟨byt_U v 24 (by omega), b255 _⟩
  rw [fup_ne _ _ h0, fup_ne _ _ h0]
  exact h k hk
/-- only tape and length have changed -/
def ApR (W W1 : TD) (l : Nat) : Prop := W1.1 1 = nI l ∧ W1.1 2 = W.1 2 ∧ W1.1 3 = W.1 3 ∧ (∀ j, 1 ≤ j → W1.2.1 j = W.2.1 j) ∧ W1.2.2 = W.2.2
theorem ApR.tr {W W1 W2 : TD} {l l2 : Nat} (a : ApR W W1 l) (b : ApR W1 W2 l2) : ApR W W2 l2 := ⟨b.1, b.2.1.trans a.2.1, b.2.2.1.trans a.2.2.1, fun j hj => (b.2.2.2.1 j hj).trans (a.2.2.2.1 j hj), b.2.2.2.2.trans a.2.2.2.2⟩
theorem ApR.ap (W : TD) (n : Nat) (v : Int32) : ApR W (apS W n v 4) (n + 4) := ⟨fup_eq W.1 1 (nI (n + 4)), fup_ne W.1 (nI (n + 4)) (show (2 : Nat) ≠ 1 by decide), fup_ne W.1 (nI (n + 4)) (show (3 : Nat) ≠ 1 by decide), fun j hj => fup_ne W.2.1 (apT W n v 4) (show j ≠ 0 by omega), rfl⟩
theorem MP.c5 {S S1 : MS} (e : ∀ j, 5 ≤ j → j ≤ 10 → S1.2.2.1 j = S.2.2.1 j) {c : Nat → Nat} {VL WT BK SG GM : Nat → Nat → Nat} (h : MP S c VL WT BK SG GM) : MP S1 c VL WT BK SG GM := by
  obtain ⟨h1, h2, h3, h4, h5, h6⟩ := h
  refine ⟨fun s hs => ?_, fun l hl => ?_, fun l hl => ?_, fun l hl => ?_, fun l hl => ?_, fun l hl => ?_⟩
  · rw [e 5 (by decide) (by decide)]; exact h1 s hs
  · obtain ⟨a, b, d⟩ := h2 l hl
    exact ⟨a, b, fun i hi => by rw [e 6 (by decide) (by decide)]; exact d i hi⟩
  · obtain ⟨a, d⟩ := h3 l hl
    exact ⟨a, fun i hi => by rw [e 7 (by decide) (by decide)]; exact d i hi⟩
  · obtain ⟨a, b, d⟩ := h4 l hl
    exact ⟨a, b, fun i hi => by rw [e 8 (by decide) (by decide)]; exact d i hi⟩
  · obtain ⟨a, b, d⟩ := h5 l hl
    exact ⟨a, b, fun i hi => by rw [e 9 (by decide) (by decide)]; exact d i hi⟩
  · obtain ⟨a, d⟩ := h6 l hl
    exact ⟨a, fun i hi => by rw [e 10 (by decide) (by decide)]; exact d i hi⟩
theorem RELq.tape {c : Nat → Nat} {VL WT BK SG GM : Nat → Nat → Nat} {len l : Nat} {W W1 : TD} {S S1 : MS} (h : RELq c VL WT BK SG GM len W S) (a : ApR W W1 l) (hl : l ≤ 600) (ht : TPq (S1.2.2.1 1) W1) (h2 : S1.2.2.1 2 0 = nI l) (e : ∀ j, 3 ≤ j → j ≤ 10 → S1.2.2.1 j = S.2.2.1 j) : REL W1 S1 := by
  obtain ⟨⟨n1, n2, n3, n4, n5, n6⟩, m2, h3, h4, ⟨h5, h6, h7⟩, ⟨h8, h9⟩, h10⟩ := h
  obtain ⟨a1, a2, a3, a4, a5⟩ := a
  refine ⟨c, VL, WT, BK, SG, GM, l, ⟨fun s hs => by rw [a4 1 (by decide)]; exact n1 s hs, fun i hi => by rw [a5]; exact n2 i hi, fun i hi x hx => by rw [a4 _ (by omega)]; exact n3 i hi x hx, fun i hi => by rw [a5]; exact n4 i hi, fun i hi => by rw [a5]; exact n5 i hi, fun i hi x hx => by rw [a4 _ (by omega)]; exact n6 i hi x hx⟩, m2.c5 (fun j q1 q2 => e j (by omega) q2), fun i hi => by rw [a5]; exact h3 i hi, fun i hi => ?_, ⟨hl, a1, h2⟩, ⟨?_, ?_⟩, ht⟩
  · obtain ⟨z1, z2, e1, e2⟩ := h4 i hi
    exact ⟨z1, z2, by rw [a5]; exact e1, by rw [a5]; exact e2⟩
  · rw [a2, h8, e 3 (by decide) (by decide)]
  · rw [a3, h9, e 4 (by decide) (by decide)]
theorem put4_far {g : Nat → Int32} {n : Nat} {v : Int32} {i : Nat} (h : n + 4 ≤ i) : put4 g n v i = g i := by
  show fup (fup (fup (fup g n _) (n + 1) _) (n + 2) _) (n + 3) _ i = _
  rw [fup_ne _ _ (by omega), fup_ne _ _ (by omega), fup_ne _ _ (by omega), fup_ne _ _ (by omega)]
theorem put4_nar {g : Nat → Int32} {n : Nat} {v : Int32} (h : ∀ i, i < 2400 → vp_nar .byte (g i) = g i) : ∀ i, i < 2400 → vp_nar .byte (put4 g n v i) = put4 g n v i := by
  intro i hi
  show vp_nar .byte (fup (fup (fup (fup g n (byS v (nI 24))) (n + 1) (byS v (nI 16))) (n + 2) (byS v (nI 8))) (n + 3) (byS v (nI 0)) i) = fup (fup (fup (fup g n (byS v (nI 24))) (n + 1) (byS v (nI 16))) (n + 2) (byS v (nI 8))) (n + 3) (byS v (nI 0)) i
  by_cases h3 : i = n + 3
  · rw [h3, fup_eq]
    exact nar8 _
  rw [fup_ne _ _ h3]
  by_cases h2 : i = n + 2
  · rw [h2, fup_eq]
    exact nar8 _
  rw [fup_ne _ _ h2]
  by_cases h1 : i = n + 1
  · rw [h1, fup_eq]
    exact nar8 _
  rw [fup_ne _ _ h1]
  by_cases h0 : i = n
  · rw [h0, fup_eq]
    exact nar8 _
  rw [fup_ne _ _ h0]
  exact h i hi
theorem feed_R {W : TD} {S S1 : MS} {f : Nat → Option Nat} {IE : Nat → TD} {c : Nat → Nat} {VL WT BK SG GM : Nat → Nat → Nat} {len : Nat} (hR : RIv W S f IE) (hq : RELq c VL WT BK SG GM len W S) (hl : len ≤ 580) {va vb vc vd ve : Int32} (hT : TAP S S1 (put4 (put4 (put4 (put4 (put4 (S.2.2.1 1) len va) (len + 4) vb) (len + 8) vc) (len + 12) vd) (len + 16) ve) (len + 20)) : RIv (apS (apS (apS (apS (apS W len va 4) (len + 4) vb 4) (len + 4 + 4) vc 4) (len + 4 + 4 + 4) vd 4) (len + 4 + 4 + 4 + 4) ve 4) S1 f IE := by
  obtain ⟨t1, t2, t3⟩ := hT
  have hp : TPq (S.2.2.1 1) W := hq.2.2.2.2.2.2
  refine hR.keep (fun _ => ?_) (t3 55 (by decide) (by decide)) (slx (fun j q1 q2 i hi => ?_)) ?_
  · refine hq.tape (l := len + 20) (((((ApR.ap _ _ _).tr (ApR.ap _ _ _)).tr (ApR.ap _ _ _)).tr (ApR.ap _ _ _)).tr (ApR.ap _ _ _)) (by omega) ?_ (by rw [t2, fup_eq]) (fun j q1 q2 => t3 j (by omega) (by omega))
    rw [t1]
    exact ((((hp.step len va).step (len + 4) vb).step (len + 8) vc).step (len + 12) vd).step (len + 16) ve
  · by_cases j1 : j = 1
    · subst j1
      have hi : 600 ≤ i := hi
      rw [t1, put4_far (by omega), put4_far (by omega), put4_far (by omega), put4_far (by omega), put4_far (by omega)]
    · by_cases j2 : j = 2
      · subst j2
        have hi : 1 ≤ i := hi
        rw [t2, fup_ne _ _ (by omega)]
      · rw [t3 j j1 j2]
  · rw [t1]
    exact put4_nar (put4_nar (put4_nar (put4_nar (put4_nar hR.2.2.2))))
theorem end_R {W : TD} {S S1 : MS} {f : Nat → Option Nat} {IE : Nat → TD} {c : Nat → Nat} {VL WT BK SG GM : Nat → Nat → Nat} {len k : Nat} (hR : RIv W S f IE) (hq : RELq c VL WT BK SG GM len W S) (hk : k ≤ len) (hT : S1.2.2.1 = fup S.2.2.1 2 (fup (S.2.2.1 2) 0 (nI k))) : RIv (fup W.1 1 (nI k), W.2) S1 f IE := by
  have e : ∀ j, j ≠ 2 → S1.2.2.1 j = S.2.2.1 j := fun j hj => by rw [hT, fup_ne _ _ hj]
  have e2 : S1.2.2.1 2 = fup (S.2.2.1 2) 0 (nI k) := by rw [hT, fup_eq]
  have hp : TPq (S.2.2.1 1) W := hq.2.2.2.2.2.2
  have hl := hq.2.2.2.2.1.1
  refine hR.keep (fun _ => ?_) (e 55 (by decide)) (slx (fun j q1 q2 i hi => ?_)) (fun i hi => by rw [e 1 (by decide)]; exact hR.2.2.2 i hi)
  · refine hq.tape (l := k) ⟨fup_eq W.1 1 (nI k), fup_ne W.1 (nI k) (show (2 : Nat) ≠ 1 by decide), fup_ne W.1 (nI k) (show (3 : Nat) ≠ 1 by decide), fun j hj => rfl, rfl⟩ (by omega) ?_ (by rw [e2, fup_eq]) (fun j q1 q2 => e j (by omega))
    rw [e 1 (by decide)]
    exact hp
  · by_cases j2 : j = 2
    · subst j2
      have hi : 1 ≤ i := hi
      rw [e2, fup_ne _ _ (by omega)]
    · rw [e j j2]
theorem cpy_nar {S : MS} (h : ∀ i, i < 2400 → vp_nar .byte (S.2.2.1 1 i) = S.2.2.1 1 i) {f t : Nat} (hf : f < 4) {g : Nat → Int32} (hg : g = cpyF (S.2.2.1 1) (nK 1) f t) : ∀ i, i < 2400 → vp_nar .byte (g i) = g i := by
  intro i hi
  subst hg
  show vp_nar .byte (if 600 * t ≤ i ∧ i < 600 * t + 600 then S.2.2.1 1 (600 * f + (i - 600 * t)) else S.2.2.1 1 i) = if 600 * t ≤ i ∧ i < 600 * t + 600 then S.2.2.1 1 (600 * f + (i - 600 * t)) else S.2.2.1 1 i
  split
  · exact h _ (by omega)
  · exact h i hi
theorem image_R {W E1 : TD} {S S1 : MS} {f : Nat → Option Nat} {IE : Nat → TD} {k p : Nat} (hk : k ≤ 2) (hR : RIv W S f IE) (hE : CPd 2 E1 W) (h : ∀ j, 1 ≤ j → j ≤ 10 → S1.2.2.1 j = cpyF (S.2.2.1 j) (nK j) 0 (k + 1)) (h55 : S1.2.2.1 55 = fup (S.2.2.1 55) k (nI 1)) : RIv W S1 (fup f k (some p)) (fup IE k E1) := by
  obtain ⟨s1, s2, s3⟩ := img_slot h
  refine ⟨hR.1.cong s2, fun j hj => ?_, fun j p' hj hp => ?_, cpy_nar hR.2.2.2 (by decide) (h 1 (by decide) (by decide))⟩
  · rw [h55]
    by_cases e : j = k
    · rw [e, fup_eq, fup_eq]
      rfl
    · rw [fup_ne _ _ e, fup_ne _ _ e]
      exact hR.2.1 j hj
  · by_cases e : j = k
    · rw [e, fup_eq]
      exact (hR.1.copy hE).cong s1
    · rw [fup_ne _ _ e] at hp ⊢
      exact (hR.2.2.1 j p' hj hp).cong (s3 j e)
theorem again_R {W W1 : TD} {S S1 : MS} {f : Nat → Option Nat} {IE : Nat → TD} {k p : Nat} (hk : k ≤ 2) (hR : RIv W S f IE) (hf : f k = some p) (hE : CPd 2 W1 (IE k)) (h : ∀ j, 1 ≤ j → j ≤ 10 → S1.2.2.1 j = cpyF (S.2.2.1 j) (nK j) (k + 1) 0) (h55 : S1.2.2.1 55 = S.2.2.1 55) : RIv W1 S1 f IE := by
  obtain ⟨s1, s2⟩ := again_slot h
  exact hR.keep (fun _ => ((hR.2.2.1 k p (by omega) hf).copy hE).cong s1) h55 s2 (cpy_nar hR.2.2.2 (by omega) (h 1 (by decide) (by decide)))
theorem MAt.cell {h : AH} {m : Nat} {S S1 : MS} (A : MAt h m S) (B : MAt h m S1) : S1.2.2.1 55 = S.2.2.1 55 ∧ S1.2.2.1 1 = S.2.2.1 1 := by
  have MA : MW h h m S := ⟨A, fun _ _ => rfl⟩
  have MB : MW h h m S1 := ⟨B, fun _ _ => rfl⟩
  constructor
  · have := MB.a55.symm.trans MA.a55
    injection this with this
    injection this with this
    injection this with _ this
    injection this with _ this
    injection this
  · have := MB.a1.symm.trans MA.a1
    injection this with this
    injection this with this
    injection this with _ this
    injection this with _ this
    injection this
theorem text_R {h h1 h0 h1' : AH} {n m len : Nat} {c : Nat → Nat} {VL WT BK SG GM : Nat → Nat → Nat} {W W1 : TD} {Z1 : RC} {S : MS} {B : Nat → Nat} {sa xa : Int32} {v v' : Option Value} {f : Nat → Option Nat} {IE : Nat → TD} (hR : RIv W S f IE) (hq : RELq c VL WT BK SG GM len W S) (hC : TXC h h1 n B len c W sa xa v W1 Z1) (hM : TXQ h0 m S B len c sa xa v' h1') : v' = v ∧ ∃ S1, MW h0 h1' m S1 ∧ RIv W1 S1 f IE := by
  obtain ⟨e, S1, hMW, hrel, hsl⟩ := text_rel hq hC hM
  have hx : S1.2.2.1 55 = S.2.2.1 55 ∧ S1.2.2.1 1 = S.2.2.1 1 := by
    rcases hM with ⟨-, -, S2, hM2, -, -, -, x⟩ | ⟨of, k, -, hof, -, -, -, S2, hM2, -, -, -, x⟩ | ⟨of, k, -, hof, -, -, -, -, S2, hM2, -, -, -, -, -, x⟩
    · have := hM2.1.cell hMW.1
      exact ⟨this.1.trans (x 55 (by decide) (by decide) (by decide) (.inr rfl)), this.2.trans (x 1 (by decide) (by decide) (by decide) (.inl (by decide)))⟩
    · have := hM2.1.cell hMW.1
      exact ⟨this.1.trans (x 55 (by decide) (by decide) (by decide) (.inr rfl)), this.2.trans (x 1 (by decide) (by decide) (by decide) (.inl (by decide)))⟩
    · have := hM2.1.cell hMW.1
      exact ⟨this.1.trans (x 55 (by decide) (by decide) (by decide) (by decide) (by omega) (.inr rfl)), this.2.trans (x 1 (by decide) (by decide) (by decide) (by decide) (by omega) (.inl (by decide)))⟩
  exact ⟨e, S1, hMW, hR.keep (fun _ => hrel) hx.1 hsl (fun i hi => by rw [hx.2]; exact hR.2.2.2 i hi)⟩
theorem R_eqS {W : TD} {S S1 : MS} {f : Nat → Option Nat} {IE : Nat → TD} (hR : RIv W S f IE) (e : S1.2 = S.2) : RIv W S1 f IE := hR.tk (fun k _ => by rw [e])
/-- the bytes of the tape -/
def tpB (W : TD) (k : Nat) : Nat := if k < 600 then (W.2.1 0 k).toNatClampNeg % 256 else 0
theorem tpB_lt (W : TD) (k : Nat) : tpB W k < 256 := by
  unfold tpB
  split
  · exact Nat.mod_lt _ (by decide)
  · decide
theorem tpB_eq {g : Nat → Int32} {W : TD} (h : TPq g W) {k : Nat} (hk : k < 600) : W.2.1 0 k = nI (tpB W k) ∧ g k &&& nI 255 = nI (tpB W k) := by
  obtain ⟨h1, b, hb, e⟩ := h k hk
  have hB : tpB W k = b := by
    unfold tpB
    rw [if_pos hk, e, nI_clamp (by omega), Nat.mod_eq_of_lt hb]
  rw [hB]
  exact ⟨e, h1.trans e⟩
