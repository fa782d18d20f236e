theorem ci_01 : ∀ C, C < 4 → ∀ s, s < 2 → ¬ ciN (nextN C s 0) = ciN (nextN C s 1) := by decide +kernel
theorem ci_inj (C : Nat) (hC : C < 4) (s : Nat) (y : Nat) (hy : y < 2) (hv : ¬ (2 ≤ s ∧ y = 1)) (x : Nat) (hx : x < 2) (hu : ¬ (2 ≤ s ∧ x = 1)) (e : ciN (nextN C s y) = ciN (nextN C s x)) : nextN C s y = nextN C s x := by
  by_cases q : y = x
  · rw [q]
  · have h2 : s < 2 := by omega
    rcases (show y = 0 ∧ x = 1 ∨ y = 1 ∧ x = 0 by omega) with ⟨rfl, rfl⟩ | ⟨rfl, rfl⟩
    · exact absurd e (ci_01 C hC s h2)
    · exact absurd e.symm (ci_01 C hC s h2)
theorem tO_min {few : Bool} {V : Nat → Nat} {first n s d0 d1 : Nat} : ∀ Y y, y < Y → stpO few V first n s d0 d1 y = bestB few V first (n + 1) s d0 d1 → ∃ t, tO few V first n s d0 d1 Y = some t ∧ ciN t ≤ ciN (nextN (V 1) s y)
  | 0, y, hy, _ => absurd hy (Nat.not_lt_zero _)
  | Y + 1, y, hy, he => by
    by_cases z : y = Y
    · subst z
      simp only [tO]
      rw [if_pos he]
      split
      · exact ⟨_, rfl, Nat.le_refl _⟩
      · split
        · exact ⟨_, rfl, Nat.le_refl _⟩
        · exact ⟨_, rfl, by omega⟩
    · obtain ⟨t, ht, hle⟩ := tO_min Y y (by omega) he
      simp only [tO, ht]
      by_cases c : stpO few V first n s d0 d1 Y = bestB few V first (n + 1) s d0 d1
      · rw [if_pos c]
        by_cases q : ciN (nextN (V 1) s Y) < ciN t
        · rw [if_pos q]
          exact ⟨_, rfl, by omega⟩
        · rw [if_neg q]
          exact ⟨_, rfl, hle⟩
      · rw [if_neg c]
        exact ⟨_, rfl, hle⟩
theorem stpO_le {V : Nat → Nat} {first n s d0 d1 y : Nat} {a : Int} (hy : y < 2) (h : stpO false V first n s d0 d1 y = some a) : ∃ b, bestB false V first (n + 1) s d0 d1 = some b ∧ a ≤ b := by
  rw [← stpM_2]
  show ∃ b, maxO (maxO none (stpO false V first n s d0 d1 0)) (stpO false V first n s d0 d1 1) = some b ∧ a ≤ b
  rcases (show y = 0 ∨ y = 1 by omega) with rfl | rfl
  · exact maxO_l (show maxO none (stpO false V first n s d0 d1 0) = some a from h)
  · exact maxO_r h
/-- the greedy walk -/
def gW (V : Nat → Nat) (first k : Nat) : Nat := (walkS false V first k).1
theorem gW_inv {V : Nat → Nat} {first : Nat} {m : Int} (h4 : 4 ≤ V 0) (hm : bestF false V first = some m) : ∀ k, k ≤ V 0 - 1 → (walkS false V first k).2.1 = dW (gW V first) 0 k ∧ (walkS false V first k).2.2 = dW (gW V first) 1 k ∧ WsB (V 1) (gW V first) k ∧ ∃ b, bestB false V first (V 0 - 1 - k) (gW V first k) (dW (gW V first) 0 k) (dW (gW V first) 1 k) = some b ∧ zW V (gW V first) k + b = m
  | 0, _ => by
    refine ⟨(dW_0 (gW V first) 0).symm, (dW_0 (gW V first) 1).symm, fun i hi => absurd hi (Nat.not_lt_zero _), m, ?_, Int.zero_add m⟩
    rw [dW_0, dW_0]
    exact hm
  | k + 1, hk => by
    obtain ⟨i1, i2, i3, b, i4, i5⟩ := gW_inv h4 hm k (by omega)
    rw [show V 0 - 1 - k = (V 0 - 2 - k) + 1 by omega] at i4
    obtain ⟨t, ht⟩ := tO_2 i4
    obtain ⟨y, hy, ey, es⟩ := tO_some ht
    have e1 : gW V first (k + 1) = t := by
      show (tO false V first (V 0 - 2 - k) (gW V first k) (walkS false V first k).2.1 (walkS false V first k).2.2 2).getD 0 = t
      rw [i1, i2, ht]
      rfl
    have e2 : (walkS false V first (k + 1)).2.1 = (walkS false V first k).2.1 + moN (gW V first (k + 1)) 0 := rfl
    have e3 : (walkS false V first (k + 1)).2.2 = (walkS false V first k).2.2 + moN (gW V first (k + 1)) 1 := rfl
    rw [i4] at es
    unfold stpO at es
    by_cases q : 2 ≤ gW V first k ∧ y = 1
    · rw [if_pos q] at es
      cases es
    · rw [if_neg q] at es
      obtain ⟨b', hb', eb⟩ := addO_some es
      refine ⟨by rw [e2, i1, dW_s], by rw [e3, i2, dW_s], fun i hi => ?_, b', ?_, ?_⟩
      · by_cases z : i = k
        · rw [z, e1]
          exact goes_y.mpr ⟨y, hy, q, ey.symm⟩
        · exact i3 i (by omega)
      · rw [dW_s, dW_s, e1, show V 0 - 1 - (k + 1) = V 0 - 2 - k by omega, ey]
        exact hb'
      · show zW V (gW V first) k + gainsZ false V (gW V first k) (gW V first (k + 1)) (k + 1) + b' = m
        rw [e1, ey]
        rw [show V 0 - 1 - (V 0 - 2 - k) = k + 1 by omega] at eb
        omega
theorem gW_CW {V : Nat → Nat} {first : Nat} {m : Int} (h4 : 4 ≤ V 0) (hm : bestF false V first = some m) : CW V (gW V first) ∧ ZW V (gW V first) = m := by
  obtain ⟨-, -, i3, b, i4, i5⟩ := gW_inv h4 hm (V 0 - 1) (Nat.le_refl _)
  rw [show V 0 - 1 - (V 0 - 1) = 0 by omega] at i4
  simp only [bestB] at i4
  split at i4
  · rename_i q
    cases i4
    exact ⟨⟨i3, q.1, q.2⟩, i5⟩
  · cases i4
theorem CW_Pt {V w : Nat → Nat} (hw : CW V w) : ∀ n k, k + n = V 0 - 1 → Pt false V (w 0) n (w k) (dW w 0 k) (dW w 1 k) (ZW V w - zW V w k)
  | 0, k, hk => by
    have hk : k = V 0 - 1 := by omega
    subst hk
    exact ⟨hw.2.1, hw.2.2, by unfold ZW; omega⟩
  | n + 1, k, hk => by
    obtain ⟨y, hy, hv, hn⟩ := goes_y.mp (hw.1 k (by omega))
    refine ⟨y, hy, hv, ZW V w - zW V w (k + 1), ?_, ?_⟩
    · rw [hn]
      exact CW_Pt hw n (k + 1) (by omega)
    · rw [hn, show V 0 - 1 - n = k + 1 by omega]
      show _ = ZW V w - (zW V w k + gainsZ false V (w k) (w (k + 1)) (k + 1)) + _
      omega
theorem gW_LX {V : Nat → Nat} {first : Nat} {m : Int} (ok : VOK V) (hf : first < 2 + 2 * V 1) (hm : bestF false V first = some m) {w : Nat → Nat} (hw : CW V w) (w0 : w 0 = first) (hz : ZW V w = m) : LXq (rowW false V first) (fun k => ciN (w k)) (V 0) := by
  have hC := ok.2.1
  have h4 := ok.1.1
  intro k hk he
  have hlt : ∀ j, j ≤ V 0 - 1 → w j < 2 + 2 * V 1 := by
    intro j
    induction j with
    | zero => exact fun _ => by rw [w0]; exact hf
    | succ j ih =>
      intro hj
      obtain ⟨y, hy, hv, hn⟩ := goes_y.mp (hw.1 j (by omega))
      rw [← hn]
      exact nextN_lt (ih (by omega))
  have same : ∀ j, j < k → gW V first j = w j := by
    intro j
    induction j with
    | zero => exact fun _ => w0.symm
    | succ j ih =>
      intro hj
      have e := ih (by omega)
      have ec : ciN (gW V first (j + 1)) = ciN (w (j + 1)) := he (j + 1) hj
      obtain ⟨-, -, i3, -⟩ := gW_inv h4 hm (j + 1) (by omega)
      obtain ⟨y, hy, hv, hn⟩ := goes_y.mp (hw.1 j (by omega))
      obtain ⟨x, hx, hu, hn2⟩ := goes_y.mp (i3 j (by omega))
      rw [e] at hu hn2
      have hl := hlt j (by omega)
      rw [← hn, ← hn2] at ec ⊢
      exact ci_inj (V 1) (by omega) (w j) x hx hu y hy hv ec
  cases k with
  | zero =>
    show ciN first ≤ ciN (w 0)
    rw [w0]
    exact Nat.le_refl _
  | succ k =>
    obtain ⟨i1, i2, i3, b, i4, i5⟩ := gW_inv h4 hm k (by omega)
    have eg : ∀ i, i ≤ k → gW V first i = w i := fun i hi => same i (by omega)
    have ek := same k (by omega)
    obtain ⟨y, hy, hv, hn⟩ := goes_y.mp (hw.1 k (by omega))
    have hP := CW_Pt hw (V 0 - 2 - k) (k + 1) (by omega)
    rw [w0, ← hn, dW_s, dW_s, ← hn] at hP
    obtain ⟨b2, hb2, hle⟩ := (bestB_Pt _ _ _ _).2 _ hP
    rw [show V 0 - 1 - k = (V 0 - 2 - k) + 1 by omega, ek, dW_c 0 k eg, dW_c 1 k eg] at i4
    rw [zW_c k eg] at i5
    have hs : stpO false V first (V 0 - 2 - k) (w k) (dW w 0 k) (dW w 1 k) y = some (b2 + gainsZ false V (w k) (w (k + 1)) (k + 1)) := by
      unfold stpO
      rw [if_neg hv, hb2, show V 0 - 1 - (V 0 - 2 - k) = k + 1 by omega, hn]
      rfl
    obtain ⟨b3, hb3, hle3⟩ := stpO_le hy hs
    have e5 : zW V w (k + 1) = zW V w k + gainsZ false V (w k) (w (k + 1)) (k + 1) := rfl
    have e6 : b3 = b := by
      have := hb3.symm.trans i4
      cases this
      rfl
    have e7 : b2 + gainsZ false V (w k) (w (k + 1)) (k + 1) = b := by omega
    obtain ⟨t, ht, hc⟩ := tO_min 2 y hy (hs.trans (by rw [i4, e7]))
    show ciN ((tO false V first (V 0 - 2 - k) (gW V first k) (walkS false V first k).2.1 (walkS false V first k).2.2 2).getD 0) ≤ ciN (w (k + 1))
    rw [i1, i2, dW_c 0 k eg, dW_c 1 k eg, ek, ht, ← hn]
    exact hc
theorem frow_inv {V : Nat → Nat} {m : Int} (ok : VOK V) : ∀ n, n ≤ 2 + 2 * V 1 → (∀ w, CW V w → w 0 < n → ZW V w = m → bestF false V (w 0) = some m → LXq (frowN V (some m) n) (fun k => ciN (w k)) (V 0)) ∧ ((∀ s, s < n → ¬ bestF false V s = some m) ∨ ∃ w, CW V w ∧ w 0 < n ∧ ZW V w = m ∧ ∀ x, frowN V (some m) n x = ciN (w x))
  | 0, _ => ⟨fun w _ h => absurd h (Nat.not_lt_zero _), .inl (fun s h => absurd h (Nat.not_lt_zero _))⟩
  | n + 1, hn => by
    obtain ⟨i1, i2⟩ := frow_inv ok n (by omega)
    have e : frowN V (some m) (n + 1) = frowF V (some m) n (frowN V (some m) n) := rfl
    by_cases hb : bestF false V n = some m
    · have hg := gW_CW ok.1.1 hb
      have own : ∀ w, CW V w → w 0 = n → ZW V w = m → LXq (rowW false V n) (fun k => ciN (w k)) (V 0) := fun w h1 h2 h3 => gW_LX ok (by omega) hb h1 h2 h3
      by_cases hs : soonB (rowW false V n) (frowN V (some m) n) (V 0) = true
      · have e2 : frowN V (some m) (n + 1) = rowW false V n := by
          rw [e]
          unfold frowF
          rw [if_pos hb, if_pos hs]
        rw [e2]
        refine ⟨fun w h1 h2 h3 h4 => ?_, .inr ⟨gW V n, hg.1, Nat.lt_succ_self n, hg.2, fun x => rfl⟩⟩
        by_cases z : w 0 = n
        · exact own w h1 z h3
        · exact (soon_t hs).tr (i1 w h1 (by omega) h3 h4)
      · have e2 : frowN V (some m) (n + 1) = frowN V (some m) n := by
          rw [e]
          unfold frowF
          rw [if_pos hb, if_neg hs]
        rw [e2]
        refine ⟨fun w h1 h2 h3 h4 => ?_, ?_⟩
        · by_cases z : w 0 = n
          · exact (soon_f hs).tr (own w h1 z h3)
          · exact i1 w h1 (by omega) h3 h4
        · rcases i2 with q | ⟨w, h1, h2, h3, h4⟩
          · exfalso
            have e3 : frowN V (some m) n = fun _ => 3 := by
              have key : ∀ k, k ≤ n → frowN V (some m) k = fun _ => 3 := by
                intro k
                induction k with
                | zero => exact fun _ => rfl
                | succ k ih =>
                  intro hk
                  show frowF V (some m) k (frowN V (some m) k) = _
                  unfold frowF
                  rw [if_neg (q k (by omega))]
                  exact ih (by omega)
              exact key n (Nat.le_refl _)
            rw [e3] at hs
            have h0 := soon_f hs 0 (by have := ok.1.1; omega) (fun j hj => absurd hj (Nat.not_lt_zero _))
            have h1 : rowW false V n 0 ≤ 2 := ciN_le _
            omega
          · exact .inr ⟨w, h1, by omega, h3, h4⟩
    · have e2 : frowN V (some m) (n + 1) = frowN V (some m) n := by
        rw [e]
        unfold frowF
        rw [if_neg hb]
      rw [e2]
      refine ⟨fun w h1 h2 h3 h4 => ?_, ?_⟩
      · by_cases z : w 0 = n
        · exact absurd (by rw [← z]; exact h4) hb
        · exact i1 w h1 (by omega) h3 h4
      · rcases i2 with q | ⟨w, h1, h2, h3, h4⟩
        · exact .inl (fun s hs => by
            by_cases z : s = n
            · rw [z]; exact hb
            · exact q s (by omega))
        · exact .inr ⟨w, h1, by omega, h3, h4⟩
theorem mul_gap {u a b r s : Int} (h0 : 0 ≤ s) (h2 : r < u) (hu : 0 ≤ u) (h : u * a - r ≤ u * b - s) : a ≤ b := by
  by_cases q : a ≤ b
  · exact q
  · exfalso
    have h3 : u * (b + 1) ≤ u * a := Int.mul_le_mul_of_nonneg_left (by omega) hu
    rw [Int.mul_add, Int.mul_one] at h3
    omega
/-- THE PLANNER'S GREATEST SCORE IS THE REFERENCE'S BEST -/
theorem plan_pure {V : Nat → Nat} (ok : VOK V) {x : Int64} (hx : MX (fun z => ∃ first, first < 2 + 2 * V 1 ∧ CK V first z) x) : (x = NTH ∧ allB false V (2 + 2 * V 1) = none) ∨ ∃ v f w : Nat, v ≤ 2160 ∧ f ≤ 4752 ∧ w < 3 ^ V 0 ∧ x = iL (((3 ^ V 0 : Nat) : Int) * (4753 * (v : Int) - (f : Int)) - (w : Int)) ∧ (-(2 ^ 62) ≤ ((3 ^ V 0 : Nat) : Int) * (4753 * (v : Int) - (f : Int)) - (w : Int) ∧ ((3 ^ V 0 : Nat) : Int) * (4753 * (v : Int) - (f : Int)) - (w : Int) < 2 ^ 62) ∧ allB false V (2 + 2 * V 1) = some (10000 * (v : Int) - (f : Int)) ∧ ∀ k, k < V 0 → frowN V (some (10000 * (v : Int) - (f : Int))) (2 + 2 * V 1) k = w / 3 ^ (V 0 - 1 - k) % 3 := by
  have h4 := ok.1.1
  obtain ⟨a1, a2⟩ := allB_Cl (few := false) (V := V) (2 + 2 * V 1)
  rcases hx with ⟨h1, h2⟩ | ⟨z, rfl, ⟨first, hf, hc⟩, hb, hmax⟩
  · refine .inl ⟨h1, ?_⟩
    cases e : allB false V (2 + 2 * V 1) with
    | none => rfl
    | some m =>
      obtain ⟨s, hs, hcl⟩ := a1 m e
      obtain ⟨w, w0, hw, -⟩ := Cl_W.mp hcl
      exact absurd ⟨s, hs, CK_W.mpr ⟨w, w0, hw, rfl⟩⟩ (h2 (SWz V w))
  · obtain ⟨w, w0, hw, rfl⟩ := CK_W.mp hc
    right
    rw [SW_lf h4] at hb ⊢
    have hLF : ∀ w', CW V w' → w' 0 < 2 + 2 * V 1 → ZW V w' ≤ ZW V w ∧ (ZW V w' = ZW V w → RW0 V w ≤ RW0 V w') := by
      intro w' h1 h2
      have h3 := hmax _ ⟨_, h2, CK_W.mpr ⟨w', rfl, h1, rfl⟩⟩
      rw [SW_lf h4, SW_lf h4] at h3
      have l1 := LW0_le ok w
      have l2 := LW0_le ok w'
      have f1 := FW0_le ok w
      have f2 := FW0_le ok w'
      have r1 := RW0_lt V w'
      have h5 := mul_gap (by omega) (by omega) (by omega) h3
      rw [ZW_lf, ZW_lf]
      refine ⟨by omega, fun e => ?_⟩
      have e1 : LW0 V w' = LW0 V w := by omega
      have e2 : FW0 V w' = FW0 V w := by omega
      rw [e1, e2] at h3
      omega
    have hm : allB false V (2 + 2 * V 1) = some (ZW V w) := by
      obtain ⟨m, e1, e2⟩ := a2 first (ZW V w) hf (Cl_W.mpr ⟨w, w0, hw, rfl⟩)
      obtain ⟨s, hs, hcl⟩ := a1 m e1
      obtain ⟨w', w0', hw', e3⟩ := Cl_W.mp hcl
      have h3 := (hLF w' hw' (by rw [w0']; exact hs)).1
      rw [e1]
      congr 1
      omega
    have hbF : ∀ w', CW V w' → w' 0 < 2 + 2 * V 1 → ZW V w' = ZW V w → bestF false V (w' 0) = some (ZW V w) := by
      intro w' h1 h2 h3
      obtain ⟨b, hb1, hb2⟩ := (bestB_Pt _ _ _ _).2 _ ((Cl_Pt _).mp (Cl_W.mpr ⟨w', rfl, h1, rfl⟩))
      have h5 : bestF false V (w' 0) = some b := hb1
      obtain ⟨w2, e0, e1, e2⟩ := Cl_W.mp ((Cl_Pt b).mpr ((bestB_Pt _ _ _ _).1 b h5))
      have h6 := (hLF w2 e1 (by rw [e0]; exact h2)).1
      rw [h5]
      congr 1
      omega
    refine ⟨LW0 V w, FW0 V w, RW0 V w, LW0_le ok w, FW0_le ok w, RW0_lt V w, rfl, hb, by rw [hm, ZW_lf], fun k hk => ?_⟩
    rw [← ZW_lf]
    obtain ⟨i1, i2⟩ := frow_inv (m := ZW V w) ok (2 + 2 * V 1) (Nat.le_refl _)
    have hwf : w 0 < 2 + 2 * V 1 := by rw [w0]; exact hf
    rcases i2 with q | ⟨w', h1, h2, h3, h5⟩
    · exact absurd (hbF w hw hwf rfl) (q _ hwf)
    · have hr := (hLF w' h1 h2).2 h3
      have hl := i1 w hw hwf rfl (hbF w hw hwf rfl)
      have hd : ∀ i, i < V 0 → frowN V (some (ZW V w)) (2 + 2 * V 1) i ≤ 2 := fun i _ => by rw [h5]; exact ciN_le _
      have hn : hN3 (frowN V (some (ZW V w)) (2 + 2 * V 1)) (V 0) = RW0 V w' := hN3_c _ (fun i _ => h5 i)
      rcases LXq_N (V 0) hd hl with q | q
      · rw [q k hk]
        exact (hN3_dig (f := fun i => ciN (w i)) hk (fun i _ => ciN_le _)).symm
      · exfalso
        have : hN3 (fun k => ciN (w k)) (V 0) = RW0 V w := rfl
        omega
