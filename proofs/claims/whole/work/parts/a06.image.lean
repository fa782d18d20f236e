def LD0 : LD := (fun k => if k = 0 then nI 12 else if k = 1 then nI 1 else if k = 3 then nI 1 else 0, fun _ _ => 0)
def BD0 : LD := (fun _ => 0, fun _ _ => 0)
/-- all that is told by a new object -/
def WD0 : TD := (fun k => if k = 3 then -1 else 0, fun _ _ => 0, fun _ => LD0, fun _ => BD0, fun _ => BD0)
theorem Td_new {h0 h : AH} {q : Nat} (M : Mk h0 h q (es_Td_init q)) : TdAt h q WD0 := by
  refine ⟨M.1, M.get 0 rfl, M.get 1 rfl, M.get 2 rfl, M.get 3 rfl, M.get 4 rfl, M.get 5 rfl, M.get 6 rfl, M.get 7 rfl, M.get 8 rfl, M.get 9 rfl, M.get 10 rfl, M.get 11 rfl, fun i hi => ?_, fun i hi => ?_, fun i hi => ?_⟩
  · rcases (show i = 0 ∨ i = 1 by omega) with rfl | rfl
    · exact ⟨by have := M.1; omega, M.get 12 rfl, M.get 13 rfl, M.get 14 rfl, M.get 15 rfl, M.get 16 rfl, M.get 17 rfl, M.get 18 rfl, M.get 19 rfl, M.get 20 rfl⟩
    · exact ⟨by have := M.1; omega, M.get 29 rfl, M.get 30 rfl, M.get 31 rfl, M.get 32 rfl, M.get 33 rfl, M.get 34 rfl, M.get 35 rfl, M.get 36 rfl, M.get 37 rfl⟩
  · rcases (show i = 0 ∨ i = 1 by omega) with rfl | rfl
    · exact ⟨by have := M.1; omega, M.get 21 rfl, M.get 22 rfl, M.get 23 rfl, M.get 24 rfl⟩
    · exact ⟨by have := M.1; omega, M.get 38 rfl, M.get 39 rfl, M.get 40 rfl, M.get 41 rfl⟩
  · rcases (show i = 0 ∨ i = 1 by omega) with rfl | rfl
    · exact ⟨by have := M.1; omega, M.get 25 rfl, M.get 26 rfl, M.get 27 rfl, M.get 28 rfl⟩
    · exact ⟨by have := M.1; omega, M.get 42 rfl, M.get 43 rfl, M.get 44 rfl, M.get 45 rfl⟩
theorem WD0.bl : BLz WD0 := fun _ _ => ⟨false, false, rfl, rfl⟩
/-- the images, behind the reference's cells -/
def IMG (h : AH) (n m : Nat) (f : Nat → Option Nat) (IE : Nat → TD) (nx : Nat) : Prop := h (n + 47) = some (rR 8 3 f) ∧ (∀ k p, k < 3 → f k = some p → TdAt h p (IE k) ∧ BLz (IE k) ∧ m + 23 ≤ p ∧ p + 46 ≤ nx) ∧ ∀ k j p q, k < 3 → j < 3 → k ≠ j → f k = some p → f j = some q → p + 46 ≤ q ∨ q + 46 ≤ p
theorem BLz.copy {W E : TD} (q : CPd 2 W E) (h : BLz E) : BLz W := fun i hi => by
  obtain ⟨z1, z2, e1, e2⟩ := h i hi
  obtain ⟨q0, q1, q2, q3, q4, q9, q13, q14, q15⟩ := (q.2.2.2 i hi).1
  exact ⟨z1, z2, q13.trans e1, q14.trans e2⟩
theorem aty8 : wa_aty[8]? = some (.object "NightBridge$Told") := rfl
abbrev ri_N_image : Room := { frames := 6, cells := 46, slots := 1835, locals := 300 }
theorem TdAt.full {h : AH} {t : Nat} {W : TD} (A : TdAt h t W) {i : Nat} (h1 : t ≤ i) (h2 : i < t + 46) : h i ≠ none := by
  obtain ⟨j, rfl⟩ : ∃ j, i = t + j := ⟨i - t, by omega⟩
  have hj : j < 46 := by omega
  have l0 := A.l 0 (by decide)
  have l1 := A.l 1 (by decide)
  have b0 := A.b 0 (by decide)
  have b1 := A.b 1 (by decide)
  have s0 := A.s 0 (by decide)
  have s1 := A.s 1 (by decide)
  have z : ∀ (q : Nat) (e : va_E), h q = some e → h q ≠ none := fun q e he y => by rw [he] at y; cases y
  rcases (show j = 0 ∨ j = 1 ∨ j = 2 ∨ j = 3 ∨ j = 4 ∨ j = 5 ∨ j = 6 ∨ j = 7 ∨ j = 8 ∨ j = 9 ∨ j = 10 ∨ j = 11 ∨ j = 12 ∨ j = 13 ∨ j = 14 ∨ j = 15 ∨ j = 16 ∨ j = 17 ∨ j = 18 ∨ j = 19 ∨ j = 20 ∨ j = 21 ∨ j = 22 ∨ j = 23 ∨ j = 24 ∨ j = 25 ∨ j = 26 ∨ j = 27 ∨ j = 28 ∨ j = 29 ∨ j = 30 ∨ j = 31 ∨ j = 32 ∨ j = 33 ∨ j = 34 ∨ j = 35 ∨ j = 36 ∨ j = 37 ∨ j = 38 ∨ j = 39 ∨ j = 40 ∨ j = 41 ∨ j = 42 ∨ j = 43 ∨ j = 44 ∨ j = 45 by omega) with rfl | rfl | rfl | rfl | rfl | rfl | rfl | rfl | rfl | rfl | rfl | rfl | rfl | rfl | rfl | rfl | rfl | rfl | rfl | rfl | rfl | rfl | rfl | rfl | rfl | rfl | rfl | rfl | rfl | rfl | rfl | rfl | rfl | rfl | rfl | rfl | rfl | rfl | rfl | rfl | rfl | rfl | rfl | rfl | rfl | rfl
  · exact z _ _ A.o
  · exact z _ _ A.tape
  · exact z _ _ A.counts
  · exact z _ _ A.lands
  · exact z _ _ A.treaties
  · exact z _ _ A.t0
  · exact z _ _ A.t1
  · exact z _ _ A.books
  · exact z _ _ A.sights
  · exact z _ _ A.games
  · exact z _ _ A.g0
  · exact z _ _ A.g1
  · exact z _ _ l0.o
  · exact z _ _ l0.a5
  · exact z _ _ l0.a6
  · exact z _ _ l0.a7
  · exact z _ _ l0.a8
  · exact z _ _ l0.a10
  · exact z _ _ l0.a11
  · exact z _ _ l0.a12
  · exact z _ _ l0.a17
  · exact z _ _ b0.o
  · exact z _ _ b0.a2
  · exact z _ _ b0.a3
  · exact z _ _ b0.a4
  · exact z _ _ s0.o
  · exact z _ _ s0.a1
  · exact z _ _ s0.a2
  · exact z _ _ s0.a3
  · exact z _ _ l1.o
  · exact z _ _ l1.a5
  · exact z _ _ l1.a6
  · exact z _ _ l1.a7
  · exact z _ _ l1.a8
  · exact z _ _ l1.a10
  · exact z _ _ l1.a11
  · exact z _ _ l1.a12
  · exact z _ _ l1.a17
  · exact z _ _ b1.o
  · exact z _ _ b1.a2
  · exact z _ _ b1.a3
  · exact z _ _ b1.a4
  · exact z _ _ s1.o
  · exact z _ _ s1.a1
  · exact z _ _ s1.a2
  · exact z _ _ s1.a3
set_option maxHeartbeats 4000000 in
set_option maxRecDepth 100000 in
theorem c_N_image {G : GE} {h : AH} {n m nx : Nat} {W : TD} (hO : h n = some (.inr (7, nfs n))) (hA : TdAt h (n + 1) W) (hZ : BLz W) {f : Nat → Option Nat} {IE : Nat → TD} (hI : IMG h n m f IE nx) (hnm : n + 82 ≤ m) (hn : 1000 ≤ n) (hx : Nx h nx) (hmx : m + 23 ≤ nx) (k : Int32)  : Ctr G y_N_image b_N_image 2 (some .boolean) ri_N_image [.ref n, .int k] h (fun v h1 => (inB k (nI 0) (nI 2) = false ∧ v = some (.int (bI false)) ∧ h1 = h) ∨ (∃ j, j ≤ 2 ∧ k = nI j ∧ v = some (.int (bI true)) ∧ ∃ p E1 nx1, IMG h1 n m (fup f j (some p)) (fup IE j E1) nx1 ∧ Nx h1 nx1 ∧ nx ≤ nx1 ∧ CPd 2 E1 W ∧ ∀ i, (i < n + 47 ∨ (n + 48 ≤ i ∧ i < m + 23)) → h1 i = h i)) := by
  refine Ctr.of (by decide +kernel) (by simp) (Nat.le_of_ble_eq_true rfl) (L0 := [some (.ref n), some (.int k)]) rfl ?_
  by_cases hk : k < 0
  · refine A_iload_n1 d_N_image_0 ?_
    refine A_if_lt (tgt := 9) d_N_image_1 (by decide) (fun c_1 => ?_) (fun c_1 => ?_)
    · refine A_iconst (v := nI 0) d_N_image_9 (by decide) ?_
      refine A_zret d_N_image_10 rfl (by first | rfl | exact bI_nar _ | decide) ⟨by decide, by decide⟩ ?_
      refine .inl ⟨?_, rfl, rfl⟩
      unfold inB
      rw [decide_eq_true (p := k < nI 0) hk]
      rfl
    · exact absurd hk c_1
  · obtain ⟨j, hj, rfl⟩ := nI_of hk
    cases hf : f j with
    | some p =>
      by_cases hj3 : j < 3
      · have hp := hI.2.1 j p hj3 hf
        refine A_iload_n1 d_N_image_0 ?_
        refine A_if_lt (tgt := 9) d_N_image_1 (by decide) (fun c => absurd c (nI_pos (by omega))) (fun c_1 => ?_)
        refine A_iload_n1 d_N_image_4 ?_
        refine A_iconst (v := nI 3) d_N_image_5 (by decide) ?_
        refine A_icmp_lt (tgt := 11) d_N_image_6 (by decide) (fun c_6 => ?_) (fun c => absurd ((nI_ltI (by omega) (by decide)).mpr hj3) c)
        refine A_aload_n0 d_N_image_11 ?_
        refine A_getf (kf := 1) d_N_image_12 hO ok_7 (by decide) q_369 rfl ?_
        refine A_iload_n1 d_N_image_15 ?_
        refine A_aaldN d_N_image_16 hI.1 aty8 rfl ⟨by omega, by decide⟩ (show va_rf (f j) = .ref p by rw [hf]; rfl) ?_
        refine A_ifnonnullR (tgt := 33) d_N_image_17 (by decide) ?_
        refine A_aload_n0 d_N_image_33 ?_
        refine A_getf (kf := 1) d_N_image_34 hO ok_7 (by decide) q_369 rfl ?_
        refine A_iload_n1 d_N_image_37 ?_
        refine A_aaldN d_N_image_38 hI.1 aty8 rfl ⟨by omega, by decide⟩ (show va_rf (f j) = .ref p by rw [hf]; rfl) ?_
        refine A_aload_n0 d_N_image_39 ?_
        refine A_getf (kf := 0) d_N_image_40 hO ok_7 (by decide) q_368 rfl ?_
        refine A_callV d_N_image_43 (c_Td_copyFrom hp.1 hA (by omega) hZ) hp.1.o rfl q_628 q_629 q_630 mk_Td_copyFrom rfl (by decide) rfl (Nat.le_of_ble_eq_true rfl) ⟨Nat.le_of_ble_eq_true rfl, Nat.le_of_ble_eq_true rfl⟩ ?_
        rintro _ h1 ⟨rfl, W1, M, hC⟩
        refine A_iconst (v := nI 1) d_N_image_46 (by decide) ?_
        refine A_zret d_N_image_47 rfl (by first | rfl | exact bI_nar _ | decide) ⟨by decide, by decide⟩ ?_
        refine .inr ⟨j, by omega, rfl, rfl, p, W1, nx, ⟨?_, fun k q hk hq => ?_, fun k i q r hk hi hne hq hr => ?_⟩, ?_, Nat.le_refl _, hC, fun i hi => M.2 i (by omega)⟩
        · rw [show fup f j (some p) = f from fup_same _ hf]
          exact (M.2 _ (by omega)).trans hI.1
        · rw [show fup f j (some p) = f from fup_same _ hf] at hq
          by_cases e : k = j
          · subst e
            obtain rfl : q = p := by rw [hf] at hq; cases hq; rfl
            rw [fup_eq]
            exact ⟨M.1, hZ.copy hC, hp.2.2⟩
          · rw [fup_ne _ _ e]
            obtain ⟨b1, b2, b3⟩ := hI.2.1 k q hk hq
            have hd := hI.2.2 k j q p hk (by omega) e hq hf
            exact ⟨b1.kept (fun i _ _ => M.2 i (by omega)), b2, b3⟩
        · rw [show fup f j (some p) = f from fup_same _ hf] at hq hr
          exact hI.2.2 k i q r hk hi hne hq hr
        · refine ⟨hx.1, fun i hi => ?_⟩
          rw [← hx.2 i hi]
          by_cases e : i < p ∨ p + 46 ≤ i
          · rw [M.2 i e]
          · exact iff_of_true (M.1.full (by omega) (by omega)) (hp.1.full (by omega) (by omega))
      · refine A_iload_n1 d_N_image_0 ?_
        refine A_if_lt (tgt := 9) d_N_image_1 (by decide) (fun c => absurd c (nI_pos (by omega))) (fun c_1 => ?_)
        refine A_iload_n1 d_N_image_4 ?_
        refine A_iconst (v := nI 3) d_N_image_5 (by decide) ?_
        refine A_icmp_lt (tgt := 11) d_N_image_6 (by decide) (fun c => absurd ((nI_ltI (by omega) (by decide)).mp c) hj3) (fun c_6 => ?_)
        refine A_iconst (v := nI 0) d_N_image_9 (by decide) ?_
        refine A_zret d_N_image_10 rfl (by first | rfl | exact bI_nar _ | decide) ⟨by decide, by decide⟩ ?_
        exact .inl ⟨by rw [inB_N hj (by decide) (by decide), decide_eq_false (p := j ≤ 2) (by omega), Bool.and_false], rfl, rfl⟩
    | none =>
      by_cases hj3 : j < 3
      · have hx1 : Nx (hset h nx (.inr (6, [.null, .int 0, .int 0, .int 0, .null, .null, .null, .null, .null, .null]))) (nx + 1) := hx.push _
        have hx0 := hx.1
        refine A_iload_n1 d_N_image_0 ?_
        refine A_if_lt (tgt := 9) d_N_image_1 (by decide) (fun c => absurd c (nI_pos (by omega))) (fun c_1 => ?_)
        refine A_iload_n1 d_N_image_4 ?_
        refine A_iconst (v := nI 3) d_N_image_5 (by decide) ?_
        refine A_icmp_lt (tgt := 11) d_N_image_6 (by decide) (fun c_6 => ?_) (fun c => absurd ((nI_ltI (by omega) (by decide)).mpr hj3) c)
        refine A_aload_n0 d_N_image_11 ?_
        refine A_getf (kf := 1) d_N_image_12 hO ok_7 (by decide) q_369 rfl ?_
        refine A_iload_n1 d_N_image_15 ?_
        refine A_aaldN d_N_image_16 hI.1 aty8 rfl ⟨by omega, by decide⟩ (show va_rf (f j) = .null by rw [hf]; rfl) ?_
        refine A_ifnonnullN d_N_image_17 ?_
        refine A_aload_n0 d_N_image_20 ?_
        refine A_getf (kf := 1) d_N_image_21 hO ok_7 (by decide) q_369 rfl ?_
        refine A_iload_n1 d_N_image_24 ?_
        refine A_newo (q := nx) (ci := 6) d_N_image_25 ok_6 q_26 q_27 q_2 hx (dz_6 _) (Nat.le_of_ble_eq_true rfl) (Nat.le_of_ble_eq_true rfl) ?_
        first | refine A_dupR d_N_image_28 ?_ | refine A_dupI d_N_image_28 ?_
        refine A_callI d_N_image_29 (c_Td_init (q := nx) hx0 hx1 (hset_eq _ _ _)) q_28 q_29 rfl mk_Td_init rfl (by decide) rfl (Nat.le_of_ble_eq_true rfl) ⟨Nat.le_of_ble_eq_true rfl, Nat.le_of_ble_eq_true rfl⟩ ?_
        rintro _ h1 ⟨rfl, M0⟩
        have hA1 := Td_new M0
        have kp : ∀ i, i < nx → h1 i = h i := fun i hi => (M0.2.2.2 i hi).trans (hset_ne (by omega))
        refine A_aast (q := n + 47) (f := f) (v := nx) (ci := 6) d_N_image_32 ((kp _ (by omega)).trans hI.1) aty8 hA1.o rfl ⟨hj3, by decide⟩ (by omega) ?_
        have hO2 : hset h1 (n + 47) (.inl (8, 3, .inr (.inr (.inr (.inr (fup f j (some nx))))))) n = some (.inr (7, nfs n)) := (hset_ne (by omega)).trans ((kp _ (by omega)).trans hO)
        have hA2 : TdAt (hset h1 (n + 47) (.inl (8, 3, .inr (.inr (.inr (.inr (fup f j (some nx)))))))) nx WD0 := hA1.kept (fun i _ _ => hset_ne (by omega))
        have hB2 : TdAt (hset h1 (n + 47) (.inl (8, 3, .inr (.inr (.inr (.inr (fup f j (some nx)))))))) (n + 1) W := hA.kept (fun i _ _ => (hset_ne (by omega)).trans (kp _ (by omega)))
        refine A_aload_n0 d_N_image_33 ?_
        refine A_getf (kf := 1) d_N_image_34 hO2 ok_7 (by decide) q_369 rfl ?_
        refine A_iload_n1 d_N_image_37 ?_
        refine A_aaldN (f := fup f j (some nx)) d_N_image_38 (hset_eq _ _ _) aty8 rfl ⟨by omega, by decide⟩ (show va_rf (fup f j (some nx) j) = .ref nx by rw [fup_eq]; rfl) ?_
        refine A_aload_n0 d_N_image_39 ?_
        refine A_getf (kf := 0) d_N_image_40 hO2 ok_7 (by decide) q_368 rfl ?_
        refine A_callV d_N_image_43 (c_Td_copyFrom hA2 hB2 (by omega) hZ) hA2.o rfl q_628 q_629 q_630 mk_Td_copyFrom rfl (by decide) rfl (Nat.le_of_ble_eq_true rfl) ⟨Nat.le_of_ble_eq_true rfl, Nat.le_of_ble_eq_true rfl⟩ ?_
        rintro _ h3 ⟨rfl, W1, M, hC⟩
        refine A_iconst (v := nI 1) d_N_image_46 (by decide) ?_
        refine A_zret d_N_image_47 rfl (by first | rfl | exact bI_nar _ | decide) ⟨by decide, by decide⟩ ?_
        have nm0 := M0.nx (m := 46) rfl
        refine .inr ⟨j, by omega, rfl, rfl, nx, W1, nx + 46, ⟨?_, fun k q hk hq => ?_, fun k i q r hk hi hne hq hr => ?_⟩, ?_, by omega, hC, fun i hi => (M.2 i (by omega)).trans ((hset_ne (by omega)).trans (kp i (by omega)))⟩
        · exact (M.2 _ (by omega)).trans (hset_eq _ _ _)
        · by_cases e : k = j
          · subst e
            rw [fup_eq] at hq
            cases hq
            rw [fup_eq]
            exact ⟨M.1, hZ.copy hC, by omega, by omega⟩
          · rw [fup_ne _ _ e] at hq ⊢
            obtain ⟨b1, b2, b3, b4⟩ := hI.2.1 k q hk hq
            exact ⟨b1.kept (fun i _ _ => (M.2 i (by omega)).trans ((hset_ne (by omega)).trans (kp i (by omega)))), b2, b3, by omega⟩
        · by_cases e : k = j
          · subst e
            rw [fup_eq] at hq
            cases hq
            rw [fup_ne _ _ (fun y => hne y.symm)] at hr
            obtain ⟨b1, b2, b3, b4⟩ := hI.2.1 i r hi hr
            omega
          · rw [fup_ne _ _ e] at hq
            obtain ⟨b1, b2, b3, b4⟩ := hI.2.1 k q hk hq
            by_cases e2 : i = j
            · subst e2
              rw [fup_eq] at hr
              cases hr
              omega
            · rw [fup_ne _ _ e2] at hr
              exact hI.2.2 k i q r hk hi hne hq hr
        · refine ⟨by omega, fun i hi => ?_⟩
          rw [← nm0.2 i hi]
          by_cases e : i < nx ∨ nx + 46 ≤ i
          · rw [M.2 i e]
            by_cases e2 : i = n + 47
            · subst e2
              rw [hset_eq, kp _ (by omega), hI.1]
              exact iff_of_true (fun y => by cases y) (fun y => by cases y)
            · rw [hset_ne e2]
          · exact iff_of_true (M.1.full (by omega) (by omega)) (hA1.full (by omega) (by omega))
      · refine A_iload_n1 d_N_image_0 ?_
        refine A_if_lt (tgt := 9) d_N_image_1 (by decide) (fun c => absurd c (nI_pos (by omega))) (fun c_1 => ?_)
        refine A_iload_n1 d_N_image_4 ?_
        refine A_iconst (v := nI 3) d_N_image_5 (by decide) ?_
        refine A_icmp_lt (tgt := 11) d_N_image_6 (by decide) (fun c => absurd ((nI_ltI (by omega) (by decide)).mp c) hj3) (fun c_6 => ?_)
        refine A_iconst (v := nI 0) d_N_image_9 (by decide) ?_
        refine A_zret d_N_image_10 rfl (by first | rfl | exact bI_nar _ | decide) ⟨by decide, by decide⟩ ?_
        exact .inl ⟨by rw [inB_N hj (by decide) (by decide), decide_eq_false (p := j ≤ 2) (by omega), Bool.and_false], rfl, rfl⟩
set_option maxHeartbeats 4000000 in
set_option maxRecDepth 100000 in
theorem c_N_again {G : GE} {h : AH} {n m nx : Nat} {W : TD} (hO : h n = some (.inr (7, nfs n))) (hA : TdAt h (n + 1) W) (hZ : BLz W) {f : Nat → Option Nat} {IE : Nat → TD} (hI : IMG h n m f IE nx) (hnm : n + 82 ≤ m) (hn : 1000 ≤ n) (k : Int32)  : Ctr G y_N_again b_N_again 2 (some .boolean) r_N_again [.ref n, .int k] h (fun v h1 => ((inB k (nI 0) (nI 2) = false ∨ ∃ j, j ≤ 2 ∧ k = nI j ∧ f j = none) ∧ v = some (.int (bI false)) ∧ h1 = h) ∨ (∃ j p, j ≤ 2 ∧ k = nI j ∧ f j = some p ∧ v = some (.int (bI true)) ∧ ∃ W1, TW h h1 (n + 1) W1 ∧ CPd 2 W1 (IE j))) := by
  refine Ctr.of (by decide +kernel) (by simp) (Nat.le_of_ble_eq_true rfl) (L0 := [some (.ref n), some (.int k)]) rfl ?_
  by_cases hk : k < 0
  · refine A_iload_n1 d_N_again_0 ?_
    refine A_if_lt (tgt := 18) d_N_again_1 (by decide) (fun c_1 => ?_) (fun c_1 => ?_)
    · refine A_iconst (v := nI 0) d_N_again_18 (by decide) ?_
      refine A_zret d_N_again_19 rfl (by first | rfl | exact bI_nar _ | decide) ⟨Nat.zero_le _, Nat.zero_le _⟩ ?_
      refine .inl ⟨.inl ?_, rfl, rfl⟩
      unfold inB
      rw [decide_eq_true (p := k < nI 0) hk]
      rfl
    · exact absurd hk c_1
  · obtain ⟨j, hj, rfl⟩ := nI_of hk
    by_cases hj3 : j < 3
    · cases hf : f j with
      | some p =>
        have hp := hI.2.1 j p hj3 hf
        refine A_iload_n1 d_N_again_0 ?_
        refine A_if_lt (tgt := 18) d_N_again_1 (by decide) (fun c => absurd c (nI_pos (by omega))) (fun c_1 => ?_)
        refine A_iload_n1 d_N_again_4 ?_
        refine A_iconst (v := nI 3) d_N_again_5 (by decide) ?_
        refine A_icmp_ge (tgt := 18) d_N_again_6 (by decide) (fun c => absurd ((nI_leI (by decide) (by omega)).mp c) (by omega)) (fun c_6 => ?_)
        refine A_aload_n0 d_N_again_9 ?_
        refine A_getf (kf := 1) d_N_again_10 hO ok_7 (by decide) q_369 rfl ?_
        refine A_iload_n1 d_N_again_13 ?_
        refine A_aaldN d_N_again_14 hI.1 aty8 rfl ⟨by omega, by decide⟩ (show va_rf (f j) = .ref p by rw [hf]; rfl) ?_
        refine A_ifnonnullR (tgt := 20) d_N_again_15 (by decide) ?_
        refine A_aload_n0 d_N_again_20 ?_
        refine A_getf (kf := 0) d_N_again_21 hO ok_7 (by decide) q_368 rfl ?_
        refine A_aload_n0 d_N_again_24 ?_
        refine A_getf (kf := 1) d_N_again_25 hO ok_7 (by decide) q_369 rfl ?_
        refine A_iload_n1 d_N_again_28 ?_
        refine A_aaldN d_N_again_29 hI.1 aty8 rfl ⟨by omega, by decide⟩ (show va_rf (f j) = .ref p by rw [hf]; rfl) ?_
        refine A_callV d_N_again_30 (c_Td_copyFrom hA hp.1 (by omega) hp.2.1) hA.o rfl q_628 q_629 q_630 mk_Td_copyFrom rfl (by decide) rfl (Nat.le_of_ble_eq_true rfl) ⟨Nat.le_of_ble_eq_true rfl, Nat.le_of_ble_eq_true rfl⟩ ?_
        rintro _ h1 ⟨rfl, W1, M, hC⟩
        refine A_iconst (v := nI 1) d_N_again_33 (by decide) ?_
        refine A_zret d_N_again_34 rfl (by first | rfl | exact bI_nar _ | decide) ⟨Nat.zero_le _, Nat.zero_le _⟩ ?_
        exact .inr ⟨j, p, by omega, rfl, hf, rfl, W1, M, hC⟩
      | none =>
        refine A_iload_n1 d_N_again_0 ?_
        refine A_if_lt (tgt := 18) d_N_again_1 (by decide) (fun c => absurd c (nI_pos (by omega))) (fun c_1 => ?_)
        refine A_iload_n1 d_N_again_4 ?_
        refine A_iconst (v := nI 3) d_N_again_5 (by decide) ?_
        refine A_icmp_ge (tgt := 18) d_N_again_6 (by decide) (fun c => absurd ((nI_leI (by decide) (by omega)).mp c) (by omega)) (fun c_6 => ?_)
        refine A_aload_n0 d_N_again_9 ?_
        refine A_getf (kf := 1) d_N_again_10 hO ok_7 (by decide) q_369 rfl ?_
        refine A_iload_n1 d_N_again_13 ?_
        refine A_aaldN d_N_again_14 hI.1 aty8 rfl ⟨by omega, by decide⟩ (show va_rf (f j) = .null by rw [hf]; rfl) ?_
        refine A_ifnonnullN d_N_again_15 ?_
        refine A_iconst (v := nI 0) d_N_again_18 (by decide) ?_
        refine A_zret d_N_again_19 rfl (by first | rfl | exact bI_nar _ | decide) ⟨Nat.zero_le _, Nat.zero_le _⟩ ?_
        exact .inl ⟨.inr ⟨j, by omega, rfl, hf⟩, rfl, rfl⟩
    · refine A_iload_n1 d_N_again_0 ?_
      refine A_if_lt (tgt := 18) d_N_again_1 (by decide) (fun c => absurd c (nI_pos (by omega))) (fun c_1 => ?_)
      refine A_iload_n1 d_N_again_4 ?_
      refine A_iconst (v := nI 3) d_N_again_5 (by decide) ?_
      refine A_icmp_ge (tgt := 18) d_N_again_6 (by decide) (fun c_6 => ?_) (fun c => absurd ((nI_leI (by decide) (by omega)).mpr (by omega)) c)
      refine A_iconst (v := nI 0) d_N_again_18 (by decide) ?_
      refine A_zret d_N_again_19 rfl (by first | rfl | exact bI_nar _ | decide) ⟨Nat.zero_le _, Nat.zero_le _⟩ ?_
      exact .inl ⟨.inl (by rw [inB_N hj (by decide) (by decide), decide_eq_false (p := j ≤ 2) (by omega), Bool.and_false]), rfl, rfl⟩
