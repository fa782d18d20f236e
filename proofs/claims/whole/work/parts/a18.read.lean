theorem LX_clear (D : LD) : LX (clLd D) (T0F 0) := by
  have t0 : T0F 0 0 = 12 := rfl
  have t1 : T0F 0 1 = 1 := rfl
  have t3 : T0F 0 3 = 1 := rfl
  have tz : ∀ j, j ≠ 0 → j ≠ 1 → j ≠ 3 → T0F 0 j = 0 := fun j a b c => by
    unfold T0F
    rw [if_neg (by decide), if_neg (fun z => a z.2), if_neg (by rintro ⟨-, z | z⟩ <;> omega)]
  refine ⟨⟨⟨by rw [t0]; omega, by rw [t1]; omega, by rw [tz 2 (by decide) (by decide) (by decide)]; omega, by rw [t3]; omega, by rw [tz 4 (by decide) (by decide) (by decide)]; omega, by rw [tz 5 (by decide) (by decide) (by decide)]; omega, fun p hp => ?_, fun b hb => ?_, fun y hy => ?_⟩, ⟨rfl, rfl, rfl, rfl, rfl, rfl⟩, fun p hp => ?_, fun b hb => ?_, fun y hy => ?_⟩, fun p hp y hy => ?_, rfl⟩
  · rw [tz _ (by omega) (by omega) (by omega), tz _ (by omega) (by omega) (by omega), tz _ (by omega) (by omega) (by omega)]
    exact ⟨by omega, by omega, by omega, fun y hy => by rw [tz _ (by omega) (by omega) (by omega)]; omega⟩
  · rw [tz _ (by omega) (by omega) (by omega), tz _ (by omega) (by omega) (by omega)]
    omega
  · rw [tz _ (by omega) (by omega) (by omega)]
    omega
  · rw [tz 4 (by decide) (by decide) (by decide)] at hp
    omega
  · rw [tz 5 (by decide) (by decide) (by decide)] at hb
    omega
  · rw [tz _ (by omega) (by omega) (by omega)]
    show filF (D.2 12) (nI 0) 0 24 y = _
    unfold filF
    rw [if_pos (by omega)]
  · rw [tz _ (by omega) (by omega) (by omega)]
    show filF (D.2 8) (nI 0) 0 240 (p * 24 + y) = _
    unfold filF
    rw [if_pos (by omega)]
theorem A_rdSg {G : GE} {y : MethodName} {cc : ByteArray} {nL : Nat} {ret : Option FieldType} {R : Room} {mc ms : Nat} {K : Option Value → AH → Prop} {u n pc : Nat} {L : List (Option Value)} {st : List Value} {h0 h : AH} {r : Nat} {Z : RC} {index : Nat} {x : Int32} (d : decode cc pc = .ok (.putfield index, 3)) (hw : (.fieldLink y.cls index (TX4 0).1 (TX4 0).2.1 (TX4 0).2.2.1 : Cond) ∈ lw_g) (M : RdW h0 h r Z)
    (k : ∀ h1, RdW h0 h1 r (Z.1, Z.2.1, Z.2.2.1, Z.2.2.2.1, Z.2.2.2.2.1, (fup Z.2.2.2.2.2.1.1 0 x, Z.2.2.2.2.2.1.2), Z.2.2.2.2.2.2) → WA G y cc nL ret R mc ms K u n (pc + 3) L st h1) : WA G y cc nL ret R mc ms K u n pc L (.int x :: .ref (r + 17) :: st) h :=
  A_rgI (esS (r + 17)) (sgfs (r + 17)) (kf := 0) d ok_4 (by decide) hw (Or.inl rfl) (by decide +kernel) (SAt_rg M.1.sg) rfl (by show 0 < 4; decide) rfl (fun h1 Q => k h1 (M.sight Q))
set_option maxHeartbeats 4000000 in
set_option maxRecDepth 100000 in
theorem c_Rd_clear {G : GE} {h : AH} {r : Nat} {Z : RC} (hR : RdAt h r Z) {z14 : Bool} (h14 : Z.2.2.2.1.1 14 = bI z14)  : Ctr G y_Rd_clear b_Rd_clear 1 none r_Rd_clear [.ref r] h (fun v' h1 => v' = none ∧ ∃ Z1, RdW h h1 r Z1 ∧ Z1.2.1 = Z.2.1 ∧ Z1.2.2.1 = Z.2.2.1 ∧ Z1.1 6 = nI 0 ∧ Z1.1 7 = -1 ∧ ∀ of, CR of Z1 (T0F of) (0, 0, 0)) := by
  refine Ctr.of (by decide +kernel) (by simp) (Nat.le_of_ble_eq_true rfl) (L0 := [some (.ref r)]) rfl ?_
  have M := RdW.start hR
  refine A_aload_n0 d_Rd_clear_0 ?_
  refine A_iconst (v := nI 0) d_Rd_clear_1 (by decide) ?_
  refine A_rdInt (kf := 6) d_Rd_clear_2 (by decide) q_285 (Or.inl rfl) (by decide +kernel) M rfl (fun h' M' => ?_)
  replace M := M'
  clear M'
  refine A_aload_n0 d_Rd_clear_5 ?_
  refine A_iconst (v := (-1)) d_Rd_clear_6 (by decide) ?_
  refine A_rdInt (kf := 7) d_Rd_clear_7 (by decide) q_287 (Or.inl rfl) (by decide +kernel) M rfl (fun h' M' => ?_)
  replace M := M'
  clear M'
  refine A_aload_n0 d_Rd_clear_10 ?_
  refine A_iconst (v := (-1)) d_Rd_clear_11 (by decide) ?_
  refine A_rdInt (kf := 13) d_Rd_clear_12 (by decide) q_294 (Or.inl rfl) (by decide +kernel) M rfl (fun h' M' => ?_)
  replace M := M'
  clear M'
  refine A_aload_n0 d_Rd_clear_15 ?_
  refine A_iconst (v := (-1)) d_Rd_clear_16 (by decide) ?_
  refine A_rdInt (kf := 14) d_Rd_clear_17 (by decide) q_295 (Or.inl rfl) (by decide +kernel) M rfl (fun h' M' => ?_)
  replace M := M'
  clear M'
  refine A_aload_n0 d_Rd_clear_20 ?_
  refine A_getf (kf := 1) d_Rd_clear_21 M.1.o ok_3 (by decide) q_275 rfl ?_
  refine A_callV d_Rd_clear_24 (c_Ld_clear M.1.ld) M.1.ld.o rfl q_421 q_422 q_423 mk_Ld_clear rfl (by decide) rfl (Nat.le_of_ble_eq_true rfl) ⟨Nat.le_of_ble_eq_true rfl, Nat.le_of_ble_eq_true rfl⟩ ?_
  rintro _ h5 ⟨rfl, Q5⟩
  replace M := M.land Q5
  refine A_aload_n0 d_Rd_clear_27 ?_
  refine A_getf (kf := 2) d_Rd_clear_28 M.1.o ok_3 (by decide) q_277 rfl ?_
  refine A_iconst (v := nI 2) d_Rd_clear_31 (by decide) ?_
  refine A_callS d_Rd_clear_32 (c_JA_fill_0 M.1.tr (by have := hR.ge; omega) (by decide) (nI 2)) q_428 q_426 mk_JA_fill_0 rfl (by decide) rfl (Nat.le_of_ble_eq_true rfl) ⟨Nat.le_of_ble_eq_true rfl, Nat.le_of_ble_eq_true rfl⟩ ?_
  rintro _ _ ⟨rfl, rfl⟩
  replace M := M.atr (filF (Z.2.2.2.2.2.2 0) (nI 2) 0 24)
  refine A_aload_n0 d_Rd_clear_35 ?_
  refine A_getf (kf := 3) d_Rd_clear_36 M.1.o ok_3 (by decide) q_279 rfl ?_
  refine A_callV d_Rd_clear_39 (c_Bk_clear M.1.bk) M.1.bk.o rfl q_429 q_430 q_431 mk_Bk_clear rfl (by decide) rfl (Nat.le_of_ble_eq_true rfl) ⟨Nat.le_of_ble_eq_true rfl, Nat.le_of_ble_eq_true rfl⟩ ?_
  rintro _ h6 ⟨rfl, Q6⟩
  replace M := M.book Q6
  refine A_aload_n0 d_Rd_clear_42 ?_
  refine A_getf (kf := 4) d_Rd_clear_43 M.1.o ok_3 (by decide) q_281 rfl ?_
  refine A_iconst (v := nI 0) d_Rd_clear_46 (by decide) ?_
  refine A_rdSg d_Rd_clear_47 q_175 M (fun h M => ?_)
  refine A_aload_n0 d_Rd_clear_50 ?_
  refine A_getf (kf := 5) d_Rd_clear_51 M.1.o ok_3 (by decide) q_283 rfl ?_
  refine A_iconst (v := nI 0) d_Rd_clear_54 (by decide) ?_
  refine A_callS d_Rd_clear_55 (c_JA_fill_0 M.1.gm (by have := hR.ge; omega) (by decide) (nI 0)) q_428 q_426 mk_JA_fill_0 rfl (by decide) rfl (Nat.le_of_ble_eq_true rfl) ⟨Nat.le_of_ble_eq_true rfl, Nat.le_of_ble_eq_true rfl⟩ ?_
  rintro _ _ ⟨rfl, rfl⟩
  replace M := M.agm (filF (Z.2.2.2.2.2.2 1) (nI 0) 0 8)
  refine A_vret d_Rd_clear_58 rfl ⟨Nat.zero_le _, Nat.zero_le _⟩ ?_
  refine ⟨rfl, _, M, rfl, rfl, rfl, rfl, fun of => ⟨?_, fun _ => ⟨rfl, rfl, rfl, rfl⟩, ?_, ?_, fun _ => rfl, ?_, ?_, z14, h14⟩⟩
  · rintro rfl
    exact ⟨LX_clear _, rfl, rfl, Nat.zero_le _, Nat.zero_le _⟩
  · rintro rfl x hx
    refine ⟨?_, Nat.le_refl _⟩
    show filF (Z.2.2.2.2.2.2 0) (nI 2) 0 24 x = _
    unfold filF
    rw [if_pos (by omega)]
    rfl
  · rintro rfl
    exact ⟨⟨Nat.zero_le _, fun k hk => absurd hk (Nat.not_lt_zero _), rfl, rfl, fun k hk => absurd hk (Nat.not_lt_zero _), fun t ht => absurd ht (Nat.not_lt_zero _)⟩, rfl⟩
  · rintro rfl
    exact ⟨⟨Nat.zero_le _, fun k hk => absurd hk (Nat.not_lt_zero _)⟩, rfl, fun k hk => absurd hk (Nat.not_lt_zero _)⟩
  · rintro rfl x hx
    refine ⟨?_, Nat.zero_le _⟩
    show filF (Z.2.2.2.2.2.2 1) (nI 0) 0 8 x = _
    unfold filF
    rw [if_pos (by omega)]
    rfl
theorem CR.same {of : Nat} {Z Z1 : RC} {T : Nat → Nat} {f : Nat × Nat × Nat} (h : CR of Z T f) (e13 : Z1.1 13 = Z.1 13) (e14 : Z1.1 14 = Z.1 14) (el : Z1.2.2.2.1 = Z.2.2.2.1) (eb : Z1.2.2.2.2.1 = Z.2.2.2.2.1) (es : Z1.2.2.2.2.2.1 = Z.2.2.2.2.2.1) (ea : ∀ j, j < 2 → Z1.2.2.2.2.2.2 j = Z.2.2.2.2.2.2 j) : CR of Z1 T f := by
  unfold CR
  rw [e13, e14, el, eb, es, ea 0 (by decide), ea 1 (by decide)]
  exact h
theorem CR.lk {of : Nat} {Z Z1 : RC} {T : Nat → Nat} {f : Nat × Nat × Nat} (h : CR of Z T f) (e : LKP Z Z1) : CR of Z1 T f :=
  h.same (e.1 13 (by decide) (by decide) (by decide)) (e.1 14 (by decide) (by decide) (by decide)) e.2.2.1 e.2.2.2.1 e.2.2.2.2.1 e.2.2.2.2.2
theorem ckS_0 {k : Nat} {v pl : Nat → Nat} {too : Bool} {q : Nat} {s : Nat × Nat} : ∀ m, (foldN (fun i s => ntB (inrN k v i) (pl i) s) (if too = true then nt 3 q s else s) m).1 = 0 → s.1 = 0 ∧ too = false ∧ ∀ i, i < m → inrN k v i = true
  | 0, h => by
    cases too with
    | false => exact ⟨h, rfl, fun i hi => absurd hi (Nat.not_lt_zero _)⟩
    | true =>
      exfalso
      have h : (nt 3 q s).1 = 0 := h
      unfold nt at h
      by_cases z : s.1 = 0
      · rw [if_pos z] at h; cases h
      · rw [if_neg z] at h; exact z h
  | m + 1, h => by
    have h : (ntB (inrN k v m) (pl m) (foldN (fun i s => ntB (inrN k v i) (pl i) s) (if too = true then nt 3 q s else s) m)).1 = 0 := h
    have ihm := fun z => ckS_0 (k := k) (v := v) (pl := pl) (too := too) (q := q) (s := s) m z
    generalize foldN (fun i s => ntB (inrN k v i) (pl i) s) (if too = true then nt 3 q s else s) m = S0 at h ihm
    unfold ntB nt at h
    by_cases b : inrN k v m = true
    · rw [if_pos b] at h
      obtain ⟨a1, a2, a3⟩ := ihm h
      refine ⟨a1, a2, fun i hi => ?_⟩
      by_cases z : i = m
      · subst z; exact b
      · exact a3 i (by omega)
    · rw [if_neg b] at h
      by_cases z : S0.1 = 0
      · rw [if_pos z] at h; cases h
      · rw [if_neg z] at h; exact absurd h z
theorem lk_cases {B : Nat → Nat} {n of q : Nat} (hof : of ≤ 4) (h : lkN B n of q ≠ 12) : of = 0 ∧ lkN B n of q ≤ 7 ∨ of = 1 ∧ lkN B n of q = 8 ∨ of = 2 ∧ lkN B n of q = 9 ∨ of = 3 ∧ lkN B n of q = 10 ∨ of = 4 ∧ lkN B n of q = 11 := by
  obtain ⟨a, b, c, d⟩ := lkN_of h
  rcases (show of = 0 ∨ of = 1 ∨ of = 2 ∨ of = 3 ∨ of = 4 by omega) with z | z | z | z | z
  · exact .inl ⟨z, a z⟩
  · exact .inr (.inl ⟨z, b z⟩)
  · exact .inr (.inr (.inl ⟨z, c z⟩))
  · exact .inr (.inr (.inr (.inl ⟨z, d z⟩)))
  · refine .inr (.inr (.inr (.inr ⟨z, ?_⟩)))
    subst z
    unfold lkN at h ⊢
    rw [if_neg (by decide), if_neg (by decide), if_neg (by decide), if_neg (by decide)] at h ⊢
    by_cases w : isW B n q wd_worth = true
    · rw [if_pos w]
    · rw [if_neg w] at h; exact absurd rfl h
/-- too many: the reader's own and the reference's -/
theorem too_ful {of k : Nat} {Z : RC} {T : Nat → Nat} {f : Nat × Nat × Nat} (h : CR of Z T f) (hof : of = 0 ∧ k ≤ 7 ∨ of = 1 ∧ k = 8 ∨ of = 2 ∧ k = 9 ∨ of = 3 ∧ k = 10 ∨ of = 4 ∧ k = 11) : tooB k Z = fulN k T := by
  have key : ∀ (x : Int32) (a m : Nat), x = nI a → a ≤ m → m < 100 → (!decide (x < nI m)) = decide (a = m) := by
    intro x a m hx ha hm
    subst hx
    by_cases z : a = m
    · rw [decide_eq_false (p := nI a < nI m) (fun w => by have := (nI_ltI (by omega) (by omega)).mp w; omega), decide_eq_true z]
      rfl
    · rw [decide_eq_true (p := nI a < nI m) ((nI_ltI (by omega) (by omega)).mpr (by omega)), decide_eq_false z]
      rfl
  obtain ⟨c0, -, -, c3, -, c5, -, -⟩ := h
  unfold tooB fulN
  by_cases k4 : k = 4
  · rw [if_pos k4, if_pos k4]
    obtain ⟨hL, -⟩ := c0 (by omega)
    exact key _ _ _ hL.1.2.1.2.2.2.2.1 hL.1.1.2.2.2.2.1 (by decide)
  rw [if_neg k4, if_neg k4]
  by_cases k6 : k = 6
  · rw [if_pos k6, if_pos k6]
    obtain ⟨hL, -⟩ := c0 (by omega)
    exact key _ _ _ hL.1.2.1.2.2.2.2.2 hL.1.1.2.2.2.2.2.1 (by decide)
  rw [if_neg k6, if_neg k6]
  by_cases k9 : k = 9
  · rw [if_pos k9, if_pos k9]
    obtain ⟨hL, -⟩ := c3 (by omega)
    exact key _ _ _ hL.2.2.1 hL.1 (by decide)
  rw [if_neg k9, if_neg k9]
  by_cases k10 : k = 10
  · rw [if_pos k10, if_pos k10]
    have hL := c5 (by omega)
    exact key _ _ _ hL.2.1 hL.1.1 (by decide)
  rw [if_neg k10, if_neg k10]
theorem tx_end {B : Nat → Nat} {n of F q : Nat} {r : RS} (h : kN B n q = 0) : txF B n of (F + 1) q r = (none, r) := if_pos h
theorem tx_bad {B : Nat → Nat} {n of F q x : Nat} {r : RS} (h : kN B n q ≠ 0) (hl : leN B n of q = some x) : txF B n of (F + 1) q r = (some x, r) := by
  show (if kN B n q = 0 then (none, r) else _) = _
  rw [if_neg h, hl]
theorem tx_go {B : Nat → Nat} {n of F q : Nat} {r : RS} (h : kN B n q ≠ 0) (hl : leN B n of q = none) : txF B n of (F + 1) q r = txF B n of F (nxN B n (itN B n (nxN B n q) (sgN (lkN B n of q)))) (lnF (lkN B n of q) B n q r) := by
  show (if kN B n q = 0 then (none, r) else _) = _
  rw [if_neg h, hl]
/-- the end's condition -/
theorem end_c {of : Nat} {Z : RC} {T : Nat → Nat} {f : Nat × Nat × Nat} (h : CR of Z T f) : (Z.2.2.2.1.1 4 ≤ Z.1 13 ∨ Z.2.2.2.1.1 0 ≤ Z.1 14 ∨ nI 96 < Z.2.2.2.2.1.1 1) ↔ ((of = 0 ∧ (T 4 < f.1 ∨ T 0 < f.2.1)) ∨ (of = 2 ∧ 96 < f.2.2)) := by
  obtain ⟨c0, c1, -, c3, c4, -, -, -⟩ := h
  have hl : ∀ a b : Nat, a ≤ 100 → b ≤ 100 → (nI a ≤ hI b ↔ a < b) := fun a b ha hb => by
    rw [← hI_s a, hI_le (by omega) (by omega)]
    exact ⟨fun z => by omega, fun z => by omega⟩
  have h0 : ¬ nI 96 < nI 0 := by decide
  by_cases z : of = 0
  · obtain ⟨hL, g1, g2, g3, g4⟩ := c0 z
    have o4 := hL.1.1.2.2.2.2.1
    have o0 := hL.1.1.1.2
    rw [g1, g2, hL.1.2.1.1, hL.1.2.1.2.2.2.2.1, c4 (by omega), hl _ _ (by omega) (by omega), hl _ _ (by omega) (by omega)]
    constructor
    · rintro (w | w | w)
      · exact .inl ⟨z, .inl w⟩
      · exact .inl ⟨z, .inr w⟩
      · exact absurd w h0
    · rintro (⟨-, w | w⟩ | ⟨w, -⟩)
      · exact .inl w
      · exact .inr (.inl w)
      · omega
  · obtain ⟨d1, d2, d3, d4⟩ := c1 z
    rw [d1, d2, d3, d4]
    have n1 : ¬ nI 0 ≤ (-1 : Int32) := by decide
    have n2 : ¬ nI 12 ≤ (-1 : Int32) := by decide
    by_cases z2 : of = 2
    · obtain ⟨hB, ht⟩ := c3 z2
      have := BX_tot hB
      rw [hB.2.2.2.1, nI_ltI (by decide) (by omega), ← ht]
      constructor
      · rintro (w | w | w)
        · exact absurd w n1
        · exact absurd w n2
        · exact .inr ⟨z2, w⟩
      · rintro (⟨w, -⟩ | ⟨-, w⟩)
        · exact absurd w z
        · exact .inr (.inr w)
    · rw [c4 z2]
      constructor
      · rintro (w | w | w)
        · exact absurd w n1
        · exact absurd w n2
        · exact absurd w h0
      · rintro (⟨w, -⟩ | ⟨w, -⟩)
        · exact absurd w z
        · exact absurd w z2
theorem kcN_0 (k : Nat) : kcN k = 0 ↔ k = 0 := by
  unfold kcN
  split
  · omega
  · split <;> omega
set_option maxHeartbeats 4000000 in
set_option maxRecDepth 100000 in
theorem c_Rd_read {G : GE} {h : AH} {r : Nat} {Z : RC} (hR : RdAt h r Z) (hOl : OLD h) {tp : Nat} {B : Nat → Nat} (hB : TPB h tp B) (htp : tp < r) {n : Nat} (hn : n ≤ 600) {z14 : Bool} (h14 : Z.2.2.2.1.1 14 = bI z14) (of : Nat) (hof : of ≤ 4)  : Ctr G y_Rd_read b_Rd_read 5 none r_Rd_read [.ref r, .int (nI of), .ref tp, .int (nI n)] h (fun v' h1 => v' = none ∧ ∃ Z1, RdW h h1 r Z1 ∧ ftN B n of ≤ 4 ∧ (∃ z, Z1.2.2.2.1.1 14 = bI z) ∧ Z1.1 6 = nI (ftN B n of) ∧ Z1.1 7 = plN B n of ∧ (ftN B n of = 0 → CR of Z1 (rdX B n of).2.1 (rdX B n of).2.2.1)) := by
  refine Ctr.of (by decide +kernel) (by simp) (Nat.le_of_ble_eq_true rfl) (L0 := [some (.ref r), some (.int (nI of)), some (.ref tp), some (.int (nI n)), none]) rfl ?_
  have key2 : ∀ i q T f s h' Z1, rdX B n of = (none, (T, f, s)) → RdW h h' r Z1 → Z1.2.2.1 = tp → TKn B n q Z1.2.1 → FP Z1.1 s → (s.1 = 0 → CR of Z1 T f) → (∃ z, Z1.2.2.2.1.1 14 = bI z) → WA G y_Rd_read b_Rd_read 5 none r_Rd_read 0 0 (fun v' h1 => v' = none ∧ ∃ Z1, RdW h h1 r Z1 ∧ ftN B n of ≤ 4 ∧ (∃ z, Z1.2.2.2.1.1 14 = bI z) ∧ Z1.1 6 = nI (ftN B n of) ∧ Z1.1 7 = plN B n of ∧ (ftN B n of = 0 → CR of Z1 (rdX B n of).2.1 (rdX B n of).2.2.1)) 0 0 80 [some (.ref r), some (.int (nI of)), some (.ref tp), some (.int (nI n)), some (.int (nI i))] [] h' := by
    intro i q T f s h' Z1 hX M htq hT hFP hC hz
    have hft : ftN B n of = (endS of (T, f, s) n).1 := by unfold ftN; rw [hX]
    have hpl : plN B n of = if (endS of (T, f, s) n).1 = 0 then -1 else nI (endS of (T, f, s) n).2 := by unfold plN; rw [hX]
    have hs4 := hFP.2.2.1
    refine A_aload_n0 d_Rd_read_80 ?_
    refine A_getf (kf := 13) d_Rd_read_81 M.1.o ok_3 (by decide) q_294 rfl ?_
    refine A_aload_n0 d_Rd_read_84 ?_
    refine A_getf (kf := 1) d_Rd_read_85 M.1.o ok_3 (by decide) q_275 rfl ?_
    refine A_getf (kf := 4) d_Rd_read_88 M.1.ld.o ok_1 (by decide) q_61 rfl ?_
    first | refine A_icmp_geN (tgt := 120) d_Rd_read_91 (by decide) (by with_reducible rfl) (by with_reducible rfl) (by omega) (by omega) (fun c_91 => ?_) (fun c_91 => ?_) | refine A_icmp_ge (tgt := 120) d_Rd_read_91 (by decide) (fun c_91 => ?_) (fun c_91 => ?_)
    · refine A_aload_n0 d_Rd_read_120 ?_
      refine A_iconst (v := nI 4) d_Rd_read_121 (by decide) ?_
      refine A_iload_n3 d_Rd_read_122 ?_
      refine A_callV d_Rd_read_123 (c_Rd_note M.1 (nI 4) (nI n)) M.1.o rfl q_549 q_550 q_551 mk_Rd_note rfl (by decide) rfl (Nat.le_of_ble_eq_true rfl) ⟨Nat.le_of_ble_eq_true rfl, Nat.le_of_ble_eq_true rfl⟩ ?_
      rintro _ h5 ⟨rfl, M5⟩
      replace M := M.trans M5
      clear M5
      refine A_vret d_Rd_read_126 rfl ⟨Nat.zero_le _, Nat.zero_le _⟩ ?_
      by_cases s0 : s.1 = 0
      · have hcd := (end_c (hC s0)).mp (by first | exact .inl (by assumption) | exact .inr (.inl (by assumption)) | exact .inr (.inr (Int32.not_le.mp (by assumption))) | exact .inr (.inr (by assumption)))
        have he : endS of (T, f, s) n = (4, n) := if_pos ⟨s0, hcd⟩
        rw [he] at hft hpl
        rw [if_pos (by rw [hFP.1, s0]; rfl)] at M
        exact ⟨rfl, _, M, by rw [hft]; exact Nat.le_refl 4, hz, hft ▸ rfl, hpl ▸ rfl, fun z => by rw [hft] at z; cases z⟩
      · have he : endS of (T, f, s) n = s := if_neg (fun z => s0 z.1)
        rw [he] at hft hpl
        rw [if_neg (by rw [hFP.1]; exact fun z => s0 (by have := (nI_eq (a := s.1) (b := 0) (by omega) (by decide)).mp z; omega))] at M
        rw [if_neg s0] at hpl
        exact ⟨rfl, _, M, by rw [hft]; exact hs4, hz, by rw [hft]; exact hFP.1, by rw [hpl]; exact hFP.2.1 s0, fun z => absurd (hft ▸ z) s0⟩
    · refine A_aload_n0 d_Rd_read_94 ?_
      refine A_getf (kf := 14) d_Rd_read_95 M.1.o ok_3 (by decide) q_295 rfl ?_
      refine A_aload_n0 d_Rd_read_98 ?_
      refine A_getf (kf := 1) d_Rd_read_99 M.1.o ok_3 (by decide) q_275 rfl ?_
      refine A_getf (kf := 0) d_Rd_read_102 M.1.ld.o ok_1 (by decide) q_46 rfl ?_
      first | refine A_icmp_geN (tgt := 120) d_Rd_read_105 (by decide) (by with_reducible rfl) (by with_reducible rfl) (by omega) (by omega) (fun c_105 => ?_) (fun c_105 => ?_) | refine A_icmp_ge (tgt := 120) d_Rd_read_105 (by decide) (fun c_105 => ?_) (fun c_105 => ?_)
      · refine A_aload_n0 d_Rd_read_120 ?_
        refine A_iconst (v := nI 4) d_Rd_read_121 (by decide) ?_
        refine A_iload_n3 d_Rd_read_122 ?_
        refine A_callV d_Rd_read_123 (c_Rd_note M.1 (nI 4) (nI n)) M.1.o rfl q_549 q_550 q_551 mk_Rd_note rfl (by decide) rfl (Nat.le_of_ble_eq_true rfl) ⟨Nat.le_of_ble_eq_true rfl, Nat.le_of_ble_eq_true rfl⟩ ?_
        rintro _ h5 ⟨rfl, M5⟩
        replace M := M.trans M5
        clear M5
        refine A_vret d_Rd_read_126 rfl ⟨Nat.zero_le _, Nat.zero_le _⟩ ?_
        by_cases s0 : s.1 = 0
        · have hcd := (end_c (hC s0)).mp (by first | exact .inl (by assumption) | exact .inr (.inl (by assumption)) | exact .inr (.inr (Int32.not_le.mp (by assumption))) | exact .inr (.inr (by assumption)))
          have he : endS of (T, f, s) n = (4, n) := if_pos ⟨s0, hcd⟩
          rw [he] at hft hpl
          rw [if_pos (by rw [hFP.1, s0]; rfl)] at M
          exact ⟨rfl, _, M, by rw [hft]; exact Nat.le_refl 4, hz, hft ▸ rfl, hpl ▸ rfl, fun z => by rw [hft] at z; cases z⟩
        · have he : endS of (T, f, s) n = s := if_neg (fun z => s0 z.1)
          rw [he] at hft hpl
          rw [if_neg (by rw [hFP.1]; exact fun z => s0 (by have := (nI_eq (a := s.1) (b := 0) (by omega) (by decide)).mp z; omega))] at M
          rw [if_neg s0] at hpl
          exact ⟨rfl, _, M, by rw [hft]; exact hs4, hz, by rw [hft]; exact hFP.1, by rw [hpl]; exact hFP.2.1 s0, fun z => absurd (hft ▸ z) s0⟩
      · refine A_aload_n0 d_Rd_read_108 ?_
        refine A_getf (kf := 3) d_Rd_read_109 M.1.o ok_3 (by decide) q_279 rfl ?_
        refine A_getf (kf := 1) d_Rd_read_112 M.1.bk.o ok_0 (by decide) q_150 rfl ?_
        refine A_bipush (v := nI 96) d_Rd_read_115 (by decide) ?_
        first | refine A_icmp_leN (tgt := 126) d_Rd_read_117 (by decide) (by with_reducible rfl) (by with_reducible rfl) (by omega) (by omega) (fun c_117 => ?_) (fun c_117 => ?_) | refine A_icmp_le (tgt := 126) d_Rd_read_117 (by decide) (fun c_117 => ?_) (fun c_117 => ?_)
        · refine A_vret d_Rd_read_126 rfl ⟨Nat.zero_le _, Nat.zero_le _⟩ ?_
          by_cases s0 : s.1 = 0
          · have he : endS of (T, f, s) n = s := if_neg (fun z => by
              rcases (end_c (hC s0)).mpr z.2 with w | w | w
              · exact c_91 w
              · exact c_105 w
              · first
                  | exact c_117 w
                  | exact absurd w (Int32.not_lt.mpr c_117))
            rw [he] at hft hpl
            rw [if_pos s0] at hpl
            exact ⟨rfl, _, M, by rw [hft]; exact hs4, hz, by rw [hft]; exact hFP.1, by rw [hpl]; exact hFP.2.2.2 s0, fun _ => by rw [hX]; exact hC s0⟩
          · have he : endS of (T, f, s) n = s := if_neg (fun z => s0 z.1)
            rw [he] at hft hpl
            rw [if_neg s0] at hpl
            exact ⟨rfl, _, M, by rw [hft]; exact hs4, hz, by rw [hft]; exact hFP.1, by rw [hpl]; exact hFP.2.1 s0, fun z => absurd (hft ▸ z) s0⟩
        · refine A_aload_n0 d_Rd_read_120 ?_
          refine A_iconst (v := nI 4) d_Rd_read_121 (by decide) ?_
          refine A_iload_n3 d_Rd_read_122 ?_
          refine A_callV d_Rd_read_123 (c_Rd_note M.1 (nI 4) (nI n)) M.1.o rfl q_549 q_550 q_551 mk_Rd_note rfl (by decide) rfl (Nat.le_of_ble_eq_true rfl) ⟨Nat.le_of_ble_eq_true rfl, Nat.le_of_ble_eq_true rfl⟩ ?_
          rintro _ h5 ⟨rfl, M5⟩
          replace M := M.trans M5
          clear M5
          refine A_vret d_Rd_read_126 rfl ⟨Nat.zero_le _, Nat.zero_le _⟩ ?_
          by_cases s0 : s.1 = 0
          · have hcd := (end_c (hC s0)).mp (by first | exact .inl (by assumption) | exact .inr (.inl (by assumption)) | exact .inr (.inr (Int32.not_le.mp (by assumption))) | exact .inr (.inr (by assumption)))
            have he : endS of (T, f, s) n = (4, n) := if_pos ⟨s0, hcd⟩
            rw [he] at hft hpl
            rw [if_pos (by rw [hFP.1, s0]; rfl)] at M
            exact ⟨rfl, _, M, by rw [hft]; exact Nat.le_refl 4, hz, hft ▸ rfl, hpl ▸ rfl, fun z => by rw [hft] at z; cases z⟩
          · have he : endS of (T, f, s) n = s := if_neg (fun z => s0 z.1)
            rw [he] at hft hpl
            rw [if_neg (by rw [hFP.1]; exact fun z => s0 (by have := (nI_eq (a := s.1) (b := 0) (by omega) (by decide)).mp z; omega))] at M
            rw [if_neg s0] at hpl
            exact ⟨rfl, _, M, by rw [hft]; exact hs4, hz, by rw [hft]; exact hFP.1, by rw [hpl]; exact hFP.2.1 s0, fun z => absurd (hft ▸ z) s0⟩
  have key : ∀ d i q T f s F, q ≤ n → n ≤ q + d → i ≤ q → n + 1 ≤ q + F → txF B n of F q (T, f, s) = rdX B n of → ∀ h' Z1, RdW h h' r Z1 → Z1.2.2.1 = tp → TKn B n q Z1.2.1 → FP Z1.1 s → (s.1 = 0 → CR of Z1 T f) → (∃ z, Z1.2.2.2.1.1 14 = bI z) → WA G y_Rd_read b_Rd_read 5 none r_Rd_read 0 0 (fun v' h1 => v' = none ∧ ∃ Z1, RdW h h1 r Z1 ∧ ftN B n of ≤ 4 ∧ (∃ z, Z1.2.2.2.1.1 14 = bI z) ∧ Z1.1 6 = nI (ftN B n of) ∧ Z1.1 7 = plN B n of ∧ (ftN B n of = 0 → CR of Z1 (rdX B n of).2.1 (rdX B n of).2.2.1)) 0 0 16 [some (.ref r), some (.int (nI of)), some (.ref tp), some (.int (nI n)), some (.int (nI i))] [] h' := by
    intro d
    induction d with
    | zero =>
      intro i q T f s F hq hd hi hF hX h' Z1 M htq hT hFP hC hz
      have hk0 : kN B n q = 0 := if_pos (by omega)
      obtain ⟨F, rfl⟩ : ∃ F', F = F' + 1 := ⟨F - 1, by omega⟩
      rw [tx_end hk0] at hX
      have hkc := kcN_le (kN_le B n q)
      refine A_iload4 d_Rd_read_16 ?_
      refine A_sipush (v := nI 600) d_Rd_read_18 (by decide) ?_
      first | refine A_icmp_gtN (tgt := 80) d_Rd_read_21 (by decide) (by with_reducible rfl) (by with_reducible rfl) (by omega) (by omega) (fun c_21 => ?_) (fun c_21 => ?_) | refine A_icmp_gt (tgt := 80) d_Rd_read_21 (by decide) (fun c_21 => ?_) (fun c_21 => ?_)
      · first
          | (exfalso; omega)
          | exact key2 _ q _ _ _ _ _ hX.symm M htq hT hFP hC hz
      · refine A_aload_n0 d_Rd_read_24 ?_
        refine A_getf (kf := 0) d_Rd_read_25 M.1.o ok_3 (by decide) q_274 rfl ?_
        refine A_getf (kf := 4) d_Rd_read_28 M.1.tk ok_5 (by decide) q_251 rfl ?_
        refine A_topI hT.2.2.2.1 ?_
        first | refine A_if_eqN (tgt := 80) d_Rd_read_31 (by decide) (by with_reducible rfl) (by omega) (fun c_31 => ?_) (fun c_31 => ?_) | refine A_if_eq (tgt := 80) d_Rd_read_31 (by decide) (fun c_31 => ?_) (fun c_31 => ?_)
        · first
            | (exfalso; omega)
            | exact key2 _ q _ _ _ _ _ hX.symm M htq hT hFP hC hz
        · exact absurd ((kcN_0 _).mpr hk0) c_31
    | succ d ih =>
      intro i q T f s F hq hd hi hF hX h' Z1 M htq hT hFP hC hz
      obtain ⟨F, rfl⟩ : ∃ F', F = F' + 1 := ⟨F - 1, by omega⟩
      have hkc := kcN_le (kN_le B n q)
      by_cases hk0 : kN B n q = 0
      · rw [tx_end hk0] at hX
        refine A_iload4 d_Rd_read_16 ?_
        refine A_sipush (v := nI 600) d_Rd_read_18 (by decide) ?_
        first | refine A_icmp_gtN (tgt := 80) d_Rd_read_21 (by decide) (by with_reducible rfl) (by with_reducible rfl) (by omega) (by omega) (fun c_21 => ?_) (fun c_21 => ?_) | refine A_icmp_gt (tgt := 80) d_Rd_read_21 (by decide) (fun c_21 => ?_) (fun c_21 => ?_)
        · first
            | (exfalso; omega)
            | exact key2 _ q _ _ _ _ _ hX.symm M htq hT hFP hC hz
        · refine A_aload_n0 d_Rd_read_24 ?_
          refine A_getf (kf := 0) d_Rd_read_25 M.1.o ok_3 (by decide) q_274 rfl ?_
          refine A_getf (kf := 4) d_Rd_read_28 M.1.tk ok_5 (by decide) q_251 rfl ?_
          refine A_topI hT.2.2.2.1 ?_
          first | refine A_if_eqN (tgt := 80) d_Rd_read_31 (by decide) (by with_reducible rfl) (by omega) (fun c_31 => ?_) (fun c_31 => ?_) | refine A_if_eq (tgt := 80) d_Rd_read_31 (by decide) (fun c_31 => ?_) (fun c_31 => ?_)
          · first
              | (exfalso; omega)
              | exact key2 _ q _ _ _ _ _ hX.symm M htq hT hFP hC hz
          · exact absurd ((kcN_0 _).mpr hk0) c_31
      · skip
        refine A_iload4 d_Rd_read_16 ?_
        refine A_sipush (v := nI 600) d_Rd_read_18 (by decide) ?_
        first | refine A_icmp_gtN (tgt := 80) d_Rd_read_21 (by decide) (by with_reducible rfl) (by with_reducible rfl) (by omega) (by omega) (fun c_21 => ?_) (fun c_21 => ?_) | refine A_icmp_gt (tgt := 80) d_Rd_read_21 (by decide) (fun c_21 => ?_) (fun c_21 => ?_)
        · first
            | (exfalso; omega)
            | exact absurd ((kcN_0 _).mp c_31) hk0
        · refine A_aload_n0 d_Rd_read_24 ?_
          refine A_getf (kf := 0) d_Rd_read_25 M.1.o ok_3 (by decide) q_274 rfl ?_
          refine A_getf (kf := 4) d_Rd_read_28 M.1.tk ok_5 (by decide) q_251 rfl ?_
          refine A_topI hT.2.2.2.1 ?_
          first | refine A_if_eqN (tgt := 80) d_Rd_read_31 (by decide) (by with_reducible rfl) (by omega) (fun c_31 => ?_) (fun c_31 => ?_) | refine A_if_eq (tgt := 80) d_Rd_read_31 (by decide) (fun c_31 => ?_) (fun c_31 => ?_)
          · first
              | (exfalso; omega)
              | exact absurd ((kcN_0 _).mp c_31) hk0
          · refine A_aload_n0 d_Rd_read_34 ?_
            refine A_iload_n1 d_Rd_read_35 ?_
            refine A_callV d_Rd_read_36 (c_Rd_readLine M.1 (hOl.kept (fun i hi => M.2 i (.inl (by have := hR.ge; omega)))) (B := B) (by rw [htq]; exact hB.kept (M.2 _ (.inl htp))) (by rw [htq]; exact htp) hn hT of hof) M.1.o rfl q_456 q_457 q_458 mk_Rd_readLine rfl (by decide) rfl (Nat.le_of_ble_eq_true rfl) ⟨Nat.le_of_ble_eq_true rfl, Nat.le_of_ble_eq_true rfl⟩ ?_
            rintro v5 h5 ⟨Z2, M2, hK, ⟨x, hle, rfl, hpl⟩ | ⟨hle, rfl, hln⟩⟩
            · replace M := M.trans M2
              clear M2
              refine A_if_neB (tgt := 59) d_Rd_read_39 (by decide) (fun c => absurd c (by decide)) (fun c_39 => ?_)
              refine A_aload_n0 d_Rd_read_42 ?_
              refine A_iconst (v := nI 1) d_Rd_read_43 (by decide) ?_
              refine A_rdInt (kf := 6) d_Rd_read_44 (by decide) q_285 (Or.inl rfl) (by decide +kernel) M rfl (fun h' M' => ?_)
              replace M := M'
              clear M'
              refine A_aload_n0 d_Rd_read_47 ?_
              refine A_aload_n0 d_Rd_read_48 ?_
              refine A_getf (kf := 0) d_Rd_read_49 M.1.o ok_3 (by decide) q_274 rfl ?_
              refine A_getf (kf := 2) d_Rd_read_52 M.1.tk ok_5 (by decide) q_248 rfl ?_
              refine A_topI hpl ?_
              refine A_rdInt (kf := 7) d_Rd_read_55 (by decide) q_287 (Or.inl rfl) (by decide +kernel) M rfl (fun h' M' => ?_)
              replace M := M'
              clear M'
              
              refine A_vret d_Rd_read_58 rfl ⟨Nat.zero_le _, Nat.zero_le _⟩ ?_
              rw [tx_bad hk0 hle] at hX
              have hft : ftN B n of = 1 := by unfold ftN; rw [← hX]
              have hpln : plN B n of = nI x := by unfold plN; rw [← hX]
              refine ⟨rfl, _, M, by rw [hft]; decide, (show ∃ z, Z2.2.2.2.1.1 14 = bI z by rw [hK.2.2.1]; exact hz), by rw [hft]; rfl, by rw [hpln]; exact fup_eq (fup Z2.1 6 (nI 1)) 7 (nI x), fun z => by rw [hft] at z; cases z⟩
            · replace M := M.trans M2
              clear M2
              obtain ⟨h8, h9, hA, hD, hT2⟩ := hln
              rw [tx_go hk0 hle] at hX
              have hqn := kN_lt hk0
              have hfl : flN B n (lkN B n of q) q = none := by
                cases z : flN B n (lkN B n of q) q with
                | none => rfl
                | some x => rw [le_fl z] at hle; cases hle
              obtain ⟨h12, hnu⟩ := flN_nu hfl
              have hk12 : lkN B n of q < 12 := by have := lkN_lt B n of q; omega
              have hcas := lk_cases hof h12
              have hn1 := nxN_lt (B := B) hqn
              have hn2 := itN_bd (B := B) hn1.2 (sgN (lkN B n of q))
              have hn3 := nxN_bd (B := B) hn2.2
              have hpos := (num_k _ hk12).2.1
              have hCk := fun s0 => (hC s0).lk hK
              have hFPk : FP Z2.1 s := ⟨(hK.1 6 (by decide) (by decide) (by decide)).trans hFP.1, fun z => (hK.1 7 (by decide) (by decide) (by decide)).trans (hFP.2.1 z), hFP.2.2.1, fun z => (hK.1 7 (by decide) (by decide) (by decide)).trans (hFP.2.2.2 z)⟩
              refine A_if_neB (tgt := 59) d_Rd_read_39 (by decide) (fun c_39 => ?_) (fun c => absurd c (by decide))
              refine A_aload_n0 d_Rd_read_59 ?_
              refine A_callV d_Rd_read_60 (c_Rd_checkLine M.1 (hOl.kept (fun i hi => M.2 i (.inl (by have := hR.ge; omega)))) hk12 h8 h9 (v := lnV B n (nxN B n q)) (pl := itN B n (nxN B n q)) (fun i hi => ⟨(hA i hi).1, tvN_le (nuF_k hnu i hi)⟩) (fun i hi => (hA i hi).2) hFPk) M.1.o rfl q_541 q_542 q_543 mk_Rd_checkLine rfl (by decide) rfl (Nat.le_of_ble_eq_true rfl) ⟨Nat.le_of_ble_eq_true rfl, Nat.le_of_ble_eq_true rfl⟩ ?_
              rintro _ h6 ⟨rfl, F1, M6, hF1, hFP1⟩
              replace M := M.trans M6
              clear M6
              have hCf : s.1 = 0 → CR of (F1, Z2.2) T f := fun s0 => (hCk s0).same (hF1 13 (by decide) (by decide)) (hF1 14 (by decide) (by decide)) rfl rfl rfl (fun _ _ => rfl)
              have hsS : ckS (lkN B n of q) (lnV B n (nxN B n q)) (itN B n (nxN B n q)) (tooB (lkN B n of q) Z2) q s (ncN (lkN B n of q)) = lnS (lkN B n of q) B n (nxN B n q) (if fulN (lkN B n of q) T = true then nt 3 q s else s) := by
                show foldN _ (if tooB (lkN B n of q) Z2 = true then nt 3 q s else s) _ = foldN _ _ _
                by_cases s0 : s.1 = 0
                · rw [too_ful (hCk s0) hcas]
                · rw [show nt 3 q s = s from if_neg s0, ite_self, ite_self]
              have hs4 := hFP1.2.2.1
              refine A_aload_n0 d_Rd_read_63 ?_
              refine A_getf (kf := 6) d_Rd_read_64 M.1.o ok_3 (by decide) q_285 rfl ?_
              refine A_topI hFP1.1 ?_
              first | refine A_if_neN (tgt := 74) d_Rd_read_67 (by decide) (by with_reducible rfl) (by omega) (fun c_67 => ?_) (fun c_67 => ?_) | refine A_if_ne (tgt := 74) d_Rd_read_67 (by decide) (fun c_67 => ?_) (fun c_67 => ?_)
              · first | refine A_iinc4 d_Rd_read_74 (nI_1 _) trivial ?_ | refine A_iinc4 d_Rd_read_74 rfl trivial ?_
                refine A_goto (tgt := 16) d_Rd_read_77 (by decide) ?_
                first
                  | exact ih _ _ _ _ _ F (by omega) (by omega) (by omega) (by omega) hX _ _ M (e2.trans (hK.2.1.trans htq)) (by rw [e1]; exact hT2) (by rw [← hsS]; exact ⟨e6.trans hFP1.1, fun z => absurd hck0 z, hFP1.2.2.1, fun z => e7.trans (hFP1.2.2.2 z)⟩) (fun _ => hC7) hC7.2.2.2.2.2.2.2
                  | exact ih _ _ _ _ _ F (by omega) (by omega) (by omega) (by omega) hX _ _ M (hK.2.1.trans htq) hT2 (by rw [← hsS]; exact hFP1) (fun z => by rw [← hsS] at z; exact absurd z c_67) (show ∃ z, Z2.2.2.2.1.1 14 = bI z by rw [hK.2.2.1]; exact hz)
              · refine A_aload_n0 d_Rd_read_70 ?_
                have hck0 : (ckS (lkN B n of q) (lnV B n (nxN B n q)) (itN B n (nxN B n q)) (tooB (lkN B n of q) Z2) q s (ncN (lkN B n of q))).1 = 0 := by omega
                have hck := ckS_0 _ hck0
                refine A_callV d_Rd_read_71 (c_Rd_tellLine M.1 ((hF1 8 (by decide) (by decide)).trans h8) hcas (fun i hi => (hA i hi).1) hck.2.2 ((too_ful (hCk hck.1) hcas).symm.trans hck.2.1) (hCf hck.1) (d := dkN B n q) (b := isW B n (itN B n (nxN B n q) 2) wd_dark) (fun z => ⟨(hF1 12 (by decide) (by decide)).trans (hD z), rfl⟩)) M.1.o rfl q_561 q_562 q_563 mk_Rd_tellLine rfl (by decide) rfl (Nat.le_of_ble_eq_true rfl) ⟨Nat.le_of_ble_eq_true rfl, Nat.le_of_ble_eq_true rfl⟩ ?_
                rintro _ h7 ⟨rfl, Z7, M7, e1, e2, e6, e7, hC7⟩
                replace M := M.trans M7
                clear M7
                first | refine A_iinc4 d_Rd_read_74 (nI_1 _) trivial ?_ | refine A_iinc4 d_Rd_read_74 rfl trivial ?_
                refine A_goto (tgt := 16) d_Rd_read_77 (by decide) ?_
                first
                  | exact ih _ _ _ _ _ F (by omega) (by omega) (by omega) (by omega) hX _ _ M (e2.trans (hK.2.1.trans htq)) (by rw [e1]; exact hT2) (by rw [← hsS]; exact ⟨e6.trans hFP1.1, fun z => absurd hck0 z, hFP1.2.2.1, fun z => e7.trans (hFP1.2.2.2 z)⟩) (fun _ => hC7) hC7.2.2.2.2.2.2.2
                  | exact ih _ _ _ _ _ F (by omega) (by omega) (by omega) (by omega) hX _ _ M (hK.2.1.trans htq) hT2 (by rw [← hsS]; exact hFP1) (fun z => by rw [← hsS] at z; exact absurd z c_67) (show ∃ z, Z2.2.2.2.1.1 14 = bI z by rw [hK.2.2.1]; exact hz)
  have M := RdW.start hR
  refine A_aload_n0 d_Rd_read_0 ?_
  refine A_callV d_Rd_read_1 (c_Rd_clear hR h14) M.1.o rfl q_417 q_418 q_419 mk_Rd_clear rfl (by decide) rfl (Nat.le_of_ble_eq_true rfl) ⟨Nat.le_of_ble_eq_true rfl, Nat.le_of_ble_eq_true rfl⟩ ?_
  rintro _ h5 ⟨rfl, Z1, M5, e1, e2, e6, e7, hC⟩
  replace M := M.trans M5
  clear M5
  refine A_aload_n0 d_Rd_read_4 ?_
  refine A_getf (kf := 0) d_Rd_read_5 M.1.o ok_3 (by decide) q_274 rfl ?_
  refine A_aload_n2 d_Rd_read_8 ?_
  refine A_iload_n3 d_Rd_read_9 ?_
  refine A_callV d_Rd_read_10 (c_To_begin (by have := hR.ge; omega) M.1.tk (hB.kept (M.2 _ (.inl htp))) (show tp ≠ r + 1 by omega) hn) M.1.tk rfl q_433 q_434 q_435 mk_To_begin rfl (by decide) rfl (Nat.le_of_ble_eq_true rfl) ⟨Nat.le_of_ble_eq_true rfl, Nat.le_of_ble_eq_true rfl⟩ ?_
  rintro _ h6 ⟨rfl, E6, M6, hT⟩
  replace M := M.tok M6
  clear M6
  refine A_iconst (v := nI 0) d_Rd_read_13 (by decide) ?_
  refine A_istore4 d_Rd_read_14 trivial ?_
  exact key n 0 (skN B n 0) (T0F of) (0, 0, 0) (0, 0) (n + 1) (skN_bd (Nat.zero_le _)).2 (by omega) (Nat.zero_le _) (by omega) rfl _ _ M rfl hT ⟨e6, fun z => absurd rfl z, Nat.zero_le _, fun _ => e7⟩ (fun _ => (hC of).same rfl rfl rfl rfl rfl (fun _ _ => rfl)) (hC of).2.2.2.2.2.2.2
