theorem flN_s {B : Nat → Nat} {n k q x : Nat} (hk : k ≠ 12) (h : nuF B n (nxN B n q) (ncN k) = some x) : flN B n k q = some x := by
  unfold flN
  rw [if_neg hk, h]
theorem flN_n {B : Nat → Nat} {n k q : Nat} (hk : k ≠ 12) (h10 : k ≠ 10) (h : nuF B n (nxN B n q) (ncN k) = none) : flN B n k q = none := by
  unfold flN
  rw [if_neg hk, h]
  exact if_neg (fun z => h10 z.1)
theorem ful_4 {α : Type} (T : Nat → Nat) (a b : α) : (if T 4 = 10 then a else b) = if fulN 4 T = true then a else b := by
  have e : fulN 4 T = decide (T 4 = 10) := rfl
  rw [e]
  simp
theorem ful_6 {α : Type} (T : Nat → Nat) (a b : α) : (if T 5 = 6 then a else b) = if fulN 6 T = true then a else b := by
  have e : fulN 6 T = decide (T 5 = 6) := rfl
  rw [e]
  simp
theorem ful_9 {α : Type} (T : Nat → Nat) (a b : α) : (if T 0 = 30 then a else b) = if fulN 9 T = true then a else b := by
  have e : fulN 9 T = decide (T 0 = 30) := rfl
  rw [e]
  simp
theorem ful_10 {α : Type} (T : Nat → Nat) (a b : α) : (if T 0 = 20 then a else b) = if fulN 10 T = true then a else b := by
  have e : fulN 10 T = decide (T 0 = 20) := rfl
  rw [e]
  simp
theorem LnS.ful {S0 S S1 : MS} {B : Nat → Nat} {n q : Nat} {T : Nat → Nat} {f : Nat × Nat × Nat} {s s' : Nat × Nat} {g : Bool} (hL : LnS S0 S B n q q (T, f, s) g) (e18 : S1.1 18 = nI s'.1) (e19 : s'.1 ≠ 0 → S1.1 19 = nI s'.2) (a : SF S S1 [18, 19]) (bb : Bool) (hs : s' = if bb = true then nt 3 q s else s) : LnS S0 S1 B n q (q + 1) (T, f, s') g := by
  obtain ⟨l1, l2, l3, ⟨r1, r2, r3, r4, r5, r6⟩, l5, l6, l7, l8, l9⟩ := hL
  have hn := l2.2.1
  refine ⟨l1.tr (KT.sf a (by decide)), KT.tpe (KT.sf a (by decide)) l2, TOK.sf a (by decide) l3, ⟨fun i hi => by rw [a.2]; exact r1 i hi, (a.1 22 (by decide)).trans r2, (a.1 23 (by decide)).trans r3, (a.1 24 (by decide)).trans r4, e18, e19⟩, (a.1 25 (by decide)).trans l5, l6, ?_⟩
  have l7 : s.1 ≤ 4 := l7
  have l8 : s.1 ≠ 0 → s.2 ≤ 600 := l8
  have l9 : s.1 ≠ 0 → s.2 < q := l9
  show s'.1 ≤ 4 ∧ (s'.1 ≠ 0 → s'.2 ≤ 600) ∧ (s'.1 ≠ 0 → s'.2 < q + 1)
  rw [hs]
  unfold nt
  split
  · split
    · exact ⟨show (3 : Nat) ≤ 4 by omega, fun _ => show q ≤ 600 by omega, fun _ => Nat.lt_succ_self q⟩
    · exact ⟨l7, l8, fun z => by have := l9 z; omega⟩
  · exact ⟨l7, l8, fun z => by have := l9 z; omega⟩
theorem LnS.at {S0 S : MS} {B : Nat → Nat} {n q b : Nat} {r r' : RS} {g : Bool} (h : LnS S0 S B n q b r g) (e : r = r') : LnS S0 S B n q b r' g := e ▸ h
theorem likG7 {v : Nat → Nat} (h : lnG 7 v = true) : v 0 ≤ 23 := by
  have h : ((true && inrN 7 v 0) && inrN 7 v 1) = true := h
  simp only [Bool.and_eq_true, Bool.true_and] at h
  obtain ⟨a, b⟩ := h
  simp only [inrN, inN, Bool.and_eq_true, decide_eq_true_eq] at a
  exact a.2
set_option maxHeartbeats 4000000 in
set_option maxRecDepth 100000 in
theorem c_M_land_hours {G : GE} {h0 h : AH} {m : Nat} {S : MS} (hM : MW h0 h m S) {S0 : MS} {B : Nat → Nat} {n q : Nat} {T : Nat → Nat} {f : Nat × Nat × Nat} {s : Nat × Nat} (hL : LnS S0 S B n q q (T, f, s) true) (hqn : q < n) : Ctr G y_M_landLine b_M_landLine 5 (some .boolean) r_M_landLine [.ref m, .long (448546566771), .int (nI q)] h (fun v h' => (∃ x, flN B n 0 q = some x ∧ v = some (.int (bI false)) ∧ ∃ S1, MW h0 h' m S1 ∧ KT S0 S1 ∧ S1.1 17 = nI x) ∨ (flN B n 0 q = none ∧ v = some (.int (bI true)) ∧ ∃ S1 g', MW h0 h' m S1 ∧ LnS S0 S1 B n (itN B n (nxN B n q) (sgN 0)) (itN B n (nxN B n q) (sgN 0)) (lnF 0 B n q (T, f, s)) g')) := by
  have hn := hL.2.1.2.1
  have hs4 : s.1 ≤ 4 := hL.2.2.2.2.2.2.1
  have hs6 : s.1 ≠ 0 → s.2 ≤ 600 := hL.2.2.2.2.2.2.2.1
  refine Ctr.of (by decide +kernel) (by simp) (Nat.le_of_ble_eq_true rfl) (L0 := [some (.ref m), some (.long (448546566771)), none, some (.int (nI q)), none]) rfl ?_
  refine A_lload_n1 d_M_landLine_0 ?_
  refine A_ldc2 d_M_landLine_1 q_1266 ?_
  refine A_lcmp d_M_landLine_4 ?_
  refine A_if_ne (tgt := 12) d_M_landLine_5 (by decide) (fun c => absurd (by decide +kernel) c) (fun c_5 => ?_)
  refine A_iconst (v := nI 0) d_M_landLine_8 (by decide) ?_
  refine A_goto (tgt := 49) d_M_landLine_9 (by decide) ?_
  refine A_istore4 d_M_landLine_49 trivial ?_
  refine A_iload4 d_M_landLine_51 ?_
  refine A_iconst (v := (-1)) d_M_landLine_53 (by decide) ?_
  refine A_icmp_ne (tgt := 94) d_M_landLine_54 (by decide) (fun c_54 => ?_) (fun c => absurd c (by decide))
  refine A_lload_n1 d_M_landLine_94 ?_
  refine A_ldc2 d_M_landLine_95 q_1270 ?_
  refine A_lcmp d_M_landLine_98 ?_
  refine A_if_ne (tgt := 113) d_M_landLine_99 (by decide) (fun c_99 => ?_) (fun c => absurd c (by decide +kernel))
  refine A_lload_n1 d_M_landLine_113 ?_
  refine A_ldc2 d_M_landLine_114 q_1272 ?_
  refine A_lcmp d_M_landLine_117 ?_
  refine A_if_ne (tgt := 129) d_M_landLine_118 (by decide) (fun c_118 => ?_) (fun c => absurd c (by decide +kernel))
  refine A_aload_n0 d_M_landLine_129 ?_
  refine A_callV d_M_landLine_130 (c_M_tokenL hM hL (by omega) hqn) hM.o rfl q_1246 q_1248 qs_18 mk_M_token rfl (by decide) rfl (Nat.le_of_ble_eq_true rfl) ⟨Nat.le_of_ble_eq_true rfl, Nat.le_of_ble_eq_true rfl⟩ (fun v h1 hv => ?_)
  obtain ⟨rfl, St, hM, hL0, -⟩ := hv
  refine A_lload_n1 d_M_landLine_133 ?_
  refine A_ldc2 d_M_landLine_134 q_1271 ?_
  refine A_lcmp d_M_landLine_137 ?_
  refine A_if_ne (tgt := 146) d_M_landLine_138 (by decide) (fun c_138 => ?_) (fun c => absurd c (by decide +kernel))
  refine A_lload_n1 d_M_landLine_146 ?_
  refine A_ldc2 d_M_landLine_147 q_1270 ?_
  refine A_lcmp d_M_landLine_150 ?_
  refine A_if_ne (tgt := 202) d_M_landLine_151 (by decide) (fun c_151 => ?_) (fun c => absurd c (by decide +kernel))
  refine A_lload_n1 d_M_landLine_202 ?_
  refine A_ldc2 d_M_landLine_203 q_1272 ?_
  refine A_lcmp d_M_landLine_206 ?_
  refine A_if_ne (tgt := 247) d_M_landLine_207 (by decide) (fun c_207 => ?_) (fun c => absurd c (by decide +kernel))
  refine A_lload_n1 d_M_landLine_247 ?_
  refine A_ldc2 d_M_landLine_248 q_1273 ?_
  refine A_lcmp d_M_landLine_251 ?_
  refine A_if_ne (tgt := 325) d_M_landLine_252 (by decide) (fun c_252 => ?_) (fun c => absurd c (by decide +kernel))
  refine A_aload_n0 d_M_landLine_325 ?_
  refine A_iconst (v := nI 0) d_M_landLine_326 (by decide) ?_
  refine A_iload4 d_M_landLine_327 ?_
  refine A_if_ne (tgt := 336) d_M_landLine_329 (by decide) (fun c => absurd rfl c) (fun c_329 => ?_)
  refine A_iconst (v := nI 4) d_M_landLine_332 (by decide) ?_
  refine A_goto (tgt := 347) d_M_landLine_333 (by decide) ?_
  refine A_iload4 d_M_landLine_347 ?_
  refine A_if_ne (tgt := 357) d_M_landLine_349 (by decide) (fun c => absurd rfl c) (fun c_349 => ?_)
  refine A_bipush (v := nI 24) d_M_landLine_352 (by decide) ?_
  refine A_goto (tgt := 379) d_M_landLine_354 (by decide) ?_
  refine A_callV d_M_landLine_379 (c_M_takeL hM hL0 (k := 0) (lo := 4) (hi := 24) (by decide) (by omega) (by omega)) hM.o rfl q_1290 q_1292 qs_27 mk_M_take rfl (by decide) rfl (Nat.le_of_ble_eq_true rfl) ⟨Nat.le_of_ble_eq_true rfl, Nat.le_of_ble_eq_true rfl⟩ (fun v h1 hv => ?_)
  rcases hv with ⟨k0, rfl, S8, hM, hK8, e17⟩ | ⟨k0, rfl, S1, hM, hL1, e21_0⟩
  · have hfl : nuF B n (nxN B n q) 1 = some (itN B n (nxN B n q) 0) := nuF_s (by decide) (fun i h => by omega) k0
    refine A_if_neB (tgt := 387) d_M_landLine_382 (by decide) (fun c => absurd c (by decide)) (fun c_382 => ?_)
    refine A_iconst (v := nI 0) d_M_landLine_385 (by decide) ?_
    refine A_zret d_M_landLine_386 rfl (by first | rfl | exact bI_nar _ | decide) ⟨Nat.zero_le _, Nat.zero_le _⟩ ?_
    exact Or.inl ⟨_, flN_s (k := 0) (by decide) hfl, rfl, S8, hM, hK8, e17⟩
  · have v0 : lnV B n (nxN B n q) 0 ≤ 99 := tvN_le k0
    refine A_if_neB (tgt := 387) d_M_landLine_382 (by decide) (fun c_382 => ?_) (fun c => absurd c (by decide))
    have hfl : nuF B n (nxN B n q) 1 = none := nuF_n (fun i h => (show i = 0 by omega) ▸ k0)
    have r21 : ∀ i, i < 1 → S1.2.2.1 21 i = nI (lnV B n (nxN B n q) i) := by
      intro i hi
      obtain rfl : i = 0 := by omega
      rw [e21_0, fup_eq]
      rfl
    refine A_aload_n0 d_M_landLine_387 ?_
    refine A_getf (kf := 20) d_M_landLine_388 hM.o ok_8 (by decide) q_1069 rfl ?_
    refine A_iload4 d_M_landLine_391 ?_
    refine A_aload_n0 d_M_landLine_393 ?_
    refine A_getf (kf := 21) d_M_landLine_394 hM.o ok_8 (by decide) q_1070 rfl ?_
    refine A_iconst (v := nI 0) d_M_landLine_397 (by decide) ?_
    refine A_ialdN d_M_landLine_398 hM.a21 ⟨by decide, by decide⟩ ?_
    refine A_topI (show S1.2.2.1 21 0 = nI (lnV B n (nxN B n q) 0) from r21 0 (by decide)) ?_
    refine A_st20 hM d_M_landLine_399 (by omega) (fun h hM => ?_)
    obtain ⟨S9, hM, e9, x9⟩ := opa20 hM
    have hL9 := LnS.a20 (T' := fup T 0 (lnV B n (nxN B n q) 0)) hL1 x9 (fun i hi => by
      rw [e9]
      by_cases z : i = 0
      · rw [z, fup_eq, fup_eq]
      · rw [fup_ne _ _ z, fup_ne _ _ z]; exact hL1.2.2.2.1.1 i hi)
    refine A_iconst (v := nI 1) d_M_landLine_400 (by decide) ?_
    refine A_zret d_M_landLine_401 rfl (by first | rfl | exact bI_nar _ | decide) ⟨Nat.zero_le _, Nat.zero_le _⟩ ?_
    exact Or.inr ⟨flN_n (k := 0) (by decide) (by decide) hfl, rfl, S9, _, hM, LnS.at hL9 rfl⟩
set_option maxHeartbeats 4000000 in
set_option maxRecDepth 100000 in
theorem c_M_land_cross {G : GE} {h0 h : AH} {m : Nat} {S : MS} (hM : MW h0 h m S) {S0 : MS} {B : Nat → Nat} {n q : Nat} {T : Nat → Nat} {f : Nat × Nat × Nat} {s : Nat × Nat} (hL : LnS S0 S B n q q (T, f, s) true) (hqn : q < n) : Ctr G y_M_landLine b_M_landLine 5 (some .boolean) r_M_landLine [.ref m, .long (427121668979), .int (nI q)] h (fun v h' => (∃ x, flN B n 1 q = some x ∧ v = some (.int (bI false)) ∧ ∃ S1, MW h0 h' m S1 ∧ KT S0 S1 ∧ S1.1 17 = nI x) ∨ (flN B n 1 q = none ∧ v = some (.int (bI true)) ∧ ∃ S1 g', MW h0 h' m S1 ∧ LnS S0 S1 B n (itN B n (nxN B n q) (sgN 1)) (itN B n (nxN B n q) (sgN 1)) (lnF 1 B n q (T, f, s)) g')) := by
  have hn := hL.2.1.2.1
  have hs4 : s.1 ≤ 4 := hL.2.2.2.2.2.2.1
  have hs6 : s.1 ≠ 0 → s.2 ≤ 600 := hL.2.2.2.2.2.2.2.1
  refine Ctr.of (by decide +kernel) (by simp) (Nat.le_of_ble_eq_true rfl) (L0 := [some (.ref m), some (.long (427121668979)), none, some (.int (nI q)), none]) rfl ?_
  refine A_lload_n1 d_M_landLine_0 ?_
  refine A_ldc2 d_M_landLine_1 q_1266 ?_
  refine A_lcmp d_M_landLine_4 ?_
  refine A_if_ne (tgt := 12) d_M_landLine_5 (by decide) (fun c_5 => ?_) (fun c => absurd c (by decide +kernel))
  refine A_lload_n1 d_M_landLine_12 ?_
  refine A_ldc2 d_M_landLine_13 q_1267 ?_
  refine A_lcmp d_M_landLine_16 ?_
  refine A_if_ne (tgt := 24) d_M_landLine_17 (by decide) (fun c => absurd (by decide +kernel) c) (fun c_17 => ?_)
  refine A_iconst (v := nI 1) d_M_landLine_20 (by decide) ?_
  refine A_goto (tgt := 49) d_M_landLine_21 (by decide) ?_
  refine A_istore4 d_M_landLine_49 trivial ?_
  refine A_iload4 d_M_landLine_51 ?_
  refine A_iconst (v := (-1)) d_M_landLine_53 (by decide) ?_
  refine A_icmp_ne (tgt := 94) d_M_landLine_54 (by decide) (fun c_54 => ?_) (fun c => absurd c (by decide))
  refine A_lload_n1 d_M_landLine_94 ?_
  refine A_ldc2 d_M_landLine_95 q_1270 ?_
  refine A_lcmp d_M_landLine_98 ?_
  refine A_if_ne (tgt := 113) d_M_landLine_99 (by decide) (fun c_99 => ?_) (fun c => absurd c (by decide +kernel))
  refine A_lload_n1 d_M_landLine_113 ?_
  refine A_ldc2 d_M_landLine_114 q_1272 ?_
  refine A_lcmp d_M_landLine_117 ?_
  refine A_if_ne (tgt := 129) d_M_landLine_118 (by decide) (fun c_118 => ?_) (fun c => absurd c (by decide +kernel))
  refine A_aload_n0 d_M_landLine_129 ?_
  refine A_callV d_M_landLine_130 (c_M_tokenL hM hL (by omega) hqn) hM.o rfl q_1246 q_1248 qs_18 mk_M_token rfl (by decide) rfl (Nat.le_of_ble_eq_true rfl) ⟨Nat.le_of_ble_eq_true rfl, Nat.le_of_ble_eq_true rfl⟩ (fun v h1 hv => ?_)
  obtain ⟨rfl, St, hM, hL0, -⟩ := hv
  refine A_lload_n1 d_M_landLine_133 ?_
  refine A_ldc2 d_M_landLine_134 q_1271 ?_
  refine A_lcmp d_M_landLine_137 ?_
  refine A_if_ne (tgt := 146) d_M_landLine_138 (by decide) (fun c_138 => ?_) (fun c => absurd c (by decide +kernel))
  refine A_lload_n1 d_M_landLine_146 ?_
  refine A_ldc2 d_M_landLine_147 q_1270 ?_
  refine A_lcmp d_M_landLine_150 ?_
  refine A_if_ne (tgt := 202) d_M_landLine_151 (by decide) (fun c_151 => ?_) (fun c => absurd c (by decide +kernel))
  refine A_lload_n1 d_M_landLine_202 ?_
  refine A_ldc2 d_M_landLine_203 q_1272 ?_
  refine A_lcmp d_M_landLine_206 ?_
  refine A_if_ne (tgt := 247) d_M_landLine_207 (by decide) (fun c_207 => ?_) (fun c => absurd c (by decide +kernel))
  refine A_lload_n1 d_M_landLine_247 ?_
  refine A_ldc2 d_M_landLine_248 q_1273 ?_
  refine A_lcmp d_M_landLine_251 ?_
  refine A_if_ne (tgt := 325) d_M_landLine_252 (by decide) (fun c_252 => ?_) (fun c => absurd c (by decide +kernel))
  refine A_aload_n0 d_M_landLine_325 ?_
  refine A_iconst (v := nI 0) d_M_landLine_326 (by decide) ?_
  refine A_iload4 d_M_landLine_327 ?_
  refine A_if_ne (tgt := 336) d_M_landLine_329 (by decide) (fun c_329 => ?_) (fun c => absurd c (by decide))
  refine A_iload4 d_M_landLine_336 ?_
  refine A_iconst (v := nI 3) d_M_landLine_338 (by decide) ?_
  refine A_icmp_ne (tgt := 346) d_M_landLine_339 (by decide) (fun c_339 => ?_) (fun c => absurd c (by decide))
  refine A_iconst (v := nI 0) d_M_landLine_346 (by decide) ?_
  refine A_iload4 d_M_landLine_347 ?_
  refine A_if_ne (tgt := 357) d_M_landLine_349 (by decide) (fun c_349 => ?_) (fun c => absurd c (by decide))
  refine A_iload4 d_M_landLine_357 ?_
  refine A_iconst (v := nI 1) d_M_landLine_359 (by decide) ?_
  refine A_icmp_ne (tgt := 367) d_M_landLine_360 (by decide) (fun c => absurd rfl c) (fun c_360 => ?_)
  refine A_iconst (v := nI 3) d_M_landLine_363 (by decide) ?_
  refine A_goto (tgt := 379) d_M_landLine_364 (by decide) ?_
  refine A_callV d_M_landLine_379 (c_M_takeL hM hL0 (k := 0) (lo := 0) (hi := 3) (by decide) (by omega) (by omega)) hM.o rfl q_1290 q_1292 qs_27 mk_M_take rfl (by decide) rfl (Nat.le_of_ble_eq_true rfl) ⟨Nat.le_of_ble_eq_true rfl, Nat.le_of_ble_eq_true rfl⟩ (fun v h1 hv => ?_)
  rcases hv with ⟨k0, rfl, S8, hM, hK8, e17⟩ | ⟨k0, rfl, S1, hM, hL1, e21_0⟩
  · have hfl : nuF B n (nxN B n q) 1 = some (itN B n (nxN B n q) 0) := nuF_s (by decide) (fun i h => by omega) k0
    refine A_if_neB (tgt := 387) d_M_landLine_382 (by decide) (fun c => absurd c (by decide)) (fun c_382 => ?_)
    refine A_iconst (v := nI 0) d_M_landLine_385 (by decide) ?_
    refine A_zret d_M_landLine_386 rfl (by first | rfl | exact bI_nar _ | decide) ⟨Nat.zero_le _, Nat.zero_le _⟩ ?_
    exact Or.inl ⟨_, flN_s (k := 1) (by decide) hfl, rfl, S8, hM, hK8, e17⟩
  · have v0 : lnV B n (nxN B n q) 0 ≤ 99 := tvN_le k0
    refine A_if_neB (tgt := 387) d_M_landLine_382 (by decide) (fun c_382 => ?_) (fun c => absurd c (by decide))
    have hfl : nuF B n (nxN B n q) 1 = none := nuF_n (fun i h => (show i = 0 by omega) ▸ k0)
    have r21 : ∀ i, i < 1 → S1.2.2.1 21 i = nI (lnV B n (nxN B n q) i) := by
      intro i hi
      obtain rfl : i = 0 := by omega
      rw [e21_0, fup_eq]
      rfl
    refine A_aload_n0 d_M_landLine_387 ?_
    refine A_getf (kf := 20) d_M_landLine_388 hM.o ok_8 (by decide) q_1069 rfl ?_
    refine A_iload4 d_M_landLine_391 ?_
    refine A_aload_n0 d_M_landLine_393 ?_
    refine A_getf (kf := 21) d_M_landLine_394 hM.o ok_8 (by decide) q_1070 rfl ?_
    refine A_iconst (v := nI 0) d_M_landLine_397 (by decide) ?_
    refine A_ialdN d_M_landLine_398 hM.a21 ⟨by decide, by decide⟩ ?_
    refine A_topI (show S1.2.2.1 21 0 = nI (lnV B n (nxN B n q) 0) from r21 0 (by decide)) ?_
    refine A_st20 hM d_M_landLine_399 (by omega) (fun h hM => ?_)
    obtain ⟨S9, hM, e9, x9⟩ := opa20 hM
    have hL9 := LnS.a20 (T' := fup T 1 (lnV B n (nxN B n q) 0)) hL1 x9 (fun i hi => by
      rw [e9]
      by_cases z : i = 1
      · rw [z, fup_eq, fup_eq]
      · rw [fup_ne _ _ z, fup_ne _ _ z]; exact hL1.2.2.2.1.1 i hi)
    refine A_iconst (v := nI 1) d_M_landLine_400 (by decide) ?_
    refine A_zret d_M_landLine_401 rfl (by first | rfl | exact bI_nar _ | decide) ⟨Nat.zero_le _, Nat.zero_le _⟩ ?_
    exact Or.inr ⟨flN_n (k := 1) (by decide) (by decide) hfl, rfl, S9, _, hM, LnS.at hL9 rfl⟩
set_option maxHeartbeats 4000000 in
set_option maxRecDepth 100000 in
theorem c_M_land_crowd {G : GE} {h0 h : AH} {m : Nat} {S : MS} (hM : MW h0 h m S) {S0 : MS} {B : Nat → Nat} {n q : Nat} {T : Nat → Nat} {f : Nat × Nat × Nat} {s : Nat × Nat} (hL : LnS S0 S B n q q (T, f, s) true) (hqn : q < n) : Ctr G y_M_landLine b_M_landLine 5 (some .boolean) r_M_landLine [.ref m, .long (427121669988), .int (nI q)] h (fun v h' => (∃ x, flN B n 2 q = some x ∧ v = some (.int (bI false)) ∧ ∃ S1, MW h0 h' m S1 ∧ KT S0 S1 ∧ S1.1 17 = nI x) ∨ (flN B n 2 q = none ∧ v = some (.int (bI true)) ∧ ∃ S1 g', MW h0 h' m S1 ∧ LnS S0 S1 B n (itN B n (nxN B n q) (sgN 2)) (itN B n (nxN B n q) (sgN 2)) (lnF 2 B n q (T, f, s)) g')) := by
  have hn := hL.2.1.2.1
  have hs4 : s.1 ≤ 4 := hL.2.2.2.2.2.2.1
  have hs6 : s.1 ≠ 0 → s.2 ≤ 600 := hL.2.2.2.2.2.2.2.1
  refine Ctr.of (by decide +kernel) (by simp) (Nat.le_of_ble_eq_true rfl) (L0 := [some (.ref m), some (.long (427121669988)), none, some (.int (nI q)), none]) rfl ?_
  refine A_lload_n1 d_M_landLine_0 ?_
  refine A_ldc2 d_M_landLine_1 q_1266 ?_
  refine A_lcmp d_M_landLine_4 ?_
  refine A_if_ne (tgt := 12) d_M_landLine_5 (by decide) (fun c_5 => ?_) (fun c => absurd c (by decide +kernel))
  refine A_lload_n1 d_M_landLine_12 ?_
  refine A_ldc2 d_M_landLine_13 q_1267 ?_
  refine A_lcmp d_M_landLine_16 ?_
  refine A_if_ne (tgt := 24) d_M_landLine_17 (by decide) (fun c_17 => ?_) (fun c => absurd c (by decide +kernel))
  refine A_lload_n1 d_M_landLine_24 ?_
  refine A_ldc2 d_M_landLine_25 q_1268 ?_
  refine A_lcmp d_M_landLine_28 ?_
  refine A_if_ne (tgt := 36) d_M_landLine_29 (by decide) (fun c => absurd (by decide +kernel) c) (fun c_29 => ?_)
  refine A_iconst (v := nI 2) d_M_landLine_32 (by decide) ?_
  refine A_goto (tgt := 49) d_M_landLine_33 (by decide) ?_
  refine A_istore4 d_M_landLine_49 trivial ?_
  refine A_iload4 d_M_landLine_51 ?_
  refine A_iconst (v := (-1)) d_M_landLine_53 (by decide) ?_
  refine A_icmp_ne (tgt := 94) d_M_landLine_54 (by decide) (fun c_54 => ?_) (fun c => absurd c (by decide))
  refine A_lload_n1 d_M_landLine_94 ?_
  refine A_ldc2 d_M_landLine_95 q_1270 ?_
  refine A_lcmp d_M_landLine_98 ?_
  refine A_if_ne (tgt := 113) d_M_landLine_99 (by decide) (fun c_99 => ?_) (fun c => absurd c (by decide +kernel))
  refine A_lload_n1 d_M_landLine_113 ?_
  refine A_ldc2 d_M_landLine_114 q_1272 ?_
  refine A_lcmp d_M_landLine_117 ?_
  refine A_if_ne (tgt := 129) d_M_landLine_118 (by decide) (fun c_118 => ?_) (fun c => absurd c (by decide +kernel))
  refine A_aload_n0 d_M_landLine_129 ?_
  refine A_callV d_M_landLine_130 (c_M_tokenL hM hL (by omega) hqn) hM.o rfl q_1246 q_1248 qs_18 mk_M_token rfl (by decide) rfl (Nat.le_of_ble_eq_true rfl) ⟨Nat.le_of_ble_eq_true rfl, Nat.le_of_ble_eq_true rfl⟩ (fun v h1 hv => ?_)
  obtain ⟨rfl, St, hM, hL0, -⟩ := hv
  refine A_lload_n1 d_M_landLine_133 ?_
  refine A_ldc2 d_M_landLine_134 q_1271 ?_
  refine A_lcmp d_M_landLine_137 ?_
  refine A_if_ne (tgt := 146) d_M_landLine_138 (by decide) (fun c_138 => ?_) (fun c => absurd c (by decide +kernel))
  refine A_lload_n1 d_M_landLine_146 ?_
  refine A_ldc2 d_M_landLine_147 q_1270 ?_
  refine A_lcmp d_M_landLine_150 ?_
  refine A_if_ne (tgt := 202) d_M_landLine_151 (by decide) (fun c_151 => ?_) (fun c => absurd c (by decide +kernel))
  refine A_lload_n1 d_M_landLine_202 ?_
  refine A_ldc2 d_M_landLine_203 q_1272 ?_
  refine A_lcmp d_M_landLine_206 ?_
  refine A_if_ne (tgt := 247) d_M_landLine_207 (by decide) (fun c_207 => ?_) (fun c => absurd c (by decide +kernel))
  refine A_lload_n1 d_M_landLine_247 ?_
  refine A_ldc2 d_M_landLine_248 q_1273 ?_
  refine A_lcmp d_M_landLine_251 ?_
  refine A_if_ne (tgt := 325) d_M_landLine_252 (by decide) (fun c_252 => ?_) (fun c => absurd c (by decide +kernel))
  refine A_aload_n0 d_M_landLine_325 ?_
  refine A_iconst (v := nI 0) d_M_landLine_326 (by decide) ?_
  refine A_iload4 d_M_landLine_327 ?_
  refine A_if_ne (tgt := 336) d_M_landLine_329 (by decide) (fun c_329 => ?_) (fun c => absurd c (by decide))
  refine A_iload4 d_M_landLine_336 ?_
  refine A_iconst (v := nI 3) d_M_landLine_338 (by decide) ?_
  refine A_icmp_ne (tgt := 346) d_M_landLine_339 (by decide) (fun c_339 => ?_) (fun c => absurd c (by decide))
  refine A_iconst (v := nI 0) d_M_landLine_346 (by decide) ?_
  refine A_iload4 d_M_landLine_347 ?_
  refine A_if_ne (tgt := 357) d_M_landLine_349 (by decide) (fun c_349 => ?_) (fun c => absurd c (by decide))
  refine A_iload4 d_M_landLine_357 ?_
  refine A_iconst (v := nI 1) d_M_landLine_359 (by decide) ?_
  refine A_icmp_ne (tgt := 367) d_M_landLine_360 (by decide) (fun c_360 => ?_) (fun c => absurd c (by decide))
  refine A_iload4 d_M_landLine_367 ?_
  refine A_iconst (v := nI 2) d_M_landLine_369 (by decide) ?_
  refine A_icmp_ne (tgt := 378) d_M_landLine_370 (by decide) (fun c => absurd rfl c) (fun c_370 => ?_)
  refine A_bipush (v := nI 9) d_M_landLine_373 (by decide) ?_
  refine A_goto (tgt := 379) d_M_landLine_375 (by decide) ?_
  refine A_callV d_M_landLine_379 (c_M_takeL hM hL0 (k := 0) (lo := 0) (hi := 9) (by decide) (by omega) (by omega)) hM.o rfl q_1290 q_1292 qs_27 mk_M_take rfl (by decide) rfl (Nat.le_of_ble_eq_true rfl) ⟨Nat.le_of_ble_eq_true rfl, Nat.le_of_ble_eq_true rfl⟩ (fun v h1 hv => ?_)
  rcases hv with ⟨k0, rfl, S8, hM, hK8, e17⟩ | ⟨k0, rfl, S1, hM, hL1, e21_0⟩
  · have hfl : nuF B n (nxN B n q) 1 = some (itN B n (nxN B n q) 0) := nuF_s (by decide) (fun i h => by omega) k0
    refine A_if_neB (tgt := 387) d_M_landLine_382 (by decide) (fun c => absurd c (by decide)) (fun c_382 => ?_)
    refine A_iconst (v := nI 0) d_M_landLine_385 (by decide) ?_
    refine A_zret d_M_landLine_386 rfl (by first | rfl | exact bI_nar _ | decide) ⟨Nat.zero_le _, Nat.zero_le _⟩ ?_
    exact Or.inl ⟨_, flN_s (k := 2) (by decide) hfl, rfl, S8, hM, hK8, e17⟩
  · have v0 : lnV B n (nxN B n q) 0 ≤ 99 := tvN_le k0
    refine A_if_neB (tgt := 387) d_M_landLine_382 (by decide) (fun c_382 => ?_) (fun c => absurd c (by decide))
    have hfl : nuF B n (nxN B n q) 1 = none := nuF_n (fun i h => (show i = 0 by omega) ▸ k0)
    have r21 : ∀ i, i < 1 → S1.2.2.1 21 i = nI (lnV B n (nxN B n q) i) := by
      intro i hi
      obtain rfl : i = 0 := by omega
      rw [e21_0, fup_eq]
      rfl
    refine A_aload_n0 d_M_landLine_387 ?_
    refine A_getf (kf := 20) d_M_landLine_388 hM.o ok_8 (by decide) q_1069 rfl ?_
    refine A_iload4 d_M_landLine_391 ?_
    refine A_aload_n0 d_M_landLine_393 ?_
    refine A_getf (kf := 21) d_M_landLine_394 hM.o ok_8 (by decide) q_1070 rfl ?_
    refine A_iconst (v := nI 0) d_M_landLine_397 (by decide) ?_
    refine A_ialdN d_M_landLine_398 hM.a21 ⟨by decide, by decide⟩ ?_
    refine A_topI (show S1.2.2.1 21 0 = nI (lnV B n (nxN B n q) 0) from r21 0 (by decide)) ?_
    refine A_st20 hM d_M_landLine_399 (by omega) (fun h hM => ?_)
    obtain ⟨S9, hM, e9, x9⟩ := opa20 hM
    have hL9 := LnS.a20 (T' := fup T 2 (lnV B n (nxN B n q) 0)) hL1 x9 (fun i hi => by
      rw [e9]
      by_cases z : i = 2
      · rw [z, fup_eq, fup_eq]
      · rw [fup_ne _ _ z, fup_ne _ _ z]; exact hL1.2.2.2.1.1 i hi)
    refine A_iconst (v := nI 1) d_M_landLine_400 (by decide) ?_
    refine A_zret d_M_landLine_401 rfl (by first | rfl | exact bI_nar _ | decide) ⟨Nat.zero_le _, Nat.zero_le _⟩ ?_
    exact Or.inr ⟨flN_n (k := 2) (by decide) (by decide) hfl, rfl, S9, _, hM, LnS.at hL9 rfl⟩
set_option maxHeartbeats 4000000 in
set_option maxRecDepth 100000 in
theorem c_M_land_walk {G : GE} {h0 h : AH} {m : Nat} {S : MS} (hM : MW h0 h m S) {S0 : MS} {B : Nat → Nat} {n q : Nat} {T : Nat → Nat} {f : Nat × Nat × Nat} {s : Nat × Nat} (hL : LnS S0 S B n q q (T, f, s) true) (hqn : q < n) : Ctr G y_M_landLine b_M_landLine 5 (some .boolean) r_M_landLine [.ref m, .long (2002873451), .int (nI q)] h (fun v h' => (∃ x, flN B n 3 q = some x ∧ v = some (.int (bI false)) ∧ ∃ S1, MW h0 h' m S1 ∧ KT S0 S1 ∧ S1.1 17 = nI x) ∨ (flN B n 3 q = none ∧ v = some (.int (bI true)) ∧ ∃ S1 g', MW h0 h' m S1 ∧ LnS S0 S1 B n (itN B n (nxN B n q) (sgN 3)) (itN B n (nxN B n q) (sgN 3)) (lnF 3 B n q (T, f, s)) g')) := by
  have hn := hL.2.1.2.1
  have hs4 : s.1 ≤ 4 := hL.2.2.2.2.2.2.1
  have hs6 : s.1 ≠ 0 → s.2 ≤ 600 := hL.2.2.2.2.2.2.2.1
  refine Ctr.of (by decide +kernel) (by simp) (Nat.le_of_ble_eq_true rfl) (L0 := [some (.ref m), some (.long (2002873451)), none, some (.int (nI q)), none]) rfl ?_
  refine A_lload_n1 d_M_landLine_0 ?_
  refine A_ldc2 d_M_landLine_1 q_1266 ?_
  refine A_lcmp d_M_landLine_4 ?_
  refine A_if_ne (tgt := 12) d_M_landLine_5 (by decide) (fun c_5 => ?_) (fun c => absurd c (by decide +kernel))
  refine A_lload_n1 d_M_landLine_12 ?_
  refine A_ldc2 d_M_landLine_13 q_1267 ?_
  refine A_lcmp d_M_landLine_16 ?_
  refine A_if_ne (tgt := 24) d_M_landLine_17 (by decide) (fun c_17 => ?_) (fun c => absurd c (by decide +kernel))
  refine A_lload_n1 d_M_landLine_24 ?_
  refine A_ldc2 d_M_landLine_25 q_1268 ?_
  refine A_lcmp d_M_landLine_28 ?_
  refine A_if_ne (tgt := 36) d_M_landLine_29 (by decide) (fun c_29 => ?_) (fun c => absurd c (by decide +kernel))
  refine A_lload_n1 d_M_landLine_36 ?_
  refine A_ldc2 d_M_landLine_37 q_1269 ?_
  refine A_lcmp d_M_landLine_40 ?_
  refine A_if_ne (tgt := 48) d_M_landLine_41 (by decide) (fun c => absurd (by decide +kernel) c) (fun c_41 => ?_)
  refine A_iconst (v := nI 3) d_M_landLine_44 (by decide) ?_
  refine A_goto (tgt := 49) d_M_landLine_45 (by decide) ?_
  refine A_istore4 d_M_landLine_49 trivial ?_
  refine A_iload4 d_M_landLine_51 ?_
  refine A_iconst (v := (-1)) d_M_landLine_53 (by decide) ?_
  refine A_icmp_ne (tgt := 94) d_M_landLine_54 (by decide) (fun c_54 => ?_) (fun c => absurd c (by decide))
  refine A_lload_n1 d_M_landLine_94 ?_
  refine A_ldc2 d_M_landLine_95 q_1270 ?_
  refine A_lcmp d_M_landLine_98 ?_
  refine A_if_ne (tgt := 113) d_M_landLine_99 (by decide) (fun c_99 => ?_) (fun c => absurd c (by decide +kernel))
  refine A_lload_n1 d_M_landLine_113 ?_
  refine A_ldc2 d_M_landLine_114 q_1272 ?_
  refine A_lcmp d_M_landLine_117 ?_
  refine A_if_ne (tgt := 129) d_M_landLine_118 (by decide) (fun c_118 => ?_) (fun c => absurd c (by decide +kernel))
  refine A_aload_n0 d_M_landLine_129 ?_
  refine A_callV d_M_landLine_130 (c_M_tokenL hM hL (by omega) hqn) hM.o rfl q_1246 q_1248 qs_18 mk_M_token rfl (by decide) rfl (Nat.le_of_ble_eq_true rfl) ⟨Nat.le_of_ble_eq_true rfl, Nat.le_of_ble_eq_true rfl⟩ (fun v h1 hv => ?_)
  obtain ⟨rfl, St, hM, hL0, -⟩ := hv
  refine A_lload_n1 d_M_landLine_133 ?_
  refine A_ldc2 d_M_landLine_134 q_1271 ?_
  refine A_lcmp d_M_landLine_137 ?_
  refine A_if_ne (tgt := 146) d_M_landLine_138 (by decide) (fun c_138 => ?_) (fun c => absurd c (by decide +kernel))
  refine A_lload_n1 d_M_landLine_146 ?_
  refine A_ldc2 d_M_landLine_147 q_1270 ?_
  refine A_lcmp d_M_landLine_150 ?_
  refine A_if_ne (tgt := 202) d_M_landLine_151 (by decide) (fun c_151 => ?_) (fun c => absurd c (by decide +kernel))
  refine A_lload_n1 d_M_landLine_202 ?_
  refine A_ldc2 d_M_landLine_203 q_1272 ?_
  refine A_lcmp d_M_landLine_206 ?_
  refine A_if_ne (tgt := 247) d_M_landLine_207 (by decide) (fun c_207 => ?_) (fun c => absurd c (by decide +kernel))
  refine A_lload_n1 d_M_landLine_247 ?_
  refine A_ldc2 d_M_landLine_248 q_1273 ?_
  refine A_lcmp d_M_landLine_251 ?_
  refine A_if_ne (tgt := 325) d_M_landLine_252 (by decide) (fun c_252 => ?_) (fun c => absurd c (by decide +kernel))
  refine A_aload_n0 d_M_landLine_325 ?_
  refine A_iconst (v := nI 0) d_M_landLine_326 (by decide) ?_
  refine A_iload4 d_M_landLine_327 ?_
  refine A_if_ne (tgt := 336) d_M_landLine_329 (by decide) (fun c_329 => ?_) (fun c => absurd c (by decide))
  refine A_iload4 d_M_landLine_336 ?_
  refine A_iconst (v := nI 3) d_M_landLine_338 (by decide) ?_
  refine A_icmp_ne (tgt := 346) d_M_landLine_339 (by decide) (fun c => absurd rfl c) (fun c_339 => ?_)
  refine A_iconst (v := nI 1) d_M_landLine_342 (by decide) ?_
  refine A_goto (tgt := 347) d_M_landLine_343 (by decide) ?_
  refine A_iload4 d_M_landLine_347 ?_
  refine A_if_ne (tgt := 357) d_M_landLine_349 (by decide) (fun c_349 => ?_) (fun c => absurd c (by decide))
  refine A_iload4 d_M_landLine_357 ?_
  refine A_iconst (v := nI 1) d_M_landLine_359 (by decide) ?_
  refine A_icmp_ne (tgt := 367) d_M_landLine_360 (by decide) (fun c_360 => ?_) (fun c => absurd c (by decide))
  refine A_iload4 d_M_landLine_367 ?_
  refine A_iconst (v := nI 2) d_M_landLine_369 (by decide) ?_
  refine A_icmp_ne (tgt := 378) d_M_landLine_370 (by decide) (fun c_370 => ?_) (fun c => absurd c (by decide))
  refine A_iconst (v := nI 4) d_M_landLine_378 (by decide) ?_
  refine A_callV d_M_landLine_379 (c_M_takeL hM hL0 (k := 0) (lo := 1) (hi := 4) (by decide) (by omega) (by omega)) hM.o rfl q_1290 q_1292 qs_27 mk_M_take rfl (by decide) rfl (Nat.le_of_ble_eq_true rfl) ⟨Nat.le_of_ble_eq_true rfl, Nat.le_of_ble_eq_true rfl⟩ (fun v h1 hv => ?_)
  rcases hv with ⟨k0, rfl, S8, hM, hK8, e17⟩ | ⟨k0, rfl, S1, hM, hL1, e21_0⟩
  · have hfl : nuF B n (nxN B n q) 1 = some (itN B n (nxN B n q) 0) := nuF_s (by decide) (fun i h => by omega) k0
    refine A_if_neB (tgt := 387) d_M_landLine_382 (by decide) (fun c => absurd c (by decide)) (fun c_382 => ?_)
    refine A_iconst (v := nI 0) d_M_landLine_385 (by decide) ?_
    refine A_zret d_M_landLine_386 rfl (by first | rfl | exact bI_nar _ | decide) ⟨Nat.zero_le _, Nat.zero_le _⟩ ?_
    exact Or.inl ⟨_, flN_s (k := 3) (by decide) hfl, rfl, S8, hM, hK8, e17⟩
  · have v0 : lnV B n (nxN B n q) 0 ≤ 99 := tvN_le k0
    refine A_if_neB (tgt := 387) d_M_landLine_382 (by decide) (fun c_382 => ?_) (fun c => absurd c (by decide))
    have hfl : nuF B n (nxN B n q) 1 = none := nuF_n (fun i h => (show i = 0 by omega) ▸ k0)
    have r21 : ∀ i, i < 1 → S1.2.2.1 21 i = nI (lnV B n (nxN B n q) i) := by
      intro i hi
      obtain rfl : i = 0 := by omega
      rw [e21_0, fup_eq]
      rfl
    refine A_aload_n0 d_M_landLine_387 ?_
    refine A_getf (kf := 20) d_M_landLine_388 hM.o ok_8 (by decide) q_1069 rfl ?_
    refine A_iload4 d_M_landLine_391 ?_
    refine A_aload_n0 d_M_landLine_393 ?_
    refine A_getf (kf := 21) d_M_landLine_394 hM.o ok_8 (by decide) q_1070 rfl ?_
    refine A_iconst (v := nI 0) d_M_landLine_397 (by decide) ?_
    refine A_ialdN d_M_landLine_398 hM.a21 ⟨by decide, by decide⟩ ?_
    refine A_topI (show S1.2.2.1 21 0 = nI (lnV B n (nxN B n q) 0) from r21 0 (by decide)) ?_
    refine A_st20 hM d_M_landLine_399 (by omega) (fun h hM => ?_)
    obtain ⟨S9, hM, e9, x9⟩ := opa20 hM
    have hL9 := LnS.a20 (T' := fup T 3 (lnV B n (nxN B n q) 0)) hL1 x9 (fun i hi => by
      rw [e9]
      by_cases z : i = 3
      · rw [z, fup_eq, fup_eq]
      · rw [fup_ne _ _ z, fup_ne _ _ z]; exact hL1.2.2.2.1.1 i hi)
    refine A_iconst (v := nI 1) d_M_landLine_400 (by decide) ?_
    refine A_zret d_M_landLine_401 rfl (by first | rfl | exact bI_nar _ | decide) ⟨Nat.zero_le _, Nat.zero_le _⟩ ?_
    exact Or.inr ⟨flN_n (k := 3) (by decide) (by decide) hfl, rfl, S9, _, hM, LnS.at hL9 rfl⟩
set_option maxHeartbeats 4000000 in
set_option maxRecDepth 100000 in
theorem c_M_land_person {G : GE} {h0 h : AH} {m : Nat} {S : MS} (hM : MW h0 h m S) {S0 : MS} {B : Nat → Nat} {n q : Nat} {T : Nat → Nat} {f : Nat × Nat × Nat} {s : Nat × Nat} (hL : LnS S0 S B n q q (T, f, s) true) (hqn : q < n) (hTb : T 4 ≤ 10) : Ctr G y_M_landLine b_M_landLine 5 (some .boolean) r_M_landLine [.ref m, .long (123581014175598), .int (nI q)] h (fun v h' => (∃ x, flN B n 4 q = some x ∧ v = some (.int (bI false)) ∧ ∃ S1, MW h0 h' m S1 ∧ KT S0 S1 ∧ S1.1 17 = nI x) ∨ (flN B n 4 q = none ∧ v = some (.int (bI true)) ∧ ∃ S1 g', MW h0 h' m S1 ∧ LnS S0 S1 B n (itN B n (nxN B n q) (sgN 4)) (itN B n (nxN B n q) (sgN 4)) (lnF 4 B n q (T, f, s)) g')) := by
  have hn := hL.2.1.2.1
  have hs4 : s.1 ≤ 4 := hL.2.2.2.2.2.2.1
  have hs6 : s.1 ≠ 0 → s.2 ≤ 600 := hL.2.2.2.2.2.2.2.1
  refine Ctr.of (by decide +kernel) (by simp) (Nat.le_of_ble_eq_true rfl) (L0 := [some (.ref m), some (.long (123581014175598)), none, some (.int (nI q)), none]) rfl ?_
  refine A_lload_n1 d_M_landLine_0 ?_
  refine A_ldc2 d_M_landLine_1 q_1266 ?_
  refine A_lcmp d_M_landLine_4 ?_
  refine A_if_ne (tgt := 12) d_M_landLine_5 (by decide) (fun c_5 => ?_) (fun c => absurd c (by decide +kernel))
  refine A_lload_n1 d_M_landLine_12 ?_
  refine A_ldc2 d_M_landLine_13 q_1267 ?_
  refine A_lcmp d_M_landLine_16 ?_
  refine A_if_ne (tgt := 24) d_M_landLine_17 (by decide) (fun c_17 => ?_) (fun c => absurd c (by decide +kernel))
  refine A_lload_n1 d_M_landLine_24 ?_
  refine A_ldc2 d_M_landLine_25 q_1268 ?_
  refine A_lcmp d_M_landLine_28 ?_
  refine A_if_ne (tgt := 36) d_M_landLine_29 (by decide) (fun c_29 => ?_) (fun c => absurd c (by decide +kernel))
  refine A_lload_n1 d_M_landLine_36 ?_
  refine A_ldc2 d_M_landLine_37 q_1269 ?_
  refine A_lcmp d_M_landLine_40 ?_
  refine A_if_ne (tgt := 48) d_M_landLine_41 (by decide) (fun c_41 => ?_) (fun c => absurd c (by decide +kernel))
  refine A_iconst (v := (-1)) d_M_landLine_48 (by decide) ?_
  refine A_istore4 d_M_landLine_49 trivial ?_
  refine A_iload4 d_M_landLine_51 ?_
  refine A_iconst (v := (-1)) d_M_landLine_53 (by decide) ?_
  refine A_icmp_ne (tgt := 94) d_M_landLine_54 (by decide) (fun c => absurd rfl c) (fun c_54 => ?_)
  refine A_lload_n1 d_M_landLine_57 ?_
  refine A_ldc2 d_M_landLine_58 q_1270 ?_
  refine A_lcmp d_M_landLine_61 ?_
  refine A_if_eq (tgt := 94) d_M_landLine_62 (by decide) (fun c_62 => ?_) (fun c => absurd (by decide +kernel) c)
  refine A_lload_n1 d_M_landLine_94 ?_
  refine A_ldc2 d_M_landLine_95 q_1270 ?_
  refine A_lcmp d_M_landLine_98 ?_
  refine A_if_ne (tgt := 113) d_M_landLine_99 (by decide) (fun c => absurd (by decide +kernel) c) (fun c_99 => ?_)
  refine A_aload_n0 d_M_landLine_102 ?_
  refine A_iconst (v := nI 4) d_M_landLine_103 (by decide) ?_
  refine A_bipush (v := nI 10) d_M_landLine_104 (by decide) ?_
  refine A_iload_n3 d_M_landLine_106 ?_
  refine A_callV d_M_landLine_107 (c_M_full hM (c := 4) (x := T 4) (mo := 10) (f := 0) (p := q) (lf := s.1) (lp := s.2) (by decide) (hL.2.2.2.1.1 4 (by decide)) (by omega) (hL.2.2.2.1.2.2.2.2.1) (hL.2.2.2.1.2.2.2.2.2) (by omega) hL.2.2.2.2.2.2.2.2) hM.o rfl q_1278 q_1280 qs_24 mk_M_full rfl (by decide) rfl (Nat.le_of_ble_eq_true rfl) ⟨Nat.le_of_ble_eq_true rfl, Nat.le_of_ble_eq_true rfl⟩ (fun v h1 hv => ?_)
  obtain ⟨rfl, Sf, hM, e18, e19, xf⟩ := hv
  rw [ful_4] at e18 e19
  have hLf := LnS.ful hL e18 e19 xf (fulN 4 T) rfl
  refine A_goto (tgt := 129) d_M_landLine_110 (by decide) ?_
  refine A_aload_n0 d_M_landLine_129 ?_
  refine A_callV d_M_landLine_130 (c_M_tokenL hM hLf (by omega) hqn) hM.o rfl q_1246 q_1248 qs_18 mk_M_token rfl (by decide) rfl (Nat.le_of_ble_eq_true rfl) ⟨Nat.le_of_ble_eq_true rfl, Nat.le_of_ble_eq_true rfl⟩ (fun v h1 hv => ?_)
  obtain ⟨rfl, St, hM, hL0, -⟩ := hv
  refine A_lload_n1 d_M_landLine_133 ?_
  refine A_ldc2 d_M_landLine_134 q_1271 ?_
  refine A_lcmp d_M_landLine_137 ?_
  refine A_if_ne (tgt := 146) d_M_landLine_138 (by decide) (fun c_138 => ?_) (fun c => absurd c (by decide +kernel))
  refine A_lload_n1 d_M_landLine_146 ?_
  refine A_ldc2 d_M_landLine_147 q_1270 ?_
  refine A_lcmp d_M_landLine_150 ?_
  refine A_if_ne (tgt := 202) d_M_landLine_151 (by decide) (fun c => absurd (by decide +kernel) c) (fun c_151 => ?_)
  refine A_aload_n0 d_M_landLine_154 ?_
  refine A_iconst (v := nI 0) d_M_landLine_155 (by decide) ?_
  refine A_iconst (v := nI 0) d_M_landLine_156 (by decide) ?_
  refine A_iconst (v := nI 1) d_M_landLine_157 (by decide) ?_
  refine A_callV d_M_landLine_158 (c_M_takeL hM hL0 (k := 0) (lo := 0) (hi := 1) (by decide) (by omega) (by omega)) hM.o rfl q_1290 q_1292 qs_27 mk_M_take rfl (by decide) rfl (Nat.le_of_ble_eq_true rfl) ⟨Nat.le_of_ble_eq_true rfl, Nat.le_of_ble_eq_true rfl⟩ (fun v h1 hv => ?_)
  rcases hv with ⟨k0, rfl, S8, hM, hK8, e17⟩ | ⟨k0, rfl, S1, hM, hL1, e21_0⟩
  · have hfl : nuF B n (nxN B n q) 3 = some (itN B n (nxN B n q) 0) := nuF_s (by decide) (fun i h => by omega) k0
    refine A_if_eqB (tgt := 186) d_M_landLine_161 (by decide) (fun c_161 => ?_) (fun c => absurd c (by decide))
    refine A_iconst (v := nI 0) d_M_landLine_186 (by decide) ?_
    refine A_zret d_M_landLine_187 rfl (by first | rfl | exact bI_nar _ | decide) ⟨Nat.zero_le _, Nat.zero_le _⟩ ?_
    exact Or.inl ⟨_, flN_s (k := 4) (by decide) hfl, rfl, S8, hM, hK8, e17⟩
  · have v0 : lnV B n (nxN B n q) 0 ≤ 99 := tvN_le k0
    refine A_if_eqB (tgt := 186) d_M_landLine_161 (by decide) (fun c => absurd c (by decide)) (fun c_161 => ?_)
    refine A_aload_n0 d_M_landLine_164 ?_
    refine A_iconst (v := nI 1) d_M_landLine_165 (by decide) ?_
    refine A_iconst (v := nI 0) d_M_landLine_166 (by decide) ?_
    refine A_bipush (v := nI 12) d_M_landLine_167 (by decide) ?_
    refine A_callV d_M_landLine_169 (c_M_takeL hM hL1 (k := 1) (lo := 0) (hi := 12) (by decide) (by omega) (by omega)) hM.o rfl q_1290 q_1292 qs_27 mk_M_take rfl (by decide) rfl (Nat.le_of_ble_eq_true rfl) ⟨Nat.le_of_ble_eq_true rfl, Nat.le_of_ble_eq_true rfl⟩ (fun v h1 hv => ?_)
    rcases hv with ⟨k1, rfl, S8, hM, hK8, e17⟩ | ⟨k1, rfl, S2, hM, hL2, e21_1⟩
    · have hfl : nuF B n (nxN B n q) 3 = some (itN B n (nxN B n q) 1) := nuF_s (by decide) (fun i h => by rcases (show i = 0 by omega) with rfl <;> assumption) k1
      refine A_if_eqB (tgt := 186) d_M_landLine_172 (by decide) (fun c_172 => ?_) (fun c => absurd c (by decide))
      refine A_iconst (v := nI 0) d_M_landLine_186 (by decide) ?_
      refine A_zret d_M_landLine_187 rfl (by first | rfl | exact bI_nar _ | decide) ⟨Nat.zero_le _, Nat.zero_le _⟩ ?_
      exact Or.inl ⟨_, flN_s (k := 4) (by decide) hfl, rfl, S8, hM, hK8, e17⟩
    · have v1 : lnV B n (nxN B n q) 1 ≤ 99 := tvN_le k1
      refine A_if_eqB (tgt := 186) d_M_landLine_172 (by decide) (fun c => absurd c (by decide)) (fun c_172 => ?_)
      refine A_aload_n0 d_M_landLine_175 ?_
      refine A_iconst (v := nI 2) d_M_landLine_176 (by decide) ?_
      refine A_iconst (v := nI 0) d_M_landLine_177 (by decide) ?_
      refine A_bipush (v := nI 12) d_M_landLine_178 (by decide) ?_
      refine A_callV d_M_landLine_180 (c_M_takeL hM hL2 (k := 2) (lo := 0) (hi := 12) (by decide) (by omega) (by omega)) hM.o rfl q_1290 q_1292 qs_27 mk_M_take rfl (by decide) rfl (Nat.le_of_ble_eq_true rfl) ⟨Nat.le_of_ble_eq_true rfl, Nat.le_of_ble_eq_true rfl⟩ (fun v h1 hv => ?_)
      rcases hv with ⟨k2, rfl, S8, hM, hK8, e17⟩ | ⟨k2, rfl, S3, hM, hL3, e21_2⟩
      · have hfl : nuF B n (nxN B n q) 3 = some (itN B n (nxN B n q) 2) := nuF_s (by decide) (fun i h => by rcases (show i = 0 ∨ i = 1 by omega) with rfl | rfl <;> assumption) k2
        refine A_if_neB (tgt := 188) d_M_landLine_183 (by decide) (fun c => absurd c (by decide)) (fun c_183 => ?_)
        refine A_iconst (v := nI 0) d_M_landLine_186 (by decide) ?_
        refine A_zret d_M_landLine_187 rfl (by first | rfl | exact bI_nar _ | decide) ⟨Nat.zero_le _, Nat.zero_le _⟩ ?_
        exact Or.inl ⟨_, flN_s (k := 4) (by decide) hfl, rfl, S8, hM, hK8, e17⟩
      · have v2 : lnV B n (nxN B n q) 2 ≤ 99 := tvN_le k2
        refine A_if_neB (tgt := 188) d_M_landLine_183 (by decide) (fun c_183 => ?_) (fun c => absurd c (by decide))
        have hfl : nuF B n (nxN B n q) 3 = none := nuF_n (fun i h => by rcases (show i = 0 ∨ i = 1 ∨ i = 2 by omega) with rfl | rfl | rfl <;> assumption)
        have r21 : ∀ i, i < 3 → S3.2.2.1 21 i = nI (lnV B n (nxN B n q) i) := by
          intro i hi
          rcases (show i = 0 ∨ i = 1 ∨ i = 2 by omega) with rfl | rfl | rfl
          · rw [e21_2, fup_ne _ _ (by decide), e21_1, fup_ne _ _ (by decide), e21_0, fup_eq]
            rfl
          · rw [e21_2, fup_ne _ _ (by decide), e21_1, fup_eq]
            rfl
          · rw [e21_2, fup_eq]
            rfl
        refine A_aload_n0 d_M_landLine_188 ?_
        refine A_iconst (v := nI 4) d_M_landLine_189 (by decide) ?_
        refine A_bipush (v := nI 42) d_M_landLine_190 (by decide) ?_
        refine A_bipush (v := nI 27) d_M_landLine_192 (by decide) ?_
        refine A_iconst (v := nI 3) d_M_landLine_194 (by decide) ?_
        refine A_bipush (v := nI 10) d_M_landLine_195 (by decide) ?_
        refine A_callV d_M_landLine_197 (c_M_keep hM (T := T) (v0 := lnV B n (nxN B n q)) (hL3.2.2.2.1.1) (c := 4) (fr := 42) (ap := 27) (wi := 3) (mo := 10) r21 (by decide) (by decide) (by decide) hTb (by omega) (by omega) (by decide)) hM.o rfl q_1297 q_1299 qs_28 mk_M_keep rfl (by decide) rfl (Nat.le_of_ble_eq_true rfl) ⟨Nat.le_of_ble_eq_true rfl, Nat.le_of_ble_eq_true rfl⟩ (fun v h1 hv => ?_)
        obtain ⟨rfl, S9, hM, hb9, hr9⟩ := hv
        have hL9 := LnS.a20 hL3 hb9 hr9
        refine A_iconst (v := nI 1) d_M_landLine_200 (by decide) ?_
        refine A_zret d_M_landLine_201 rfl (by first | rfl | exact bI_nar _ | decide) ⟨Nat.zero_le _, Nat.zero_le _⟩ ?_
        exact Or.inr ⟨flN_n (k := 4) (by decide) (by decide) hfl, rfl, S9, _, hM, LnS.at hL9 rfl⟩
set_option maxHeartbeats 4000000 in
set_option maxRecDepth 100000 in
theorem c_M_land_likes {G : GE} {h0 h : AH} {m : Nat} {S : MS} (hM : MW h0 h m S) {S0 : MS} {B : Nat → Nat} {n q : Nat} {T : Nat → Nat} {f : Nat × Nat × Nat} {s : Nat × Nat} (hL : LnS S0 S B n q q (T, f, s) true) (hqn : q < n) (hTb : f.1 ≤ 100 ∧ f.2.1 ≤ 100) : Ctr G y_M_landLine b_M_landLine 5 (some .boolean) r_M_landLine [.ref m, .long (465625113971), .int (nI q)] h (fun v h' => (∃ x, flN B n 5 q = some x ∧ v = some (.int (bI false)) ∧ ∃ S1, MW h0 h' m S1 ∧ KT S0 S1 ∧ S1.1 17 = nI x) ∨ (flN B n 5 q = none ∧ v = some (.int (bI true)) ∧ ∃ S1 g', MW h0 h' m S1 ∧ LnS S0 S1 B n (itN B n (nxN B n q) (sgN 5)) (itN B n (nxN B n q) (sgN 5)) (lnF 5 B n q (T, f, s)) g')) := by
  have hn := hL.2.1.2.1
  have hs4 : s.1 ≤ 4 := hL.2.2.2.2.2.2.1
  have hs6 : s.1 ≠ 0 → s.2 ≤ 600 := hL.2.2.2.2.2.2.2.1
  refine Ctr.of (by decide +kernel) (by simp) (Nat.le_of_ble_eq_true rfl) (L0 := [some (.ref m), some (.long (465625113971)), none, some (.int (nI q)), none]) rfl ?_
  refine A_lload_n1 d_M_landLine_0 ?_
  refine A_ldc2 d_M_landLine_1 q_1266 ?_
  refine A_lcmp d_M_landLine_4 ?_
  refine A_if_ne (tgt := 12) d_M_landLine_5 (by decide) (fun c_5 => ?_) (fun c => absurd c (by decide +kernel))
  refine A_lload_n1 d_M_landLine_12 ?_
  refine A_ldc2 d_M_landLine_13 q_1267 ?_
  refine A_lcmp d_M_landLine_16 ?_
  refine A_if_ne (tgt := 24) d_M_landLine_17 (by decide) (fun c_17 => ?_) (fun c => absurd c (by decide +kernel))
  refine A_lload_n1 d_M_landLine_24 ?_
  refine A_ldc2 d_M_landLine_25 q_1268 ?_
  refine A_lcmp d_M_landLine_28 ?_
  refine A_if_ne (tgt := 36) d_M_landLine_29 (by decide) (fun c_29 => ?_) (fun c => absurd c (by decide +kernel))
  refine A_lload_n1 d_M_landLine_36 ?_
  refine A_ldc2 d_M_landLine_37 q_1269 ?_
  refine A_lcmp d_M_landLine_40 ?_
  refine A_if_ne (tgt := 48) d_M_landLine_41 (by decide) (fun c_41 => ?_) (fun c => absurd c (by decide +kernel))
  refine A_iconst (v := (-1)) d_M_landLine_48 (by decide) ?_
  refine A_istore4 d_M_landLine_49 trivial ?_
  refine A_iload4 d_M_landLine_51 ?_
  refine A_iconst (v := (-1)) d_M_landLine_53 (by decide) ?_
  refine A_icmp_ne (tgt := 94) d_M_landLine_54 (by decide) (fun c => absurd rfl c) (fun c_54 => ?_)
  refine A_lload_n1 d_M_landLine_57 ?_
  refine A_ldc2 d_M_landLine_58 q_1270 ?_
  refine A_lcmp d_M_landLine_61 ?_
  refine A_if_eq (tgt := 94) d_M_landLine_62 (by decide) (fun c => absurd c (by decide +kernel)) (fun c_62 => ?_)
  refine A_lload_n1 d_M_landLine_65 ?_
  refine A_ldc2 d_M_landLine_66 q_1271 ?_
  refine A_lcmp d_M_landLine_69 ?_
  refine A_if_eq (tgt := 94) d_M_landLine_70 (by decide) (fun c_70 => ?_) (fun c => absurd (by decide +kernel) c)
  refine A_lload_n1 d_M_landLine_94 ?_
  refine A_ldc2 d_M_landLine_95 q_1270 ?_
  refine A_lcmp d_M_landLine_98 ?_
  refine A_if_ne (tgt := 113) d_M_landLine_99 (by decide) (fun c_99 => ?_) (fun c => absurd c (by decide +kernel))
  refine A_lload_n1 d_M_landLine_113 ?_
  refine A_ldc2 d_M_landLine_114 q_1272 ?_
  refine A_lcmp d_M_landLine_117 ?_
  refine A_if_ne (tgt := 129) d_M_landLine_118 (by decide) (fun c_118 => ?_) (fun c => absurd c (by decide +kernel))
  refine A_aload_n0 d_M_landLine_129 ?_
  refine A_callV d_M_landLine_130 (c_M_tokenL hM hL (by omega) hqn) hM.o rfl q_1246 q_1248 qs_18 mk_M_token rfl (by decide) rfl (Nat.le_of_ble_eq_true rfl) ⟨Nat.le_of_ble_eq_true rfl, Nat.le_of_ble_eq_true rfl⟩ (fun v h1 hv => ?_)
  obtain ⟨rfl, St, hM, hL0, -⟩ := hv
  refine A_lload_n1 d_M_landLine_133 ?_
  refine A_ldc2 d_M_landLine_134 q_1271 ?_
  refine A_lcmp d_M_landLine_137 ?_
  refine A_if_ne (tgt := 146) d_M_landLine_138 (by decide) (fun c => absurd (by decide +kernel) c) (fun c_138 => ?_)
  refine A_aload_n0 d_M_landLine_141 ?_
  refine A_callV d_M_landLine_142 (c_M_likesLine hM hL0 hTb.1 hTb.2 (dkN B n q)) hM.o rfl q_1286 q_1288 qs_26 mk_M_likesLine rfl (by decide) rfl (Nat.le_of_ble_eq_true rfl) ⟨Nat.le_of_ble_eq_true rfl, Nat.le_of_ble_eq_true rfl⟩ (fun v h1 hv => ?_)
  rcases hv with ⟨x, hfl, rfl, S8, hM, hK8, e17⟩ | ⟨hfl, rfl, S8, g8, hM, hL8⟩
  · refine A_zret d_M_landLine_145 rfl (by first | rfl | exact bI_nar _ | decide) ⟨Nat.zero_le _, Nat.zero_le _⟩ ?_
    first | exact Or.inl ⟨_, flN_s (k := 5) (by decide) hfl, rfl, S8, hM, hK8, e17⟩ | exact Or.inr ⟨flN_n (k := 5) (by decide) (by decide) hfl, rfl, S8, g8, hM, LnS.at hL8 rfl⟩
  · refine A_zret d_M_landLine_145 rfl (by first | rfl | exact bI_nar _ | decide) ⟨Nat.zero_le _, Nat.zero_le _⟩ ?_
    first | exact Or.inl ⟨_, flN_s (k := 5) (by decide) hfl, rfl, S8, hM, hK8, e17⟩ | exact Or.inr ⟨flN_n (k := 5) (by decide) (by decide) hfl, rfl, S8, g8, hM, LnS.at hL8 rfl⟩
set_option maxHeartbeats 4000000 in
set_option maxRecDepth 100000 in
theorem c_M_land_bearer {G : GE} {h0 h : AH} {m : Nat} {S : MS} (hM : MW h0 h m S) {S0 : MS} {B : Nat → Nat} {n q : Nat} {T : Nat → Nat} {f : Nat × Nat × Nat} {s : Nat × Nat} (hL : LnS S0 S B n q q (T, f, s) true) (hqn : q < n) (hTb : T 5 ≤ 6) : Ctr G y_M_landLine b_M_landLine 5 (some .boolean) r_M_landLine [.ref m, .long (108187566105970), .int (nI q)] h (fun v h' => (∃ x, flN B n 6 q = some x ∧ v = some (.int (bI false)) ∧ ∃ S1, MW h0 h' m S1 ∧ KT S0 S1 ∧ S1.1 17 = nI x) ∨ (flN B n 6 q = none ∧ v = some (.int (bI true)) ∧ ∃ S1 g', MW h0 h' m S1 ∧ LnS S0 S1 B n (itN B n (nxN B n q) (sgN 6)) (itN B n (nxN B n q) (sgN 6)) (lnF 6 B n q (T, f, s)) g')) := by
  have hn := hL.2.1.2.1
  have hs4 : s.1 ≤ 4 := hL.2.2.2.2.2.2.1
  have hs6 : s.1 ≠ 0 → s.2 ≤ 600 := hL.2.2.2.2.2.2.2.1
  refine Ctr.of (by decide +kernel) (by simp) (Nat.le_of_ble_eq_true rfl) (L0 := [some (.ref m), some (.long (108187566105970)), none, some (.int (nI q)), none]) rfl ?_
  refine A_lload_n1 d_M_landLine_0 ?_
  refine A_ldc2 d_M_landLine_1 q_1266 ?_
  refine A_lcmp d_M_landLine_4 ?_
  refine A_if_ne (tgt := 12) d_M_landLine_5 (by decide) (fun c_5 => ?_) (fun c => absurd c (by decide +kernel))
  refine A_lload_n1 d_M_landLine_12 ?_
  refine A_ldc2 d_M_landLine_13 q_1267 ?_
  refine A_lcmp d_M_landLine_16 ?_
  refine A_if_ne (tgt := 24) d_M_landLine_17 (by decide) (fun c_17 => ?_) (fun c => absurd c (by decide +kernel))
  refine A_lload_n1 d_M_landLine_24 ?_
  refine A_ldc2 d_M_landLine_25 q_1268 ?_
  refine A_lcmp d_M_landLine_28 ?_
  refine A_if_ne (tgt := 36) d_M_landLine_29 (by decide) (fun c_29 => ?_) (fun c => absurd c (by decide +kernel))
  refine A_lload_n1 d_M_landLine_36 ?_
  refine A_ldc2 d_M_landLine_37 q_1269 ?_
  refine A_lcmp d_M_landLine_40 ?_
  refine A_if_ne (tgt := 48) d_M_landLine_41 (by decide) (fun c_41 => ?_) (fun c => absurd c (by decide +kernel))
  refine A_iconst (v := (-1)) d_M_landLine_48 (by decide) ?_
  refine A_istore4 d_M_landLine_49 trivial ?_
  refine A_iload4 d_M_landLine_51 ?_
  refine A_iconst (v := (-1)) d_M_landLine_53 (by decide) ?_
  refine A_icmp_ne (tgt := 94) d_M_landLine_54 (by decide) (fun c => absurd rfl c) (fun c_54 => ?_)
  refine A_lload_n1 d_M_landLine_57 ?_
  refine A_ldc2 d_M_landLine_58 q_1270 ?_
  refine A_lcmp d_M_landLine_61 ?_
  refine A_if_eq (tgt := 94) d_M_landLine_62 (by decide) (fun c => absurd c (by decide +kernel)) (fun c_62 => ?_)
  refine A_lload_n1 d_M_landLine_65 ?_
  refine A_ldc2 d_M_landLine_66 q_1271 ?_
  refine A_lcmp d_M_landLine_69 ?_
  refine A_if_eq (tgt := 94) d_M_landLine_70 (by decide) (fun c => absurd c (by decide +kernel)) (fun c_70 => ?_)
  refine A_lload_n1 d_M_landLine_73 ?_
  refine A_ldc2 d_M_landLine_74 q_1272 ?_
  refine A_lcmp d_M_landLine_77 ?_
  refine A_if_eq (tgt := 94) d_M_landLine_78 (by decide) (fun c_78 => ?_) (fun c => absurd (by decide +kernel) c)
  refine A_lload_n1 d_M_landLine_94 ?_
  refine A_ldc2 d_M_landLine_95 q_1270 ?_
  refine A_lcmp d_M_landLine_98 ?_
  refine A_if_ne (tgt := 113) d_M_landLine_99 (by decide) (fun c_99 => ?_) (fun c => absurd c (by decide +kernel))
  refine A_lload_n1 d_M_landLine_113 ?_
  refine A_ldc2 d_M_landLine_114 q_1272 ?_
  refine A_lcmp d_M_landLine_117 ?_
  refine A_if_ne (tgt := 129) d_M_landLine_118 (by decide) (fun c => absurd (by decide +kernel) c) (fun c_118 => ?_)
  refine A_aload_n0 d_M_landLine_121 ?_
  refine A_iconst (v := nI 5) d_M_landLine_122 (by decide) ?_
  refine A_bipush (v := nI 6) d_M_landLine_123 (by decide) ?_
  refine A_iload_n3 d_M_landLine_125 ?_
  refine A_callV d_M_landLine_126 (c_M_full hM (c := 5) (x := T 5) (mo := 6) (f := 0) (p := q) (lf := s.1) (lp := s.2) (by decide) (hL.2.2.2.1.1 5 (by decide)) (by omega) (hL.2.2.2.1.2.2.2.2.1) (hL.2.2.2.1.2.2.2.2.2) (by omega) hL.2.2.2.2.2.2.2.2) hM.o rfl q_1278 q_1280 qs_24 mk_M_full rfl (by decide) rfl (Nat.le_of_ble_eq_true rfl) ⟨Nat.le_of_ble_eq_true rfl, Nat.le_of_ble_eq_true rfl⟩ (fun v h1 hv => ?_)
  obtain ⟨rfl, Sf, hM, e18, e19, xf⟩ := hv
  rw [ful_6] at e18 e19
  have hLf := LnS.ful hL e18 e19 xf (fulN 6 T) rfl
  refine A_aload_n0 d_M_landLine_129 ?_
  refine A_callV d_M_landLine_130 (c_M_tokenL hM hLf (by omega) hqn) hM.o rfl q_1246 q_1248 qs_18 mk_M_token rfl (by decide) rfl (Nat.le_of_ble_eq_true rfl) ⟨Nat.le_of_ble_eq_true rfl, Nat.le_of_ble_eq_true rfl⟩ (fun v h1 hv => ?_)
  obtain ⟨rfl, St, hM, hL0, -⟩ := hv
  refine A_lload_n1 d_M_landLine_133 ?_
  refine A_ldc2 d_M_landLine_134 q_1271 ?_
  refine A_lcmp d_M_landLine_137 ?_
  refine A_if_ne (tgt := 146) d_M_landLine_138 (by decide) (fun c_138 => ?_) (fun c => absurd c (by decide +kernel))
  refine A_lload_n1 d_M_landLine_146 ?_
  refine A_ldc2 d_M_landLine_147 q_1270 ?_
  refine A_lcmp d_M_landLine_150 ?_
  refine A_if_ne (tgt := 202) d_M_landLine_151 (by decide) (fun c_151 => ?_) (fun c => absurd c (by decide +kernel))
  refine A_lload_n1 d_M_landLine_202 ?_
  refine A_ldc2 d_M_landLine_203 q_1272 ?_
  refine A_lcmp d_M_landLine_206 ?_
  refine A_if_ne (tgt := 247) d_M_landLine_207 (by decide) (fun c => absurd (by decide +kernel) c) (fun c_207 => ?_)
  refine A_aload_n0 d_M_landLine_210 ?_
  refine A_iconst (v := nI 0) d_M_landLine_211 (by decide) ?_
  refine A_iconst (v := nI 0) d_M_landLine_212 (by decide) ?_
  refine A_bipush (v := nI 99) d_M_landLine_213 (by decide) ?_
  refine A_callV d_M_landLine_215 (c_M_takeL hM hL0 (k := 0) (lo := 0) (hi := 99) (by decide) (by omega) (by omega)) hM.o rfl q_1290 q_1292 qs_27 mk_M_take rfl (by decide) rfl (Nat.le_of_ble_eq_true rfl) ⟨Nat.le_of_ble_eq_true rfl, Nat.le_of_ble_eq_true rfl⟩ (fun v h1 hv => ?_)
  rcases hv with ⟨k0, rfl, S8, hM, hK8, e17⟩ | ⟨k0, rfl, S1, hM, hL1, e21_0⟩
  · have hfl : nuF B n (nxN B n q) 2 = some (itN B n (nxN B n q) 0) := nuF_s (by decide) (fun i h => by omega) k0
    refine A_if_eqB (tgt := 232) d_M_landLine_218 (by decide) (fun c_218 => ?_) (fun c => absurd c (by decide))
    refine A_iconst (v := nI 0) d_M_landLine_232 (by decide) ?_
    refine A_zret d_M_landLine_233 rfl (by first | rfl | exact bI_nar _ | decide) ⟨Nat.zero_le _, Nat.zero_le _⟩ ?_
    exact Or.inl ⟨_, flN_s (k := 6) (by decide) hfl, rfl, S8, hM, hK8, e17⟩
  · have v0 : lnV B n (nxN B n q) 0 ≤ 99 := tvN_le k0
    refine A_if_eqB (tgt := 232) d_M_landLine_218 (by decide) (fun c => absurd c (by decide)) (fun c_218 => ?_)
    refine A_aload_n0 d_M_landLine_221 ?_
    refine A_iconst (v := nI 1) d_M_landLine_222 (by decide) ?_
    refine A_iconst (v := nI 0) d_M_landLine_223 (by decide) ?_
    refine A_bipush (v := nI 10) d_M_landLine_224 (by decide) ?_
    refine A_callV d_M_landLine_226 (c_M_takeL hM hL1 (k := 1) (lo := 0) (hi := 10) (by decide) (by omega) (by omega)) hM.o rfl q_1290 q_1292 qs_27 mk_M_take rfl (by decide) rfl (Nat.le_of_ble_eq_true rfl) ⟨Nat.le_of_ble_eq_true rfl, Nat.le_of_ble_eq_true rfl⟩ (fun v h1 hv => ?_)
    rcases hv with ⟨k1, rfl, S8, hM, hK8, e17⟩ | ⟨k1, rfl, S2, hM, hL2, e21_1⟩
    · have hfl : nuF B n (nxN B n q) 2 = some (itN B n (nxN B n q) 1) := nuF_s (by decide) (fun i h => by rcases (show i = 0 by omega) with rfl <;> assumption) k1
      refine A_if_neB (tgt := 234) d_M_landLine_229 (by decide) (fun c => absurd c (by decide)) (fun c_229 => ?_)
      refine A_iconst (v := nI 0) d_M_landLine_232 (by decide) ?_
      refine A_zret d_M_landLine_233 rfl (by first | rfl | exact bI_nar _ | decide) ⟨Nat.zero_le _, Nat.zero_le _⟩ ?_
      exact Or.inl ⟨_, flN_s (k := 6) (by decide) hfl, rfl, S8, hM, hK8, e17⟩
    · have v1 : lnV B n (nxN B n q) 1 ≤ 99 := tvN_le k1
      refine A_if_neB (tgt := 234) d_M_landLine_229 (by decide) (fun c_229 => ?_) (fun c => absurd c (by decide))
      have hfl : nuF B n (nxN B n q) 2 = none := nuF_n (fun i h => by rcases (show i = 0 ∨ i = 1 by omega) with rfl | rfl <;> assumption)
      have r21 : ∀ i, i < 2 → S2.2.2.1 21 i = nI (lnV B n (nxN B n q) i) := by
        intro i hi
        rcases (show i = 0 ∨ i = 1 by omega) with rfl | rfl
        · rw [e21_1, fup_ne _ _ (by decide), e21_0, fup_eq]
          rfl
        · rw [e21_1, fup_eq]
          rfl
      refine A_aload_n0 d_M_landLine_234 ?_
      refine A_iconst (v := nI 5) d_M_landLine_235 (by decide) ?_
      refine A_bipush (v := nI 30) d_M_landLine_236 (by decide) ?_
      refine A_iconst (v := nI 2) d_M_landLine_238 (by decide) ?_
      refine A_iconst (v := nI 2) d_M_landLine_239 (by decide) ?_
      refine A_bipush (v := nI 6) d_M_landLine_240 (by decide) ?_
      refine A_callV d_M_landLine_242 (c_M_keep hM (T := T) (v0 := lnV B n (nxN B n q)) (hL2.2.2.2.1.1) (c := 5) (fr := 30) (ap := 2) (wi := 2) (mo := 6) r21 (by decide) (by decide) (by decide) hTb (by omega) (by omega) (by decide)) hM.o rfl q_1297 q_1299 qs_28 mk_M_keep rfl (by decide) rfl (Nat.le_of_ble_eq_true rfl) ⟨Nat.le_of_ble_eq_true rfl, Nat.le_of_ble_eq_true rfl⟩ (fun v h1 hv => ?_)
      obtain ⟨rfl, S9, hM, hb9, hr9⟩ := hv
      have hL9 := LnS.a20 hL2 hb9 hr9
      refine A_iconst (v := nI 1) d_M_landLine_245 (by decide) ?_
      refine A_zret d_M_landLine_246 rfl (by first | rfl | exact bI_nar _ | decide) ⟨Nat.zero_le _, Nat.zero_le _⟩ ?_
      exact Or.inr ⟨flN_n (k := 6) (by decide) (by decide) hfl, rfl, S9, _, hM, LnS.at hL9 rfl⟩
set_option maxHeartbeats 4000000 in
set_option maxRecDepth 100000 in
theorem c_M_land_toll {G : GE} {h0 h : AH} {m : Nat} {S : MS} (hM : MW h0 h m S) {S0 : MS} {B : Nat → Nat} {n q : Nat} {T : Nat → Nat} {f : Nat × Nat × Nat} {s : Nat × Nat} (hL : LnS S0 S B n q q (T, f, s) true) (hqn : q < n) (hTb : f.1 ≤ 100 ∧ f.2.1 ≤ 100) : Ctr G y_M_landLine b_M_landLine 5 (some .boolean) r_M_landLine [.ref m, .long (1953459308), .int (nI q)] h (fun v h' => (∃ x, flN B n 7 q = some x ∧ v = some (.int (bI false)) ∧ ∃ S1, MW h0 h' m S1 ∧ KT S0 S1 ∧ S1.1 17 = nI x) ∨ (flN B n 7 q = none ∧ v = some (.int (bI true)) ∧ ∃ S1 g', MW h0 h' m S1 ∧ LnS S0 S1 B n (itN B n (nxN B n q) (sgN 7)) (itN B n (nxN B n q) (sgN 7)) (lnF 7 B n q (T, f, s)) g')) := by
  have hn := hL.2.1.2.1
  have hs4 : s.1 ≤ 4 := hL.2.2.2.2.2.2.1
  have hs6 : s.1 ≠ 0 → s.2 ≤ 600 := hL.2.2.2.2.2.2.2.1
  refine Ctr.of (by decide +kernel) (by simp) (Nat.le_of_ble_eq_true rfl) (L0 := [some (.ref m), some (.long (1953459308)), none, some (.int (nI q)), none]) rfl ?_
  refine A_lload_n1 d_M_landLine_0 ?_
  refine A_ldc2 d_M_landLine_1 q_1266 ?_
  refine A_lcmp d_M_landLine_4 ?_
  refine A_if_ne (tgt := 12) d_M_landLine_5 (by decide) (fun c_5 => ?_) (fun c => absurd c (by decide +kernel))
  refine A_lload_n1 d_M_landLine_12 ?_
  refine A_ldc2 d_M_landLine_13 q_1267 ?_
  refine A_lcmp d_M_landLine_16 ?_
  refine A_if_ne (tgt := 24) d_M_landLine_17 (by decide) (fun c_17 => ?_) (fun c => absurd c (by decide +kernel))
  refine A_lload_n1 d_M_landLine_24 ?_
  refine A_ldc2 d_M_landLine_25 q_1268 ?_
  refine A_lcmp d_M_landLine_28 ?_
  refine A_if_ne (tgt := 36) d_M_landLine_29 (by decide) (fun c_29 => ?_) (fun c => absurd c (by decide +kernel))
  refine A_lload_n1 d_M_landLine_36 ?_
  refine A_ldc2 d_M_landLine_37 q_1269 ?_
  refine A_lcmp d_M_landLine_40 ?_
  refine A_if_ne (tgt := 48) d_M_landLine_41 (by decide) (fun c_41 => ?_) (fun c => absurd c (by decide +kernel))
  refine A_iconst (v := (-1)) d_M_landLine_48 (by decide) ?_
  refine A_istore4 d_M_landLine_49 trivial ?_
  refine A_iload4 d_M_landLine_51 ?_
  refine A_iconst (v := (-1)) d_M_landLine_53 (by decide) ?_
  refine A_icmp_ne (tgt := 94) d_M_landLine_54 (by decide) (fun c => absurd rfl c) (fun c_54 => ?_)
  refine A_lload_n1 d_M_landLine_57 ?_
  refine A_ldc2 d_M_landLine_58 q_1270 ?_
  refine A_lcmp d_M_landLine_61 ?_
  refine A_if_eq (tgt := 94) d_M_landLine_62 (by decide) (fun c => absurd c (by decide +kernel)) (fun c_62 => ?_)
  refine A_lload_n1 d_M_landLine_65 ?_
  refine A_ldc2 d_M_landLine_66 q_1271 ?_
  refine A_lcmp d_M_landLine_69 ?_
  refine A_if_eq (tgt := 94) d_M_landLine_70 (by decide) (fun c => absurd c (by decide +kernel)) (fun c_70 => ?_)
  refine A_lload_n1 d_M_landLine_73 ?_
  refine A_ldc2 d_M_landLine_74 q_1272 ?_
  refine A_lcmp d_M_landLine_77 ?_
  refine A_if_eq (tgt := 94) d_M_landLine_78 (by decide) (fun c => absurd c (by decide +kernel)) (fun c_78 => ?_)
  refine A_lload_n1 d_M_landLine_81 ?_
  refine A_ldc2 d_M_landLine_82 q_1273 ?_
  refine A_lcmp d_M_landLine_85 ?_
  refine A_if_eq (tgt := 94) d_M_landLine_86 (by decide) (fun c_86 => ?_) (fun c => absurd (by decide +kernel) c)
  refine A_lload_n1 d_M_landLine_94 ?_
  refine A_ldc2 d_M_landLine_95 q_1270 ?_
  refine A_lcmp d_M_landLine_98 ?_
  refine A_if_ne (tgt := 113) d_M_landLine_99 (by decide) (fun c_99 => ?_) (fun c => absurd c (by decide +kernel))
  refine A_lload_n1 d_M_landLine_113 ?_
  refine A_ldc2 d_M_landLine_114 q_1272 ?_
  refine A_lcmp d_M_landLine_117 ?_
  refine A_if_ne (tgt := 129) d_M_landLine_118 (by decide) (fun c_118 => ?_) (fun c => absurd c (by decide +kernel))
  refine A_aload_n0 d_M_landLine_129 ?_
  refine A_callV d_M_landLine_130 (c_M_tokenL hM hL (by omega) hqn) hM.o rfl q_1246 q_1248 qs_18 mk_M_token rfl (by decide) rfl (Nat.le_of_ble_eq_true rfl) ⟨Nat.le_of_ble_eq_true rfl, Nat.le_of_ble_eq_true rfl⟩ (fun v h1 hv => ?_)
  obtain ⟨rfl, St, hM, hL0, -⟩ := hv
  refine A_lload_n1 d_M_landLine_133 ?_
  refine A_ldc2 d_M_landLine_134 q_1271 ?_
  refine A_lcmp d_M_landLine_137 ?_
  refine A_if_ne (tgt := 146) d_M_landLine_138 (by decide) (fun c_138 => ?_) (fun c => absurd c (by decide +kernel))
  refine A_lload_n1 d_M_landLine_146 ?_
  refine A_ldc2 d_M_landLine_147 q_1270 ?_
  refine A_lcmp d_M_landLine_150 ?_
  refine A_if_ne (tgt := 202) d_M_landLine_151 (by decide) (fun c_151 => ?_) (fun c => absurd c (by decide +kernel))
  refine A_lload_n1 d_M_landLine_202 ?_
  refine A_ldc2 d_M_landLine_203 q_1272 ?_
  refine A_lcmp d_M_landLine_206 ?_
  refine A_if_ne (tgt := 247) d_M_landLine_207 (by decide) (fun c_207 => ?_) (fun c => absurd c (by decide +kernel))
  refine A_lload_n1 d_M_landLine_247 ?_
  refine A_ldc2 d_M_landLine_248 q_1273 ?_
  refine A_lcmp d_M_landLine_251 ?_
  refine A_if_ne (tgt := 325) d_M_landLine_252 (by decide) (fun c => absurd (by decide +kernel) c) (fun c_252 => ?_)
  refine A_aload_n0 d_M_landLine_255 ?_
  refine A_iconst (v := nI 0) d_M_landLine_256 (by decide) ?_
  refine A_iconst (v := nI 0) d_M_landLine_257 (by decide) ?_
  refine A_bipush (v := nI 23) d_M_landLine_258 (by decide) ?_
  refine A_callV d_M_landLine_260 (c_M_takeL hM hL0 (k := 0) (lo := 0) (hi := 23) (by decide) (by omega) (by omega)) hM.o rfl q_1290 q_1292 qs_27 mk_M_take rfl (by decide) rfl (Nat.le_of_ble_eq_true rfl) ⟨Nat.le_of_ble_eq_true rfl, Nat.le_of_ble_eq_true rfl⟩ (fun v h1 hv => ?_)
  rcases hv with ⟨k0, rfl, S8, hM, hK8, e17⟩ | ⟨k0, rfl, S1, hM, hL1, e21_0⟩
  · have hfl : nuF B n (nxN B n q) 2 = some (itN B n (nxN B n q) 0) := nuF_s (by decide) (fun i h => by omega) k0
    refine A_if_eqB (tgt := 277) d_M_landLine_263 (by decide) (fun c_263 => ?_) (fun c => absurd c (by decide))
    refine A_iconst (v := nI 0) d_M_landLine_277 (by decide) ?_
    refine A_zret d_M_landLine_278 rfl (by first | rfl | exact bI_nar _ | decide) ⟨Nat.zero_le _, Nat.zero_le _⟩ ?_
    exact Or.inl ⟨_, flN_s (k := 7) (by decide) hfl, rfl, S8, hM, hK8, e17⟩
  · have v0 : lnV B n (nxN B n q) 0 ≤ 99 := tvN_le k0
    refine A_if_eqB (tgt := 277) d_M_landLine_263 (by decide) (fun c => absurd c (by decide)) (fun c_263 => ?_)
    refine A_aload_n0 d_M_landLine_266 ?_
    refine A_iconst (v := nI 1) d_M_landLine_267 (by decide) ?_
    refine A_iconst (v := nI 0) d_M_landLine_268 (by decide) ?_
    refine A_bipush (v := nI 99) d_M_landLine_269 (by decide) ?_
    refine A_callV d_M_landLine_271 (c_M_takeL hM hL1 (k := 1) (lo := 0) (hi := 99) (by decide) (by omega) (by omega)) hM.o rfl q_1290 q_1292 qs_27 mk_M_take rfl (by decide) rfl (Nat.le_of_ble_eq_true rfl) ⟨Nat.le_of_ble_eq_true rfl, Nat.le_of_ble_eq_true rfl⟩ (fun v h1 hv => ?_)
    rcases hv with ⟨k1, rfl, S8, hM, hK8, e17⟩ | ⟨k1, rfl, S2, hM, hL2, e21_1⟩
    · have hfl : nuF B n (nxN B n q) 2 = some (itN B n (nxN B n q) 1) := nuF_s (by decide) (fun i h => by rcases (show i = 0 by omega) with rfl <;> assumption) k1
      refine A_if_neB (tgt := 279) d_M_landLine_274 (by decide) (fun c => absurd c (by decide)) (fun c_274 => ?_)
      refine A_iconst (v := nI 0) d_M_landLine_277 (by decide) ?_
      refine A_zret d_M_landLine_278 rfl (by first | rfl | exact bI_nar _ | decide) ⟨Nat.zero_le _, Nat.zero_le _⟩ ?_
      exact Or.inl ⟨_, flN_s (k := 7) (by decide) hfl, rfl, S8, hM, hK8, e17⟩
    · have v1 : lnV B n (nxN B n q) 1 ≤ 99 := tvN_le k1
      refine A_if_neB (tgt := 279) d_M_landLine_274 (by decide) (fun c_274 => ?_) (fun c => absurd c (by decide))
      have hfl : nuF B n (nxN B n q) 2 = none := nuF_n (fun i h => by rcases (show i = 0 ∨ i = 1 by omega) with rfl | rfl <;> assumption)
      have r21 : ∀ i, i < 2 → S2.2.2.1 21 i = nI (lnV B n (nxN B n q) i) := by
        intro i hi
        rcases (show i = 0 ∨ i = 1 by omega) with rfl | rfl
        · rw [e21_1, fup_ne _ _ (by decide), e21_0, fup_eq]
          rfl
        · rw [e21_1, fup_eq]
          rfl
      refine A_aload_n0 d_M_landLine_279 ?_
      refine A_aload_n0 d_M_landLine_280 ?_
      refine A_getf (kf := 23) d_M_landLine_281 hM.o ok_8 (by decide) q_1072 rfl ?_
      refine A_topI hL2.2.2.2.1.2.2.1 ?_
      refine A_aload_n0 d_M_landLine_284 ?_
      refine A_getf (kf := 21) d_M_landLine_285 hM.o ok_8 (by decide) q_1070 rfl ?_
      refine A_iconst (v := nI 0) d_M_landLine_288 (by decide) ?_
      refine A_ialdN d_M_landLine_289 hM.a21 ⟨by decide, by decide⟩ ?_
      refine A_topI (show S2.2.2.1 21 0 = nI (lnV B n (nxN B n q) 0) from r21 0 (by decide)) ?_
      refine A_topI (nI_hI _) ?_
      refine A_callSP d_M_landLine_290 (c_M_greater _ _ _) q_1294 q_1295 mk_M_greater rfl (by decide) rfl (Nat.le_of_ble_eq_true rfl) ⟨Nat.le_of_ble_eq_true rfl, Nat.le_of_ble_eq_true rfl⟩ ⟨rfl, rfl⟩ ?_
      refine A_topI (hI_max (a := f.2.1) (b := lnV B n (nxN B n q) 0 + 1) (by omega) (by omega)) ?_
      refine A_putM hM (kf := 23) (ty := .int) d_M_landLine_293 (by decide) q_1072 rfl (by decide +kernel) (by first | rfl | exact bI_nar _) rfl (Nat.le_of_ble_eq_true rfl) rfl (fun h hM => ?_)
      obtain ⟨S3, hM, e23, x3⟩ := ops hM
      have hL3 := LnS.mx hL2 e23 x3 (by decide) (f' := (f.1, max f.2.1 (lnV B n (nxN B n q) 0 + 1), f.2.2)) (Or.inr ⟨by decide, rfl⟩) (Or.inl ⟨rfl, rfl⟩) (Or.inr ⟨by decide, rfl⟩)
      have hg : S3.1 25 = bI (lnG 7 (lnV B n (nxN B n q))) := hL3.2.2.2.2.1
      have r21c : ∀ i, i < 2 → S3.2.2.1 21 i = nI (lnV B n (nxN B n q) i) := fun i hi => by rw [x3.2]; exact r21 i hi
      cases hgd : lnG 7 (lnV B n (nxN B n q))
      · rw [hgd] at hg
        refine A_aload_n0 d_M_landLine_296 ?_
        refine A_getf (kf := 25) d_M_landLine_297 hM.o ok_8 (by decide) q_1074 rfl ?_
        refine A_topI hg ?_
        refine A_if_eqB (tgt := 323) d_M_landLine_300 (by decide) (fun c_300 => ?_) (fun c => absurd c (by decide))
        refine A_iconst (v := nI 1) d_M_landLine_323 (by decide) ?_
        refine A_zret d_M_landLine_324 rfl (by first | rfl | exact bI_nar _ | decide) ⟨Nat.zero_le _, Nat.zero_le _⟩ ?_
        refine Or.inr ⟨flN_n (k := 7) (by decide) (by decide) hfl, rfl, S3, lnG 7 (lnV B n (nxN B n q)), hM, LnS.at hL3 ?_⟩
        have e : tolT 7 (dkN B n q) (lnV B n (nxN B n q)) T = T := by
          show (if lnG 7 (lnV B n (nxN B n q)) = true then _ else T) = T
          rw [hgd]
          rfl
        show _ = (tolT 7 (dkN B n q) (lnV B n (nxN B n q)) T, _, _)
        rw [e]
        rfl
      · rw [hgd] at hg
        have hin0 := likG7 hgd
        refine A_aload_n0 d_M_landLine_296 ?_
        refine A_getf (kf := 25) d_M_landLine_297 hM.o ok_8 (by decide) q_1074 rfl ?_
        refine A_topI hg ?_
        refine A_if_eqB (tgt := 323) d_M_landLine_300 (by decide) (fun c => absurd c (by decide)) (fun c_300 => ?_)
        refine A_aload_n0 d_M_landLine_303 ?_
        refine A_getf (kf := 20) d_M_landLine_304 hM.o ok_8 (by decide) q_1069 rfl ?_
        refine A_bipush (v := nI 6) d_M_landLine_307 (by decide) ?_
        refine A_aload_n0 d_M_landLine_309 ?_
        refine A_getf (kf := 21) d_M_landLine_310 hM.o ok_8 (by decide) q_1070 rfl ?_
        refine A_iconst (v := nI 0) d_M_landLine_313 (by decide) ?_
        refine A_ialdN d_M_landLine_314 hM.a21 ⟨by decide, by decide⟩ ?_
        refine A_topI (show S3.2.2.1 21 0 = nI (lnV B n (nxN B n q) 0) from r21c 0 (by decide)) ?_
        first | refine A_iaddN d_M_landLine_315 (by with_reducible rfl) (by with_reducible rfl) ?_ | refine A_iadd d_M_landLine_315 ?_
        refine A_aload_n0 d_M_landLine_316 ?_
        refine A_getf (kf := 21) d_M_landLine_317 hM.o ok_8 (by decide) q_1070 rfl ?_
        refine A_iconst (v := nI 1) d_M_landLine_320 (by decide) ?_
        refine A_ialdN d_M_landLine_321 hM.a21 ⟨by decide, by decide⟩ ?_
        refine A_topI (show S3.2.2.1 21 1 = nI (lnV B n (nxN B n q) 1) from r21c 1 (by decide)) ?_
        refine A_st20 hM d_M_landLine_322 (by omega) (fun h hM => ?_)
        obtain ⟨S9, hM, e9, x9⟩ := opa20 hM
        have hL9 := LnS.a20 (T' := fup T (6 + lnV B n (nxN B n q) 0) (lnV B n (nxN B n q) 1)) hL3 x9 (fun i hi => by
          rw [e9]
          by_cases z : i = 6 + lnV B n (nxN B n q) 0
          · rw [z, fup_eq, fup_eq]
          · rw [fup_ne _ _ z, fup_ne _ _ z]; exact hL3.2.2.2.1.1 i hi)
        refine A_iconst (v := nI 1) d_M_landLine_323 (by decide) ?_
        refine A_zret d_M_landLine_324 rfl (by first | rfl | exact bI_nar _ | decide) ⟨Nat.zero_le _, Nat.zero_le _⟩ ?_
        refine Or.inr ⟨flN_n (k := 7) (by decide) (by decide) hfl, rfl, S9, _, hM, LnS.at hL9 ?_⟩
        have e : tolT 7 (dkN B n q) (lnV B n (nxN B n q)) T = fup T (6 + lnV B n (nxN B n q) 0) (lnV B n (nxN B n q) 1) := by
          show (if lnG 7 (lnV B n (nxN B n q)) = true then _ else T) = _
          rw [hgd]
          rfl
        show _ = (tolT 7 (dkN B n q) (lnV B n (nxN B n q)) T, _, _)
        rw [e]
        rfl
set_option maxHeartbeats 4000000 in
set_option maxRecDepth 100000 in
theorem c_M_land_none {G : GE} {h0 h : AH} {m : Nat} {S : MS} (hM : MW h0 h m S) {S0 : MS} {B : Nat → Nat} {n q : Nat} {T : Nat → Nat} {f : Nat × Nat × Nat} {s : Nat × Nat} (hL : LnS S0 S B n q q (T, f, s) true) (hqn : q < n) (hw : isW B n q wd_hours = false ∧ isW B n q wd_cross = false ∧ isW B n q wd_crowd = false ∧ isW B n q wd_walk = false ∧ isW B n q wd_person = false ∧ isW B n q wd_likes = false ∧ isW B n q wd_bearer = false ∧ isW B n q wd_toll = false) : Ctr G y_M_landLine b_M_landLine 5 (some .boolean) r_M_landLine [.ref m, .long (wdW B n q), .int (nI q)] h (fun v h' => (∃ x, flN B n 12 q = some x ∧ v = some (.int (bI false)) ∧ ∃ S1, MW h0 h' m S1 ∧ KT S0 S1 ∧ S1.1 17 = nI x) ∨ (flN B n 12 q = none ∧ v = some (.int (bI true)) ∧ ∃ S1 g', MW h0 h' m S1 ∧ LnS S0 S1 B n (itN B n (nxN B n q) (sgN 12)) (itN B n (nxN B n q) (sgN 12)) (lnF 12 B n q (T, f, s)) g')) := by
  refine Ctr.of (by decide +kernel) (by simp) (Nat.le_of_ble_eq_true rfl) (L0 := [some (.ref m), some (.long (wdW B n q)), none, some (.int (nI q)), none]) rfl ?_
  refine A_lload_n1 d_M_landLine_0 ?_
  refine A_ldc2 d_M_landLine_1 q_1266 ?_
  refine A_lcmp d_M_landLine_4 ?_
  refine A_if_ne (tgt := 12) d_M_landLine_5 (by decide) (fun c_5 => ?_) (fun c => absurd (wc_hours.mp ((lg_cmp_eq _ _).mp c)) (by rw [hw.1]; decide))
  refine A_lload_n1 d_M_landLine_12 ?_
  refine A_ldc2 d_M_landLine_13 q_1267 ?_
  refine A_lcmp d_M_landLine_16 ?_
  refine A_if_ne (tgt := 24) d_M_landLine_17 (by decide) (fun c_17 => ?_) (fun c => absurd (wc_cross.mp ((lg_cmp_eq _ _).mp c)) (by rw [hw.2.1]; decide))
  refine A_lload_n1 d_M_landLine_24 ?_
  refine A_ldc2 d_M_landLine_25 q_1268 ?_
  refine A_lcmp d_M_landLine_28 ?_
  refine A_if_ne (tgt := 36) d_M_landLine_29 (by decide) (fun c_29 => ?_) (fun c => absurd (wc_crowd.mp ((lg_cmp_eq _ _).mp c)) (by rw [hw.2.2.1]; decide))
  refine A_lload_n1 d_M_landLine_36 ?_
  refine A_ldc2 d_M_landLine_37 q_1269 ?_
  refine A_lcmp d_M_landLine_40 ?_
  refine A_if_ne (tgt := 48) d_M_landLine_41 (by decide) (fun c_41 => ?_) (fun c => absurd (wc_walk.mp ((lg_cmp_eq _ _).mp c)) (by rw [hw.2.2.2.1]; decide))
  refine A_iconst (v := (-1)) d_M_landLine_48 (by decide) ?_
  refine A_istore4 d_M_landLine_49 trivial ?_
  refine A_iload4 d_M_landLine_51 ?_
  refine A_iconst (v := (-1)) d_M_landLine_53 (by decide) ?_
  refine A_icmp_ne (tgt := 94) d_M_landLine_54 (by decide) (fun c => absurd rfl c) (fun c_54 => ?_)
  refine A_lload_n1 d_M_landLine_57 ?_
  refine A_ldc2 d_M_landLine_58 q_1270 ?_
  refine A_lcmp d_M_landLine_61 ?_
  refine A_if_eq (tgt := 94) d_M_landLine_62 (by decide) (fun c => absurd (wc_person.mp ((lg_cmp_eq _ _).mp c)) (by rw [hw.2.2.2.2.1]; decide)) (fun c_62 => ?_)
  refine A_lload_n1 d_M_landLine_65 ?_
  refine A_ldc2 d_M_landLine_66 q_1271 ?_
  refine A_lcmp d_M_landLine_69 ?_
  refine A_if_eq (tgt := 94) d_M_landLine_70 (by decide) (fun c => absurd (wc_likes.mp ((lg_cmp_eq _ _).mp c)) (by rw [hw.2.2.2.2.2.1]; decide)) (fun c_70 => ?_)
  refine A_lload_n1 d_M_landLine_73 ?_
  refine A_ldc2 d_M_landLine_74 q_1272 ?_
  refine A_lcmp d_M_landLine_77 ?_
  refine A_if_eq (tgt := 94) d_M_landLine_78 (by decide) (fun c => absurd (wc_bearer.mp ((lg_cmp_eq _ _).mp c)) (by rw [hw.2.2.2.2.2.2.1]; decide)) (fun c_78 => ?_)
  refine A_lload_n1 d_M_landLine_81 ?_
  refine A_ldc2 d_M_landLine_82 q_1273 ?_
  refine A_lcmp d_M_landLine_85 ?_
  refine A_if_eq (tgt := 94) d_M_landLine_86 (by decide) (fun c => absurd (wc_toll.mp ((lg_cmp_eq _ _).mp c)) (by rw [hw.2.2.2.2.2.2.2]; decide)) (fun c_86 => ?_)
  refine A_aload_n0 d_M_landLine_89 ?_
  refine A_callV d_M_landLine_90 (c_M_fails hM hL.2.2.1.2.1) hM.o rfl q_1274 q_1276 qs_23 mk_M_fails rfl (by decide) rfl (Nat.le_of_ble_eq_true rfl) ⟨Nat.le_of_ble_eq_true rfl, Nat.le_of_ble_eq_true rfl⟩ (fun v h1 hv => ?_)
  obtain ⟨rfl, S2, hM, e17, x17⟩ := hv
  refine A_zret d_M_landLine_93 rfl (by first | rfl | exact bI_nar _ | decide) ⟨Nat.zero_le _, Nat.zero_le _⟩ ?_
  exact Or.inl ⟨q, if_pos rfl, rfl, S2, hM, hL.1.tr (KT.sf x17 (by decide)), e17⟩
