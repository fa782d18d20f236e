theorem Ctr.imp {G : GE} {y : MethodName} {cc : ByteArray} {nL : Nat} {ret : Option FieldType} {R : Room} {vs : List Value} {h : AH} {K K1 : Option Value → AH → Prop} (hK : ∀ v h', K1 v h' → K v h') (c : Ctr G y cc nL ret R vs h K1) : Ctr G y cc nL ret R vs h K := fun l p e ha hc hk s m args below hf happ hP hKK => by
  obtain ⟨n, o, h1, h2, h3, ⟨⟨v, h', e1, e2, e3⟩, hL⟩⟩ := c l p e ha hc hk s m args below hf happ hP hKK
  exact ⟨n, o, h1, h2, h3, ⟨⟨v, h', e1, e2, hK v h' e3⟩, hL⟩⟩
theorem itN_nx (B : Nat → Nat) (n q : Nat) : ∀ i, itN B n (nxN B n q) i = itN B n q (i + 1)
  | 0 => rfl
  | i + 1 => congrArg (nxN B n) (itN_nx B n q i)
/-- the line that begins with a token: 0 hours, cross, crowd, walk, 4 person, likes, bearer, toll, 8 night, 9 at, 10 saw, 11 worth; 12 none -/
def lkN (B : Nat → Nat) (n of q : Nat) : Nat :=
  if of = 0 then (if isW B n q wd_hours = true then 0 else if isW B n q wd_cross = true then 1 else if isW B n q wd_crowd = true then 2 else if isW B n q wd_walk = true then 3 else if isW B n q wd_person = true then 4 else if isW B n q wd_likes = true then 5 else if isW B n q wd_bearer = true then 6 else if isW B n q wd_toll = true then 7 else 12)
  else if of = 1 then (if isW B n q wd_night = true then 8 else 12)
  else if of = 2 then (if isW B n q wd_at = true then 9 else 12)
  else if of = 3 then (if isW B n q wd_saw = true then 10 else 12)
  else (if isW B n q wd_worth = true then 11 else 12)
def ncN (k : Nat) : Nat := if k ≤ 3 then 1 else if k = 4 then 3 else if k = 5 then 4 else if k = 8 then 3 else 2
def sgN (k : Nat) : Nat := if k = 10 then 3 else ncN k
def lnV (B : Nat → Nat) (n p : Nat) : Nat → Nat := fun i => tvN B n (itN B n p i)
def nuF (B : Nat → Nat) (n p c : Nat) : Option Nat := firstU (fun i => !decide (kN B n (itN B n p i) = 3)) (fun i => some (itN B n p i)) none c 0
theorem nuF_go {B : Nat → Nat} {n p c : Nat} : ∀ i, i ≤ c → (∀ j, j < i → kN B n (itN B n p j) = 3) → nuF B n p c = firstU (fun i => !decide (kN B n (itN B n p i) = 3)) (fun i => some (itN B n p i)) none c i
  | 0, _, _ => rfl
  | i + 1, h, hk => by
    rw [nuF_go i (by omega) (fun j hj => hk j (by omega)), firstU_step _ _ _ (by omega), if_neg (by rw [decide_eq_true (hk i (by omega))]; decide)]
theorem nuF_s {B : Nat → Nat} {n p c j : Nat} (hj : j < c) (hk : ∀ i, i < j → kN B n (itN B n p i) = 3) (hn : kN B n (itN B n p j) ≠ 3) : nuF B n p c = some (itN B n p j) := by
  rw [nuF_go j (by omega) hk, firstU_step _ _ _ hj, if_pos (by rw [decide_eq_false hn]; rfl)]
theorem nuF_n {B : Nat → Nat} {n p c : Nat} (hk : ∀ i, i < c → kN B n (itN B n p i) = 3) : nuF B n p c = none := by
  rw [nuF_go c (Nat.le_refl _) hk, firstU_end]
/-- where a line fails ahead of its sign -/
def flN (B : Nat → Nat) (n k q : Nat) : Option Nat := if k = 12 then some q else match nuF B n (nxN B n q) (ncN k) with
  | some x => some x
  | none => if k = 10 ∧ isW B n (itN B n (nxN B n q) 2) wd_dark = false ∧ isW B n (itN B n (nxN B n q) 2) wd_light = false then some (itN B n (nxN B n q) 2) else none
def loN (k : Nat) (v : Nat → Nat) (i : Nat) : Nat := if i = 2 ∧ (k = 5 ∨ k = 8) then v 1 else if i = 0 then (if k = 0 then 4 else if k = 3 then 1 else if k = 11 then 1 else 0) else if i = 1 ∧ k = 9 then 1 else 0
def hiN (k i : Nat) : Nat := if k = 0 then 24 else if k = 1 then 3 else if k = 2 then 9 else if k = 3 then 4
  else if k = 4 then (if i = 0 then 1 else 12)
  else if k = 5 then (if i = 0 then 9 else if i = 3 then 9 else 23)
  else if k = 6 then (if i = 0 then 99 else 10)
  else if k = 7 then (if i = 0 then 23 else 99)
  else if k = 8 then (if i = 0 then 2 else 23)
  else if k = 9 then (if i = 0 then 2 else 24)
  else if k = 10 then (if i = 0 then 9 else 23)
  else (if i = 0 then 7 else 60)
def inrN (k : Nat) (v : Nat → Nat) (i : Nat) : Bool := inN (loN k v i) (hiN k i) (v i)
def lnS (k : Nat) (B : Nat → Nat) (n p : Nat) (s : Nat × Nat) : Nat × Nat := foldN (fun i s => ntB (inrN k (lnV B n p) i) (itN B n p i) s) s (ncN k)
def lnG (k : Nat) (v : Nat → Nat) : Bool := foldN (fun i g => g && inrN k v i) true (ncN k)
def fulN (k : Nat) (T : Nat → Nat) : Bool := if k = 4 then decide (T 4 = 10) else if k = 6 then decide (T 5 = 6) else if k = 9 then decide (T 0 = 30) else if k = 10 then decide (T 0 = 20) else false
def spF (b x y z : Nat) (T : Nat → Nat) : Nat → Nat := fun j => if b + x ≤ j ∧ j ≤ b + y then z else T j
def tolT (k d : Nat) (v : Nat → Nat) (T : Nat → Nat) : Nat → Nat :=
  if k ≤ 3 then fup T k (v 0)
  else if k = 4 then kpF T v 4 42 27 3 10
  else if k = 5 then (if lnG 5 v = true then spF (42 + 27 * v 0 + 3) (v 1) (v 2) (v 3) T else T)
  else if k = 6 then kpF T v 5 30 2 2 6
  else if k = 7 then (if lnG 7 v = true then fup T (6 + v 0) (v 1) else T)
  else if k = 8 then (if lnG 8 v = true then spF 0 (v 1) (v 2) (v 0) T else T)
  else if k = 9 then kpF T v 0 1 2 2 30
  else if k = 10 then kpF T (fup v 2 d) 0 1 3 3 20
  else (if lnG 11 v = true then fup T (v 0) (v 1) else T)
def farN (k : Nat) (v : Nat → Nat) (f : Nat × Nat × Nat) : Nat × Nat × Nat :=
  if k = 5 then (max f.1 (v 0 + 1), max f.2.1 (max (v 1) (v 2) + 1), f.2.2)
  else if k = 7 then (f.1, max f.2.1 (v 0 + 1), f.2.2)
  else if k = 9 then (f.1, f.2.1, f.2.2 + v 1)
  else f
def dkN (B : Nat → Nat) (n q : Nat) : Nat := if isW B n (itN B n (nxN B n q) 2) wd_dark = true then 1 else 0
def lnF (k : Nat) (B : Nat → Nat) (n q : Nat) (r : RS) : RS := (tolT k (dkN B n q) (lnV B n (nxN B n q)) r.1, farN k (lnV B n (nxN B n q)) r.2.1, lnS k B n (nxN B n q) (if fulN k r.1 = true then nt 3 q r.2.2 else r.2.2))
/-! the reference at a token of a line, begun at S0 -/
def LnS (S0 S : MS) (B : Nat → Nat) (n q b : Nat) (r : RS) (g : Bool) : Prop := KT S0 S ∧ TPE S B n ∧ TOK S B n q ∧ RSt S r ∧ S.1 25 = bI g ∧ q ≤ n ∧ r.2.2.1 ≤ 4 ∧ (r.2.2.1 ≠ 0 → r.2.2.2 ≤ 600) ∧ (r.2.2.1 ≠ 0 → r.2.2.2 < b)
theorem ntB_bd {b : Bool} {p x : Nat} {s : Nat × Nat} (h1 : s.1 ≤ 4) (h2 : s.1 ≠ 0 → s.2 ≤ 600) (h3 : s.1 ≠ 0 → s.2 < p) (hp : p ≤ 600) (hx : p < x) : (ntB b p s).1 ≤ 4 ∧ ((ntB b p s).1 ≠ 0 → (ntB b p s).2 ≤ 600) ∧ ((ntB b p s).1 ≠ 0 → (ntB b p s).2 < x) := by
  unfold ntB nt
  split
  · exact ⟨h1, h2, fun q => by have := h3 q; omega⟩
  · split
    · exact ⟨show (2 : Nat) ≤ 4 by omega, fun _ => hp, fun _ => hx⟩
    · exact ⟨h1, h2, fun q => by have := h3 q; omega⟩
theorem c_M_takeL {G : GE} {h0 h : AH} {m : Nat} {S : MS} (hM : MW h0 h m S) {S0 : MS} {B : Nat → Nat} {n q : Nat} {r : RS} {g : Bool} (hL : LnS S0 S B n q q r g) {k lo hi : Nat} (hk : k < 4) (hlo : lo < 2 ^ 31) (hhi : hi < 2 ^ 31) : Ctr G y_M_take b_M_take 4 (some .boolean) r_M_take [.ref m, .int (nI k), .int (nI lo), .int (nI hi)] h (fun v h' => (kN B n q ≠ 3 ∧ v = some (.int (bI false)) ∧ ∃ S1, MW h0 h' m S1 ∧ KT S0 S1 ∧ S1.1 17 = nI q) ∨ (kN B n q = 3 ∧ v = some (.int (bI true)) ∧ ∃ S1, MW h0 h' m S1 ∧ LnS S0 S1 B n (nxN B n q) (nxN B n q) (r.1, r.2.1, ntB (inN lo hi (tvN B n q)) q r.2.2) (g && inN lo hi (tvN B n q)) ∧ S1.2.2.1 21 = fup (S.2.2.1 21) k (nI (tvN B n q)))) := by
  obtain ⟨l1, l2, l3, l4, l5, l6, l7, l8, l9⟩ := hL
  have hn := l2.2.1
  refine Ctr.imp (fun v h' z => ?_) (c_M_take hM l2 l6 l3 l4 l5 ⟨l7, l8⟩ l9 hk hlo hhi)
  rcases z with ⟨a1, a2, S1, a3, a4, a5⟩ | ⟨a1, a2, S1, a3, a4, a5, a6, a7, a8, a9⟩
  · exact Or.inl ⟨a1, a2, S1, a3, l1.tr a4, a5⟩
  · have hql := kN_lt (B := B) (n := n) (q := q) (by omega)
    have hx := nxN_lt (B := B) hql
    obtain ⟨b1, b2, b3⟩ := ntB_bd (b := inN lo hi (tvN B n q)) (p := q) (x := nxN B n q) l7 l8 l9 (by omega) hx.1
    exact Or.inr ⟨a1, a2, S1, a3, ⟨l1.tr a4, a4.tpe l2, a5, a6, a7, hx.2, b1, b2, b3⟩, a8⟩
theorem c_M_tokenL {G : GE} {h0 h : AH} {m : Nat} {S : MS} (hM : MW h0 h m S) {S0 : MS} {B : Nat → Nat} {n q b : Nat} {r : RS} {g : Bool} (hL : LnS S0 S B n q b r g) (hb : b ≤ q + 1) (hq : q < n) : Ctr G y_M_token b_M_token 3 none r_M_token [.ref m] h (fun v h' => v = none ∧ ∃ S1, MW h0 h' m S1 ∧ LnS S0 S1 B n (nxN B n q) (nxN B n q) r g ∧ S1.2.2.1 = S.2.2.1) := by
  obtain ⟨l1, l2, l3, l4, l5, l6, l7, l8, l9⟩ := hL
  have hx := nxN_lt (B := B) hq
  refine Ctr.imp (fun v h' z => ?_) (c_M_token hM l2 (eN_bd l6).2 l3.1)
  obtain ⟨a1, S1, a2, a3, a4⟩ := z
  exact ⟨a1, S1, a2, ⟨l1.tr (KT.ft a3), a3.tpe l2, a4, RSt.ft a3 l4, (a3.1 25 (by omega)).trans l5, hx.2, l7, l8, fun z => by have := l9 z; omega⟩, by rw [a3.2]⟩
theorem LnS.mx {S0 S S1 : MS} {B : Nat → Nat} {n q b : Nat} {T : Nat → Nat} {f : Nat × Nat × Nat} {s : Nat × Nat} {g : Bool} {k : Nat} {x : Int32} (hL : LnS S0 S B n q b (T, f, s) g) (e : S1.1 k = x) (a : SF S S1 [k]) (hk : k = 22 ∨ k = 23 ∨ k = 24) {f' : Nat × Nat × Nat} (hx1 : (k = 22 ∧ x = hI f'.1) ∨ (k ≠ 22 ∧ f'.1 = f.1)) (hx2 : (k = 23 ∧ x = hI f'.2.1) ∨ (k ≠ 23 ∧ f'.2.1 = f.2.1)) (hx3 : (k = 24 ∧ x = nI f'.2.2) ∨ (k ≠ 24 ∧ f'.2.2 = f.2.2)) : LnS S0 S1 B n q b (T, f', s) g := by
  obtain ⟨l1, l2, l3, ⟨r1, r2, r3, r4, r5, r6⟩, l5, l6, l7, l8, l9⟩ := hL
  have fs : ∀ j, j ≠ k → S1.1 j = S.1 j := fun j hj => a.1 j (by simpa using hj)
  refine ⟨l1.tr (KT.sf a (by simp; omega)), KT.tpe (KT.sf a (by simp; omega)) l2, TOK.sf a (by simp; omega) l3, ⟨fun i hi => by rw [a.2]; exact r1 i hi, ?_, ?_, ?_, (fs 18 (by omega)).trans r5, fun z => (fs 19 (by omega)).trans (r6 z)⟩, (fs 25 (by omega)).trans l5, l6, l7, l8, l9⟩
  · rcases hx1 with ⟨rfl, e2⟩ | ⟨e1, e2⟩
    · exact e.trans e2
    · exact (fs 22 (fun z => e1 z.symm)).trans (r2.trans (congrArg hI e2.symm))
  · rcases hx2 with ⟨rfl, e2⟩ | ⟨e1, e2⟩
    · exact e.trans e2
    · exact (fs 23 (fun z => e1 z.symm)).trans (r3.trans (congrArg hI e2.symm))
  · rcases hx3 with ⟨rfl, e2⟩ | ⟨e1, e2⟩
    · exact e.trans e2
    · exact (fs 24 (fun z => e1 z.symm)).trans (r4.trans (congrArg nI e2.symm))
theorem LnS.a20 {S0 S S1 : MS} {B : Nat → Nat} {n q b : Nat} {T T' : Nat → Nat} {f : Nat × Nat × Nat} {s : Nat × Nat} {g : Bool} (hL : LnS S0 S B n q b (T, f, s) g) (a : SA20 S S1) (e : ∀ i, i < 312 → S1.2.2.1 20 i = nI (T' i)) : LnS S0 S1 B n q b (T', f, s) g := by
  obtain ⟨l1, l2, l3, ⟨r1, r2, r3, r4, r5, r6⟩, l5, l6, l7, l8, l9⟩ := hL
  exact ⟨l1.tr a.kt, KT.tpe a.kt l2, a.tok l3, ⟨e, by rw [a.1]; exact r2, by rw [a.1]; exact r3, by rw [a.1]; exact r4, by rw [a.1]; exact r5, by rw [a.1]; exact r6⟩, by rw [a.1]; exact l5, l6, l7, l8, l9⟩
theorem nI_hI (a : Nat) : nI a = hI (a + 1) := (if_neg (Nat.succ_ne_zero a)).symm
theorem likG {v : Nat → Nat} (h : lnG 5 v = true) : v 0 ≤ 9 ∧ v 1 ≤ v 2 ∧ v 2 ≤ 23 := by
  have h : ((((true && inrN 5 v 0) && inrN 5 v 1) && inrN 5 v 2) && inrN 5 v 3) = true := h
  simp only [Bool.and_eq_true, Bool.true_and] at h
  obtain ⟨⟨⟨a, b⟩, c⟩, d⟩ := h
  simp only [inrN, inN, Bool.and_eq_true, decide_eq_true_eq] at a c
  exact ⟨a.2, c.1, c.2⟩
set_option maxHeartbeats 4000000 in
set_option maxRecDepth 100000 in
theorem c_M_likesLine {G : GE} {h0 h : AH} {m : Nat} {S : MS} (hM : MW h0 h m S) {S0 : MS} {B : Nat → Nat} {n p : Nat} {T : Nat → Nat} {f : Nat × Nat × Nat} {s : Nat × Nat} (hL0 : LnS S0 S B n p p (T, f, s) true) (hf1 : f.1 ≤ 100) (hf2 : f.2.1 ≤ 100) (d : Nat) : Ctr G y_M_likesLine b_M_likesLine 2 (some .boolean) r_M_likesLine [.ref m] h (fun v h' => (∃ x, nuF B n p 4 = some x ∧ v = some (.int (bI false)) ∧ ∃ S1, MW h0 h' m S1 ∧ KT S0 S1 ∧ S1.1 17 = nI x) ∨ (nuF B n p 4 = none ∧ v = some (.int (bI true)) ∧ ∃ S1 g', MW h0 h' m S1 ∧ LnS S0 S1 B n (itN B n p 4) (itN B n p 4) (tolT 5 d (lnV B n p) T, farN 5 (lnV B n p) f, lnS 5 B n p s) g')) := by
  refine Ctr.of (by decide +kernel) (by simp) (Nat.le_of_ble_eq_true rfl) (L0 := [some (.ref m), none]) rfl ?_
  refine A_aload_n0 d_M_likesLine_0 ?_
  refine A_iconst (v := nI 0) d_M_likesLine_1 (by decide) ?_
  refine A_iconst (v := nI 0) d_M_likesLine_2 (by decide) ?_
  refine A_bipush (v := nI 9) d_M_likesLine_3 (by decide) ?_
  refine A_callV d_M_likesLine_5 (c_M_takeL hM hL0 (k := 0) (lo := 0) (hi := 9) (by decide) (by omega) (by omega)) hM.o rfl q_1290 q_1292 qs_27 mk_M_take rfl (by decide) rfl (Nat.le_of_ble_eq_true rfl) ⟨Nat.le_of_ble_eq_true rfl, Nat.le_of_ble_eq_true rfl⟩ (fun v h1 hv => ?_)
  rcases hv with ⟨k0, rfl, S8, hM, hK8, e17⟩ | ⟨k0, rfl, S1, hM, hL1, e21_0⟩
  · have hfl : nuF B n p 4 = some (itN B n p 0) := nuF_s (by decide) (fun i h => by omega) k0
    refine A_if_neB (tgt := 13) d_M_likesLine_8 (by decide) (fun c => absurd c (by decide)) (fun c_8 => ?_)
    refine A_iconst (v := nI 0) d_M_likesLine_11 (by decide) ?_
    refine A_zret d_M_likesLine_12 rfl (by first | rfl | exact bI_nar _ | decide) ⟨Nat.zero_le _, Nat.zero_le _⟩ ?_
    exact Or.inl ⟨_, hfl, rfl, S8, hM, hK8, e17⟩
  · have v0 := tvN_le k0
    have w0 : lnV B n p 0 ≤ 99 := v0
    refine A_if_neB (tgt := 13) d_M_likesLine_8 (by decide) (fun c_8 => ?_) (fun c => absurd c (by decide))
    refine A_aload_n0 d_M_likesLine_13 ?_
    refine A_aload_n0 d_M_likesLine_14 ?_
    refine A_getf (kf := 22) d_M_likesLine_15 hM.o ok_8 (by decide) q_1071 rfl ?_
    refine A_topI hL1.2.2.2.1.2.1 ?_
    refine A_aload_n0 d_M_likesLine_18 ?_
    refine A_getf (kf := 21) d_M_likesLine_19 hM.o ok_8 (by decide) q_1070 rfl ?_
    refine A_iconst (v := nI 0) d_M_likesLine_22 (by decide) ?_
    refine A_ialdN d_M_likesLine_23 hM.a21 ⟨by decide, by decide⟩ ?_
    refine A_topI (show S1.2.2.1 21 0 = nI (lnV B n p 0) by rw [e21_0, fup_eq]; rfl) ?_
    refine A_topI (nI_hI _) ?_
    refine A_callSP d_M_likesLine_24 (c_M_greater _ _ _) q_1294 q_1295 mk_M_greater rfl (by decide) rfl (Nat.le_of_ble_eq_true rfl) ⟨Nat.le_of_ble_eq_true rfl, Nat.le_of_ble_eq_true rfl⟩ ⟨rfl, rfl⟩ ?_
    refine A_topI (hI_max (a := f.1) (b := lnV B n p 0 + 1) (by omega) (by omega)) ?_
    refine A_putM hM (kf := 22) (ty := .int) d_M_likesLine_27 (by decide) q_1071 rfl (by decide +kernel) (by first | rfl | exact bI_nar _) rfl (Nat.le_of_ble_eq_true rfl) rfl (fun h hM => ?_)
    obtain ⟨S1b, hM, e22, x1⟩ := ops hM
    have hL1a := LnS.mx hL1 e22 x1 (by decide) (f' := (max f.1 (lnV B n p 0 + 1), f.2.1, f.2.2)) (Or.inl ⟨rfl, rfl⟩) (Or.inr ⟨by decide, rfl⟩) (Or.inr ⟨by decide, rfl⟩)
    refine A_aload_n0 d_M_likesLine_30 ?_
    refine A_iconst (v := nI 1) d_M_likesLine_31 (by decide) ?_
    refine A_iconst (v := nI 0) d_M_likesLine_32 (by decide) ?_
    refine A_bipush (v := nI 23) d_M_likesLine_33 (by decide) ?_
    refine A_callV d_M_likesLine_35 (c_M_takeL hM hL1a (k := 1) (lo := 0) (hi := 23) (by decide) (by omega) (by omega)) hM.o rfl q_1290 q_1292 qs_27 mk_M_take rfl (by decide) rfl (Nat.le_of_ble_eq_true rfl) ⟨Nat.le_of_ble_eq_true rfl, Nat.le_of_ble_eq_true rfl⟩ (fun v h1 hv => ?_)
    rcases hv with ⟨k1, rfl, S8, hM, hK8, e17⟩ | ⟨k1, rfl, S2, hM, hL2, e21_1⟩
    · have hfl : nuF B n p 4 = some (itN B n p 1) := nuF_s (by decide) (fun i h => by rcases (show i = 0 by omega) with rfl <;> assumption) k1
      refine A_if_eqB (tgt := 68) d_M_likesLine_38 (by decide) (fun c_38 => ?_) (fun c => absurd c (by decide))
      refine A_iconst (v := nI 0) d_M_likesLine_68 (by decide) ?_
      refine A_zret d_M_likesLine_69 rfl (by first | rfl | exact bI_nar _ | decide) ⟨Nat.zero_le _, Nat.zero_le _⟩ ?_
      exact Or.inl ⟨_, hfl, rfl, S8, hM, hK8, e17⟩
    · have v1 := tvN_le k1
      have w1 : lnV B n p 1 ≤ 99 := v1
      refine A_if_eqB (tgt := 68) d_M_likesLine_38 (by decide) (fun c => absurd c (by decide)) (fun c_38 => ?_)
      refine A_aload_n0 d_M_likesLine_41 ?_
      refine A_iconst (v := nI 2) d_M_likesLine_42 (by decide) ?_
      refine A_aload_n0 d_M_likesLine_43 ?_
      refine A_getf (kf := 21) d_M_likesLine_44 hM.o ok_8 (by decide) q_1070 rfl ?_
      refine A_iconst (v := nI 1) d_M_likesLine_47 (by decide) ?_
      refine A_ialdN d_M_likesLine_48 hM.a21 ⟨by decide, by decide⟩ ?_
      refine A_topI (show S2.2.2.1 21 1 = nI (lnV B n p 1) by rw [e21_1, fup_eq]; rfl) ?_
      refine A_bipush (v := nI 23) d_M_likesLine_49 (by decide) ?_
      refine A_callV d_M_likesLine_51 (c_M_takeL hM hL2 (k := 2) (lo := lnV B n p 1) (hi := 23) (by decide) (by omega) (by omega)) hM.o rfl q_1290 q_1292 qs_27 mk_M_take rfl (by decide) rfl (Nat.le_of_ble_eq_true rfl) ⟨Nat.le_of_ble_eq_true rfl, Nat.le_of_ble_eq_true rfl⟩ (fun v h1 hv => ?_)
      rcases hv with ⟨k2, rfl, S8, hM, hK8, e17⟩ | ⟨k2, rfl, S3, hM, hL3, e21_2⟩
      · have hfl : nuF B n p 4 = some (itN B n p 2) := nuF_s (by decide) (fun i h => by rcases (show i = 0 ∨ i = 1 by omega) with rfl | rfl <;> assumption) k2
        refine A_if_eqB (tgt := 68) d_M_likesLine_54 (by decide) (fun c_54 => ?_) (fun c => absurd c (by decide))
        refine A_iconst (v := nI 0) d_M_likesLine_68 (by decide) ?_
        refine A_zret d_M_likesLine_69 rfl (by first | rfl | exact bI_nar _ | decide) ⟨Nat.zero_le _, Nat.zero_le _⟩ ?_
        exact Or.inl ⟨_, hfl, rfl, S8, hM, hK8, e17⟩
      · have v2 := tvN_le k2
        have w2 : lnV B n p 2 ≤ 99 := v2
        refine A_if_eqB (tgt := 68) d_M_likesLine_54 (by decide) (fun c => absurd c (by decide)) (fun c_54 => ?_)
        refine A_aload_n0 d_M_likesLine_57 ?_
        refine A_iconst (v := nI 3) d_M_likesLine_58 (by decide) ?_
        refine A_iconst (v := nI 0) d_M_likesLine_59 (by decide) ?_
        refine A_bipush (v := nI 9) d_M_likesLine_60 (by decide) ?_
        refine A_callV d_M_likesLine_62 (c_M_takeL hM hL3 (k := 3) (lo := 0) (hi := 9) (by decide) (by omega) (by omega)) hM.o rfl q_1290 q_1292 qs_27 mk_M_take rfl (by decide) rfl (Nat.le_of_ble_eq_true rfl) ⟨Nat.le_of_ble_eq_true rfl, Nat.le_of_ble_eq_true rfl⟩ (fun v h1 hv => ?_)
        rcases hv with ⟨k3, rfl, S8, hM, hK8, e17⟩ | ⟨k3, rfl, S4, hM, hL4, e21_3⟩
        · have hfl : nuF B n p 4 = some (itN B n p 3) := nuF_s (by decide) (fun i h => by rcases (show i = 0 ∨ i = 1 ∨ i = 2 by omega) with rfl | rfl | rfl <;> assumption) k3
          refine A_if_neB (tgt := 70) d_M_likesLine_65 (by decide) (fun c => absurd c (by decide)) (fun c_65 => ?_)
          refine A_iconst (v := nI 0) d_M_likesLine_68 (by decide) ?_
          refine A_zret d_M_likesLine_69 rfl (by first | rfl | exact bI_nar _ | decide) ⟨Nat.zero_le _, Nat.zero_le _⟩ ?_
          exact Or.inl ⟨_, hfl, rfl, S8, hM, hK8, e17⟩
        · have v3 := tvN_le k3
          have w3 : lnV B n p 3 ≤ 99 := v3
          refine A_if_neB (tgt := 70) d_M_likesLine_65 (by decide) (fun c_65 => ?_) (fun c => absurd c (by decide))
          have r21 : ∀ i, i < 4 → S4.2.2.1 21 i = nI (lnV B n p i) := by
            intro i hi
            rcases (show i = 0 ∨ i = 1 ∨ i = 2 ∨ i = 3 by omega) with rfl | rfl | rfl | rfl
            · rw [e21_3, fup_ne _ _ (by decide), e21_2, fup_ne _ _ (by decide), e21_1, fup_ne _ _ (by decide), x1.2, e21_0, fup_eq]
              rfl
            · rw [e21_3, fup_ne _ _ (by decide), e21_2, fup_ne _ _ (by decide), e21_1, fup_eq]
              rfl
            · rw [e21_3, fup_ne _ _ (by decide), e21_2, fup_eq]
              rfl
            · rw [e21_3, fup_eq]
              rfl
          refine A_aload_n0 d_M_likesLine_70 ?_
          refine A_aload_n0 d_M_likesLine_71 ?_
          refine A_getf (kf := 23) d_M_likesLine_72 hM.o ok_8 (by decide) q_1072 rfl ?_
          refine A_topI hL4.2.2.2.1.2.2.1 ?_
          refine A_aload_n0 d_M_likesLine_75 ?_
          refine A_getf (kf := 21) d_M_likesLine_76 hM.o ok_8 (by decide) q_1070 rfl ?_
          refine A_iconst (v := nI 1) d_M_likesLine_79 (by decide) ?_
          refine A_ialdN d_M_likesLine_80 hM.a21 ⟨by decide, by decide⟩ ?_
          refine A_topI (show S4.2.2.1 21 1 = nI (lnV B n p 1) from r21 1 (by decide)) ?_
          refine A_aload_n0 d_M_likesLine_81 ?_
          refine A_getf (kf := 21) d_M_likesLine_82 hM.o ok_8 (by decide) q_1070 rfl ?_
          refine A_iconst (v := nI 2) d_M_likesLine_85 (by decide) ?_
          refine A_ialdN d_M_likesLine_86 hM.a21 ⟨by decide, by decide⟩ ?_
          refine A_topI (show S4.2.2.1 21 2 = nI (lnV B n p 2) from r21 2 (by decide)) ?_
          refine A_callSP d_M_likesLine_87 (c_M_greater _ _ _) q_1294 q_1295 mk_M_greater rfl (by decide) rfl (Nat.le_of_ble_eq_true rfl) ⟨Nat.le_of_ble_eq_true rfl, Nat.le_of_ble_eq_true rfl⟩ ⟨rfl, rfl⟩ ?_
          refine A_topI (nI_max (by omega) (by omega)) ?_
          refine A_topI (nI_hI _) ?_
          refine A_callSP d_M_likesLine_90 (c_M_greater _ _ _) q_1294 q_1295 mk_M_greater rfl (by decide) rfl (Nat.le_of_ble_eq_true rfl) ⟨Nat.le_of_ble_eq_true rfl, Nat.le_of_ble_eq_true rfl⟩ ⟨rfl, rfl⟩ ?_
          refine A_topI (hI_max (a := f.2.1) (b := max (lnV B n p 1) (lnV B n p 2) + 1) (by omega) (by omega)) ?_
          refine A_putM hM (kf := 23) (ty := .int) d_M_likesLine_93 (by decide) q_1072 rfl (by decide +kernel) (by first | rfl | exact bI_nar _) rfl (Nat.le_of_ble_eq_true rfl) rfl (fun h hM => ?_)
          obtain ⟨S4b, hM, e23, x4⟩ := ops hM
          have hL5 := LnS.mx hL4 e23 x4 (by decide) (f' := (max f.1 (lnV B n p 0 + 1), max f.2.1 (max (lnV B n p 1) (lnV B n p 2) + 1), f.2.2)) (Or.inr ⟨by decide, rfl⟩) (Or.inl ⟨rfl, rfl⟩) (Or.inr ⟨by decide, rfl⟩)
          refine A_aload_n0 d_M_likesLine_96 ?_
          refine A_getf (kf := 21) d_M_likesLine_97 hM.o ok_8 (by decide) q_1070 rfl ?_
          refine A_iconst (v := nI 1) d_M_likesLine_100 (by decide) ?_
          refine A_ialdN d_M_likesLine_101 hM.a21 ⟨by decide, by decide⟩ ?_
          refine A_topI (show S4b.2.2.1 21 1 = nI (lnV B n p 1) by rw [x4.2]; exact r21 1 (by decide)) ?_
          refine A_istore1 d_M_likesLine_102 trivial ?_
          have hfl : nuF B n p 4 = none := nuF_n (fun i h => by rcases (show i = 0 ∨ i = 1 ∨ i = 2 ∨ i = 3 by omega) with rfl | rfl | rfl | rfl <;> assumption)
          have hg5 : S4b.1 25 = bI (lnG 5 (lnV B n p)) := hL5.2.2.2.2.1
          have hfar : farN 5 (lnV B n p) f = (max f.1 (lnV B n p 0 + 1), max f.2.1 (max (lnV B n p 1) (lnV B n p 2) + 1), f.2.2) := rfl
          have r21b : ∀ i, i < 4 → S4b.2.2.1 21 i = nI (lnV B n p i) := fun i hi => by rw [x4.2]; exact r21 i hi
          cases hgd : lnG 5 (lnV B n p)
          · rw [hgd] at hg5
            refine A_aload_n0 d_M_likesLine_103 ?_
            refine A_getf (kf := 25) d_M_likesLine_104 hM.o ok_8 (by decide) q_1074 rfl ?_
            refine A_topI hg5 ?_
            refine A_if_eqB (tgt := 153) d_M_likesLine_107 (by decide) (fun c_107 => ?_) (fun c => absurd c (by decide))
            refine A_iconst (v := nI 1) d_M_likesLine_153 (by decide) ?_
            refine A_zret d_M_likesLine_154 rfl (by first | rfl | exact bI_nar _ | decide) ⟨Nat.zero_le _, Nat.zero_le _⟩ ?_
            refine Or.inr ⟨hfl, rfl, S4b, lnG 5 (lnV B n p), hM, ?_⟩
            have e : tolT 5 d (lnV B n p) T = T := by
              show (if lnG 5 (lnV B n p) = true then _ else T) = T
              rw [hgd]
              rfl
            rw [e]
            exact hL5
          · rw [hgd] at hg5
            have hin0 : lnV B n p 0 ≤ 9 ∧ lnV B n p 1 ≤ lnV B n p 2 ∧ lnV B n p 2 ≤ 23 := likG hgd
            have keyL : ∀ j, lnV B n p 1 ≤ j → j ≤ lnV B n p 2 + 1 → ∀ (h : AH) (S9 : MS), MW h0 h m S9 → SA20 S4b S9 → (∀ i, i < 312 → S9.2.2.1 20 i = nI (if 42 + 27 * lnV B n p 0 + 3 + lnV B n p 1 ≤ i ∧ i < 42 + 27 * lnV B n p 0 + 3 + j then lnV B n p 3 else T i)) → WA G y_M_likesLine b_M_likesLine 2 (some .boolean) r_M_likesLine 0 0 (fun v h' => (∃ x, nuF B n p 4 = some x ∧ v = some (.int (bI false)) ∧ ∃ S1, MW h0 h' m S1 ∧ KT S0 S1 ∧ S1.1 17 = nI x) ∨ (nuF B n p 4 = none ∧ v = some (.int (bI true)) ∧ ∃ S1 g', MW h0 h' m S1 ∧ LnS S0 S1 B n (itN B n p 4) (itN B n p 4) (tolT 5 d (lnV B n p) T, farN 5 (lnV B n p) f, lnS 5 B n p s) g')) 0 0 103 [some (.ref m), some (.int (nI j))] [] h := by
              intro j hj hj2
              obtain ⟨z, hz⟩ : ∃ z, z = 100 - j := ⟨_, rfl⟩
              induction z using Nat.strongRecOn generalizing j with
              | _ z ihz =>
                intro h S9 hM hb hr
                by_cases hlt : j ≤ lnV B n p 2
                · skip
                  refine A_aload_n0 d_M_likesLine_103 ?_
                  refine A_getf (kf := 25) d_M_likesLine_104 hM.o ok_8 (by decide) q_1074 rfl ?_
                  refine A_topI ((congrFun hb.1 25).trans hg5) ?_
                  refine A_if_eqB (tgt := 153) d_M_likesLine_107 (by decide) (fun c => absurd c (by decide)) (fun c_107 => ?_)
                  refine A_iload_n1 d_M_likesLine_110 ?_
                  refine A_aload_n0 d_M_likesLine_111 ?_
                  refine A_getf (kf := 21) d_M_likesLine_112 hM.o ok_8 (by decide) q_1070 rfl ?_
                  refine A_iconst (v := nI 2) d_M_likesLine_115 (by decide) ?_
                  refine A_ialdN d_M_likesLine_116 hM.a21 ⟨by decide, by decide⟩ ?_
                  refine A_topI ((congrFun (hb.2.2 21 (by decide)) 2).trans (r21b 2 (by decide))) ?_
                  refine A_icmp_gt (tgt := 153) d_M_likesLine_117 (by decide) (fun c => absurd ((nI_ltI (by omega) (by omega)).mp c) (by omega)) (fun c_117 => ?_)
                  refine A_aload_n0 d_M_likesLine_120 ?_
                  refine A_getf (kf := 20) d_M_likesLine_121 hM.o ok_8 (by decide) q_1069 rfl ?_
                  refine A_bipush (v := nI 42) d_M_likesLine_124 (by decide) ?_
                  refine A_bipush (v := nI 27) d_M_likesLine_126 (by decide) ?_
                  refine A_aload_n0 d_M_likesLine_128 ?_
                  refine A_getf (kf := 21) d_M_likesLine_129 hM.o ok_8 (by decide) q_1070 rfl ?_
                  refine A_iconst (v := nI 0) d_M_likesLine_132 (by decide) ?_
                  refine A_ialdN d_M_likesLine_133 hM.a21 ⟨by decide, by decide⟩ ?_
                  refine A_topI ((congrFun (hb.2.2 21 (by decide)) 0).trans (r21b 0 (by decide))) ?_
                  first | refine A_imulN d_M_likesLine_134 (by with_reducible rfl) (by with_reducible rfl) ?_ | refine A_imul d_M_likesLine_134 ?_
                  first | refine A_iaddN d_M_likesLine_135 (by with_reducible rfl) (by with_reducible rfl) ?_ | refine A_iadd d_M_likesLine_135 ?_
                  refine A_iconst (v := nI 3) d_M_likesLine_136 (by decide) ?_
                  first | refine A_iaddN d_M_likesLine_137 (by with_reducible rfl) (by with_reducible rfl) ?_ | refine A_iadd d_M_likesLine_137 ?_
                  refine A_iload_n1 d_M_likesLine_138 ?_
                  first | refine A_iaddN d_M_likesLine_139 (by with_reducible rfl) (by with_reducible rfl) ?_ | refine A_iadd d_M_likesLine_139 ?_
                  refine A_aload_n0 d_M_likesLine_140 ?_
                  refine A_getf (kf := 21) d_M_likesLine_141 hM.o ok_8 (by decide) q_1070 rfl ?_
                  refine A_iconst (v := nI 3) d_M_likesLine_144 (by decide) ?_
                  refine A_ialdN d_M_likesLine_145 hM.a21 ⟨by decide, by decide⟩ ?_
                  refine A_topI ((congrFun (hb.2.2 21 (by decide)) 3).trans (r21b 3 (by decide))) ?_
                  refine A_st20 hM d_M_likesLine_146 (by omega) (fun h hM => ?_)
                  obtain ⟨S3, hM, e3, x3⟩ := opa20 hM
                  first | refine A_iinc1 d_M_likesLine_147 (nI_1 _) trivial ?_ | refine A_iinc1 d_M_likesLine_147 rfl trivial ?_
                  refine A_goto (tgt := 103) d_M_likesLine_150 (by decide) ?_
                  refine ihz (100 - (j + 1)) (by omega) (j + 1) (by omega) (by omega) rfl _ _ hM (hb.tr x3) (fun i hi => ?_)
                  rw [e3]
                  by_cases q : i = 42 + 27 * lnV B n p 0 + 3 + j
                  · rw [q, fup_eq, if_pos (by omega)]
                  · rw [fup_ne _ _ q, hr i hi]
                    by_cases q2 : 42 + 27 * lnV B n p 0 + 3 + lnV B n p 1 ≤ i ∧ i < 42 + 27 * lnV B n p 0 + 3 + j
                    · rw [if_pos q2, if_pos (by omega)]
                    · rw [if_neg q2, if_neg (by omega)]
                · have hlast : j = lnV B n p 2 + 1 := by omega
                  refine A_aload_n0 d_M_likesLine_103 ?_
                  refine A_getf (kf := 25) d_M_likesLine_104 hM.o ok_8 (by decide) q_1074 rfl ?_
                  refine A_topI ((congrFun hb.1 25).trans hg5) ?_
                  refine A_if_eqB (tgt := 153) d_M_likesLine_107 (by decide) (fun c => absurd c (by decide)) (fun c_107 => ?_)
                  refine A_iload_n1 d_M_likesLine_110 ?_
                  refine A_aload_n0 d_M_likesLine_111 ?_
                  refine A_getf (kf := 21) d_M_likesLine_112 hM.o ok_8 (by decide) q_1070 rfl ?_
                  refine A_iconst (v := nI 2) d_M_likesLine_115 (by decide) ?_
                  refine A_ialdN d_M_likesLine_116 hM.a21 ⟨by decide, by decide⟩ ?_
                  refine A_topI ((congrFun (hb.2.2 21 (by decide)) 2).trans (r21b 2 (by decide))) ?_
                  refine A_icmp_gt (tgt := 153) d_M_likesLine_117 (by decide) (fun c_117 => ?_) (fun c => absurd ((nI_ltI (by omega) (by omega)).mpr (by omega)) c)
                  refine A_iconst (v := nI 1) d_M_likesLine_153 (by decide) ?_
                  refine A_zret d_M_likesLine_154 rfl (by first | rfl | exact bI_nar _ | decide) ⟨Nat.zero_le _, Nat.zero_le _⟩ ?_
                  refine Or.inr ⟨hfl, rfl, S9, _, hM, LnS.a20 hL5 hb (fun i hi => ?_)⟩
                  rw [hr i hi]
                  congr 1
                  show _ = (if lnG 5 (lnV B n p) = true then spF (42 + 27 * lnV B n p 0 + 3) (lnV B n p 1) (lnV B n p 2) (lnV B n p 3) T else T) i
                  rw [if_pos hgd]
                  unfold spF
                  by_cases q2 : 42 + 27 * lnV B n p 0 + 3 + lnV B n p 1 ≤ i ∧ i < 42 + 27 * lnV B n p 0 + 3 + j
                  · rw [if_pos q2, if_pos (by omega)]
                  · rw [if_neg q2, if_neg (by omega)]
            exact keyL (lnV B n p 1) (Nat.le_refl _) (by omega) _ _ hM (SA20.rf _) (fun i hi => by rw [if_neg (by omega)]; exact hL5.2.2.2.1.1 i hi)
