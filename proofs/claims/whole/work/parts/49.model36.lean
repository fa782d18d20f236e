def itN (B : Nat → Nat) (n q : Nat) : Nat → Nat
  | 0 => q
  | i + 1 => nxN B n (itN B n q i)
theorem itN_bd {B : Nat → Nat} {n q : Nat} (h : q ≤ n) : ∀ i, q ≤ itN B n q i ∧ itN B n q i ≤ n
  | 0 => ⟨Nat.le_refl _, h⟩
  | i + 1 => by
    have ih := itN_bd (B := B) h i
    have := nxN_bd (B := B) (n := n) (q := itN B n q i) ih.2
    show q ≤ nxN B n (itN B n q i) ∧ nxN B n (itN B n q i) ≤ n
    omega
/-! what has been read: the text's numbers, the farthest of people and hours told of (and one), hours together; fault, place -/
abbrev RS : Type := (Nat → Nat) × (Nat × Nat × Nat) × (Nat × Nat)
def nt (f p : Nat) (s : Nat × Nat) : Nat × Nat := if s.1 = 0 then (f, p) else s
def ntB (b : Bool) (p : Nat) (s : Nat × Nat) : Nat × Nat := if b = true then s else nt 2 p s
def RSt (S : MS) (r : RS) : Prop := (∀ i, i < 312 → S.2.2.1 20 i = nI (r.1 i)) ∧ S.1 22 = hI r.2.1.1 ∧ S.1 23 = hI r.2.1.2.1 ∧ S.1 24 = nI r.2.1.2.2 ∧ S.1 18 = nI r.2.2.1 ∧ (r.2.2.1 ≠ 0 → S.1 19 = nI r.2.2.2)
/-- all but what reading is done with -/
def KT (S S1 : MS) : Prop := Keep S S1 ∧ S1.1 12 = S.1 12
theorem KT.rf (S : MS) : KT S S := ⟨Keep.rf S, rfl⟩
theorem KT.tr {S S1 S2 : MS} (a : KT S S1) (b : KT S1 S2) : KT S S2 := ⟨a.1.tr b.1, b.2.trans a.2⟩
theorem KT.ft {S S1 : MS} (a : FT S S1) : KT S S1 := ⟨fun k _ => by rw [a.2], a.1 12 (by omega)⟩
theorem KT.tpe {S S1 : MS} (a : KT S S1) {B : Nat → Nat} {n : Nat} (h : TPE S B n) : TPE S1 B n := ⟨a.2.trans h.1, h.2.1, fun k hk => by rw [a.1 1 (by omega)]; exact h.2.2 k hk⟩
theorem RSt.ft {S S1 : MS} (a : FT S S1) {r : RS} (h : RSt S r) : RSt S1 r := by
  obtain ⟨h1, h2, h3, h4, h5, h6⟩ := h
  exact ⟨fun i hi => by rw [a.2]; exact h1 i hi, (a.1 22 (by omega)).trans h2, (a.1 23 (by omega)).trans h3, (a.1 24 (by omega)).trans h4, (a.1 18 (by omega)).trans h5, fun z => (a.1 19 (by omega)).trans (h6 z)⟩
/-- other fields as they were -/
def SF (S S1 : MS) (ks : List Nat) : Prop := (∀ j, j ∉ ks → S1.1 j = S.1 j) ∧ S1.2 = S.2
theorem RSt.sf {S S1 : MS} {ks : List Nat} (a : SF S S1 ks) (hk : 22 ∉ ks ∧ 23 ∉ ks ∧ 24 ∉ ks ∧ 18 ∉ ks ∧ 19 ∉ ks) {r : RS} (h : RSt S r) : RSt S1 r := by
  obtain ⟨h1, h2, h3, h4, h5, h6⟩ := h
  exact ⟨fun i hi => by rw [a.2]; exact h1 i hi, (a.1 22 hk.1).trans h2, (a.1 23 hk.2.1).trans h3, (a.1 24 hk.2.2.1).trans h4, (a.1 18 hk.2.2.2.1).trans h5, fun z => (a.1 19 hk.2.2.2.2).trans (h6 z)⟩
theorem KT.sf {S S1 : MS} {ks : List Nat} (a : SF S S1 ks) (hk : 12 ∉ ks) : KT S S1 := ⟨fun k _ => by rw [a.2], a.1 12 hk⟩
theorem TOK.sf {S S1 : MS} {ks : List Nat} (a : SF S S1 ks) (hk : 11 ∉ ks ∧ 13 ∉ ks ∧ 14 ∉ ks ∧ 15 ∉ ks) {B : Nat → Nat} {n q : Nat} (h : TOK S B n q) : TOK S1 B n q := by
  obtain ⟨h1, h2, h3, h4, h5⟩ := h
  exact ⟨(a.1 11 hk.1).trans h1, (a.1 13 hk.2.1).trans h2, (a.1 14 hk.2.2.1).trans h3, fun z => (a.1 15 hk.2.2.2).trans (h4 z), fun z => by rw [a.2]; exact h5 z⟩
theorem ops {h0 h : AH} {m : Nat} {S : MS} {kf : Nat} {x : Int32} (hM : MW h0 h m (S.sf kf x)) : ∃ S2 : MS, MW h0 h m S2 ∧ S2.1 kf = x ∧ SF S S2 [kf] := ⟨_, hM, fup_eq _ _ _, fun j hj => fup_ne _ _ (by simpa using hj), rfl⟩
theorem SF.tr {S S1 S2 : MS} {k1 k2 : List Nat} (a : SF S S1 k1) (b : SF S1 S2 k2) : SF S S2 (k1 ++ k2) := ⟨fun j hj => by
  rw [List.mem_append, not_or] at hj
  exact (b.1 j hj.2).trans (a.1 j hj.1), b.2.trans a.2⟩
theorem SF.rf (S : MS) : SF S S [] := ⟨fun _ _ => rfl, rfl⟩
set_option maxHeartbeats 4000000 in
set_option maxRecDepth 100000 in
theorem c_M_fails {G : GE} {h0 h : AH} {m : Nat} {S : MS} (hM : MW h0 h m S) {q : Nat} (hq : S.1 13 = nI q) : Ctr G y_M_fails b_M_fails 1 (some .boolean) r_M_fails [.ref m] h (fun v h' => v = some (.int (bI false)) ∧ ∃ S1, MW h0 h' m S1 ∧ S1.1 17 = nI q ∧ SF S S1 [17]) := by
  refine Ctr.of (by decide +kernel) (by simp) (Nat.le_of_ble_eq_true rfl) (L0 := [some (.ref m)]) rfl ?_
  refine A_aload_n0 d_M_fails_0 ?_
  refine A_aload_n0 d_M_fails_1 ?_
  refine A_getf (kf := 13) d_M_fails_2 hM.o ok_8 (by decide) q_1062 rfl ?_
  refine A_topI hq ?_
  refine A_putM hM (kf := 17) (ty := .int) d_M_fails_5 (by decide) q_1066 rfl (by decide +kernel) (by first | rfl | exact bI_nar _) rfl (Nat.le_of_ble_eq_true rfl) rfl (fun h hM => ?_)
  obtain ⟨S2, hM, e17, x17⟩ := ops hM
  refine A_iconst (v := nI 0) d_M_fails_8 (by decide) ?_
  refine A_zret d_M_fails_9 rfl (by first | rfl | exact bI_nar _ | decide) ⟨Nat.zero_le _, Nat.zero_le _⟩ ?_
  exact ⟨rfl, S2, hM, e17, x17⟩
set_option maxHeartbeats 4000000 in
set_option maxRecDepth 100000 in
theorem c_M_later {G : GE} {h0 h : AH} {m : Nat} {S : MS} (hM : MW h0 h m S) {f p lf lp : Nat} (hf : S.1 18 = nI lf) (hp : lf ≠ 0 → S.1 19 = nI lp) (h1 : lf < 2 ^ 31 ∧ (lf ≠ 0 → lp < 2 ^ 31) ∧ p < 2 ^ 31) (hl : lf ≠ 0 → lp < p) : Ctr G y_M_later b_M_later 3 none r_M_later [.ref m, .int (nI f), .int (nI p)] h (fun v h' => v = none ∧ ∃ S1, MW h0 h' m S1 ∧ S1.1 18 = nI (nt f p (lf, lp)).1 ∧ ((nt f p (lf, lp)).1 ≠ 0 → S1.1 19 = nI (nt f p (lf, lp)).2) ∧ SF S S1 [18, 19]) := by
  refine Ctr.of (by decide +kernel) (by simp) (Nat.le_of_ble_eq_true rfl) (L0 := [some (.ref m), some (.int (nI f)), some (.int (nI p))]) rfl ?_
  refine A_aload_n0 d_M_later_0 ?_
  refine A_getf (kf := 18) d_M_later_1 hM.o ok_8 (by decide) q_1067 rfl ?_
  refine A_topI hf ?_
  first | refine A_if_eqN (tgt := 31) d_M_later_4 (by decide) (by with_reducible rfl) (by omega) (fun c_4 => ?_) (fun c_4 => ?_) | refine A_if_eq (tgt := 31) d_M_later_4 (by decide) (fun c_4 => ?_) (fun c_4 => ?_)
  · refine A_aload_n0 d_M_later_31 ?_
    refine A_iload_n1 d_M_later_32 ?_
    refine A_putM hM (kf := 18) (ty := .int) d_M_later_33 (by decide) q_1067 rfl (by decide +kernel) (by first | rfl | exact bI_nar _) rfl (Nat.le_of_ble_eq_true rfl) rfl (fun h hM => ?_)
    obtain ⟨S2, hM, e18, x18⟩ := ops hM
    refine A_aload_n0 d_M_later_36 ?_
    refine A_iload_n2 d_M_later_37 ?_
    refine A_putM hM (kf := 19) (ty := .int) d_M_later_38 (by decide) q_1068 rfl (by decide +kernel) (by first | rfl | exact bI_nar _) rfl (Nat.le_of_ble_eq_true rfl) rfl (fun h hM => ?_)
    obtain ⟨S3, hM, e19, x19⟩ := ops hM
    refine A_vret d_M_later_41 rfl ⟨Nat.zero_le _, Nat.zero_le _⟩ ?_
    first
      | (have e : nt f p (lf, lp) = (f, p) := if_pos c_4
         exact ⟨rfl, S3, hM, by rw [x19.1 18 (by decide), e18, e], fun _ => by rw [e19, e], x18.tr x19⟩)
      | (have e : nt f p (lf, lp) = (lf, lp) := if_neg c_4
         exact ⟨rfl, S, hM, by rw [hf, e], fun z => by rw [hp c_4, e], fun j hj => rfl, rfl⟩)
      | exact absurd (hl c_4) (by omega)
  · refine A_iload_n2 d_M_later_7 ?_
    refine A_aload_n0 d_M_later_8 ?_
    refine A_getf (kf := 19) d_M_later_9 hM.o ok_8 (by decide) q_1068 rfl ?_
    refine A_topI (hp c_4) ?_
    first | refine A_icmp_ltN (tgt := 31) d_M_later_12 (by decide) (by with_reducible rfl) (by with_reducible rfl) (by omega) (by omega) (fun c_12 => ?_) (fun c_12 => ?_) | refine A_icmp_lt (tgt := 31) d_M_later_12 (by decide) (fun c_12 => ?_) (fun c_12 => ?_)
    · refine A_aload_n0 d_M_later_31 ?_
      refine A_iload_n1 d_M_later_32 ?_
      refine A_putM hM (kf := 18) (ty := .int) d_M_later_33 (by decide) q_1067 rfl (by decide +kernel) (by first | rfl | exact bI_nar _) rfl (Nat.le_of_ble_eq_true rfl) rfl (fun h hM => ?_)
      obtain ⟨S2, hM, e18, x18⟩ := ops hM
      refine A_aload_n0 d_M_later_36 ?_
      refine A_iload_n2 d_M_later_37 ?_
      refine A_putM hM (kf := 19) (ty := .int) d_M_later_38 (by decide) q_1068 rfl (by decide +kernel) (by first | rfl | exact bI_nar _) rfl (Nat.le_of_ble_eq_true rfl) rfl (fun h hM => ?_)
      obtain ⟨S3, hM, e19, x19⟩ := ops hM
      refine A_vret d_M_later_41 rfl ⟨Nat.zero_le _, Nat.zero_le _⟩ ?_
      first
        | (have e : nt f p (lf, lp) = (f, p) := if_pos c_4
           exact ⟨rfl, S3, hM, by rw [x19.1 18 (by decide), e18, e], fun _ => by rw [e19, e], x18.tr x19⟩)
        | (have e : nt f p (lf, lp) = (lf, lp) := if_neg c_4
           exact ⟨rfl, S, hM, by rw [hf, e], fun z => by rw [hp c_4, e], fun j hj => rfl, rfl⟩)
        | exact absurd (hl c_4) (by omega)
    · refine A_iload_n2 d_M_later_15 ?_
      refine A_aload_n0 d_M_later_16 ?_
      refine A_getf (kf := 19) d_M_later_17 hM.o ok_8 (by decide) q_1068 rfl ?_
      refine A_topI (hp c_4) ?_
      first | refine A_icmp_neN (tgt := 41) d_M_later_20 (by decide) (by with_reducible rfl) (by with_reducible rfl) (by omega) (by omega) (fun c_20 => ?_) (fun c_20 => ?_) | refine A_icmp_ne (tgt := 41) d_M_later_20 (by decide) (fun c_20 => ?_) (fun c_20 => ?_)
      · refine A_vret d_M_later_41 rfl ⟨Nat.zero_le _, Nat.zero_le _⟩ ?_
        first
          | (have e : nt f p (lf, lp) = (f, p) := if_pos c_4
             exact ⟨rfl, S3, hM, by rw [x19.1 18 (by decide), e18, e], fun _ => by rw [e19, e], x18.tr x19⟩)
          | (have e : nt f p (lf, lp) = (lf, lp) := if_neg c_4
             exact ⟨rfl, S, hM, by rw [hf, e], fun z => by rw [hp c_4, e], fun j hj => rfl, rfl⟩)
          | exact absurd (hl c_4) (by omega)
      · exact absurd c_20 (by have := hl c_4; omega)
set_option maxHeartbeats 4000000 in
set_option maxRecDepth 100000 in
theorem c_M_full {G : GE} {h0 h : AH} {m : Nat} {S : MS} (hM : MW h0 h m S) {f p lf lp x mo c : Nat} (hc : c < 312) (hx : S.2.2.1 20 c = nI x) (hx2 : x < 2 ^ 31 ∧ mo < 2 ^ 31) (hf : S.1 18 = nI lf) (hp : lf ≠ 0 → S.1 19 = nI lp) (h1 : lf < 2 ^ 31 ∧ (lf ≠ 0 → lp < 2 ^ 31) ∧ p < 2 ^ 31) (hl : lf ≠ 0 → lp < p) : Ctr G y_M_full b_M_full 4 none r_M_full [.ref m, .int (nI c), .int (nI mo), .int (nI p)] h (fun v h' => v = none ∧ ∃ S1, MW h0 h' m S1 ∧ S1.1 18 = nI (if x = mo then nt 3 p (lf, lp) else (lf, lp)).1 ∧ ((if x = mo then nt 3 p (lf, lp) else (lf, lp)).1 ≠ 0 → S1.1 19 = nI (if x = mo then nt 3 p (lf, lp) else (lf, lp)).2) ∧ SF S S1 [18, 19]) := by
  refine Ctr.of (by decide +kernel) (by simp) (Nat.le_of_ble_eq_true rfl) (L0 := [some (.ref m), some (.int (nI c)), some (.int (nI mo)), some (.int (nI p))]) rfl ?_
  refine A_aload_n0 d_M_full_0 ?_
  refine A_getf (kf := 20) d_M_full_1 hM.o ok_8 (by decide) q_1069 rfl ?_
  refine A_iload_n1 d_M_full_4 ?_
  refine A_ialdN d_M_full_5 hM.a20 ⟨by omega, by decide⟩ ?_
  refine A_topI hx ?_
  refine A_iload_n2 d_M_full_6 ?_
  first | refine A_icmp_neN (tgt := 16) d_M_full_7 (by decide) (by with_reducible rfl) (by with_reducible rfl) (by omega) (by omega) (fun c_7 => ?_) (fun c_7 => ?_) | refine A_icmp_ne (tgt := 16) d_M_full_7 (by decide) (fun c_7 => ?_) (fun c_7 => ?_)
  · refine A_vret d_M_full_16 rfl ⟨Nat.zero_le _, Nat.zero_le _⟩ ?_
    first
      | (rw [if_neg c_7]
         exact ⟨rfl, S, hM, hf, hp, fun j hj => rfl, rfl⟩)
      | (rw [if_pos c_7]
         exact ⟨rfl, S2, hM, e18, e19, x2⟩)
  · refine A_aload_n0 d_M_full_10 ?_
    refine A_iconst (v := nI 3) d_M_full_11 (by decide) ?_
    refine A_iload_n3 d_M_full_12 ?_
    refine A_callV d_M_full_13 (c_M_later hM hf hp h1 hl) hM.o rfl q_1282 q_1284 qs_25 mk_M_later rfl (by decide) rfl (Nat.le_of_ble_eq_true rfl) ⟨Nat.le_of_ble_eq_true rfl, Nat.le_of_ble_eq_true rfl⟩ (fun v h1 hv => ?_)
    obtain ⟨rfl, S2, hM, e18, e19, x2⟩ := hv
    refine A_vret d_M_full_16 rfl ⟨Nat.zero_le _, Nat.zero_le _⟩ ?_
    first
      | (rw [if_neg c_7]
         exact ⟨rfl, S, hM, hf, hp, fun j hj => rfl, rfl⟩)
      | (rw [if_pos c_7]
         exact ⟨rfl, S2, hM, e18, e19, x2⟩)
def SA21 (S S1 : MS) : Prop := S1.1 = S.1 ∧ S1.2.1 = S.2.1 ∧ ∀ k, k ≠ 21 → S1.2.2.1 k = S.2.2.1 k
theorem opa21 {h0 h : AH} {m : Nat} {S : MS} {g : Nat → Int32} (hM : MW h0 h m (S.sa 21 g)) : ∃ S2 : MS, MW h0 h m S2 ∧ S2.2.2.1 21 = g ∧ SA21 S S2 := ⟨_, hM, fup_eq S.2.2.1 21 g, rfl, rfl, fun j hj => fup_ne S.2.2.1 g hj⟩
theorem SA21.kt {S S1 : MS} (a : SA21 S S1) : KT S S1 := ⟨fun k hk => a.2.2 k (by omega), by rw [a.1]⟩
theorem RSt.a21 {S S1 : MS} (a : SA21 S S1) {r : RS} (h : RSt S r) : RSt S1 r := by
  obtain ⟨h1, h2, h3, h4, h5, h6⟩ := h
  exact ⟨fun i hi => by rw [a.2.2 20 (by decide)]; exact h1 i hi, by rw [a.1]; exact h2, by rw [a.1]; exact h3, by rw [a.1]; exact h4, by rw [a.1]; exact h5, by rw [a.1]; exact h6⟩
set_option maxHeartbeats 4000000 in
set_option maxRecDepth 100000 in
theorem c_M_take {G : GE} {h0 h : AH} {m : Nat} {S : MS} (hM : MW h0 h m S) {B : Nat → Nat} {n q : Nat} (hT : TPE S B n) (hq : q ≤ n) (hO : TOK S B n q) {r : RS} (hR : RSt S r) {g : Bool} (hg : S.1 25 = bI g) (hb : r.2.2.1 ≤ 4 ∧ (r.2.2.1 ≠ 0 → r.2.2.2 ≤ 600)) (hl : r.2.2.1 ≠ 0 → r.2.2.2 < q) {k lo hi : Nat} (hk : k < 4) (hlo : lo < 2 ^ 31) (hhi : hi < 2 ^ 31) : Ctr G y_M_take b_M_take 4 (some .boolean) r_M_take [.ref m, .int (nI k), .int (nI lo), .int (nI hi)] h (fun v h' => (kN B n q ≠ 3 ∧ v = some (.int (bI false)) ∧ ∃ S1, MW h0 h' m S1 ∧ KT S S1 ∧ S1.1 17 = nI q) ∨ (kN B n q = 3 ∧ v = some (.int (bI true)) ∧ ∃ S1, MW h0 h' m S1 ∧ KT S S1 ∧ TOK S1 B n (nxN B n q) ∧ RSt S1 (r.1, r.2.1, ntB (inN lo hi (tvN B n q)) q r.2.2) ∧ S1.1 25 = bI (g && inN lo hi (tvN B n q)) ∧ S1.2.2.1 21 = fup (S.2.2.1 21) k (nI (tvN B n q)) ∧ (∀ j, 19 < j → j ≠ 25 → S1.1 j = S.1 j))) := by
  have hn := hT.2.1
  have hkl := kN_le B n q
  refine Ctr.of (by decide +kernel) (by simp) (Nat.le_of_ble_eq_true rfl) (L0 := [some (.ref m), some (.int (nI k)), some (.int (nI lo)), some (.int (nI hi))]) rfl ?_
  by_cases hk3 : kN B n q = 3
  · have hv := tvN_le hk3
    refine A_aload_n0 d_M_take_0 ?_
    refine A_getf (kf := 14) d_M_take_1 hM.o ok_8 (by decide) q_1063 rfl ?_
    refine A_topI hO.2.2.1 ?_
    refine A_iconst (v := nI 3) d_M_take_4 (by decide) ?_
    refine A_icmp_eq (tgt := 13) d_M_take_5 (by decide) (fun c_5 => ?_) (fun c => absurd (congrArg nI hk3) c)
    refine A_aload_n0 d_M_take_13 ?_
    refine A_getf (kf := 21) d_M_take_14 hM.o ok_8 (by decide) q_1070 rfl ?_
    refine A_iload_n1 d_M_take_17 ?_
    refine A_aload_n0 d_M_take_18 ?_
    refine A_getf (kf := 15) d_M_take_19 hM.o ok_8 (by decide) q_1064 rfl ?_
    refine A_topI (hO.2.2.2.1 hk3) ?_
    refine A_st21 hM d_M_take_22 (by omega) (fun h hM => ?_)
    obtain ⟨S2, hM, e21, x21⟩ := opa21 hM
    refine A_aload_n0 d_M_take_23 ?_
    refine A_getf (kf := 15) d_M_take_24 hM.o ok_8 (by decide) q_1064 rfl ?_
    refine A_topI (show S2.1 15 = nI (tvN B n q) by rw [x21.1]; exact hO.2.2.2.1 hk3) ?_
    refine A_iload_n2 d_M_take_27 ?_
    refine A_iload_n3 d_M_take_28 ?_
    refine A_callSP d_M_take_29 (c_M_in _ _ _ h) q_1231 q_1232 mk_M_in rfl (by decide) rfl (Nat.le_of_ble_eq_true rfl) ⟨Nat.le_of_ble_eq_true rfl, Nat.le_of_ble_eq_true rfl⟩ ⟨rfl, rfl⟩ ?_
    have hR2 := RSt.a21 x21 hR
    refine A_if_neB (tgt := 49) d_M_take_32 (by decide) (fun c_32 => ?_) (fun c_32 => ?_)
    · refine A_aload_n0 d_M_take_49 ?_
      refine A_callV d_M_take_50 (c_M_token hM (KT.tpe x21.kt hT) (p := eN B n q) (eN_bd hq).2 (by rw [x21.1]; exact hO.1)) hM.o rfl q_1246 q_1248 qs_18 mk_M_token rfl (by decide) rfl (Nat.le_of_ble_eq_true rfl) ⟨Nat.le_of_ble_eq_true rfl, Nat.le_of_ble_eq_true rfl⟩ (fun v h1 hv => ?_)
      obtain ⟨rfl, S9, hM, hF9, hO9⟩ := hv
      refine A_iconst (v := nI 1) d_M_take_53 (by decide) ?_
      refine A_zret d_M_take_54 rfl (by first | rfl | exact bI_nar _ | decide) ⟨Nat.zero_le _, Nat.zero_le _⟩ ?_
      have hin : inN lo hi (tvN B n q) = true := (inB_N (by omega) hlo hhi).symm.trans c_32
      rw [hin]
      refine Or.inr ⟨hk3, rfl, S9, hM, x21.kt.tr (KT.ft hF9), hO9, ?_, ?_, ?_, fun j h1 h2 => ?_⟩
      · exact RSt.ft hF9 hR2
      · rw [hF9.1 25 (by omega), x21.1, hg, Bool.and_true]
      · rw [hF9.2, e21]
      · rw [hF9.1 j (by omega), x21.1]
    · refine A_aload_n0 d_M_take_35 ?_
      refine A_iconst (v := nI 2) d_M_take_36 (by decide) ?_
      refine A_aload_n0 d_M_take_37 ?_
      refine A_getf (kf := 13) d_M_take_38 hM.o ok_8 (by decide) q_1062 rfl ?_
      refine A_topI (show S2.1 13 = nI q by rw [x21.1]; exact hO.2.1) ?_
      refine A_callV d_M_take_41 (c_M_later hM (hR2.2.2.2.2.1) (hR2.2.2.2.2.2) (by omega) hl) hM.o rfl q_1282 q_1284 qs_25 mk_M_later rfl (by decide) rfl (Nat.le_of_ble_eq_true rfl) ⟨Nat.le_of_ble_eq_true rfl, Nat.le_of_ble_eq_true rfl⟩ (fun v h1 hv => ?_)
      obtain ⟨rfl, S3, hM, e18, e19, x3⟩ := hv
      refine A_aload_n0 d_M_take_44 ?_
      refine A_iconst (v := nI 0) d_M_take_45 (by decide) ?_
      refine A_putM hM (kf := 25) (ty := .boolean) d_M_take_46 (by decide) q_1074 rfl (by decide +kernel) (by first | rfl | exact bI_nar _) rfl (Nat.le_of_ble_eq_true rfl) rfl (fun h hM => ?_)
      obtain ⟨S4, hM, e25, x4⟩ := ops hM
      refine A_aload_n0 d_M_take_49 ?_
      refine A_callV d_M_take_50 (c_M_token hM (KT.tpe ((x21.kt.tr (KT.sf x3 (by decide))).tr (KT.sf x4 (by decide))) hT) (p := eN B n q) (eN_bd hq).2 (by rw [x4.1 11 (by decide), x3.1 11 (by decide), x21.1]; exact hO.1)) hM.o rfl q_1246 q_1248 qs_18 mk_M_token rfl (by decide) rfl (Nat.le_of_ble_eq_true rfl) ⟨Nat.le_of_ble_eq_true rfl, Nat.le_of_ble_eq_true rfl⟩ (fun v h1 hv => ?_)
      obtain ⟨rfl, S9, hM, hF9, hO9⟩ := hv
      refine A_iconst (v := nI 1) d_M_take_53 (by decide) ?_
      refine A_zret d_M_take_54 rfl (by first | rfl | exact bI_nar _ | decide) ⟨Nat.zero_le _, Nat.zero_le _⟩ ?_
      have hin : inN lo hi (tvN B n q) = false := (inB_N (by omega) hlo hhi).symm.trans c_32
      rw [hin]
      have x34 := x3.tr x4
      refine Or.inr ⟨hk3, rfl, S9, hM, x21.kt.tr ((KT.sf x34 (by decide)).tr (KT.ft hF9)), hO9, ?_, ?_, ?_, fun j h1 h2 => ?_⟩
      · refine RSt.ft hF9 (RSt.sf x4 (by decide) ?_)
        obtain ⟨q1, q2, q3, q4, -, -⟩ := hR2
        exact ⟨fun i hi => by rw [x3.2]; exact q1 i hi, (x3.1 22 (by decide)).trans q2, (x3.1 23 (by decide)).trans q3, (x3.1 24 (by decide)).trans q4, e18, e19⟩
      · rw [hF9.1 25 (by omega), e25, Bool.and_false]
        rfl
      · rw [hF9.2, x34.2, e21]
      · rw [hF9.1 j (by omega), x34.1 j (by simp; omega), x21.1]
  refine A_aload_n0 d_M_take_0 ?_
  refine A_getf (kf := 14) d_M_take_1 hM.o ok_8 (by decide) q_1063 rfl ?_
  refine A_topI hO.2.2.1 ?_
  refine A_iconst (v := nI 3) d_M_take_4 (by decide) ?_
  refine A_icmp_eq (tgt := 13) d_M_take_5 (by decide) (fun c => absurd ((nI_eq (by omega) (by decide)).mp c) hk3) (fun c_5 => ?_)
  refine A_aload_n0 d_M_take_8 ?_
  refine A_callV d_M_take_9 (c_M_fails hM (hO.2.1)) hM.o rfl q_1274 q_1276 qs_23 mk_M_fails rfl (by decide) rfl (Nat.le_of_ble_eq_true rfl) ⟨Nat.le_of_ble_eq_true rfl, Nat.le_of_ble_eq_true rfl⟩ (fun v h1 hv => ?_)
  obtain ⟨rfl, S2, hM, e17, x17⟩ := hv
  refine A_zret d_M_take_12 rfl (by first | rfl | exact bI_nar _ | decide) ⟨Nat.zero_le _, Nat.zero_le _⟩ ?_
  exact Or.inl ⟨hk3, rfl, S2, hM, KT.sf x17 (by decide), e17⟩
/-- one more of those that are further ones -/
def kpF (T : Nat → Nat) (v : Nat → Nat) (c fr ap wi mo : Nat) : Nat → Nat := if T c = mo then T else fup (fun j => if fr + ap * T c ≤ j ∧ j < fr + ap * T c + wi then v (j - (fr + ap * T c)) else T j) c (T c + 1)
def SA20 (S S1 : MS) : Prop := S1.1 = S.1 ∧ S1.2.1 = S.2.1 ∧ ∀ k, k ≠ 20 → S1.2.2.1 k = S.2.2.1 k
theorem opa20 {h0 h : AH} {m : Nat} {S : MS} {g : Nat → Int32} (hM : MW h0 h m (S.sa 20 g)) : ∃ S2 : MS, MW h0 h m S2 ∧ S2.2.2.1 20 = g ∧ SA20 S S2 := ⟨_, hM, fup_eq S.2.2.1 20 g, rfl, rfl, fun j hj => fup_ne S.2.2.1 g hj⟩
theorem SA20.rf (S : MS) : SA20 S S := ⟨rfl, rfl, fun _ _ => rfl⟩
theorem SA20.tr {S S1 S2 : MS} (a : SA20 S S1) (b : SA20 S1 S2) : SA20 S S2 := ⟨b.1.trans a.1, b.2.1.trans a.2.1, fun k hk => (b.2.2 k hk).trans (a.2.2 k hk)⟩
theorem SA20.kt {S S1 : MS} (a : SA20 S S1) : KT S S1 := ⟨fun k hk => a.2.2 k (by omega), by rw [a.1]⟩
theorem SA20.tok {S S1 : MS} (a : SA20 S S1) {B : Nat → Nat} {n q : Nat} (h : TOK S B n q) : TOK S1 B n q := by
  obtain ⟨h1, h2, h3, h4, h5⟩ := h
  exact ⟨by rw [a.1]; exact h1, by rw [a.1]; exact h2, by rw [a.1]; exact h3, fun z => by rw [a.1]; exact h4 z, fun z => by rw [a.2.1]; exact h5 z⟩
set_option maxHeartbeats 4000000 in
set_option maxRecDepth 100000 in
theorem c_M_keep {G : GE} {h0 h : AH} {m : Nat} {S : MS} (hM : MW h0 h m S) {T v0 : Nat → Nat} (hT : ∀ i, i < 312 → S.2.2.1 20 i = nI (T i)) {c fr ap wi mo : Nat} (hv : ∀ i, i < wi → S.2.2.1 21 i = nI (v0 i)) (hc : c < fr) (hwi : wi ≤ 4) (hmo : mo < 2 ^ 31) (hT2 : T c ≤ mo) (hm2 : ap * T c < 312) (hfit : T c ≠ mo → fr + ap * T c + wi ≤ 312) (hfr : fr < 312) : Ctr G y_M_keep b_M_keep 8 none r_M_keep [.ref m, .int (nI c), .int (nI fr), .int (nI ap), .int (nI wi), .int (nI mo)] h (fun v h' => v = none ∧ ∃ S1, MW h0 h' m S1 ∧ SA20 S S1 ∧ ∀ i, i < 312 → S1.2.2.1 20 i = nI (kpF T v0 c fr ap wi mo i)) := by
  have key : T c ≠ mo → ∀ i, i ≤ wi → ∀ (h : AH) (S1 : MS), MW h0 h m S1 → SA20 S S1 → (∀ j, j < 312 → S1.2.2.1 20 j = nI (if fr + ap * T c ≤ j ∧ j < fr + ap * T c + i then v0 (j - (fr + ap * T c)) else T j)) → WA G y_M_keep b_M_keep 8 none r_M_keep 0 0 (fun v h' => v = none ∧ ∃ S1, MW h0 h' m S1 ∧ SA20 S S1 ∧ ∀ i, i < 312 → S1.2.2.1 20 i = nI (kpF T v0 c fr ap wi mo i)) 0 0 19 [some (.ref m), some (.int (nI c)), some (.int (nI fr)), some (.int (nI ap)), some (.int (nI wi)), some (.int (nI mo)), some (.int (nI (T c))), some (.int (nI i))] [] h := by
    intro hm
    have hfit := hfit hm
    refine down ?_ (fun i hi ih => ?_)
    · obtain ⟨i, hi⟩ : ∃ i, i = wi := ⟨_, rfl⟩
      intro h S1 hM hb hr
      refine A_iload7 d_M_keep_19 ?_
      refine A_iload4 d_M_keep_21 ?_
      first | refine A_icmp_geN (tgt := 53) d_M_keep_23 (by decide) (by with_reducible rfl) (by with_reducible rfl) (by omega) (by omega) (fun c_23 => ?_) (fun c_23 => ?_) | refine A_icmp_ge (tgt := 53) d_M_keep_23 (by decide) (fun c_23 => ?_) (fun c_23 => ?_)
      · refine A_aload_n0 d_M_keep_53 ?_
        refine A_getf (kf := 20) d_M_keep_54 hM.o ok_8 (by decide) q_1069 rfl ?_
        refine A_iload_n1 d_M_keep_57 ?_
        refine A_dup2IR d_M_keep_58 ?_
        refine A_ialdN d_M_keep_59 hM.a20 ⟨by omega, by decide⟩ ?_
        refine A_topI ((hr c (by omega)).trans (congrArg nI (if_neg (by omega)))) ?_
        refine A_iconst (v := nI 1) d_M_keep_60 (by decide) ?_
        first | refine A_iaddN d_M_keep_61 (by with_reducible rfl) (by with_reducible rfl) ?_ | refine A_iadd d_M_keep_61 ?_
        refine A_st20 hM d_M_keep_62 (by omega) (fun h hM => ?_)
        obtain ⟨S3, hM, e3, x3⟩ := opa20 hM
        refine A_vret d_M_keep_63 rfl ⟨Nat.zero_le _, Nat.zero_le _⟩ ?_
        refine ⟨rfl, S3, hM, hb.tr x3, fun j hj => ?_⟩
        unfold kpF
        rw [if_neg hm, e3]
        by_cases q : j = c
        · rw [q, fup_eq, fup_eq]
        · rw [fup_ne _ _ q, fup_ne _ _ q, hr j hj]
      · exact absurd c_23 (by omega)
    · intro h S1 hM hb hr
      refine A_iload7 d_M_keep_19 ?_
      refine A_iload4 d_M_keep_21 ?_
      first | refine A_icmp_geN (tgt := 53) d_M_keep_23 (by decide) (by with_reducible rfl) (by with_reducible rfl) (by omega) (by omega) (fun c_23 => ?_) (fun c_23 => ?_) | refine A_icmp_ge (tgt := 53) d_M_keep_23 (by decide) (fun c_23 => ?_) (fun c_23 => ?_)
      · exact absurd c_23 (by omega)
      · refine A_aload_n0 d_M_keep_26 ?_
        refine A_getf (kf := 20) d_M_keep_27 hM.o ok_8 (by decide) q_1069 rfl ?_
        refine A_iload_n2 d_M_keep_30 ?_
        refine A_iload_n3 d_M_keep_31 ?_
        refine A_iload6 d_M_keep_32 ?_
        first | refine A_imulN d_M_keep_34 (by with_reducible rfl) (by with_reducible rfl) ?_ | refine A_imul d_M_keep_34 ?_
        first | refine A_iaddN d_M_keep_35 (by with_reducible rfl) (by with_reducible rfl) ?_ | refine A_iadd d_M_keep_35 ?_
        refine A_iload7 d_M_keep_36 ?_
        first | refine A_iaddN d_M_keep_38 (by with_reducible rfl) (by with_reducible rfl) ?_ | refine A_iadd d_M_keep_38 ?_
        refine A_aload_n0 d_M_keep_39 ?_
        refine A_getf (kf := 21) d_M_keep_40 hM.o ok_8 (by decide) q_1070 rfl ?_
        refine A_iload7 d_M_keep_43 ?_
        refine A_ialdN d_M_keep_45 hM.a21 ⟨by omega, by decide⟩ ?_
        refine A_topI (show S1.2.2.1 21 i = nI (v0 i) by rw [hb.2.2 21 (by decide)]; exact hv i hi) ?_
        refine A_st20 hM d_M_keep_46 (by omega) (fun h hM => ?_)
        obtain ⟨S3, hM, e3, x3⟩ := opa20 hM
        first | refine A_iinc7 d_M_keep_47 (nI_1 _) trivial ?_ | refine A_iinc7 d_M_keep_47 rfl trivial ?_
        refine A_goto (tgt := 19) d_M_keep_50 (by decide) ?_
        refine ih _ _ hM (hb.tr x3) (fun j hj => ?_)
        rw [e3]
        by_cases q : j = fr + ap * T c + i
        · rw [q, fup_eq, if_pos (by omega)]
          exact congrArg (fun z => nI (v0 z)) (by omega)
        · rw [fup_ne _ _ q, hr j hj]
          by_cases q2 : fr + ap * T c ≤ j ∧ j < fr + ap * T c + i
          · rw [if_pos q2, if_pos (by omega)]
          · rw [if_neg q2, if_neg (by omega)]
  refine Ctr.of (by decide +kernel) (by simp) (Nat.le_of_ble_eq_true rfl) (L0 := [some (.ref m), some (.int (nI c)), some (.int (nI fr)), some (.int (nI ap)), some (.int (nI wi)), some (.int (nI mo)), none, none]) rfl ?_
  refine A_aload_n0 d_M_keep_0 ?_
  refine A_getf (kf := 20) d_M_keep_1 hM.o ok_8 (by decide) q_1069 rfl ?_
  refine A_iload_n1 d_M_keep_4 ?_
  refine A_ialdN d_M_keep_5 hM.a20 ⟨by omega, by decide⟩ ?_
  refine A_topI (hT c (by omega)) ?_
  refine A_istore6 d_M_keep_6 trivial ?_
  refine A_iload6 d_M_keep_8 ?_
  refine A_iload5 d_M_keep_10 ?_
  first | refine A_icmp_neN (tgt := 16) d_M_keep_12 (by decide) (by with_reducible rfl) (by with_reducible rfl) (by omega) (by omega) (fun c_12 => ?_) (fun c_12 => ?_) | refine A_icmp_ne (tgt := 16) d_M_keep_12 (by decide) (fun c_12 => ?_) (fun c_12 => ?_)
  · refine A_iconst (v := nI 0) d_M_keep_16 (by decide) ?_
    refine A_istore7 d_M_keep_17 trivial ?_
    exact key c_12 0 (Nat.zero_le _) _ _ hM (SA20.rf S) (fun j hj => by rw [if_neg (by omega)]; exact hT j hj)
  · refine A_vret d_M_keep_15 rfl ⟨Nat.zero_le _, Nat.zero_le _⟩ ?_
    exact ⟨rfl, S, hM, SA20.rf S, fun i hi => by unfold kpF; rw [if_pos c_12]; exact hT i hi⟩
