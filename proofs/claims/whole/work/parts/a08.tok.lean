/-! TOKENS at z: the tape's cell tp, the int fields by number -/
def tkfs (tp : Nat) (E : Nat → Int32) : List Value := [.ref tp, .int (E 1), .int (E 2), .int (E 3), .int (E 4), .int (E 5)]
def TKW (h0 h : AH) (z tp : Nat) (E : Nat → Int32) : Prop := 1000 ≤ z ∧ h z = some (.inr (5, tkfs tp E)) ∧ ∀ i, i ≠ z → h i = h0 i
theorem TKW.o {h0 h : AH} {z tp : Nat} {E : Nat → Int32} (M : TKW h0 h z tp E) : h z = some (.inr (5, tkfs tp E)) := M.2.1
theorem TKW.start {h : AH} {z tp : Nat} {E : Nat → Int32} (hz : 1000 ≤ z) (ho : h z = some (.inr (5, tkfs tp E))) : TKW h h z tp E := ⟨hz, ho, fun _ _ => rfl⟩
theorem TKW.trans {h0 h h1 : AH} {z tp tp1 : Nat} {E E1 : Nat → Int32} (M : TKW h0 h z tp E) (M1 : TKW h h1 z tp1 E1) : TKW h0 h1 z tp1 E1 := ⟨M1.1, M1.2.1, fun i hi => (M1.2.2 i hi).trans (M.2.2 i hi)⟩
/-- the tape's bytes -/
def TPB (h : AH) (tp : Nat) (B : Nat → Nat) : Prop := (∃ f, h tp = some (.inl (0, 600, .inl f)) ∧ ∀ k, k < 600 → f k = nI (B k)) ∧ ∀ k, B k < 256
theorem A_tkInt {G : GE} {y : MethodName} {cc : ByteArray} {nL : Nat} {ret : Option FieldType} {R : Room} {mc ms : Nat} {K : Option Value → AH → Prop} {u n pc : Nat} {L : List (Option Value)} {st : List Value} {h0 h : AH} {z tp : Nat} {E : Nat → Int32} {kf index : Nat} {x : Int32} (d : decode cc pc = .ok (.putfield index, 3)) (hk : kf < 6) (hw : (.fieldLink y.cls index (TX5 kf).1 (TX5 kf).2.1 (TX5 kf).2.2.1 : Cond) ∈ lw_g) (hfin : (TX5 kf).2.2.2 = false ∨ ((TX5 kf).2.2.2 = true ∧ y.name = "<init>" ∧ (TX5 kf).1 = y.cls)) (hd : parseFieldDescriptor (TX5 kf).2.2.1 = some .int) (M : TKW h0 h z tp E) (he : (tkfs tp E).set kf (.int x) = tkfs tp (fup E kf x))
    (k : ∀ h1, TKW h0 h1 z tp (fup E kf x) → WA G y cc nL ret R mc ms K u n (pc + 3) L st h1) : WA G y cc nL ret R mc ms K u n pc L (.int x :: .ref z :: st) h :=
  A_put (kf := kf) (ty := .int) d M.o ok_5 hk hw hfin hd rfl rfl (by show kf < 6; exact hk) M.1 (k _ ⟨M.1, by rw [he]; exact hset_eq _ _ _, fun i hi => (hset_ne hi).trans (M.2.2 i hi)⟩)
def kcN (k : Nat) : Nat := if k = 0 then 0 else if k = 1 then 4 else k - 1
/-- the class at a token -/
def TKn (B : Nat → Nat) (n q : Nat) (E : Nat → Int32) : Prop := E 1 = nI n ∧ E 2 = nI q ∧ E 3 = nI (eN B n q) ∧ E 4 = nI (kcN (kN B n q)) ∧ (kN B n q = 3 → E 5 = nI (tvN B n q)) ∧ q ≤ n
def WDl : List (List Nat) := [wd_hours, wd_cross, wd_crowd, wd_walk, wd_person, wd_likes, wd_bearer, wd_toll, wd_night, wd_at, wd_saw, wd_worth, wd_dark, wd_light]
theorem wd_len : ∀ i, i < 14 → wa_len.getD i 0 = (WDl.getD i []).length ∧ ∀ j, j < wa_len.getD i 0 → sbF i j = nI ((WDl.getD i []).getD j 0) ∧ (WDl.getD i []).getD j 0 < 256 := by decide +kernel
set_option maxHeartbeats 4000000 in
set_option maxRecDepth 100000 in
theorem c_To_isWithin {G : GE} {h : AH} {z tp : Nat} {E : Nat → Int32} (hz : 1000 ≤ z) (hoz : h z = some (.inr (5, tkfs tp E))) {B : Nat → Nat} (hB : TPB h tp B) (hzt : tp ≠ z) {n : Nat} (hn : n ≤ 600) (hE1 : E 1 = nI n) (p lo hi : Nat) (hp : p < 2 ^ 31) (hlo : lo < 2 ^ 31) (hhi : hi < 2 ^ 31) : Ctr G y_To_isWithin b_To_isWithin 4 (some .boolean) r_To_isWithin [.ref z, .int (nI p), .int (nI lo), .int (nI hi)] h (Pu (.int (bI (decide (p < n) && inN lo hi (B p)))) h) := by
  refine Ctr.of (by decide +kernel) (by simp) (Nat.le_of_ble_eq_true rfl) (L0 := [some (.ref z), some (.int (nI p)), some (.int (nI lo)), some (.int (nI hi))]) rfl ?_
  obtain ⟨⟨f, hf, hfB⟩, hB2⟩ := hB
  have M := TKW.start hz hoz
  refine A_iload_n1 d_To_isWithin_0 ?_
  refine A_aload_n0 d_To_isWithin_1 ?_
  refine A_getf (kf := 1) d_To_isWithin_2 M.o ok_5 (by decide) q_247 rfl ?_
  refine A_topI hE1 ?_
  first | refine A_icmp_geN (tgt := 32) d_To_isWithin_5 (by decide) (by with_reducible rfl) (by with_reducible rfl) (by omega) (by omega) (fun c_5 => ?_) (fun c_5 => ?_) | refine A_icmp_ge (tgt := 32) d_To_isWithin_5 (by decide) (fun c_5 => ?_) (fun c_5 => ?_)
  · refine A_iconst (v := nI 0) d_To_isWithin_32 (by decide) ?_
    refine A_zret d_To_isWithin_33 rfl (by first | rfl | exact bI_nar _ | decide) ⟨Nat.zero_le _, Nat.zero_le _⟩ ?_
    exact pu (by
      unfold inN
      first
        | (rw [decide_eq_true (show p < n by omega), decide_eq_true (show lo ≤ B p by omega), decide_eq_true (show B p ≤ hi by omega)]; rfl)
        | (rw [decide_eq_false (show ¬ p < n by omega)]; rfl)
        | (rw [decide_eq_true (show p < n by omega), decide_eq_false (show ¬ lo ≤ B p by omega)]; rfl)
        | (rw [decide_eq_true (show p < n by omega), decide_eq_true (show lo ≤ B p by omega), decide_eq_false (show ¬ B p ≤ hi by omega)]; rfl))
  · refine A_aload_n0 d_To_isWithin_8 ?_
    refine A_getf (kf := 0) d_To_isWithin_9 M.o ok_5 (by decide) q_246 rfl ?_
    refine A_iload_n1 d_To_isWithin_12 ?_
    refine A_ialdN d_To_isWithin_13 ((M.2.2 _ hzt).trans hf) ⟨by omega, by decide⟩ ?_
    refine A_topI (hfB (p) (by omega)) ?_
    have hb := hB2 (p)
    refine A_iload_n2 d_To_isWithin_14 ?_
    first | refine A_icmp_ltN (tgt := 32) d_To_isWithin_15 (by decide) (by with_reducible rfl) (by with_reducible rfl) (by omega) (by omega) (fun c_15 => ?_) (fun c_15 => ?_) | refine A_icmp_lt (tgt := 32) d_To_isWithin_15 (by decide) (fun c_15 => ?_) (fun c_15 => ?_)
    · refine A_iconst (v := nI 0) d_To_isWithin_32 (by decide) ?_
      refine A_zret d_To_isWithin_33 rfl (by first | rfl | exact bI_nar _ | decide) ⟨Nat.zero_le _, Nat.zero_le _⟩ ?_
      exact pu (by
        unfold inN
        first
          | (rw [decide_eq_true (show p < n by omega), decide_eq_true (show lo ≤ B p by omega), decide_eq_true (show B p ≤ hi by omega)]; rfl)
          | (rw [decide_eq_false (show ¬ p < n by omega)]; rfl)
          | (rw [decide_eq_true (show p < n by omega), decide_eq_false (show ¬ lo ≤ B p by omega)]; rfl)
          | (rw [decide_eq_true (show p < n by omega), decide_eq_true (show lo ≤ B p by omega), decide_eq_false (show ¬ B p ≤ hi by omega)]; rfl))
    · refine A_aload_n0 d_To_isWithin_18 ?_
      refine A_getf (kf := 0) d_To_isWithin_19 M.o ok_5 (by decide) q_246 rfl ?_
      refine A_iload_n1 d_To_isWithin_22 ?_
      refine A_ialdN d_To_isWithin_23 ((M.2.2 _ hzt).trans hf) ⟨by omega, by decide⟩ ?_
      refine A_topI (hfB (p) (by omega)) ?_
      have hb := hB2 (p)
      refine A_iload_n3 d_To_isWithin_24 ?_
      first | refine A_icmp_gtN (tgt := 32) d_To_isWithin_25 (by decide) (by with_reducible rfl) (by with_reducible rfl) (by omega) (by omega) (fun c_25 => ?_) (fun c_25 => ?_) | refine A_icmp_gt (tgt := 32) d_To_isWithin_25 (by decide) (fun c_25 => ?_) (fun c_25 => ?_)
      · refine A_iconst (v := nI 0) d_To_isWithin_32 (by decide) ?_
        refine A_zret d_To_isWithin_33 rfl (by first | rfl | exact bI_nar _ | decide) ⟨Nat.zero_le _, Nat.zero_le _⟩ ?_
        exact pu (by
          unfold inN
          first
            | (rw [decide_eq_true (show p < n by omega), decide_eq_true (show lo ≤ B p by omega), decide_eq_true (show B p ≤ hi by omega)]; rfl)
            | (rw [decide_eq_false (show ¬ p < n by omega)]; rfl)
            | (rw [decide_eq_true (show p < n by omega), decide_eq_false (show ¬ lo ≤ B p by omega)]; rfl)
            | (rw [decide_eq_true (show p < n by omega), decide_eq_true (show lo ≤ B p by omega), decide_eq_false (show ¬ B p ≤ hi by omega)]; rfl))
      · refine A_iconst (v := nI 1) d_To_isWithin_28 (by decide) ?_
        refine A_goto (tgt := 33) d_To_isWithin_29 (by decide) ?_
        refine A_zret d_To_isWithin_33 rfl (by first | rfl | exact bI_nar _ | decide) ⟨Nat.zero_le _, Nat.zero_le _⟩ ?_
        exact pu (by
          unfold inN
          first
            | (rw [decide_eq_true (show p < n by omega), decide_eq_true (show lo ≤ B p by omega), decide_eq_true (show B p ≤ hi by omega)]; rfl)
            | (rw [decide_eq_false (show ¬ p < n by omega)]; rfl)
            | (rw [decide_eq_true (show p < n by omega), decide_eq_false (show ¬ lo ≤ B p by omega)]; rfl)
            | (rw [decide_eq_true (show p < n by omega), decide_eq_true (show lo ≤ B p by omega), decide_eq_false (show ¬ B p ≤ hi by omega)]; rfl))
theorem rn_s {lo hi : Nat} {B : Nat → Nat} {n p : Nat} (h : p < n) : rnN lo hi B n p = if inN lo hi (B p) = true then rnN lo hi B n (p + 1) else p := by
  unfold rnN
  rw [firstU_step _ _ _ h]
  cases inN lo hi (B p) <;> rfl
theorem rn_e {lo hi : Nat} {B : Nat → Nat} {n : Nat} : rnN lo hi B n n = n := firstU_end _ _ _ _
theorem sk_s {B : Nat → Nat} {n p : Nat} (h : p < n) : skN B n p = if blkB (B p) = true then skN B n (p + 1) else p := by
  unfold skN
  rw [firstU_step _ _ _ h]
  cases blkB (B p) <;> rfl
theorem sk_e {B : Nat → Nat} {n : Nat} : skN B n n = n := firstU_end _ _ _ _
theorem fup_get {E : Nat → Int32} {k j : Nat} {x : Int32} (h : j ≠ k) : fup E k x j = E j := fup_ne _ _ h
set_option maxHeartbeats 4000000 in
set_option maxRecDepth 100000 in
theorem c_To_pass {G : GE} {h : AH} {z tp : Nat} {E : Nat → Int32} (hz : 1000 ≤ z) (hoz : h z = some (.inr (5, tkfs tp E))) {B : Nat → Nat} (hB : TPB h tp B) (hzt : tp ≠ z) {n : Nat} (hn : n ≤ 600) (hE1 : E 1 = nI n) {p0 : Nat} (hp0 : p0 ≤ n) (hE3 : E 3 = nI p0) (lo up : Nat) (hlo : lo < 2 ^ 31) (hup : up < 2 ^ 31)  : Ctr G y_To_pass b_To_pass 3 none r_To_pass [.ref z, .int (nI lo), .int (nI up)] h (fun v h1 => v = none ∧ ∃ E1, TKW h h1 z tp E1 ∧ (∀ j, j ≠ 3 → E1 j = E j) ∧ E1 3 = nI (rnN lo up B n p0)) := by
  refine Ctr.of (by decide +kernel) (by simp) (Nat.le_of_ble_eq_true rfl) (L0 := [some (.ref z), some (.int (nI lo)), some (.int (nI up))]) rfl ?_
  obtain ⟨⟨f, hf, hfB⟩, hB2⟩ := hB
  have M := TKW.start hz hoz
  have key : ∀ i, i ≤ n → p0 ≤ i → ∀ h' E1, TKW h h' z tp E1 → (∀ j, j ≠ 3 → E1 j = E j) → E1 3 = nI i → rnN lo up B n i = rnN lo up B n p0 → WA G y_To_pass b_To_pass 3 none r_To_pass 0 0 (fun v h1 => v = none ∧ ∃ E1, TKW h h1 z tp E1 ∧ (∀ j, j ≠ 3 → E1 j = E j) ∧ E1 3 = nI (rnN lo up B n p0)) 0 0 0 [some (.ref z), some (.int (nI lo)), some (.int (nI up))] [] h' := by
    refine down ?_ (fun i hi ih => ?_)
    · intro hpi h' E1 M hEj hE3 hpr
      refine A_aload_n0 d_To_pass_0 ?_
      refine A_getf (kf := 3) d_To_pass_1 M.o ok_5 (by decide) q_250 rfl ?_
      refine A_topI hE3 ?_
      refine A_aload_n0 d_To_pass_4 ?_
      refine A_getf (kf := 1) d_To_pass_5 M.o ok_5 (by decide) q_247 rfl ?_
      refine A_topI ((hEj 1 (by decide)).trans hE1) ?_
      first | refine A_icmp_geN (tgt := 37) d_To_pass_8 (by decide) (by with_reducible rfl) (by with_reducible rfl) (by omega) (by omega) (fun c_8 => ?_) (fun c_8 => ?_) | refine A_icmp_ge (tgt := 37) d_To_pass_8 (by decide) (fun c_8 => ?_) (fun c_8 => ?_)
      · refine A_vret d_To_pass_37 rfl ⟨Nat.zero_le _, Nat.zero_le _⟩ ?_
        exact ⟨rfl, E1, M, hEj, by rw [hE3, ← hpr, rn_e]⟩
      · exact absurd c_8 (by omega)
    · intro hpi h' E1 M hEj hE3 hpr
      refine A_aload_n0 d_To_pass_0 ?_
      refine A_getf (kf := 3) d_To_pass_1 M.o ok_5 (by decide) q_250 rfl ?_
      refine A_topI hE3 ?_
      refine A_aload_n0 d_To_pass_4 ?_
      refine A_getf (kf := 1) d_To_pass_5 M.o ok_5 (by decide) q_247 rfl ?_
      refine A_topI ((hEj 1 (by decide)).trans hE1) ?_
      first | refine A_icmp_geN (tgt := 37) d_To_pass_8 (by decide) (by with_reducible rfl) (by with_reducible rfl) (by omega) (by omega) (fun c_8 => ?_) (fun c_8 => ?_) | refine A_icmp_ge (tgt := 37) d_To_pass_8 (by decide) (fun c_8 => ?_) (fun c_8 => ?_)
      · refine A_vret d_To_pass_37 rfl ⟨Nat.zero_le _, Nat.zero_le _⟩ ?_
        first
          | (exfalso; omega)
          | (have hin : inN lo up (B i) = false := by
               rw [decide_eq_true (show i < n by omega), Bool.true_and] at c_21
               exact c_21
             rw [rn_s (by omega), hin, if_neg (by decide)] at hpr
             exact ⟨rfl, E1, M, hEj, by rw [hE3, hpr]⟩)
      · refine A_aload_n0 d_To_pass_11 ?_
        refine A_aload_n0 d_To_pass_12 ?_
        refine A_getf (kf := 3) d_To_pass_13 M.o ok_5 (by decide) q_250 rfl ?_
        refine A_topI hE3 ?_
        refine A_iload_n1 d_To_pass_16 ?_
        refine A_iload_n2 d_To_pass_17 ?_
        refine A_callVP d_To_pass_18 (c_To_isWithin M.1 M.o ⟨⟨f, (M.2.2 _ hzt).trans hf, hfB⟩, hB2⟩ hzt hn ((hEj 1 (by decide)).trans hE1) (i) lo up (by omega) (by omega) (by omega)) M.o rfl q_444 q_445 q_446 mk_To_isWithin rfl (by decide) rfl (Nat.le_of_ble_eq_true rfl) ⟨Nat.le_of_ble_eq_true rfl, Nat.le_of_ble_eq_true rfl⟩ ⟨rfl, rfl⟩ ?_
        refine A_if_eqB (tgt := 37) d_To_pass_21 (by decide) (fun c_21 => ?_) (fun c_21 => ?_)
        · refine A_vret d_To_pass_37 rfl ⟨Nat.zero_le _, Nat.zero_le _⟩ ?_
          first
            | (exfalso; omega)
            | (have hin : inN lo up (B i) = false := by
                 rw [decide_eq_true (show i < n by omega), Bool.true_and] at c_21
                 exact c_21
               rw [rn_s (by omega), hin, if_neg (by decide)] at hpr
               exact ⟨rfl, E1, M, hEj, by rw [hE3, hpr]⟩)
        · refine A_aload_n0 d_To_pass_24 ?_
          first | refine A_dupR d_To_pass_25 ?_ | refine A_dupI d_To_pass_25 ?_
          refine A_getf (kf := 3) d_To_pass_26 M.o ok_5 (by decide) q_250 rfl ?_
          refine A_topI hE3 ?_
          refine A_iconst (v := nI 1) d_To_pass_29 (by decide) ?_
          first | refine A_iaddN d_To_pass_30 (by with_reducible rfl) (by with_reducible rfl) ?_ | refine A_iadd d_To_pass_30 ?_
          refine A_tkInt (kf := 3) d_To_pass_31 (by decide) q_250 (Or.inl rfl) (by decide +kernel) M rfl (fun h' M' => ?_)
          replace M := M'
          clear M'
          refine A_goto (tgt := 0) d_To_pass_34 (by decide) ?_
          have hin : inN lo up (B i) = true := by
            rw [decide_eq_true (show i < n by omega), Bool.true_and] at c_21
            exact c_21
          rw [rn_s (by omega), hin, if_pos rfl] at hpr
          exact ih (by omega) _ _ M (fun j hj => (fup_get hj).trans (hEj j hj)) (fup_eq _ _ _) hpr
  exact key p0 hp0 (Nat.le_refl _) _ _ M (fun _ _ => rfl) hE3 rfl
