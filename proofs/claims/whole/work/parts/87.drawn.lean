def stpQ (V : Nat → Nat) (q : Int32 × Nat × Nat × Nat) : Int32 × Nat × Nat × Nat := if 0 < V 5 then (nxt q.1, q.2.1 + bN (downB V (nxt q.1) q.2.2.2), q.2.2.1 + 1, (q.2.2.2 + 1) % V 5) else (q.1, q.2.1, q.2.2.1 + 1, q.2.2.2)
def itQ (V : Nat → Nat) (q : Int32 × Nat × Nat × Nat) : Nat → Int32 × Nat × Nat × Nat := foldN (fun _ q => stpQ V q) q
theorem itQ_s (V : Nat → Nat) (q : Int32 × Nat × Nat × Nat) (n : Nat) : itQ V q (n + 1) = stpQ V (itQ V q n) := rfl
theorem itQ_add (V : Nat → Nat) (q : Int32 × Nat × Nat × Nat) (a : Nat) : ∀ b, itQ V q (a + b) = itQ V (itQ V q a) b
  | 0 => rfl
  | b + 1 => by rw [← Nat.add_assoc, itQ_s, itQ_s, itQ_add V q a b]
theorem dayF_1 (V w : Nat → Nat) (h : Nat) (d : DS) : (dayF V w h d).1 = if comesB w (V 0) h = true then stpQ V d.1 else d.1 := by
  unfold dayF stpQ
  split
  · split <;> rfl
  · rfl
theorem dayD_it (V w : Nat → Nat) (q : Int32 × Nat × Nat × Nat) : ∀ n, (dayD V w q n).1 = itQ V q (sumN (fun h => if comesB w (V 0) h = true then 1 else 0) n)
  | 0 => rfl
  | n + 1 => by
    rw [dayD_succ, dayF_1, dayD_it V w q n, sumN_s]
    by_cases hc : comesB w (V 0) n = true
    · rw [if_pos hc, if_pos hc, itQ_s]
    · rw [if_neg hc, if_neg hc, Nat.add_zero]
theorem yearQ_it (V w : Nat → Nat) (x : Int32) : ∀ d, yearQ V w x d = itQ V (x, 0, 0, 0) (d * carryN w (V 0))
  | 0 => by rw [Nat.zero_mul]; rfl
  | d + 1 => by
    show (dayD V w (yearQ V w x d) (V 0)).1 = _
    rw [dayD_it, yearQ_it V w x d, ← itQ_add, Nat.succ_mul]
    rfl
theorem itQ_n (V : Nat → Nat) (q : Int32 × Nat × Nat × Nat) : ∀ n, (itQ V q n).2.2.1 = q.2.2.1 + n
  | 0 => rfl
  | n + 1 => by
    have ih := itQ_n V q n
    rw [itQ_s]
    unfold stpQ
    split
    · show (itQ V q n).2.2.1 + 1 = _; omega
    · show (itQ V q n).2.2.1 + 1 = _; omega
theorem itQ_turn (V : Nat → Nat) (q : Int32 × Nat × Nat × Nat) (hq : 0 < V 5 → q.2.2.2 < V 5) : ∀ n, 0 < V 5 → (itQ V q n).2.2.2 < V 5
  | 0 => hq
  | n + 1 => fun h => by
    rw [itQ_s]
    unfold stpQ
    rw [if_pos h]
    exact Nat.mod_lt _ h
/-- seed and turn of the class beside the reference's -/
def CQ (V : Nat → Nat) (x : Int32) (b : Nat) (q : Int32 × Nat × Nat × Nat) : Prop := (0 < V 5 → x = q.1 ∧ b = q.2.2.2 ∧ b < V 5) ∧ (V 5 = 0 → b = 0)
def pdB (V : Nat → Nat) (b : Nat) (y : Int32) : Bool := decide (b < V 5) && downB V y b
theorem CQ.step {V : Nat → Nat} {x y : Int32} {b : Nat} {q : Int32 × Nat × Nat × Nat} (k : CQ V x b q) (hy : y = nxt x) : CQ V y (if b + 1 < V 5 then b + 1 else 0) (stpQ V q) ∧ (stpQ V q).2.1 = q.2.1 + (if pdB V b y = true then 1 else 0) ∧ (pdB V b y = true ↔ (0 < V 5 ∧ downB V (nxt q.1) q.2.2.2 = true)) := by
  unfold stpQ pdB
  by_cases h : 0 < V 5
  · obtain ⟨rfl, rfl, hb⟩ := k.1 h
    subst hy
    rw [if_pos h, decide_eq_true hb, Bool.true_and]
    refine ⟨⟨fun _ => ⟨rfl, ?_, ?_⟩, fun e => absurd h (by omega)⟩, ?_, ?_⟩
    · show (if q.2.2.2 + 1 < V 5 then q.2.2.2 + 1 else 0) = (q.2.2.2 + 1) % V 5
      by_cases z : q.2.2.2 + 1 < V 5
      · rw [if_pos z, Nat.mod_eq_of_lt z]
      · rw [if_neg z, show q.2.2.2 + 1 = V 5 by omega, Nat.mod_self]
    · split <;> omega
    · show q.2.1 + bN (downB V (nxt q.1) q.2.2.2) = _
      unfold bN
      rfl
    · exact ⟨fun z => ⟨h, z⟩, fun z => z.2⟩
  · rw [if_neg h, decide_eq_false (p := b < V 5) (by omega), Bool.false_and]
    refine ⟨⟨fun z => absurd z h, fun _ => ?_⟩, ?_, ?_⟩
    · rw [if_neg (by omega)]
    · rw [if_neg (by decide)]; rfl
    · exact ⟨fun z => Bool.noConfusion z, fun z => absurd z.1 h⟩
theorem CQ.le {V : Nat → Nat} {x : Int32} {b : Nat} {q : Int32 × Nat × Nat × Nat} (k : CQ V x b q) : b ≤ V 5 := by
  rcases Nat.eq_zero_or_pos (V 5) with h | h
  · rw [k.2 h]; exact Nat.zero_le _
  · exact Nat.le_of_lt (k.1 h).2.2
theorem CQ.start (V : Nat → Nat) (x : Int32) : CQ V x 0 (x, 0, 0, 0) := ⟨fun h => ⟨rfl, rfl, h⟩, fun _ => rfl⟩
set_option maxHeartbeats 4000000 in
set_option maxRecDepth 100000 in
theorem c_N_draw {G : GE} (h : AH) (x : Int32) : Ctr G y_N_draw b_N_draw 1 (some .int) r_N_draw [.int x] h (Pu (.int (nxt x)) h) := by
  refine Ctr.of (by decide +kernel) (by simp) (Nat.le_of_ble_eq_true rfl) (L0 := [some (.int x)]) rfl ?_
  refine A_iload_n0 d_N_draw_0 ?_
  refine A_ldcw d_N_draw_1 q_1034 ?_
  first | refine A_imulN d_N_draw_4 (by with_reducible rfl) (by with_reducible rfl) ?_ | refine A_imul d_N_draw_4 ?_
  refine A_sipush (v := nI 12345) d_N_draw_5 (by decide) ?_
  first | refine A_iaddN d_N_draw_8 (by with_reducible rfl) (by with_reducible rfl) ?_ | refine A_iadd d_N_draw_8 ?_
  refine A_iret d_N_draw_9 rfl ⟨Nat.zero_le _, Nat.zero_le _⟩ ?_
  exact pu rfl
set_option maxHeartbeats 4000000 in
set_option maxRecDepth 100000 in
theorem c_N_putsDown {G : GE} {h : AH} {a : Nat} {D : LD} (hA : LAt h a D) {V : Nat → Nat} (hV : LVr D V) (b : Nat) (hb : b < 2 ^ 31) (y0 : Int32) : Ctr G y_N_putsDown b_N_putsDown 3 (some .boolean) r_N_putsDown [.ref a, .int (nI b), .int y0] h (Pu (.int (bI (pdB V b y0))) h) := by
  have hV0 := hV
  obtain ⟨ok, ⟨f0, f1, f2, f3, f4, f9⟩, hP, hBe, hTo⟩ := hV
  have hH := ok.1
  have h5 := ok.2.2.2.2.2.1
  refine Ctr.of (by decide +kernel) (by simp) (Nat.le_of_ble_eq_true rfl) (L0 := [some (.ref a), some (.int (nI b)), some (.int y0)]) rfl ?_
  refine A_iload_n1 d_N_putsDown_0 ?_
  refine A_aload_n0 d_N_putsDown_1 ?_
  refine A_getf (kf := 9) d_N_putsDown_2 hA.o ok_1 (by decide) q_78 rfl ?_
  refine A_topI f9 ?_
  first | refine A_icmp_geN (tgt := 28) d_N_putsDown_5 (by decide) (by with_reducible rfl) (by with_reducible rfl) (by omega) (by omega) (fun c_5 => ?_) (fun c_5 => ?_) | refine A_icmp_ge (tgt := 28) d_N_putsDown_5 (by decide) (fun c_5 => ?_) (fun c_5 => ?_)
  · refine A_iconst (v := nI 0) d_N_putsDown_28 (by decide) ?_
    refine A_zret d_N_putsDown_29 rfl (by first | rfl | exact bI_nar _ | decide) ⟨Nat.zero_le _, Nat.zero_le _⟩ ?_
    exact pu (by
      unfold pdB downB
      first
        | (rw [decide_eq_true (show b < V 5 by omega), decide_eq_false c_21]; rfl)
        | (rw [decide_eq_true (show b < V 5 by omega), decide_eq_false (Int32.not_le.mpr c_21)]; rfl)
        | (rw [decide_eq_true (show b < V 5 by omega), decide_eq_true c_21]; rfl)
        | (rw [decide_eq_true (show b < V 5 by omega), decide_eq_true (Int32.not_lt.mp c_21)]; rfl)
        | (rw [decide_eq_false (show ¬ b < V 5 by omega)]; rfl))
  · refine A_iload_n2 d_N_putsDown_8 ?_
    refine A_bipush (v := nI 16) d_N_putsDown_9 (by decide) ?_
    refine A_iushr d_N_putsDown_11 ?_
    refine A_bipush (v := nI 10) d_N_putsDown_12 (by decide) ?_
    refine A_irem d_N_putsDown_14 (by decide) ?_
    refine A_topI (show _ = drw y0 from rfl) ?_
    refine A_aload_n0 d_N_putsDown_15 ?_
    refine A_getf (kf := 11) d_N_putsDown_16 hA.o ok_1 (by decide) q_84 rfl ?_
    refine A_iload_n1 d_N_putsDown_19 ?_
    refine A_ialdN d_N_putsDown_20 hA.a11 ⟨by omega, by decide⟩ ?_
    refine A_topI (hBe b (by omega)).2 ?_
    first | refine A_icmp_geN (tgt := 28) d_N_putsDown_21 (by decide) (by with_reducible rfl) (by with_reducible rfl) (by omega) (by omega) (fun c_21 => ?_) (fun c_21 => ?_) | refine A_icmp_ge (tgt := 28) d_N_putsDown_21 (by decide) (fun c_21 => ?_) (fun c_21 => ?_)
    · refine A_iconst (v := nI 0) d_N_putsDown_28 (by decide) ?_
      refine A_zret d_N_putsDown_29 rfl (by first | rfl | exact bI_nar _ | decide) ⟨Nat.zero_le _, Nat.zero_le _⟩ ?_
      exact pu (by
        unfold pdB downB
        first
          | (rw [decide_eq_true (show b < V 5 by omega), decide_eq_false c_21]; rfl)
          | (rw [decide_eq_true (show b < V 5 by omega), decide_eq_false (Int32.not_le.mpr c_21)]; rfl)
          | (rw [decide_eq_true (show b < V 5 by omega), decide_eq_true c_21]; rfl)
          | (rw [decide_eq_true (show b < V 5 by omega), decide_eq_true (Int32.not_lt.mp c_21)]; rfl)
          | (rw [decide_eq_false (show ¬ b < V 5 by omega)]; rfl))
    · refine A_iconst (v := nI 1) d_N_putsDown_24 (by decide) ?_
      refine A_goto (tgt := 29) d_N_putsDown_25 (by decide) ?_
      refine A_zret d_N_putsDown_29 rfl (by first | rfl | exact bI_nar _ | decide) ⟨Nat.zero_le _, Nat.zero_le _⟩ ?_
      exact pu (by
        unfold pdB downB
        first
          | (rw [decide_eq_true (show b < V 5 by omega), decide_eq_false c_21]; rfl)
          | (rw [decide_eq_true (show b < V 5 by omega), decide_eq_false (Int32.not_le.mpr c_21)]; rfl)
          | (rw [decide_eq_true (show b < V 5 by omega), decide_eq_true c_21]; rfl)
          | (rw [decide_eq_true (show b < V 5 by omega), decide_eq_true (Int32.not_lt.mp c_21)]; rfl)
          | (rw [decide_eq_false (show ¬ b < V 5 by omega)]; rfl))
