theorem A_heq {G : GE} {y : MethodName} {cc : ByteArray} {nL : Nat} {ret : Option FieldType} {R : Room} {mc ms : Nat} {K : Option Value → AH → Prop} {u n pc : Nat} {L : List (Option Value)} {st : List Value} {h h' : AH} (e : h = h') (k : WA G y cc nL ret R mc ms K u n pc L st h') : WA G y cc nL ret R mc ms K u n pc L st h := e ▸ k
def filF {α : Type} (f : Nat → α) (x : α) (a i : Nat) : Nat → α := fun j => if a ≤ j ∧ j < i then x else f j
theorem filF_0 {α : Type} (f : Nat → α) (x : α) (a : Nat) : filF f x a a = f := funext fun j => by rw [filF, if_neg (by omega)]
theorem filF_s {α : Type} (f : Nat → α) (x : α) (a i : Nat) (h : a ≤ i) : fup (filF f x a i) i x = filF f x a (i + 1) := funext fun j => by
  unfold fup filF
  by_cases e : j = i
  · subst e; rw [if_pos rfl, if_pos (by omega)]
  · rw [if_neg e]
    by_cases z : a ≤ j ∧ j < i
    · rw [if_pos z, if_pos (by omega)]
    · rw [if_neg z, if_neg (by omega)]
theorem A_lxor {G : GE} {y : MethodName} {cc : ByteArray} {nL : Nat} {ret : Option FieldType} {R : Room} {mc ms : Nat} {K : Option Value → AH → Prop} {u n pc : Nat} {L : List (Option Value)} {st : List Value} {h : AH} {x z : Int64} (d : decode cc pc = .ok (.lxor, 1)) (k : WA G y cc nL ret R mc ms K u n (pc + 1) L (.long (x ^^^ z) :: st) h) : WA G y cc nL ret R mc ms K u n pc L (.long z :: .long x :: st) h :=
  fun l p e s m args below meth c H locs ls a r hl hf => lv_lxor a.1 a.2.1 d (k l p e s m args below meth c H locs ls a r hl hf)
theorem hset_self {h : AH} {q : Nat} {e : va_E} (hq : h q = some e) : hset h q e = h := funext fun i => by
  by_cases k : i = q
  · subst k; rw [hset_eq, hq]
  · rw [hset_ne k]
set_option maxHeartbeats 4000000 in
set_option maxRecDepth 100000 in
theorem c_JA_rangeCheck {G : GE} (h : AH) (a b n : Nat) (hab : a ≤ b ∧ b ≤ n) (hn : n < 2 ^ 31) : Ctr G y_JA_rangeCheck b_JA_rangeCheck 3 none r_JA_rangeCheck [.int (nI n), .int (nI a), .int (nI b)] h (fun v h1 => v = none ∧ h1 = h) := by
  refine Ctr.ofF (by decide +kernel) (by simp) (Nat.le_of_ble_eq_true rfl) (L0 := [some (.int (nI n)), some (.int (nI a)), some (.int (nI b))]) rfl ?_
  refine A_iload_n1 d_JA_rangeCheck_0 ?_
  refine A_iload_n2 d_JA_rangeCheck_1 ?_
  first | refine A_icmp_leN (tgt := 46) d_JA_rangeCheck_2 (by decide) (by with_reducible rfl) (by with_reducible rfl) (by omega) (by omega) (fun c_2 => ?_) (fun c_2 => ?_) | refine A_icmp_le (tgt := 46) d_JA_rangeCheck_2 (by decide) (fun c_2 => ?_) (fun c_2 => ?_)
  · refine A_iload_n1 d_JA_rangeCheck_46 ?_
    refine A_if_ge (tgt := 59) d_JA_rangeCheck_47 (by decide) (fun c_47 => ?_) (fun c_47 => ?_)
    · refine A_iload_n2 d_JA_rangeCheck_59 ?_
      refine A_iload_n0 d_JA_rangeCheck_60 ?_
      first | refine A_icmp_leN (tgt := 73) d_JA_rangeCheck_61 (by decide) (by with_reducible rfl) (by with_reducible rfl) (by omega) (by omega) (fun c_61 => ?_) (fun c_61 => ?_) | refine A_icmp_le (tgt := 73) d_JA_rangeCheck_61 (by decide) (fun c_61 => ?_) (fun c_61 => ?_)
      · refine A_vret d_JA_rangeCheck_73 rfl ⟨Nat.zero_le _, Nat.zero_le _⟩ ?_
        exact ⟨rfl, rfl⟩
      · exact absurd hab.2 (by omega)
    · exact absurd (Int32.not_lt.mp (nI_pos (show a < 2 ^ 31 by omega))) c_47
  · exact absurd hab.1 (by omega)
set_option maxHeartbeats 4000000 in
set_option maxRecDepth 100000 in
theorem c_JA_fill_0 {G : GE} {h : AH} {w n : Nat} {f : Nat → Int32} (hw : h w = some (.inl (0, n, .inl f))) (hge : 1000 ≤ w) (hn : n < 2 ^ 31) (x : Int32) : Ctr G y_JA_fill_0 b_JA_fill_0 4 none r_JA_fill_0 [.ref w, .int x] h (fun v h1 => v = none ∧ h1 = hset h w (.inl (0, n, .inl (filF f x 0 n)))) := by
  have key : ∀ i, i ≤ n → 0 ≤ i → WA G y_JA_fill_0 b_JA_fill_0 4 none r_JA_fill_0 r_JA_fill_0.cells r_JA_fill_0.slots (fun v h1 => v = none ∧ h1 = hset h w (.inl (0, n, .inl (filF f x 0 n)))) 0 0 5 [some (.ref w), some (.int x), some (.int (nI i)), some (.int (nI n))] [] (hset h w (.inl (0, n, .inl (filF f x 0 i)))) := by
    refine down ?_ (fun i hi ih => ?_)
    · intro hlo
      refine A_iload_n2 d_JA_fill_0_5 ?_
      refine A_iload_n3 d_JA_fill_0_6 ?_
      first | refine A_icmp_geN (tgt := 20) d_JA_fill_0_7 (by decide) (by with_reducible rfl) (by with_reducible rfl) (by omega) (by omega) (fun c_7 => ?_) (fun c_7 => ?_) | refine A_icmp_ge (tgt := 20) d_JA_fill_0_7 (by decide) (fun c_7 => ?_) (fun c_7 => ?_)
      · refine A_vret d_JA_fill_0_20 rfl ⟨Nat.zero_le _, Nat.zero_le _⟩ ?_
        exact ⟨rfl, rfl⟩
      · exact absurd c_7 (by omega)
    · intro hlo
      refine A_iload_n2 d_JA_fill_0_5 ?_
      refine A_iload_n3 d_JA_fill_0_6 ?_
      first | refine A_icmp_geN (tgt := 20) d_JA_fill_0_7 (by decide) (by with_reducible rfl) (by with_reducible rfl) (by omega) (by omega) (fun c_7 => ?_) (fun c_7 => ?_) | refine A_icmp_ge (tgt := 20) d_JA_fill_0_7 (by decide) (fun c_7 => ?_) (fun c_7 => ?_)
      · exact absurd c_7 (by omega)
      · refine A_aload_n0 d_JA_fill_0_10 ?_
        refine A_iload_n2 d_JA_fill_0_11 ?_
        refine A_iload_n1 d_JA_fill_0_12 ?_
        refine A_iastN d_JA_fill_0_13 (hset_eq _ _ _) ⟨by omega, by omega⟩ hge ?_
        refine A_heq ((hset_hset _ _ _ _).trans (congrArg (fun g => hset h w (.inl (0, n, .inl g))) (filF_s f x 0 i (by omega)))) ?_
        first | refine A_iinc2 d_JA_fill_0_14 (nI_1 _) trivial ?_ | refine A_iinc2 d_JA_fill_0_14 rfl trivial ?_
        refine A_goto (tgt := 5) d_JA_fill_0_17 (by decide) ?_
        exact ih (by omega)
  refine Ctr.ofF (by decide +kernel) (by simp) (Nat.le_of_ble_eq_true rfl) (L0 := [some (.ref w), some (.int x), none, none]) rfl ?_
  refine A_iconst (v := nI 0) d_JA_fill_0_0 (by decide) ?_
  refine A_istore2 d_JA_fill_0_1 trivial ?_
  refine A_aload_n0 d_JA_fill_0_2 ?_
  refine A_alen (w := 0) d_JA_fill_0_3 hw rfl ?_
  refine A_istore3 d_JA_fill_0_4 trivial ?_
  have := key 0 (Nat.zero_le _) (Nat.le_refl _)
  rw [filF_0, hset_self hw] at this
  exact this
set_option maxHeartbeats 4000000 in
set_option maxRecDepth 100000 in
theorem c_JA_fill_1 {G : GE} {h : AH} {w n : Nat} {f : Nat → Int32} (hw : h w = some (.inl (0, n, .inl f))) (hge : 1000 ≤ w) (hn : n < 2 ^ 31) (a b : Nat) (hab : a ≤ b ∧ b ≤ n) (x : Int32) : Ctr G y_JA_fill_1 b_JA_fill_1 5 none r_JA_fill_1 [.ref w, .int (nI a), .int (nI b), .int x] h (fun v h1 => v = none ∧ h1 = hset h w (.inl (0, n, .inl (filF f x a b)))) := by
  have key : ∀ i, i ≤ b → a ≤ i → WA G y_JA_fill_1 b_JA_fill_1 5 none r_JA_fill_1 r_JA_fill_1.cells r_JA_fill_1.slots (fun v h1 => v = none ∧ h1 = hset h w (.inl (0, n, .inl (filF f x a b)))) 0 0 10 [some (.ref w), some (.int (nI a)), some (.int (nI b)), some (.int x), some (.int (nI i))] [] (hset h w (.inl (0, n, .inl (filF f x a i)))) := by
    refine down ?_ (fun i hi ih => ?_)
    · intro hlo
      refine A_iload4 d_JA_fill_1_10 ?_
      refine A_iload_n2 d_JA_fill_1_12 ?_
      first | refine A_icmp_geN (tgt := 27) d_JA_fill_1_13 (by decide) (by with_reducible rfl) (by with_reducible rfl) (by omega) (by omega) (fun c_13 => ?_) (fun c_13 => ?_) | refine A_icmp_ge (tgt := 27) d_JA_fill_1_13 (by decide) (fun c_13 => ?_) (fun c_13 => ?_)
      · refine A_vret d_JA_fill_1_27 rfl ⟨Nat.zero_le _, Nat.zero_le _⟩ ?_
        exact ⟨rfl, rfl⟩
      · exact absurd c_13 (by omega)
    · intro hlo
      refine A_iload4 d_JA_fill_1_10 ?_
      refine A_iload_n2 d_JA_fill_1_12 ?_
      first | refine A_icmp_geN (tgt := 27) d_JA_fill_1_13 (by decide) (by with_reducible rfl) (by with_reducible rfl) (by omega) (by omega) (fun c_13 => ?_) (fun c_13 => ?_) | refine A_icmp_ge (tgt := 27) d_JA_fill_1_13 (by decide) (fun c_13 => ?_) (fun c_13 => ?_)
      · exact absurd c_13 (by omega)
      · refine A_aload_n0 d_JA_fill_1_16 ?_
        refine A_iload4 d_JA_fill_1_17 ?_
        refine A_iload_n3 d_JA_fill_1_19 ?_
        refine A_iastN d_JA_fill_1_20 (hset_eq _ _ _) ⟨by omega, by omega⟩ hge ?_
        refine A_heq ((hset_hset _ _ _ _).trans (congrArg (fun g => hset h w (.inl (0, n, .inl g))) (filF_s f x a i (by omega)))) ?_
        first | refine A_iinc4 d_JA_fill_1_21 (nI_1 _) trivial ?_ | refine A_iinc4 d_JA_fill_1_21 rfl trivial ?_
        refine A_goto (tgt := 10) d_JA_fill_1_24 (by decide) ?_
        exact ih (by omega)
  refine Ctr.ofF (by decide +kernel) (by simp) (Nat.le_of_ble_eq_true rfl) (L0 := [some (.ref w), some (.int (nI a)), some (.int (nI b)), some (.int x), none]) rfl ?_
  refine A_aload_n0 d_JA_fill_1_0 ?_
  refine A_alen (w := 0) d_JA_fill_1_1 hw rfl ?_
  refine A_iload_n1 d_JA_fill_1_2 ?_
  refine A_iload_n2 d_JA_fill_1_3 ?_
  refine A_callS d_JA_fill_1_4 (c_JA_rangeCheck h a b n hab hn) q_576 q_577 mk_JA_rangeCheck rfl (by decide) rfl (Nat.le_of_ble_eq_true rfl) ⟨Nat.le_of_ble_eq_true rfl, Nat.le_of_ble_eq_true rfl⟩ ?_
  rintro _ h ⟨rfl, rfl⟩
  refine A_iload_n1 d_JA_fill_1_7 ?_
  refine A_istore4 d_JA_fill_1_8 trivial ?_
  have := key a hab.1 (Nat.le_refl _)
  rw [filF_0, hset_self hw] at this
  exact this
set_option maxHeartbeats 4000000 in
set_option maxRecDepth 100000 in
theorem c_JA_fill_2 {G : GE} {h : AH} {w n : Nat} {f : Nat → Int64} (hw : h w = some (.inl (1, n, .inr (.inl f)))) (hge : 1000 ≤ w) (hn : n < 2 ^ 31) (a b : Nat) (hab : a ≤ b ∧ b ≤ n) (x : Int64) : Ctr G y_JA_fill_2 b_JA_fill_2 6 none r_JA_fill_2 [.ref w, .int (nI a), .int (nI b), .long x] h (fun v h1 => v = none ∧ h1 = hset h w (.inl (1, n, .inr (.inl (filF f x a b))))) := by
  have key : ∀ i, i ≤ b → a ≤ i → WA G y_JA_fill_2 b_JA_fill_2 6 none r_JA_fill_2 r_JA_fill_2.cells r_JA_fill_2.slots (fun v h1 => v = none ∧ h1 = hset h w (.inl (1, n, .inr (.inl (filF f x a b))))) 0 0 10 [some (.ref w), some (.int (nI a)), some (.int (nI b)), some (.long x), none, some (.int (nI i))] [] (hset h w (.inl (1, n, .inr (.inl (filF f x a i))))) := by
    refine down ?_ (fun i hi ih => ?_)
    · intro hlo
      refine A_iload5 d_JA_fill_2_10 ?_
      refine A_iload_n2 d_JA_fill_2_12 ?_
      first | refine A_icmp_geN (tgt := 27) d_JA_fill_2_13 (by decide) (by with_reducible rfl) (by with_reducible rfl) (by omega) (by omega) (fun c_13 => ?_) (fun c_13 => ?_) | refine A_icmp_ge (tgt := 27) d_JA_fill_2_13 (by decide) (fun c_13 => ?_) (fun c_13 => ?_)
      · refine A_vret d_JA_fill_2_27 rfl ⟨Nat.zero_le _, Nat.zero_le _⟩ ?_
        exact ⟨rfl, rfl⟩
      · exact absurd c_13 (by omega)
    · intro hlo
      refine A_iload5 d_JA_fill_2_10 ?_
      refine A_iload_n2 d_JA_fill_2_12 ?_
      first | refine A_icmp_geN (tgt := 27) d_JA_fill_2_13 (by decide) (by with_reducible rfl) (by with_reducible rfl) (by omega) (by omega) (fun c_13 => ?_) (fun c_13 => ?_) | refine A_icmp_ge (tgt := 27) d_JA_fill_2_13 (by decide) (fun c_13 => ?_) (fun c_13 => ?_)
      · exact absurd c_13 (by omega)
      · refine A_aload_n0 d_JA_fill_2_16 ?_
        refine A_iload5 d_JA_fill_2_17 ?_
        refine A_lload_n3 d_JA_fill_2_19 ?_
        refine A_lastN d_JA_fill_2_20 (hset_eq _ _ _) ⟨by omega, by omega⟩ hge ?_
        refine A_heq ((hset_hset _ _ _ _).trans (congrArg (fun g => hset h w (.inl (1, n, .inr (.inl g)))) (filF_s f x a i (by omega)))) ?_
        first | refine A_iinc5 d_JA_fill_2_21 (nI_1 _) trivial ?_ | refine A_iinc5 d_JA_fill_2_21 rfl trivial ?_
        refine A_goto (tgt := 10) d_JA_fill_2_24 (by decide) ?_
        exact ih (by omega)
  refine Ctr.ofF (by decide +kernel) (by simp) (Nat.le_of_ble_eq_true rfl) (L0 := [some (.ref w), some (.int (nI a)), some (.int (nI b)), some (.long x), none, none]) rfl ?_
  refine A_aload_n0 d_JA_fill_2_0 ?_
  refine A_alen (w := 0) d_JA_fill_2_1 hw rfl ?_
  refine A_iload_n1 d_JA_fill_2_2 ?_
  refine A_iload_n2 d_JA_fill_2_3 ?_
  refine A_callS d_JA_fill_2_4 (c_JA_rangeCheck h a b n hab hn) q_576 q_577 mk_JA_rangeCheck rfl (by decide) rfl (Nat.le_of_ble_eq_true rfl) ⟨Nat.le_of_ble_eq_true rfl, Nat.le_of_ble_eq_true rfl⟩ ?_
  rintro _ h ⟨rfl, rfl⟩
  refine A_iload_n1 d_JA_fill_2_7 ?_
  refine A_istore5 d_JA_fill_2_8 trivial ?_
  have := key a hab.1 (Nat.le_refl _)
  rw [filF_0, hset_self hw] at this
  exact this
set_option maxHeartbeats 4000000 in
set_option maxRecDepth 100000 in
theorem c_JM_max_1 {G : GE} (a b : Int64) (h : AH) : Ctr G y_JM_max_1 b_JM_max_1 4 (some .long) r_JM_max_1 [.long a, .long b] h (Pu (.long (if a < b then b else a)) h) := by
  refine Ctr.ofF (by decide +kernel) (by simp) (Nat.le_of_ble_eq_true rfl) (L0 := [some (.long a), none, some (.long b), none]) rfl ?_
  refine A_lload_n0 d_JM_max_1_0 ?_
  refine A_lload_n2 d_JM_max_1_1 ?_
  refine A_lcmp d_JM_max_1_2 ?_
  refine A_if_lt (tgt := 10) d_JM_max_1_3 (by decide) (fun c_3 => ?_) (fun c_3 => ?_)
  · refine A_lload_n2 d_JM_max_1_10 ?_
    refine A_lret d_JM_max_1_11 rfl ⟨Nat.zero_le _, Nat.zero_le _⟩ ?_
    exact pu (by first | rw [if_pos ((lg_cmp_lt _ _).mp c_3)] | rw [if_neg (fun z => c_3 ((lg_cmp_lt _ _).mpr z))])
  · refine A_lload_n0 d_JM_max_1_6 ?_
    refine A_goto (tgt := 11) d_JM_max_1_7 (by decide) ?_
    refine A_lret d_JM_max_1_11 rfl ⟨Nat.zero_le _, Nat.zero_le _⟩ ?_
    exact pu (by first | rw [if_pos ((lg_cmp_lt _ _).mp c_3)] | rw [if_neg (fun z => c_3 ((lg_cmp_lt _ _).mpr z))])
set_option maxHeartbeats 4000000 in
set_option maxRecDepth 100000 in
theorem c_JM_floorDiv {G : GE} (a b : Int64) (h : AH) (hb : b ≠ 0) : Ctr G y_JM_floorDiv b_JM_floorDiv 6 (some .long) r_JM_floorDiv [.long a, .long b] h (Pu (.long (if (a ^^^ b) < 0 ∧ (a / b) * b ≠ a then a / b - 1 else a / b)) h) := by
  refine Ctr.ofF (by decide +kernel) (by simp) (Nat.le_of_ble_eq_true rfl) (L0 := [some (.long a), none, some (.long b), none, none, none]) rfl ?_
  refine A_lload_n0 d_JM_floorDiv_0 ?_
  refine A_lload_n2 d_JM_floorDiv_1 ?_
  refine A_ldiv d_JM_floorDiv_2 hb ?_
  refine A_lstore4 d_JM_floorDiv_3 trivial ?_
  refine A_lload_n0 d_JM_floorDiv_5 ?_
  refine A_lload_n2 d_JM_floorDiv_6 ?_
  refine A_lxor d_JM_floorDiv_7 ?_
  refine A_lconst (v := 0) d_JM_floorDiv_8 (by decide) ?_
  refine A_lcmp d_JM_floorDiv_9 ?_
  refine A_if_ge (tgt := 27) d_JM_floorDiv_10 (by decide) (fun c_10 => ?_) (fun c_10 => ?_)
  · refine A_lload4 d_JM_floorDiv_27 ?_
    refine A_lret d_JM_floorDiv_29 rfl ⟨Nat.zero_le _, Nat.zero_le _⟩ ?_
    exact pu (by
      first
        | (rw [if_neg (fun z => absurd z.1 (Int64.not_lt.mpr ((lg_cmp_ge _ _).mp c_10)))]; done)
        | (rw [if_neg (fun z => z.2 ((lg_cmp_eq _ _).mp c_19))]; done)
        | (rw [if_pos ⟨Int64.not_le.mp (fun z => c_10 ((lg_cmp_ge _ _).mpr z)), fun z => c_19 ((lg_cmp_eq _ _).mpr z)⟩]; done))
  · refine A_lload4 d_JM_floorDiv_13 ?_
    refine A_lload_n2 d_JM_floorDiv_15 ?_
    refine A_lmul d_JM_floorDiv_16 ?_
    refine A_lload_n0 d_JM_floorDiv_17 ?_
    refine A_lcmp d_JM_floorDiv_18 ?_
    first | refine A_if_eqN (tgt := 27) d_JM_floorDiv_19 (by decide) (by with_reducible rfl) (by omega) (fun c_19 => ?_) (fun c_19 => ?_) | refine A_if_eq (tgt := 27) d_JM_floorDiv_19 (by decide) (fun c_19 => ?_) (fun c_19 => ?_)
    · refine A_lload4 d_JM_floorDiv_27 ?_
      refine A_lret d_JM_floorDiv_29 rfl ⟨Nat.zero_le _, Nat.zero_le _⟩ ?_
      exact pu (by
        first
          | (rw [if_neg (fun z => absurd z.1 (Int64.not_lt.mpr ((lg_cmp_ge _ _).mp c_10)))]; done)
          | (rw [if_neg (fun z => z.2 ((lg_cmp_eq _ _).mp c_19))]; done)
          | (rw [if_pos ⟨Int64.not_le.mp (fun z => c_10 ((lg_cmp_ge _ _).mpr z)), fun z => c_19 ((lg_cmp_eq _ _).mpr z)⟩]; done))
    · refine A_lload4 d_JM_floorDiv_22 ?_
      refine A_lconst (v := 1) d_JM_floorDiv_24 (by decide) ?_
      refine A_lsub d_JM_floorDiv_25 ?_
      refine A_lret d_JM_floorDiv_26 rfl ⟨Nat.zero_le _, Nat.zero_le _⟩ ?_
      exact pu (by
        first
          | (rw [if_neg (fun z => absurd z.1 (Int64.not_lt.mpr ((lg_cmp_ge _ _).mp c_10)))]; done)
          | (rw [if_neg (fun z => z.2 ((lg_cmp_eq _ _).mp c_19))]; done)
          | (rw [if_pos ⟨Int64.not_le.mp (fun z => c_10 ((lg_cmp_ge _ _).mpr z)), fun z => c_19 ((lg_cmp_eq _ _).mpr z)⟩]; done))
