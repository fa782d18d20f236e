def R_law : String := "NightBridgeLaw"
def lw_P (b : Addr) (xs : List Int32) (args : Array Value) (s : State) : Prop := args = #[.ref b] ∧ s.IntsAt b xs ∧ xs.length ≤ 3584 ∧ (Jvm.Cond.and given_1 narrow_1).before args s = true
def lw_Q (_ : Array Value) (s : State) (o : Outcome) (t : State) : Prop := o = .returned (some (.int 1)) ∧ Framed s o t [] 600000 7302250
def lw_Z (below : List Frame) (a : Array Value) (s : State) : State → Prop := fun t => ∃ o, t.status = .running ∧ Ended t below o ∧ lw_Q a s o t
/-- what holds at the law's entry: the machine, the code, the tables' words (any of lw_tbl by 'hts w (by decide +kernel)'), the script of L ints xs at the cell b, what the Statement gives of the start (any of its parts by flat_of_before) -/
def lw_At (p : Program) (s : State) (m : MethodId) (meth : Method) (c : Code) (b L : Nat) (xs : Nat → Int32) : Prop :=
  p.tables.exec = Jvm.exec ∧ c.code = code ∧ meth.sig.returnType = ret ∧ c.maxLocals = 4 ∧ s.vm.findClass R_law = some m.cls ∧ (∀ w ∈ lw_tbl, w.before #[Value.ref b] s = true) ∧ va_X b L xs s s.heap ∧ b < s.heap.size ∧ meth.locks = false ∧ (Jvm.Cond.and given_1 narrow_1).before #[Value.ref b] s = true
theorem ao_ex {s : State} (h : va_Nw (.arrayOver (.array .int)) s) : ∃ (c : ClassId) (k : Class) (comp : ClassId), s.vm.findClass ("[" ++ (FieldType.array .int).toString) = some c ∧ s.vm.classes[c]? = some k ∧ k.kind = .array comp (.array .int) := by
  have h' : (Cond.arrayOver (.array .int)).before #[] s = true := h
  simp only [Cond.before, Cond.holds, Cond.value, beq_iff_eq, Option.bind_eq_some_iff, Option.map_eq_some_iff] at h'
  obtain ⟨comp, hcomp, c, hc, k, hk, hb⟩ := h'
  obtain ⟨hlt, hp, -⟩ := Array.findIdx?_eq_some_iff_getElem.mp hc
  rw [(Array.getElem?_eq_some_iff.mp hk).2] at hp
  cases hq : k.kind with
  | array a b =>
    rw [hq] at hb hp
    simp only [Bool.and_eq_true, decide_eq_true_eq, beq_iff_eq] at hb hp
    exact ⟨c, k, a, hb.2, hk, by rw [hq, hb.1]⟩
  | _ => rw [hq] at hb; cases hb
/-- the cells that were there before, as they are read -/
def oH (L : Nat) (xs : Nat → Int32) : AH := fun i => if i = 1 then some (.inl (0, 12, .inl (fun j => NUMl.getD j 0))) else if i = 2 then some (.inl (0, 48, .inl (fun j => LOWl.getD j 0))) else if i = 3 then some (.inl (0, 48, .inl (fun j => HIGHl.getD j 0))) else if i = 5 then some (.inl (0, L, .inl xs)) else if 30 ≤ i ∧ i < 44 then some (.inl (2, wa_len.getD (i - 30) 0, .inl (sbF (i - 30)))) else none
/-- their addresses -/
def oA (z a1 a2 a3 a4 b : Nat) (kA vA : Nat → Nat) : Nat → Nat := fun i => if 1000 ≤ i then z + (i - 1000) else if i = 1 then a1 else if i = 2 then a2 else if i = 3 then a3 else if i = 4 then a4 else if i = 5 then b else if 10 ≤ i ∧ i < 24 then kA (i - 10) else vA (i - 30)
theorem oH_old {L : Nat} {xs : Nat → Int32} : OLD (oH L xs) := by
  refine ⟨fun i hi => ?_, rfl, rfl, rfl⟩
  unfold oH
  rw [if_neg (by omega), if_neg (by omega), if_neg (by omega), if_neg (by omega), if_pos (by omega), Nat.add_sub_cancel_left]
theorem oH_nx {L : Nat} {xs : Nat → Int32} : Nx (oH L xs) 1000 := by
  refine ⟨Nat.le_refl _, fun i hi => ⟨fun h => ?_, fun h => by omega⟩⟩
  exfalso
  apply h
  unfold oH
  rw [if_neg (by omega), if_neg (by omega), if_neg (by omega), if_neg (by omega), if_neg (by omega)]
theorem oH_cases {L : Nat} {xs : Nat → Int32} {i : Nat} {e : va_E} (h : oH L xs i = some e) : (i = 1 ∧ e = .inl (0, 12, .inl (fun j => NUMl.getD j 0))) ∨ (i = 2 ∧ e = .inl (0, 48, .inl (fun j => LOWl.getD j 0))) ∨ (i = 3 ∧ e = .inl (0, 48, .inl (fun j => HIGHl.getD j 0))) ∨ (i = 5 ∧ e = .inl (0, L, .inl xs)) ∨ ∃ k, k < 14 ∧ i = 30 + k ∧ e = .inl (2, wa_len.getD k 0, .inl (sbF k)) := by
  unfold oH at h
  by_cases h1 : i = 1
  · rw [if_pos h1] at h; cases h; exact .inl ⟨h1, rfl⟩
  rw [if_neg h1] at h
  by_cases h2 : i = 2
  · rw [if_pos h2] at h; cases h; exact .inr (.inl ⟨h2, rfl⟩)
  rw [if_neg h2] at h
  by_cases h3 : i = 3
  · rw [if_pos h3] at h; cases h; exact .inr (.inr (.inl ⟨h3, rfl⟩))
  rw [if_neg h3] at h
  by_cases h5 : i = 5
  · rw [if_pos h5] at h; cases h; exact .inr (.inr (.inr (.inl ⟨h5, rfl⟩)))
  rw [if_neg h5] at h
  by_cases h6 : 30 ≤ i ∧ i < 44
  · rw [if_pos h6] at h; cases h; exact .inr (.inr (.inr (.inr ⟨i - 30, by omega, by omega, rfl⟩)))
  · rw [if_neg h6] at h; cases h
theorem oldT.lt {G : GE} {e : va_E} {a : Nat} {s : State} (h : oldT G e a s) : a < (gH G).size := by
  obtain ⟨t, n, z | z | z | z | z⟩ | ⟨c, fs⟩ := e
  · obtain ⟨ty, -, cell, h1, -⟩ := h
    exact (Array.getElem?_eq_some_iff.mp h1).1
  all_goals exact absurd h (fun z => z)
set_option maxHeartbeats 4000000 in
set_option maxRecDepth 100000 in
theorem law_in {p : Program} {s : State} {m : MethodId} {meth : Method} {c : Code} {b L : Nat} {xs : Nat → Int32} (hL : L ≤ 3584) (C0 : lw_At p s m meth c b L xs) : ∃ G : GE, gH G = s.heap ∧ ad G 5 = b ∧ GW G ∧ va_K (gD G) classes (wa_tys G) s ∧ KX G s ∧ Rep G (oH L xs) s.heap := by
  obtain ⟨hx, hb, hr, hml, hown, hts, hX, hbl, hlocks, hgv⟩ := id C0
  have hA : ∀ a : Nat, a < s.heap.size → ¬ (fun a : Nat => s.heap.size ≤ a) a := fun a h => Nat.not_le.mpr h
  have hg : ∀ w ∈ lw_g, w.before #[Value.ref b] s = true := fun w hw => hts w (List.mem_filter.mp hw).1
  have hs : ∀ w ∈ FLC, w.before #[Value.ref b] s = true := flat_of_before _ hgv
  have hcl : ∀ k : Nat, ∃ q : ClassId × (Nat → Nat), ∀ r : vw_C, classes[k]? = some r → u_Kn s r.1 r.2.1 r.2.2 q.1 q.2 := by
    intro k
    match k with
    | 0 =>
      obtain ⟨cC, iS, h⟩ := u_known (C := RX0) (T := TX0) (N := 5) (n := 5) hg iw_0 (hg (.instantiable "NightBridge$Book" 5) q_141)
      exact ⟨(cC, iS), fun r hr => by cases hr; exact h⟩
    | 1 =>
      obtain ⟨cC, iS, h⟩ := u_known (C := RX1) (T := TX1) (N := 18) (n := 18) hg iw_1 (hg (.instantiable "NightBridge$Land" 18) q_40)
      exact ⟨(cC, iS), fun r hr => by cases hr; exact h⟩
    | 2 =>
      obtain ⟨cC, iS, h⟩ := u_known (C := RX2) (T := TX2) (N := 11) (n := 11) hg iw_2 (hg (.instantiable "NightBridge$Planner" 11) q_328)
      exact ⟨(cC, iS), fun r hr => by cases hr; exact h⟩
    | 3 =>
      obtain ⟨cC, iS, h⟩ := u_known (C := RX3) (T := TX3) (N := 15) (n := 15) hg iw_3 (hg (.instantiable "NightBridge$Reader" 15) q_235)
      exact ⟨(cC, iS), fun r hr => by cases hr; exact h⟩
    | 4 =>
      obtain ⟨cC, iS, h⟩ := u_known (C := RX4) (T := TX4) (N := 4) (n := 4) hg iw_4 (hg (.instantiable "NightBridge$Sight" 4) q_169)
      exact ⟨(cC, iS), fun r hr => by cases hr; exact h⟩
    | 5 =>
      obtain ⟨cC, iS, h⟩ := u_known (C := RX5) (T := TX5) (N := 6) (n := 6) hg iw_5 (hg (.instantiable "NightBridge$Tokens" 6) q_241)
      exact ⟨(cC, iS), fun r hr => by cases hr; exact h⟩
    | 6 =>
      obtain ⟨cC, iS, h⟩ := u_known (C := RX6) (T := TX6) (N := 10) (n := 10) hg iw_6 (hg (.instantiable "NightBridge$Told" 10) q_27)
      exact ⟨(cC, iS), fun r hr => by cases hr; exact h⟩
    | 7 =>
      obtain ⟨cC, iS, h⟩ := u_known (C := RX7) (T := TX7) (N := 8) (n := 8) hg iw_7 (hg (.instantiable "NightBridge" 8) q_19)
      exact ⟨(cC, iS), fun r hr => by cases hr; exact h⟩
    | 8 =>
      obtain ⟨cC, iS, h⟩ := u_known (C := RX8) (T := TX8) (N := 56) (n := 56) hg iw_8 (hg (.instantiable "NightBridgeModel" 56) q_1043)
      exact ⟨(cC, iS), fun r hr => by cases hr; exact h⟩
    | k + 9 => exact ⟨(0, fun _ => 0), fun r hr => by simp [classes] at hr⟩
  obtain ⟨DD, hDD⟩ := Classical.axiomOfChoice hcl
  have hprim : ∀ ty : FieldType, (Cond.arrayClass ty).before #[Value.ref b] s = true → ∃ cA : ClassId, ArrOfT s cA ty ∧ s.vm.findClass ("[" ++ ty.toString) = some cA := by
    intro ty h
    obtain ⟨cA, kA, comp, h1, h2, h3⟩ := Cond.arrayClass_spec h
    exact ⟨cA, fun n z => ⟨(fun k hk => by cases hk), kA, h2, comp, h3⟩, h1⟩
  have hobj : ∀ C : String, (Cond.arrayOver (.object C)).before #[Value.ref b] s = true → ∃ cA : ClassId, ArrOfT s cA (.object C) ∧ va_RA s cA (.object C) := by
    intro C h
    obtain ⟨comp, cA, kA, h1, h2, h3, h4, h5⟩ := Cond.arrayOver_spec h
    exact ⟨cA, fun n z => ⟨(fun k hk => by cases hk), kA, h3, comp, h4⟩, kA, comp, h3, h4, h1, h5⟩
  have hty : ∀ k : Nat, ∃ cA : ClassId, ∀ ty : FieldType, wa_aty[k]? = some ty → ArrOfT s cA ty ∧ va_RA s cA ty := by
    intro k
    match k with
    | 0 =>
      obtain ⟨cA, h1, h2⟩ := hprim .int (hg _ q_140)
      exact ⟨cA, fun ty e => by cases e; exact ⟨h1, h2⟩⟩
    | 1 =>
      obtain ⟨cA, h1, h2⟩ := hprim .long (hg _ q_367)
      exact ⟨cA, fun ty e => by cases e; exact ⟨h1, h2⟩⟩
    | 2 =>
      obtain ⟨cA, h1, h2⟩ := hprim .byte (hg _ q_615)
      exact ⟨cA, fun ty e => by cases e; exact ⟨h1, h2⟩⟩
    | 3 =>
      obtain ⟨cA, h1, h2⟩ := hprim .boolean (hg _ q_1218)
      exact ⟨cA, fun ty e => by cases e; exact ⟨h1, h2⟩⟩
    | 4 =>
      obtain ⟨cA, kA, comp, h1, h2, h3⟩ := ao_ex (show va_Nw (.arrayOver (.array .int)) s from hts _ q_35)
      exact ⟨cA, fun ty e => by cases e; exact ⟨fun n z => ⟨(fun k hk => by cases hk), kA, h2, comp, h3⟩, h1⟩⟩
    | 5 =>
      obtain ⟨cA, h1, h2⟩ := hobj "NightBridge$Land" (hts _ q_33)
      exact ⟨cA, fun ty e => by cases e; exact ⟨h1, h2⟩⟩
    | 6 =>
      obtain ⟨cA, h1, h2⟩ := hobj "NightBridge$Book" (hts _ q_37)
      exact ⟨cA, fun ty e => by cases e; exact ⟨h1, h2⟩⟩
    | 7 =>
      obtain ⟨cA, h1, h2⟩ := hobj "NightBridge$Sight" (hts _ q_39)
      exact ⟨cA, fun ty e => by cases e; exact ⟨h1, h2⟩⟩
    | 8 =>
      obtain ⟨cA, h1, h2⟩ := hobj "NightBridge$Told" (hts _ q_233)
      exact ⟨cA, fun ty e => by cases e; exact ⟨h1, h2⟩⟩
    | k + 9 => exact ⟨0, fun ty e => by simp [wa_aty] at e⟩
  obtain ⟨AA, hAA⟩ := Classical.axiomOfChoice hty
  obtain ⟨aNUM, eNUM, tNUM⟩ := va_Tof (N := 12) (f := fun j => .int (NUMl.getD j 0)) (by decide) (hs _ fl_aNUM) (va_eqt (hs _ fl_lNUM)) (fun j hj => va_eqt (hs _ (fl_eNUM j hj))) hA
  obtain ⟨aLOW, eLOW, tLOW⟩ := va_Tof (N := 48) (f := fun j => .int (LOWl.getD j 0)) (by decide) (hs _ fl_aLOW) (va_eqt (hs _ fl_lLOW)) (fun j hj => va_eqt (hs _ (fl_eLOW j hj))) hA
  obtain ⟨aHIGH, eHIGH, tHIGH⟩ := va_Tof (N := 48) (f := fun j => .int (HIGHl.getD j 0)) (by decide) (hs _ fl_aHIGH) (va_eqt (hs _ fl_lHIGH)) (fun j hj => va_eqt (hs _ (fl_eHIGH j hj))) hA
  obtain ⟨kA, vA, hS, hSe⟩ := vk_Sof (N := 14) (tm := fun i => .string "NightBridge$Reader" (sIx i)) (len := wa_len) (byt := wa_byt) (fun i hi => Nat.lt_of_le_of_lt (wl_6 i hi) (by decide)) (fun i hi => hs _ (fl_sx i hi)) (fun i hi => hs _ (fl_sc i hi)) (fun i hi => hs _ (fl_sa i hi)) (fun i hi => hs _ (fl_sl i hi)) (fun i hi j hj => hs _ (fl_se i hi j hj)) (fun i j hi hj hn => by
    rcases fl_sn i hi j hj with h | h | h
    · exact absurd h hn
    · exact .inl (hs _ h)
    · exact .inr (hs _ h)) hA
  obtain ⟨a4, hP4⟩ : ∃ a4 : Nat, va_Z "jdk/internal/util/Preconditions" "SIOOBE_FORMATTER" "Ljava/util/function/BiFunction;" .null (fun a : Nat => s.heap.size ≤ a) s s.heap ∨ va_Z "jdk/internal/util/Preconditions" "SIOOBE_FORMATTER" "Ljava/util/function/BiFunction;" (.ref a4) (fun a : Nat => s.heap.size ≤ a) s s.heap := by
    rcases va_Zqof (hts _ (in_3 18 rfl)) (hg _ q_14) (hs _ fl_pf) hA with h | ⟨t, h⟩
    · exact ⟨0, .inl h⟩
    · exact ⟨t, .inr h⟩
  obtain ⟨G, hG⟩ : ∃ G : GE, G = ((fun k => (DD k).1, fun k => (DD k).2), AA, oA s.heap.size aNUM aLOW aHIGH a4 b kA vA, s.heap, oH L xs) := ⟨_, rfl⟩
  have gh : gH G = s.heap := by rw [hG]; rfl
  have gd : gD G = (fun k => (DD k).1, fun k => (DD k).2) := by rw [hG]; rfl
  have ga : gA G = AA := by rw [hG]; rfl
  have go : gO G = oH L xs := by rw [hG]; rfl
  have gf : gF G = fun a => s.heap.size ≤ a := by unfold gF; rw [gh]
  have gad : ad G = oA s.heap.size aNUM aLOW aHIGH a4 b kA vA := by rw [hG]; rfl
  clear hG
  have d1 : ad G 1 = aNUM := by rw [gad]; rfl
  have d2 : ad G 2 = aLOW := by rw [gad]; rfl
  have d3 : ad G 3 = aHIGH := by rw [gad]; rfl
  have d4 : ad G 4 = a4 := by rw [gad]; rfl
  have d5 : ad G 5 = b := by rw [gad]; rfl
  have dk : ∀ i, i < 14 → ad G (10 + i) = kA i := fun i hi => by
    rw [gad]
    unfold oA
    rw [if_neg (by omega), if_neg (by omega), if_neg (by omega), if_neg (by omega), if_neg (by omega), if_neg (by omega), if_pos (by omega), Nat.add_sub_cancel_left]
  have dv : ∀ i, i < 14 → ad G (30 + i) = vA i := fun i hi => by
    rw [gad]
    unfold oA
    rw [if_neg (by omega), if_neg (by omega), if_neg (by omega), if_neg (by omega), if_neg (by omega), if_neg (by omega), if_neg (by omega), Nat.add_sub_cancel_left]
  have hO : ∀ i e, i < 1000 → gO G i = some e → oldT G e (ad G i) s := by
    intro i e hi he
    rw [go] at he
    rcases oH_cases he with ⟨rfl, rfl⟩ | ⟨rfl, rfl⟩ | ⟨rfl, rfl⟩ | ⟨rfl, rfl⟩ | ⟨k, hk, rfl, rfl⟩
    · refine ⟨.int, .inl ⟨rfl, rfl⟩, ?_⟩
      rw [d1, gf, gh]
      exact tNUM
    · refine ⟨.int, .inl ⟨rfl, rfl⟩, ?_⟩
      rw [d2, gf, gh]
      exact tLOW
    · refine ⟨.int, .inl ⟨rfl, rfl⟩, ?_⟩
      rw [d3, gf, gh]
      exact tHIGH
    · refine ⟨.int, .inl ⟨rfl, rfl⟩, ?_⟩
      rw [d5, gf, gh]
      obtain ⟨scr, x1, x2, x3, x4, x5⟩ := hX
      exact ⟨scr, x1, x2, x3, Nat.le_of_eq x4.symm, congrArg Nat.toInt32 x4, x5, hA b hbl⟩
    · refine ⟨.byte, .inr ⟨rfl, rfl⟩, ?_⟩
      rw [dv k hk, gf, gh]
      exact (hS.1 k hk).2.2.2
  refine ⟨G, gh, d5, fun i hi => ?_, ⟨fun k q hq => ?_, fun k q hq => ?_⟩, ⟨fun w hw hn => ?_, fun C hC => ?_, ?_, fun q hq => ?_, ?_, fun q hq => ?_, ?_, hO⟩, ⟨?_, fun q hq => by rw [gh], fun i hi => ?_, fun i e hi he => ?_, fun i e hi he => ?_⟩⟩
  · rw [gad, gh]
    exact if_pos hi
  · rw [gd]
    exact hDD k q hq
  · unfold wa_tys at hq
    rw [List.getElem?_mapIdx] at hq
    obtain ⟨ty, h1, h2⟩ := Option.map_eq_some_iff.mp hq
    subst h2
    rw [ga]
    exact hAA k ty h1
  · have h := hts w hw
    cases w <;> simp [nestW] at hn
    · exact va_Nw.of rfl h
    · exact va_Nw.of rfl h
  · exact va_AO.of (hts _ hC)
  · exact hts _ q_35
  · rw [gf, gh]
    simp only [wa_zs, List.mem_cons, List.not_mem_nil, or_false] at hq
    rcases hq with rfl | rfl | rfl | rfl
    · show va_Z "NightBridge$Reader" "NUMBERS" "[I" (.ref (ad G 1)) _ _ _
      rw [d1]
      exact va_Zof (hts _ (in_3 54 rfl)) (hg _ q_6) eNUM hA
    · show va_Z "NightBridge$Reader" "LOW" "[I" (.ref (ad G 2)) _ _ _
      rw [d2]
      exact va_Zof (hts _ (in_3 78 rfl)) (hg _ q_6) eLOW hA
    · show va_Z "NightBridge$Reader" "HIGH" "[I" (.ref (ad G 3)) _ _ _
      rw [d3]
      exact va_Zof (hts _ (in_3 80 rfl)) (hg _ q_6) eHIGH hA
    · exact va_Zof (hts _ (in_3 2 rfl)) (hg _ q_12) (va_eqt (hs _ fl_cs)) hA
  · rcases hP4 with h | h
    · exact ⟨.null, .inl rfl, by rw [gf, gh]; exact h⟩
    · refine ⟨.ref 4, .inr rfl, ?_⟩
      show va_Z _ _ _ (.ref (ad G 4)) _ _ _
      rw [d4, gf, gh]
      exact h
  · simp only [wa_st, List.mem_cons, List.not_mem_nil, or_false] at hq
    rcases hq with rfl | rfl | rfl | rfl | rfl | rfl | rfl | rfl | rfl | rfl | rfl | rfl | rfl | rfl
    · show vk_R "NightBridge$Reader" 148 "hours" (ad G (10 + 0)) s
      rw [dk 0 (by decide)]
      exact vk_R.of (hts _ (in_2 228 rfl)) (hSe 0 (by decide))
    · show vk_R "NightBridge$Reader" 149 "cross" (ad G (10 + 1)) s
      rw [dk 1 (by decide)]
      exact vk_R.of (hts _ (in_3 41 rfl)) (hSe 1 (by decide))
    · show vk_R "NightBridge$Reader" 151 "crowd" (ad G (10 + 2)) s
      rw [dk 2 (by decide)]
      exact vk_R.of (hts _ (in_3 42 rfl)) (hSe 2 (by decide))
    · show vk_R "NightBridge$Reader" 153 "walk" (ad G (10 + 3)) s
      rw [dk 3 (by decide)]
      exact vk_R.of (hts _ (in_3 43 rfl)) (hSe 3 (by decide))
    · show vk_R "NightBridge$Reader" 155 "person" (ad G (10 + 4)) s
      rw [dk 4 (by decide)]
      exact vk_R.of (hts _ (in_3 44 rfl)) (hSe 4 (by decide))
    · show vk_R "NightBridge$Reader" 157 "likes" (ad G (10 + 5)) s
      rw [dk 5 (by decide)]
      exact vk_R.of (hts _ (in_3 45 rfl)) (hSe 5 (by decide))
    · show vk_R "NightBridge$Reader" 159 "bearer" (ad G (10 + 6)) s
      rw [dk 6 (by decide)]
      exact vk_R.of (hts _ (in_3 46 rfl)) (hSe 6 (by decide))
    · show vk_R "NightBridge$Reader" 161 "toll" (ad G (10 + 7)) s
      rw [dk 7 (by decide)]
      exact vk_R.of (hts _ (in_3 47 rfl)) (hSe 7 (by decide))
    · show vk_R "NightBridge$Reader" 136 "night" (ad G (10 + 8)) s
      rw [dk 8 (by decide)]
      exact vk_R.of (hts _ (in_3 48 rfl)) (hSe 8 (by decide))
    · show vk_R "NightBridge$Reader" 142 "at" (ad G (10 + 9)) s
      rw [dk 9 (by decide)]
      exact vk_R.of (hts _ (in_3 49 rfl)) (hSe 9 (by decide))
    · show vk_R "NightBridge$Reader" 144 "saw" (ad G (10 + 10)) s
      rw [dk 10 (by decide)]
      exact vk_R.of (hts _ (in_3 50 rfl)) (hSe 10 (by decide))
    · show vk_R "NightBridge$Reader" 146 "worth" (ad G (10 + 11)) s
      rw [dk 11 (by decide)]
      exact vk_R.of (hts _ (in_3 51 rfl)) (hSe 11 (by decide))
    · show vk_R "NightBridge$Reader" 163 "dark" (ad G (10 + 12)) s
      rw [dk 12 (by decide)]
      exact vk_R.of (hts _ (in_3 59 rfl)) (hSe 12 (by decide))
    · show vk_R "NightBridge$Reader" 169 "light" (ad G (10 + 13)) s
      rw [dk 13 (by decide)]
      exact vk_R.of (hts _ (in_3 60 rfl)) (hSe 13 (by decide))
  · rw [gf, gh]
    refine ⟨fun i hi => ?_, fun i j hi hj e => hS.2 i j hi hj ?_⟩
    · show va_O "java/lang/String" (ad G (10 + i)) _ _ _ ∧ va_OF "java/lang/String" "coder" "B" (.int 0) (ad G (10 + i)) _ _ _ ∧ va_OF "java/lang/String" "value" "[B" (.ref (ad G (30 + i))) (ad G (10 + i)) _ _ _ ∧ va_T .byte (ad G (30 + i)) _ _ _ _ _
      rw [dk i hi, dv i hi]
      exact hS.1 i hi
    · have e' : ad G (10 + i) = ad G (10 + j) := e
      rw [dk i hi, dk j hj] at e'
      exact e'
  · rw [gh]
    exact Nat.le_refl _
  · rw [gh, Nat.sub_self]
    exact (oH_nx (L := L) (xs := xs)).2 i hi
  · exact absurd he (by
      have h := (oH_nx (L := L) (xs := xs)).2 i hi
      intro z
      have := h.mp (by rw [z]; simp)
      omega)
  · have h := hO i e hi (by rw [go]; exact he)
    exact ⟨by rw [go]; exact he, h.lt⟩
