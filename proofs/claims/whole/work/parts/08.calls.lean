/-- locals at a method's entry: arguments, the rest unset -/
def entN (nL : Nat) (vs : List Value) : List (Option Value) := entL vs ++ List.replicate (nL - (entL vs).length) none
theorem entL_len (G : GE) (vs : List Value) (hd : ∀ v ∈ vs, ∀ b, v ≠ .double b) : (entL vs).length = (lg_sl (vs.map (cv G))).length := by
  induction vs with
  | nil => rfl
  | cons v t ih =>
    have ih := ih (fun w hw => hd w (List.mem_cons_of_mem _ hw))
    have hv := hd v List.mem_cons_self
    cases v <;> simp_all [entL, lg_sl, cv, Value.category] <;> omega
theorem entL_asc (G : GE) (vs : List Value) (hd : ∀ v ∈ vs, ∀ b, v ≠ .double b) (r : Nat) : ∀ k, ∀ q ∈ asc G k (entL vs ++ List.replicate r none), q ∈ lv_args k (vs.map (cv G)) := by
  induction vs with
  | nil =>
    intro k q hq
    obtain ⟨i, v, h1, h2⟩ := asc_mem.mp hq
    simp [entL, List.getElem?_replicate] at h1
  | cons v t ih =>
    have ih := ih (fun w hw => hd w (List.mem_cons_of_mem _ hw))
    have hv := hd v List.mem_cons_self
    intro k q hq
    cases v <;> simp_all [entL, asc, lv_args, cv, Value.category] <;> (rcases hq with h | h <;> first | (left; exact h) | (right; exact ih _ _ _ h) | skip)
section CALLS
variable {G : GE} {y : MethodName} {cc : ByteArray} {nL : Nat} {ret : Option FieldType} {R : Room} {mc ms : Nat} {K : Option Value → AH → Prop} {u n pc : Nat} {L : List (Option Value)} {st : List Value} {h : AH}
theorem Ctr.of {vs : List Value} (hy : plainName y.cls = true) (hd : ∀ v ∈ vs, ∀ b, v ≠ .double b) (hlen : (entL vs).length ≤ nL) {L0 : List (Option Value)} (hL : entN nL vs = L0) (k : WA G y cc nL ret R R.cells R.slots K 0 0 0 L0 [] h) : Ctr G y cc nL ret R vs h K := by
  intro l
  refine Met.ofW (cc := cc) (maxL := nL) (ret := ret) hy rfl ?_
  intro p e s m args below meth c s₁ B hml hv
  obtain ⟨ha, hR, hK, hg, hkx⟩ := hv
  subst ha
  subst hL
  have hts := atoms_spec (ws := Cond.code y cc nL ret :: lw_g) B.pre
  have hl := lv_entry (vs.map (cv G)) (n := nL) (by rw [← entL_len G vs hd]; exact hlen)
  rw [lg_entry_eq]
  refine k l p e s m _ below meth c s.heap [] _ ⟨B.exec, B.bytes, hml, findClass_of_methodNamed B.named, fun w hw => hts w (List.mem_cons_of_mem _ hw), hK, B.notSynchronized, B.returns, hg, (name_of_methodNamed B.named B.method).1, hkx⟩ hR ⟨by simp [entN]; omega, hl.1, hl.2.1, fun q hq => hl.2.2 q (entL_asc G vs hd _ 0 q hq)⟩ (fun q hq => by cases hq)
theorem A_iret {v : Int32} (d : decode cc pc = .ok (.ireturn, 1)) (hr : ret = some .int) (hu : u ≤ mc ∧ n ≤ ms) (hk : K (some (.int v)) h) : WA G y cc nL ret R mc ms K u n pc L [.int v] h :=
  fun l p e s m args below meth c H locs ls a r hl hf => W.widen hu.1 hu.2 (W.iret a.1 a.2.1 (a.2.2.2.2.2.2.2.1.trans hr) (fun t ht _ => ⟨some (.int v), h, rfl, by rw [ht]; exact r, hk⟩) hf d a.2.2.2.2.2.2.1)
theorem A_zret {v : Int32} {ty : FieldType} (d : decode cc pc = .ok (.ireturn, 1)) (hr : ret = some ty) (hn : narrow ty (.int v) = .int v) (hu : u ≤ mc ∧ n ≤ ms) (hk : K (some (.int v)) h) : WA G y cc nL ret R mc ms K u n pc L [.int v] h :=
  fun l p e s m args below meth c H locs ls a r hl hf => W.widen hu.1 hu.2 (W.zret a.1 a.2.1 (a.2.2.2.2.2.2.2.1.trans hr) hn (fun t ht _ => ⟨some (.int v), h, rfl, by rw [ht]; exact r, hk⟩) hf d a.2.2.2.2.2.2.1)
theorem A_lret {v : Int64} (d : decode cc pc = .ok (.lreturn, 1)) (hr : ret = some .long) (hu : u ≤ mc ∧ n ≤ ms) (hk : K (some (.long v)) h) : WA G y cc nL ret R mc ms K u n pc L [.long v] h :=
  fun l p e s m args below meth c H locs ls a r hl hf => W.widen hu.1 hu.2 (W.lret a.1 a.2.1 (a.2.2.2.2.2.2.2.1.trans hr) (fun t ht _ => ⟨some (.long v), h, rfl, by rw [ht]; exact r, hk⟩) hf d a.2.2.2.2.2.2.1)
theorem A_vret (d : decode cc pc = .ok (.return_, 1)) (hr : ret = none) (hu : u ≤ mc ∧ n ≤ ms) (hk : K none h) : WA G y cc nL ret R mc ms K u n pc L [] h :=
  fun l p e s m args below meth c H locs ls a r hl hf => W.widen hu.1 hu.2 (W.vret a.1 a.2.1 (a.2.2.2.2.2.2.2.1.trans hr) (fun t ht _ => ⟨none, h, rfl, by rw [ht]; exact r, hk⟩) hf d a.2.2.2.2.2.2.1)
theorem A_run {K1 : Option Value → AH → Prop} {mc1 ms1 : Nat} {st0 : List Value} {a0 : Array Value} (hr : ∀ (l : Launch) (p : Program) (e : Env) (s : State) (m : MethodId) (args : Array Value) (below : List Frame) (meth : Method) (c : Code) (H : Heap) (locs : List Loc) (ls : Array Slot), Act G y cc nL ret p s m args meth c → Rep G h H → LH G ls nL L →
      va_Run p l e R s m args below meth c H locs u n mc1 ms1 (F0 m pc ls (st0.map (cv G))) (st.map (cv G)) (QK G K1 a0) (fun q => (gH G).size ≤ q))
    (k : ∀ v h1, K1 v h1 → WA G y cc nL ret R mc ms K (u + mc1) (n + ms1) (pc + 3) L (v.toList ++ st) h1) : WA G y cc nL ret R mc ms K u n pc L st0 h := by
  intro l p e s m args below meth c H locs ls a r hl hf T hT X
  obtain ⟨v, st₀, t, T', Ls, h0, X', hL, e1, e2, ⟨w, h', ho, hR, hK⟩, sp⟩ := hr l p e s m args below meth c H locs ls a r hl T hT X
  cases ho
  obtain ⟨t2, a1, b1⟩ := k w h' hK l p e s m args below meth c T'.heap (locs ++ Ls) ls a (by rw [e1]; exact hR) hl (fun q hq => (List.mem_append.mp hq).elim (hf q) (hL q)) T' rfl X'
  exact ⟨t2, sp t2 (by cases w <;> exact a1), b1⟩
/-- what the tables say of a method that is called -/
def MOK (y : MethodName) (cc : ByteArray) (nL : Nat) (ret : Option FieldType) (na : Nat) : Prop :=
  (.initialized y.cls : Cond) ∈ lw_g ∧ (.code y cc nL ret : Cond) ∈ lw_g ∧ y.cls ≠ "java/lang/invoke/MethodHandle" ∧ y.cls ≠ "java/lang/invoke/VarHandle" ∧ (parseMethodDescriptor y.desc).map (fun d => d.parameters.length) = some na
theorem cat_map (G : GE) (st : List Value) : ((st.map (cv G)).map fun v => v.category) = st.map (fun v => v.category) := by
  induction st with
  | nil => rfl
  | cons v t ih => cases v <;> simp_all [cv, Value.category]
theorem KN.blind (G : GE) (vs : List Value) (h : AH) : FrameBlind (fun a U => a = (vs.map (cv G)).toArray ∧ Rep G h U.heap ∧ KN G U) :=
  fun a U g mk q => ⟨q.1, q.2.1, va_K.moved (u := U) (U := U.calling g mk a) (Vm.Alike.refl U.vm) q.2.2.1, q.2.2.2.1, KX.same (u := U) (U := U.calling g mk a) rfl q.2.2.2.2⟩
theorem KN.warm {G : GE} {s U : State} (hW : s.WarmedH U.vm) (h1 : va_K (gD G) classes (wa_tys G) s) (g : GW G) (h2 : KX G s) : KN G U := ⟨va_K.moved hW.alike h1, g, KX.warm hW h2⟩
theorem code_in {y1 : MethodName} {cc1 : ByteArray} {nL1 : Nat} {ret1 : Option FieldType} (h : (.code y1 cc1 nL1 ret1 : Cond) ∈ lw_g) : GoodIn lw_g (Cond.code y1 cc1 nL1 ret1 :: lw_g) := fun w hw => by
  rcases List.mem_cons.mp hw with rfl | hw
  · exact good_g _ h
  · exact good_g _ hw
variable {y1 : MethodName} {cc1 : ByteArray} {nL1 na index : Nat} {ret1 : Option FieldType} {R1 : Room} {K1 : Option Value → AH → Prop} {st0 : List Value}
theorem A_callV {q ci N : Nat} {T : u_T} {fs As : List Value} (d : decode cc pc = .ok (.invokevirtual index, 3)) (hM : Ctr G y1 cc1 nL1 ret1 R1 (.ref q :: As) h K1) (hq : h q = some (.inr (ci, fs))) (hc : classes[ci]? = some (y1.cls, T, N)) (w1 : (.methodLink y.cls index y1 : Cond) ∈ lw_g) (w2 : (.instanceMethod y1 : Cond) ∈ lw_g) (w3 : (.selects y1.cls y1 y1 : Cond) ∈ lw_g) (ok : MOK y1 cc1 nL1 ret1 na) (hn : As.length = na)
    (hR : R1.frames + 1 ≤ R.frames ∧ 8 + (nL1 + 11) + R1.locals ≤ R.locals) (hst : st0 = As.reverse ++ .ref q :: st) (hW : (st.map fun v => v.category).sum ≤ 8) (hu : u + R1.cells ≤ R.cells ∧ n + R1.slots ≤ R.slots)
    (k : ∀ v h1, K1 v h1 → WA G y cc nL ret R mc ms K (u + R1.cells) (n + R1.slots) (pc + 3) L (v.toList ++ st) h1) : WA G y cc nL ret R mc ms K u n pc L st0 h := by
  subst hn
  refine A_run (a0 := ((.ref q :: As).map (cv G)).toArray) (fun l p e s m args below meth c H locs ls a r hl => ?_) k
  obtain ⟨hx, hb, hml, hown, hts, hK, hlk, hrt, g, hnm, hkx⟩ := id a
  refine va_runV (As := As.map (cv G)) (b := ad G q) (rest := st.map (cv G)) (C := y1.cls) ⟨hx, hb, hml, hown, hts⟩ (hM l) ⟨callB_of (ws := Cond.code y1 cc1 nL1 ret1 :: lw_g) As.length hts (code_in ok.2.1) rfl rfl rfl (hts _ ok.1) (hts _ w1) ⟨ok.2.2.1, ok.2.2.2.1, ok.2.2.2.2⟩ hR, hts _ w2, hts _ w3⟩
    ⟨KN.blind G _ h, ?_, fun U hU hW2 => ⟨by simp [cv], by rw [hU]; exact r, KN.warm hW2 hK g hkx⟩⟩ rfl (by simp) hl.2.1 (by rw [hst]; simp [cv, List.map_reverse]) (by show 2 * 0 + _ ≤ 8; rw [cat_map]; omega) d hu
  exact va_recv (q := (y1.cls, T, N)) (q0 := 0) (fs := fs.map (cv G)) hK (r.one (r.hiO hkx hq) hq) hc rfl
theorem A_callVN {q ci N : Nat} {T : u_T} {fs As : List Value} {host : String} (d : decode cc pc = .ok (.invokevirtual index, 3)) (hM : Ctr G y1 cc1 nL1 ret1 R1 (.ref q :: As) h K1) (hq : h q = some (.inr (ci, fs))) (hc : classes[ci]? = some (y1.cls, T, N)) (w1 : (.methodLinkNest y.cls index y1 host : Cond) ∈ lw_tbl) (w2 : (.instanceMethod y1 : Cond) ∈ lw_g) (w3 : (.selects y1.cls y1 y1 : Cond) ∈ lw_g) (ok : MOK y1 cc1 nL1 ret1 na) (hn : As.length = na)
    (hR : R1.frames + 1 ≤ R.frames ∧ 8 + (nL1 + 11) + R1.locals ≤ R.locals) (hst : st0 = As.reverse ++ .ref q :: st) (hW : (st.map fun v => v.category).sum ≤ 8) (hu : u + R1.cells ≤ R.cells ∧ n + R1.slots ≤ R.slots)
    (k : ∀ v h1, K1 v h1 → WA G y cc nL ret R mc ms K (u + R1.cells) (n + R1.slots) (pc + 3) L (v.toList ++ st) h1) : WA G y cc nL ret R mc ms K u n pc L st0 h := by
  subst hn
  refine A_run (a0 := ((.ref q :: As).map (cv G)).toArray) (fun l p e s m args below meth c H locs ls a r hl => ?_) k
  obtain ⟨hx, hb, hml, hown, hts, hK, hlk, hrt, g, hnm, hkx⟩ := id a
  refine va_runVN (As := As.map (cv G)) (b := ad G q) (rest := st.map (cv G)) (C := y1.cls) (Ts := lw_g) ⟨hx, hb, hml, hown, hts⟩ (hM l) ⟨va_cnB (ws := Cond.code y1 cc1 nL1 ret1 :: lw_g) As.length hts (code_in ok.2.1) rfl rfl rfl (hkx.1 _ w1 rfl) (hts _ ok.1) ⟨ok.2.2.1, ok.2.2.2.1, ok.2.2.2.2⟩ hR, hts _ w2, hts _ w3⟩
    ⟨KN.blind G _ h, ?_, fun U hU hW2 => ⟨by simp [cv], by rw [hU]; exact r, KN.warm hW2 hK g hkx⟩⟩ rfl (by simp) hl.2.1 (by rw [hst]; simp [cv, List.map_reverse]) (by show 2 * 0 + _ ≤ 8; rw [cat_map]; omega) d hu
  exact va_recv (q := (y1.cls, T, N)) (q0 := 0) (fs := fs.map (cv G)) hK (r.one (r.hiO hkx hq) hq) hc rfl
theorem A_callS {As : List Value} (d : decode cc pc = .ok (.invokestatic index, 3)) (hM : Ctr G y1 cc1 nL1 ret1 R1 As h K1) (w1 : (.methodLink y.cls index y1 : Cond) ∈ lw_g) (w2 : (.static y1 : Cond) ∈ lw_g) (ok : MOK y1 cc1 nL1 ret1 na) (hn : As.length = na)
    (hR : R1.frames + 1 ≤ R.frames ∧ 8 + (nL1 + 11) + R1.locals ≤ R.locals) (hst : st0 = As.reverse ++ st) (hW : (st.map fun v => v.category).sum ≤ 8) (hu : u + R1.cells ≤ R.cells ∧ n + R1.slots ≤ R.slots)
    (k : ∀ v h1, K1 v h1 → WA G y cc nL ret R mc ms K (u + R1.cells) (n + R1.slots) (pc + 3) L (v.toList ++ st) h1) : WA G y cc nL ret R mc ms K u n pc L st0 h := by
  subst hn
  refine A_run (a0 := (As.map (cv G)).toArray) (fun l p e s m args below meth c H locs ls a r hl => ?_) k
  obtain ⟨hx, hb, hml, hown, hts, hK, hlk, hrt, g, hnm, hkx⟩ := id a
  exact va_runS (As := As.map (cv G)) (rest := st.map (cv G)) ⟨hx, hb, hml, hown, hts⟩ (hM l) ⟨callB_of (ws := Cond.code y1 cc1 nL1 ret1 :: lw_g) As.length hts (code_in ok.2.1) rfl rfl rfl (hts _ ok.1) (hts _ w1) ⟨ok.2.2.1, ok.2.2.2.1, ok.2.2.2.2⟩ hR, hts _ w2⟩
    ⟨KN.blind G _ h, fun U hU hW2 => ⟨rfl, by rw [hU]; exact r, KN.warm hW2 hK g hkx⟩⟩ rfl (by simp) hl.2.1 (by rw [hst]; simp [List.map_reverse]) (by show 2 * 0 + _ ≤ 8; rw [cat_map]; omega) d hu
theorem A_callSN {As : List Value} {host : String} (d : decode cc pc = .ok (.invokestatic index, 3)) (hM : Ctr G y1 cc1 nL1 ret1 R1 As h K1) (w1 : (.methodLinkNest y.cls index y1 host : Cond) ∈ lw_tbl) (w2 : (.static y1 : Cond) ∈ lw_g) (ok : MOK y1 cc1 nL1 ret1 na) (hn : As.length = na)
    (hR : R1.frames + 1 ≤ R.frames ∧ 8 + (nL1 + 11) + R1.locals ≤ R.locals) (hst : st0 = As.reverse ++ st) (hW : (st.map fun v => v.category).sum ≤ 8) (hu : u + R1.cells ≤ R.cells ∧ n + R1.slots ≤ R.slots)
    (k : ∀ v h1, K1 v h1 → WA G y cc nL ret R mc ms K (u + R1.cells) (n + R1.slots) (pc + 3) L (v.toList ++ st) h1) : WA G y cc nL ret R mc ms K u n pc L st0 h := by
  subst hn
  refine A_run (a0 := (As.map (cv G)).toArray) (fun l p e s m args below meth c H locs ls a r hl => ?_) k
  obtain ⟨hx, hb, hml, hown, hts, hK, hlk, hrt, g, hnm, hkx⟩ := id a
  exact va_runSN (As := As.map (cv G)) (rest := st.map (cv G)) (Ts := lw_g) ⟨hx, hb, hml, hown, hts⟩ (hM l) ⟨va_cnB (ws := Cond.code y1 cc1 nL1 ret1 :: lw_g) As.length hts (code_in ok.2.1) rfl rfl rfl (hkx.1 _ w1 rfl) (hts _ ok.1) ⟨ok.2.2.1, ok.2.2.2.1, ok.2.2.2.2⟩ hR, hts _ w2, trivial⟩
    ⟨KN.blind G _ h, fun U hU hW2 => ⟨rfl, by rw [hU]; exact r, KN.warm hW2 hK g hkx⟩⟩ rfl (by simp) hl.2.1 (by rw [hst]; simp [List.map_reverse]) (by show 2 * 0 + _ ≤ 8; rw [cat_map]; omega) d hu
theorem A_callI {q : Nat} {As : List Value} (d : decode cc pc = .ok (.invokespecial index, 3)) (hM : Ctr G y1 cc1 nL1 none R1 (.ref q :: As) h K1) (w1 : (.methodLink y.cls index y1 : Cond) ∈ lw_g) (w2 : (.instanceMethod y1 : Cond) ∈ lw_g) (hy1 : y1.name = "<init>") (ok : MOK y1 cc1 nL1 none na) (hn : As.length = na)
    (hR : R1.frames + 1 ≤ R.frames ∧ 8 + (nL1 + 11) + R1.locals ≤ R.locals) (hst : st0 = As.reverse ++ .ref q :: st) (hW : (st.map fun v => v.category).sum ≤ 8) (hu : u + R1.cells ≤ R.cells ∧ n + R1.slots ≤ R.slots)
    (k : ∀ v h1, K1 v h1 → WA G y cc nL ret R mc ms K (u + R1.cells) (n + R1.slots) (pc + 3) L (v.toList ++ st) h1) : WA G y cc nL ret R mc ms K u n pc L st0 h := by
  subst hn
  refine A_run (a0 := ((.ref q :: As).map (cv G)).toArray) (fun l p e s m args below meth c H locs ls a r hl => ?_) k
  obtain ⟨hx, hb, hml, hown, hts, hK, hlk, hrt, g, hnm, hkx⟩ := id a
  exact va_runI (As := As.map (cv G)) (b := ad G q) (rest := st.map (cv G)) ⟨hx, hb, hml, hown, hts⟩ (hM l) ⟨callB_of (ws := Cond.code y1 cc1 nL1 none :: lw_g) As.length hts (code_in ok.2.1) rfl rfl rfl (hts _ ok.1) (hts _ w1) ⟨ok.2.2.1, ok.2.2.2.1, ok.2.2.2.2⟩ hR, hy1, hts _ w2⟩
    ⟨KN.blind G _ h, fun U hU hW2 => ⟨by simp [cv], by rw [hU]; exact r, KN.warm hW2 hK g hkx⟩⟩ rfl (by simp) hl.2.1 (by rw [hst]; simp [cv, List.map_reverse]) (by show 2 * 0 + _ ≤ 8; rw [cat_map]; omega) d hu
theorem A_callIN {q : Nat} {As : List Value} {host : String} (d : decode cc pc = .ok (.invokespecial index, 3)) (hM : Ctr G y1 cc1 nL1 none R1 (.ref q :: As) h K1) (w1 : (.methodLinkNest y.cls index y1 host : Cond) ∈ lw_tbl) (w2 : (.instanceMethod y1 : Cond) ∈ lw_g) (hy1 : y1.name = "<init>") (ok : MOK y1 cc1 nL1 none na) (hn : As.length = na)
    (hR : R1.frames + 1 ≤ R.frames ∧ 8 + (nL1 + 11) + R1.locals ≤ R.locals) (hst : st0 = As.reverse ++ .ref q :: st) (hW : (st.map fun v => v.category).sum ≤ 8) (hu : u + R1.cells ≤ R.cells ∧ n + R1.slots ≤ R.slots)
    (k : ∀ v h1, K1 v h1 → WA G y cc nL ret R mc ms K (u + R1.cells) (n + R1.slots) (pc + 3) L (v.toList ++ st) h1) : WA G y cc nL ret R mc ms K u n pc L st0 h := by
  subst hn
  refine A_run (a0 := ((.ref q :: As).map (cv G)).toArray) (fun l p e s m args below meth c H locs ls a r hl => ?_) k
  obtain ⟨hx, hb, hml, hown, hts, hK, hlk, hrt, g, hnm, hkx⟩ := id a
  exact va_runIN (As := As.map (cv G)) (b := ad G q) (rest := st.map (cv G)) (Ts := lw_g) ⟨hx, hb, hml, hown, hts⟩ (hM l) ⟨va_cnB (ws := Cond.code y1 cc1 nL1 none :: lw_g) As.length hts (code_in ok.2.1) rfl rfl rfl (hkx.1 _ w1 rfl) (hts _ ok.1) ⟨ok.2.2.1, ok.2.2.2.1, ok.2.2.2.2⟩ hR, hy1, hts _ w2⟩
    ⟨KN.blind G _ h, fun U hU hW2 => ⟨by simp [cv], by rw [hU]; exact r, KN.warm hW2 hK g hkx⟩⟩ rfl (by simp) hl.2.1 (by rw [hst]; simp [cv, List.map_reverse]) (by show 2 * 0 + _ ≤ 8; rw [cat_map]; omega) d hu
theorem A_objInit {q : Nat} (d : decode cc pc = .ok (.invokespecial index, 3)) (w1 : (.methodLink y.cls index objectInit : Cond) ∈ lw_g) (w2 : (.instanceMethod objectInit : Cond) ∈ lw_g) (w3 : (.code objectInit ⟨#[0xb1]⟩ 1 none : Cond) ∈ lw_g) (hR : 1 ≤ R.frames) (hW : (st.map fun v => v.category).sum + 12 ≤ R.locals)
    (k : WA G y cc nL ret R mc ms K u n (pc + 3) L st h) : WA G y cc nL ret R mc ms K u n pc L (.ref q :: st) h :=
  fun l p e s m args below meth c H locs ls a r hl hf => W.objInit a.1 a.2.1 a.2.2.2.1 (a.2.2.2.2.1 _ w1) (a.2.2.2.2.1 _ w2) (a.2.2.2.2.1 _ w3) rfl (by show ls.size = _; rw [a.2.2.1]; exact hl.2.1) rfl d hR (by show 2 * 0 + _ + 12 ≤ _; rw [cat_map]; omega) (k l p e s m args below meth c H locs ls a r hl hf)
end CALLS
theorem down {P : Nat → Prop} {n : Nat} (he : P n) (hs : ∀ i, i < n → P (i + 1) → P i) : ∀ i, i ≤ n → P i := by
  intro i hi
  obtain ⟨k, rfl⟩ : ∃ k, n = i + k := ⟨n - i, by omega⟩
  induction k generalizing i with
  | zero => exact he
  | succ k ih => exact hs i (by omega) (ih (i + 1) (by rw [show i + 1 + k = i + (k + 1) by omega]; exact he) (fun j hj => hs j (by omega)) (by omega))
