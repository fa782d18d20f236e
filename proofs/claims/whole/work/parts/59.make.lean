section MAKE
variable {G : GE} {y : MethodName} {cc : ByteArray} {nL : Nat} {ret : Option FieldType} {R : Room} {mc ms : Nat} {K : Option Value → AH → Prop} {u n pc : Nat} {L : List (Option Value)} {st : List Value} {h : AH}
theorem A_newa {t q z : Nat} {ty : FieldType} {atype : ArrayType} {x : vp_A} (d : decode cc pc = .ok (.newarray atype, 2)) (w : (.arrayClass (newarray.typeOf atype) : Cond) ∈ lw_g) (hty : newarray.typeOf atype = ty) (ht : wa_aty[t]? = some ty) (hno : ∀ C, ty ≠ .object C) (hx : Nx h q) (hcell : ∀ cA : ClassId, vp_cell cA (cvA G x) = arrV cA z (fun _ => defaultValue ty)) (hb : z * componentBytes ty ≤ 536870912) (hz : z < 2 ^ 31) (hc : u + 1 ≤ R.cells) (hs : n + z ≤ R.slots)
    (k : WA G y cc nL ret R mc ms K (u + 1) (n + z) (pc + 2) L (.ref q :: st) (hset h q (.inl (t, x)))) : WA G y cc nL ret R mc ms K u n pc L (.int (nI z) :: st) h := by
  intro l p e s m args below meth c H locs ls a r hl hf
  obtain ⟨hx0, hb0, hml, hown, hts, hK, hlk, hrt, g, hnm, hkx⟩ := id a
  have e1 := hx.ad r g
  subst hty
  refine va_newaK hx0 hb0 (hts _ w) rfl d rfl (nI_pos hz) (nI_clamp hz) hb hc hs rfl fun H1 cA c1 z1 o1 hAr hNm => ?_
  have hra := (hK.2 t _ (tys_at G ht)).2
  have hcA : cA = gA G t := by
    have h2 : s.vm.findClass ("[" ++ (newarray.typeOf atype).toString) = some (gA G t) := by
      cases atype <;> exact hra
    exact Option.some.inj (hNm.symm.trans h2)
  subst hcA
  have hat : va_at (gD G) classes (H.size, cvE G (.inl (t, x))) H1 := by
    show H1[H.size]? = some (vp_cell (gA G t) (cvA G x))
    rw [hcell]
    exact c1
  have hk := k l p e s m args below meth c H1 locs ls a (r.push g hx z1 hat o1) hl hf
  rw [List.map_cons, show cv G (.ref q) = .ref (ad G q) from rfl, e1] at hk
  exact hk
theorem A_newo {q ci N index : Nat} {C : String} {T : u_T} {t0 : Nat → FieldType} {fs : List Value} (d : decode cc pc = .ok (.new index, 3)) (ok : ClsOK ci C T N t0) (w1 : (.classLink y.cls index C : Cond) ∈ lw_g) (w2 : (.instantiable C N : Cond) ∈ lw_g) (w3 : (.initialized C : Cond) ∈ lw_g) (hx : Nx h q) (hfs : ∀ j, j < N → defaultValue (t0 j) = vp_V (fs.map (cv G)) j) (hc : u + 1 ≤ R.cells) (hs : n + N ≤ R.slots)
    (k : WA G y cc nL ret R mc ms K (u + 1) (n + N) (pc + 3) L (.ref q :: st) (hset h q (.inr (ci, fs)))) : WA G y cc nL ret R mc ms K u n pc L st h := by
  intro l p e s m args below meth c H locs ls a r hl hf
  obtain ⟨hx0, hb0, hml, hown, hts, hK, hlk, hrt, g, hnm, hkx⟩ := id a
  have e1 := hx.ad r g
  have hKn := hK.1 ci _ ok.1
  refine W.newcK hx0 hb0 hown (hts _ w1) (hts _ w2) (hts _ w3) rfl d hc hs hKn.2.1 rfl fun H1 kC hkC c1 z1 o1 => ?_
  have hat : va_at (gD G) classes (H.size, cvE G (.inr (ci, fs))) H1 := ⟨_, ok.1, (u_born t0 hts ok.2.1 hKn hkC c1 ok.2.2.1).to hfs⟩
  have hk := k l p e s m args below meth c H1 locs ls a (r.push g hx z1 hat o1) hl hf
  rw [List.map_cons, show cv G (.ref q) = .ref (ad G q) from rfl, e1] at hk
  exact hk
theorem A_anew {t q z index : Nat} {C : String} (d : decode cc pc = .ok (.anewarray index, 3)) (w1 : (.classLink y.cls index C : Cond) ∈ lw_g) (w2 : (.arrayOver (.object C) : Cond) ∈ lw_tbl) (ht : wa_aty[t]? = some (.object C)) (hx : Nx h q) (hz : z < 2 ^ 26) (hc : u + 1 ≤ R.cells) (hs : n + z ≤ R.slots)
    (k : WA G y cc nL ret R mc ms K (u + 1) (n + z) (pc + 3) L (.ref q :: st) (hset h q (.inl (t, z, .inr (.inr (.inr (.inr (fun _ => none)))))))) : WA G y cc nL ret R mc ms K u n pc L (.int (nI z) :: st) h := by
  intro l p e s m args below meth c H locs ls a r hl hf
  obtain ⟨hx0, hb0, hml, hown, hts, hK, hlk, hrt, g, hnm, hkx⟩ := id a
  have e1 := hx.ad r g
  refine W.anew hx0 hb0 hown (hts _ w1) (va_AO.use (hkx.2.1 C w2)) rfl d rfl (nI_pos (by omega)) (by rw [nI_clamp (by omega)]; omega) hc (by rw [nI_clamp (by omega)]; exact hs) fun cA kA comp f1 f2 f3 f4 => ?_
  rw [nI_clamp (show z < 2 ^ 31 by omega)]
  obtain ⟨-, -, -, -, -, hra⟩ := (hK.2 t _ (tys_at G ht)).2
  have hcA : cA = gA G t := Option.some.inj (f1.symm.trans hra)
  subst hcA
  generalize hH1 : H.push ({ cls := gA G t, slots := Array.replicate z .null, vm := .none } : Cell) = H1
  have z1 : H1.size = H.size + 1 := by rw [← hH1, Array.size_push]
  have o1 : ∀ b : Nat, b < H.size → H1[b]? = H[b]? := fun b hb => by rw [← hH1, Array.getElem?_push, if_neg (Nat.ne_of_lt hb)]
  have hat : va_at (gD G) classes (H.size, cvE G (.inl (t, z, .inr (.inr (.inr (.inr (fun _ => none))))))) H1 := by
    show H1[H.size]? = some (arrV (gA G t) z (fun _ => .null))
    rw [← hH1, Array.getElem?_push_size, ← arrV_new]
  have hk := k l p e s m args below meth c H1 locs ls a (r.push g hx z1 hat o1) hl hf
  rw [List.map_cons, show cv G (.ref q) = .ref (ad G q) from rfl, e1] at hk
  exact hk
theorem A_copyI {q0 q1 n0 n1 sp dp z index : Nat} {f f1 : Nat → Int32} (d : decode cc pc = .ok (.invokestatic index, 3)) (w1 : (.methodLink y.cls index arraycopyName : Cond) ∈ lw_g) (w2 : (.native arraycopyName : Cond) ∈ lw_g) (w3 : (.static arraycopyName : Cond) ∈ lw_g) (w4 : (.initialized "java/lang/System" : Cond) ∈ lw_g) (h0 : h q0 = some (.inl (0, n0, .inl f))) (h1 : h q1 = some (.inl (0, n1, .inl f1))) (hge : 1000 ≤ q1) (hz : sp + z ≤ n0 ∧ dp + z ≤ n1 ∧ n0 < 2 ^ 31 ∧ n1 < 2 ^ 31) (hR : 1 ≤ R.frames) (hW : (st.map fun v => v.category).sum + (nativeFrameWords "java/lang/System" "arraycopy" 5 + 11) ≤ R.locals)
    (k : WA G y cc nL ret R mc ms K u n (pc + 3) L st (hset h q1 (.inl (0, n1, .inl (va_cpy f f1 sp dp z))))) : WA G y cc nL ret R mc ms K u n pc L (.int (nI z) :: .int (nI dp) :: .ref q1 :: .int (nI sp) :: .ref q0 :: st) h := by
  intro l p e s m args below meth c H locs ls a r hl hf
  obtain ⟨hx0, hb0, hml, hown, hts, hK, hlk, hrt, g, hnm, hkx⟩ := id a
  have c0 : nI sp = nI sp := rfl
  have k1 := nI_clamp (show sp < 2 ^ 31 by omega)
  have k2 := nI_clamp (show dp < 2 ^ 31 by omega)
  have k3 := nI_clamp (show z < 2 ^ 31 by omega)
  have t1 := nI_toInt (show sp < 2 ^ 31 by omega)
  have t2 := nI_toInt (show dp < 2 ^ 31 by omega)
  have t3 := nI_toInt (show z < 2 ^ 31 by omega)
  intro T hT X
  obtain ⟨cs, hc0, ⟨hst0, k0, hk0, cm0, hkk0⟩, kn0, sz0, -, sl0⟩ := r.ints hkx (fun v => (hK.2 0 _ (tys_at G rfl)).1 n0 v) (.inl ⟨rfl, rfl⟩) h0
  have hc1 : H[ad G q1]? = some (vp_cell (gA G 0) (n1, .inl f1)) := r.at hge h1
  obtain ⟨-, k9, hk9, cm9, hkk9⟩ := (hK.2 0 _ (tys_at G rfl)).1 n1 (fun j => .int (f1 j))
  obtain ⟨vm', X', step⟩ := X.arraycopy hx0 hown (hts _ w1) (hts _ w2) (hts _ w3) (hts _ w4) (src := ad G q0) (dst := ad G q1) (cs := cs) (cd := vp_cell (gA G 0) (n1, .inl f1)) (srcPos := nI sp) (destPos := nI dp) (n := nI z) (by rw [hT]; exact hc0) (by rw [hT]; exact hc1)
    hst0 (fun _ h => by cases h) kn0 (fun h => by cases h) hk0 hk9 hkk0 hkk9 (by simp [show refKind .int = false from rfl]) (nI_pos (by omega)) (nI_pos (by omega)) (nI_pos (by omega))
    (by rw [t1, t3]; omega)
    (by rw [t2, t3]; show ¬ _ > ((arrV _ n1 (fun j => .int (f1 j))).slots.size : Int); rw [arrV_size]; omega)
    (fun vm₁ _ i hi => by
      have e : cs.slots.getD ((nI sp).toNatClampNeg + i) .null = .int (f ((nI sp).toNatClampNeg + i)) := by
        rw [Array.getD_eq_getD_getElem?, sl0 _ (by omega)]
        rfl
      refine ⟨?_, ?_⟩
      · rw [e]
        rfl
      · rw [e]
        exact trivial)
    (g := F0 m pc ls (.int (nI z) :: .int (nI dp) :: .ref (ad G q1) :: .int (nI sp) :: .ref (ad G q0) :: st.map (cv G))) rfl (by show ls.size = _; rw [hml]; exact hl.2.1) (rest := st.map (cv G)) rfl (by rw [hb0]; exact d) hR (by show 2 * 0 + _ + _ ≤ _; rw [cat_map]; omega)
  have e1 : copied cs (vp_cell (gA G 0) (n1, .inl f1)) (nI sp) (nI dp) (nI z) = vp_cell (gA G 0) (n1, .inl (va_cpy f f1 sp dp z)) := by
    have := va_copiedX (fun z => Value.int z) cs (gA G 0) f f1 (sp := sp) (dp := dp) (n := z) (n0 := n0) (n1 := n1) sl0 (by omega)
    unfold copied
    rw [k1, k2, k3]
    exact this
  rw [e1] at X' step
  have hlt : ad G q1 < H.size := (Array.getElem?_eq_some_iff.mp hc1).1
  have hheap : ((T.setVm vm').setCell (ad G q1) (vp_cell (gA G 0) (n1, .inl (va_cpy f f1 sp dp z)))).heap = H.setIfInBounds (ad G q1) (vp_cell (gA G 0) (n1, .inl (va_cpy f f1 sp dp z))) := by rw [← hT]; rfl
  have oq : ∀ q : Nat, q ≠ ad G q1 → (H.setIfInBounds (ad G q1) (vp_cell (gA G 0) (n1, .inl (va_cpy f f1 sp dp z))))[q]? = H[q]? := fun q hq => by simp [Array.getElem?_setIfInBounds, Ne.symm hq]
  have hr := r.set g h1 hge (e := .inl (0, n1, .inl (va_cpy f f1 sp dp z))) (show (H.setIfInBounds (ad G q1) _).size = H.size by simp) (show (H.setIfInBounds (ad G q1) _)[ad G q1]? = some (vp_cell (gA G 0) (n1, .inl (va_cpy f f1 sp dp z))) by simp [Array.getElem?_setIfInBounds, hlt]) oq
  obtain ⟨t, a1, b1⟩ := k l p e s m args below meth c _ _ ls a hr hl (fun q hq => by
      rcases List.mem_append.mp hq with h | h
      · exact hf q h
      · obtain ⟨w, -, hw⟩ := List.mem_map.mp h
        rw [← hw]
        show (gH G).size ≤ ad G q1
        rw [g q1 hge]
        omega) _ hheap X'
  exact ⟨t, step t a1, b1⟩
theorem A_aast {q w t ci v i N : Nat} {C : String} {T : u_T} {fs : List Value} {f : Nat → Option Nat} (d : decode cc pc = .ok (.aastore, 1)) (hq : h q = some (.inl (t, w, .inr (.inr (.inr (.inr f)))))) (ht : wa_aty[t]? = some (.object C)) (hv : h v = some (.inr (ci, fs))) (hc : classes[ci]? = some (C, T, N)) (hi : i < w ∧ w < 2 ^ 31) (hge : 1000 ≤ q)
    (k : WA G y cc nL ret R mc ms K u n (pc + 1) L st (hset h q (.inl (t, w, .inr (.inr (.inr (.inr (fup f i (some v))))))))) : WA G y cc nL ret R mc ms K u n pc L (.ref v :: .int (nI i) :: .ref q :: st) h := by
  intro l p e s m args below meth c H locs ls a r hl hf
  obtain ⟨hx0, hb0, hml, hown, hts, hK, hlk, hrt, g, hnm, hkx⟩ := id a
  have hP := r.one (r.hiO hkx hv) hv
  obtain ⟨r', hr', cellV, g1, g2, g3, -⟩ := hP 0 _ rfl
  have hcls := (hK.1 ci _ hc).2
  obtain ⟨kA, comp, k1, k2, k3, -⟩ := (hK.2 t _ (tys_at G ht)).2
  have hcomp : comp = (gD G).1 ci := Option.some.inj (k3.symm.trans hcls.1)
  subst hcomp
  obtain ⟨kC, hkC, -⟩ := hcls.2
  have hcq : H[ad G q]? = some (vp_cell (gA G t) (cvA G (w, .inr (.inr (.inr (.inr f)))))) := r.at hge hq
  refine W.aast hx0 hb0 hcq (fun q h => by cases h) (fun h => by cases h) k1 k2 rfl hkC ⟨nI_pos (by omega), by rw [nI_clamp (by omega)]; show _ < (arrV _ w _).slots.size; rw [arrV_size]; exact hi.1⟩ g1 (fun q h => by rw [g3] at h; cases h) (by rw [g2]; exact hkC) (by rw [g2]; exact va_assign hcls) rfl rfl d fun H1 e1 z1 oq => ?_
  have hat : va_at (gD G) classes (ad G q, cvE G (.inl (t, w, .inr (.inr (.inr (.inr (fup f i (some v)))))))) H1 := by
    show H1[ad G q]? = some (vp_cell (gA G t) (w, .inr (.inr (.inr (.inr (fun j => (fup f i (some v) j).map (ad G)))))))
    rw [e1]
    show some ((vp_cell (gA G t) (w, .inr (.inr (.inr (.inr (fun j => (f j).map (ad G))))))).setSlot _ _) = _
    rw [vp_cell_q, vp_cell_q, arrV_store, nI_clamp (by omega)]
    congr 2
    funext j
    by_cases hj : j = i
    · subst hj
      simp [updV, fup, va_rf]
    · simp [updV, fup, hj]
  refine k l p e s m args below meth c H1 _ ls a (r.set g hq hge z1 hat oq) hl (fun x hx => ?_)
  rcases List.mem_append.mp hx with z | z
  · exact hf x z
  · rw [List.mem_singleton.mp z]
    show (gH G).size ≤ ad G q
    rw [g q hge]
    omega
theorem A_gets {index : Nat} {C nm dd : String} {v : Value} (d : decode cc pc = .ok (.getstatic index, 3)) (hz : (C, nm, dd, v) ∈ wa_zs) (hw : (.fieldLink y.cls index C nm dd : Cond) ∈ lw_g) (k : WA G y cc nL ret R mc ms K u n (pc + 3) L (v :: st) h) : WA G y cc nL ret R mc ms K u n pc L st h := by
  intro l p e s m args below meth c H locs ls a r hl hf
  obtain ⟨hx0, hb0, hml, hown, hts, hK, hlk, hrt, g, hnm, hkx⟩ := id a
  obtain ⟨cf, kf, fi, f, a0, cell, h1, h2, h3, h4, h5, h6, h7, h8⟩ := hkx.2.2.2.1 _ hz
  exact W.gets hx0 hb0 hown (hts _ hw) h1 h2 h3 h4 (by rw [r.2.1 a0 (Array.getElem?_eq_some_iff.mp h5).1]; exact h5) (fun e => by rw [e] at h6; cases h6) h7 rfl d (k l p e s m args below meth c H locs ls a r hl hf)
/-- two dimensions of ints: the outer cell, then the rows -/
def hman (h : AH) (q N M : Nat) : Nat → AH
  | 0 => hset h q (.inl (4, N, .inr (.inr (.inr (.inr (fun i => if i < N then some (q + 1 + i) else none))))))
  | i + 1 => hset (hman h q N M i) (q + 1 + i) (.inl (0, M, .inl (fun _ => 0)))
def xman (x y : Cell) (H : Heap) : Nat → Heap
  | 0 => H.push x
  | i + 1 => (xman x y H i).push y
theorem xman_size (x y : Cell) (H : Heap) : ∀ i, (xman x y H i).size = H.size + 1 + i
  | 0 => by simp [xman]
  | i + 1 => by simp [xman, xman_size x y H i]; omega
theorem xman_old (x y : Cell) (H : Heap) {a : Nat} (ha : a < H.size) : ∀ i, (xman x y H i)[a]? = H[a]?
  | 0 => by rw [xman, Array.getElem?_push, if_neg (Nat.ne_of_lt ha)]
  | i + 1 => by rw [xman, Array.getElem?_push, if_neg (by rw [xman_size]; omega), xman_old x y H ha i]
theorem xman_out (x y : Cell) (H : Heap) : ∀ i, (xman x y H i)[H.size]? = some x
  | 0 => by simp [xman]
  | i + 1 => by rw [xman, Array.getElem?_push, if_neg (by rw [xman_size]; omega), xman_out x y H i]
theorem xman_in (x y : Cell) (H : Heap) : ∀ i j, j < i → (xman x y H i)[H.size + 1 + j]? = some y
  | i + 1, j, hj => by
    rw [xman, Array.getElem?_push, xman_size]
    by_cases e : H.size + 1 + j = H.size + 1 + i
    · rw [if_pos e]
    · rw [if_neg e, xman_in x y H i j (by omega)]
theorem Nx.hman {h : AH} {q N M : Nat} (x : Nx h q) : ∀ i, Nx (hman h q N M i) (q + 1 + i)
  | 0 => x.push _
  | i + 1 => (Nx.hman x i).push _
theorem ao_array {s : State} {c0 c4 : ClassId} (h : va_Nw (.arrayOver (.array .int)) s) (h0 : s.vm.findClass ("[" ++ FieldType.int.toString) = some c0) (h4 : s.vm.findClass ("[" ++ (FieldType.array .int).toString) = some c4) : ∃ k : Class, s.vm.classes[c4]? = some k ∧ k.kind = .array c0 (.array .int) := by
  have h' : (Cond.arrayOver (.array .int)).before #[] s = true := h
  have e0 : s.vm.findClass (FieldType.array .int).toString = some c0 := h0
  simp only [Cond.before, Cond.holds, Cond.value, beq_iff_eq, e0, Option.bind_some, Option.bind_eq_some_iff, Option.map_eq_some_iff] at h'
  obtain ⟨c, hc, k, hk, hb⟩ := h'
  have hk4 : k.kind = .array c0 (.array .int) ∧ s.vm.findClass ("[" ++ (FieldType.array .int).toString) = some c := by
    obtain ⟨hlt, hp, -⟩ := Array.findIdx?_eq_some_iff_getElem.mp hc
    rw [(Array.getElem?_eq_some_iff.mp hk).2] at hp
    cases hq : k.kind with
    | array a b =>
      rw [hq] at hb hp
      simp only [Bool.and_eq_true, decide_eq_true_eq, beq_iff_eq] at hb hp
      exact ⟨by rw [hb.1, hp], hb.2⟩
    | _ => rw [hq] at hb; cases hb
  have e : c4 = c := Option.some.inj (h4.symm.trans hk4.2)
  subst e
  exact ⟨k, hk, hk4.1⟩
/-- the outer cell of the array under making, i of its rows made -/
def mnC (cA : ClassId) (N h0 i : Nat) : Cell := arrV cA N (fun j => va_rf (if j < i then some (h0 + 1 + j) else none))
def mnS (T : State) (cA cB : ClassId) (N M : Nat) : Nat → State
  | 0 => T.pushCell (mnC cA N T.heap.size 0)
  | i + 1 => ((mnS T cA cB N M i).pushCell (arrV cB M (fun _ => .int 0))).setCell T.heap.size (mnC cA N T.heap.size (i + 1))
theorem xman_put (x x' y : Cell) (H : Heap) : ∀ i, (xman x y H i).setIfInBounds H.size x' = xman x' y H i
  | 0 => by
    refine Array.ext_getElem? fun j => ?_
    simp only [xman, Array.getElem?_setIfInBounds, Array.getElem?_push, Array.size_push]
    by_cases e : H.size = j
    · rw [if_pos e, if_pos (by omega), if_pos e.symm]
    · rw [if_neg e, if_neg (fun z => e z.symm), if_neg (fun z => e z.symm)]
  | i + 1 => by
    have ih := xman_put x x' y H i
    have hz := xman_size x y H i
    refine Array.ext_getElem? fun j => ?_
    rw [xman, xman, ← ih]
    simp only [Array.getElem?_setIfInBounds, Array.getElem?_push, Array.size_push, Array.size_setIfInBounds]
    by_cases e : H.size = j
    · subst e
      rw [if_pos rfl, if_pos (by omega), if_neg (by omega), if_pos rfl, if_pos (by omega)]
    · rw [if_neg e, if_neg e]
theorem mnS_facts (T : State) (cA cB : ClassId) (N M : Nat) : ∀ i, (mnS T cA cB N M i).heap = xman (mnC cA N T.heap.size i) (arrV cB M (fun _ => .int 0)) T.heap i ∧ (mnS T cA cB N M i).vm = T.vm ∧ (mnS T cA cB N M i).slotsUsed = T.slotsUsed + N + i * M
  | 0 => ⟨rfl, rfl, by simp [mnS, mnC, arrV_size]⟩
  | i + 1 => by
    obtain ⟨a, b, d⟩ := mnS_facts T cA cB N M i
    refine ⟨?_, by simp [mnS, b], by simp [mnS, d, Nat.succ_mul, arrV_size]; omega⟩
    show (((mnS T cA cB N M i).heap.push _).setIfInBounds T.heap.size _) = _
    rw [a]
    exact xman_put _ _ _ _ (i + 1)
theorem mnS_top (T : State) (f : JFrame) (cA cB : ClassId) (N M : Nat) : ∀ i, mnS (T.setTop f) cA cB N M i = (mnS T cA cB N M i).setTop f
  | 0 => rfl
  | i + 1 => by simp only [mnS, mnS_top T f cA cB N M i, State.heap_setTop, State.pushCell_setTop, State.setCell_setTop]
theorem mnC_put (cA : ClassId) (N h0 i : Nat) : (mnC cA N h0 i).setSlot i (.ref (h0 + 1 + i)) = mnC cA N h0 (i + 1) := by
  unfold mnC
  rw [arrV_store]
  refine congrArg (arrV cA N) (funext fun j => ?_)
  by_cases e : j = i
  · subst e
    simp [updV, va_rf]
  · by_cases h : j < i
    · simp [updV, e, h, Nat.lt_succ_of_lt h]
    · simp [updV, e, h, show ¬ j < i + 1 by omega]
theorem wp_row {E : CtlPost} {e : Env} {d : Bool} {acts : List Action} {s : State} {c comp : ClassId} {k : Class} {ty : FieldType} {len : Nat} {dv : Value} {cell : Cell} (hk : s.vm.classes[c]? = some k) (hkind : k.kind = .array comp ty) (h1 : ¬ len > e.platform.arrayLengthLimit) (h2 : ¬ len * componentBytes ty > e.platform.maxHeapBytes) (h3 : fits ty dv = true) (h4 : dv.isDefault = true) {Q : Addr → Pre} (h5 : s.heap.size < e.platform.maxCells) (h6 : s.slotsUsed + len ≤ e.platform.maxSlots) (hc : ({ cls := c, slots := Array.replicate len dv, vm := .none } : Cell) = cell)
    (hq : Q s.heap.size d acts (s.pushCell cell)) : wp (newArray c len dv) Q E e d acts s := by
  subst hc
  have a1 : allocActs (Array.replicate len dv) s.heap.size acts = acts := by
    unfold allocActs
    rw [if_pos]
    rw [Array.all_replicate]
    split <;> simp [h4]
  simp only [Jvm.newArray, Jvm.arrayFits, wp_bind', W.ask, W.ite, h1, if_false, wp_pure', W.theClass, hk, hkind, h2, W.alloc, W.stop, Option.some.injEq, exists_eq_left', Array.size_replicate, a1]
  rw [if_neg (by omega)]
  refine ⟨h5, h6, fun i v hv => ?_, hq⟩
  simp only [Array.getElem?_replicate] at hv
  split at hv
  · cases hv
    simp [State.fitsSlot, State.slotType?, hk, hkind, h3]
  · cases hv
theorem Stand_mn {p : Program} {l : Launch} {e : Env} {R : Room} {s : State} {m : MethodId} {args : Array Value} {below : List Frame} {meth : Method} {c : Code} {T : State} {locs : List Loc} {u n : Nat} (X : Stand p l e R s m args below meth c T locs u n) (cA cB : ClassId) (N M : Nat) : ∀ i, Stand p l e R s m args below meth c (mnS T cA cB N M i) (locs ++ (List.range i).map fun j => ⟨T.heap.size, j⟩) (u + 1 + i) (n + N + i * M)
  | 0 => by
    have h := X.pushed (mnC cA N T.heap.size 0)
    rw [show (mnC cA N T.heap.size 0).slots.size = N from arrV_size _ _ _] at h
    simpa [mnS] using h
  | i + 1 => by
    have Xi := Stand_mn X cA cB N M i
    obtain ⟨f1, f2, f3⟩ := mnS_facts T cA cB N M i
    have hc : ((mnS T cA cB N M i).pushCell (arrV cB M (fun _ => .int 0))).heap[T.heap.size]? = some (mnC cA N T.heap.size i) := by
      show ((mnS T cA cB N M i).heap.push _)[T.heap.size]? = _
      rw [f1]
      exact xman_out _ _ _ (i + 1)
    have h := (Xi.pushed (arrV cB M (fun _ => .int 0))).stored hc i (.ref (T.heap.size + 1 + i))
    rw [mnC_put, arrV_size] at h
    have e2 : (locs ++ (List.range (i + 1)).map fun j => (⟨T.heap.size, j⟩ : Loc)) = (locs ++ (List.range i).map fun j => (⟨T.heap.size, j⟩ : Loc)) ++ [⟨T.heap.size, i⟩] := by simp [List.range_succ, List.append_assoc]
    have e3 : n + N + (i + 1) * M = n + N + i * M + M := by rw [Nat.succ_mul]; omega
    rw [e2, e3]
    exact h
theorem wp_mn {E : CtlPost} {e : Env} {d : Bool} {acts : List Action} {s : State} {c cB cc : ClassId} {k kc : Class} {N M : Nat} (hk : s.vm.classes[c]? = some k) (hkind : k.kind = .array cB (.array .int)) (hkc : s.vm.classes[cB]? = some kc) (hkindc : kc.kind = .array cc .int) (hN : N < 2 ^ 26) (hM : M < 2 ^ 26)
    (hl1 : ¬ N > e.platform.arrayLengthLimit) (hh1 : ¬ N * 4 > e.platform.maxHeapBytes) (hl2 : ¬ M > e.platform.arrayLengthLimit) (hh2 : ¬ M * 4 > e.platform.maxHeapBytes) (hc : s.heap.size + 1 + N ≤ e.platform.maxCells) (hs : s.slotsUsed + N + N * M ≤ e.platform.maxSlots)
    {Q : Addr → Pre} (hq : ∀ d' acts', Q s.heap.size d' acts' (mnS s c cB N M N)) : wp (multianewarray.make c [nI N, nI M]) Q E e d acts s := by
  have k1 := nI_clamp (show N < 2 ^ 31 by omega)
  have k2 := nI_clamp (show M < 2 ^ 31 by omega)
  have p1 : ¬ nI N < 0 := nI_pos (by omega)
  have p2 : ¬ nI M < 0 := nI_pos (by omega)
  have hfind : ([nI M].find? (· < 0)) = none := by simp [p2]
  rw [multianewarray.make]
  simp only [wp_bind', W.ite, p1, if_false, wp_pure', W.theClass, hk, hkind, Option.some.injEq, exists_eq_left', k1]
  refine wp_row hk hkind hl1 hh1 rfl rfl (by omega) (by have := Nat.zero_le (N * M); omega) (cell := mnC c N s.heap.size 0) ?_ ?_
  · rw [arrV_new]
    exact congrArg (arrV c N) (funext fun j => by simp [va_rf])
  simp only [hfind]
  rw [ite_self, wp_bind', Std.Legacy.Range.forIn_eq_forIn_range']
  rw [show ([:N] : Std.Legacy.Range).size = N by simp [Std.Legacy.Range.size]]
  show wp (forIn (List.range' 0 N 1) PUnit.unit _) _ E e d acts _
  refine wp_forIn_inv (fun rest s' => ∃ i, i ≤ N ∧ rest = List.range' i (N - i) ∧ s' = mnS s c cB N M i) _ _ ⟨0, Nat.zero_le _, rfl, rfl⟩ ?_ ?_
  · rintro x rest s' d' acts' Q' ⟨i, hi, hl, rfl⟩ hnext
    have hlt : i < N := by
      rcases Nat.lt_or_ge i N with h | h
      · exact h
      · rw [show N - i = 0 from by omega] at hl
        simp at hl
    rw [show N - i = (N - (i + 1)) + 1 from by omega, List.range'_succ] at hl
    obtain ⟨rfl, hrest⟩ := List.cons.inj hl
    obtain ⟨f1, f2, f3⟩ := mnS_facts s c cB N M x
    have hmul : x * M + M ≤ N * M := by
      have := Nat.mul_le_mul_right M (show x + 1 ≤ N from hlt)
      rw [Nat.succ_mul] at this
      exact this
    have hz := xman_size (mnC c N s.heap.size x) (arrV cB M (fun _ => .int 0)) s.heap x
    simp only [wp_bind']
    rw [multianewarray.make]
    simp only [wp_bind', W.ite, p2, if_false, wp_pure', W.theClass, f2, hkc, hkindc, Option.some.injEq, exists_eq_left', k2]
    refine wp_row (by rw [f2]; exact hkc) hkindc hl2 hh2 rfl rfl (by rw [f1]; omega) (by rw [f3]; omega) (cell := arrV cB M (fun _ => .int 0)) (by rw [arrV_new]; rfl) ?_
    simp only [wp_bind', W.writeLoc, wp_pure']
    refine ⟨mnC c N s.heap.size x, ?_, by simp [mnC, arrV], by show x < (arrV _ N _).slots.size; rw [arrV_size]; exact hlt, ?_, hnext _ _ _ ⟨x + 1, hlt, hrest, ?_⟩⟩
    · show ((mnS s c cB N M x).heap.push _)[s.heap.size]? = _
      rw [f1]
      exact xman_out _ _ _ (x + 1)
    · simp [State.fitsSlot, State.slotType?, f2, hk, hkind, mnC, arrV, fits]
    · rw [f1, hz, mnC_put]
      rfl
  · rintro s' d' acts' ⟨i, hi, hl, rfl⟩
    have hiN : i = N := by
      rcases Nat.lt_or_ge i N with h | h
      · rw [show N - i = (N - (i + 1)) + 1 from by omega, List.range'_succ] at hl
        cases hl
      · omega
    subst hiN
    simp only [wp_pure']
    exact hq _ _
theorem A_mna {q N M index : Nat} (d : decode cc pc = .ok (.multianewarray index 2, 4)) (w1 : (.classLink y.cls index "[[I" : Cond) ∈ lw_g) (hx' : Nx h q) (hz : N < 2 ^ 26 ∧ M < 2 ^ 26) (hc : u + 1 + N ≤ R.cells) (hs : n + N + N * M ≤ R.slots)
    (k : WA G y cc nL ret R mc ms K (u + 1 + N) (n + N + N * M) (pc + 4) L (.ref q :: st) (hman h q N M N)) : WA G y cc nL ret R mc ms K u n pc L (.int (nI M) :: .int (nI N) :: st) h := by
  intro l p e s m args below meth c H locs ls a r hl hf
  obtain ⟨hx0, hb0, hml, hown, hts, hK, hlk, hrt, g, hnm, hkx⟩ := id a
  have e1 := hx'.ad r g
  have k1 := nI_clamp (show N < 2 ^ 31 by omega)
  have k2 := nI_clamp (show M < 2 ^ 31 by omega)
  intro T hT Xs
  obtain ⟨b0, b4⟩ : s.vm.findClass ("[" ++ FieldType.int.toString) = some (gA G 0) ∧ s.vm.findClass ("[" ++ (FieldType.array .int).toString) = some (gA G 4) := ⟨(hK.2 0 _ (tys_at G rfl)).2, (hK.2 4 _ (tys_at G rfl)).2⟩
  obtain ⟨ko, o1, o2⟩ := ao_array hkx.2.2.1 b0 b4
  obtain ⟨ca, kr, cc0, r1, r2, r3⟩ := Cond.arrayClass_spec (hts _ q_140)
  cases b0.symm.trans r1
  obtain ⟨c0, hfc0, hcl⟩ := Cond.classLink_spec hown (hts _ w1) e.platform (by rw [Xs.admits.platform])
  have c04 : c0 = gA G 4 := Option.some.inj (hfc0.symm.trans b4)
  subst c04
  obtain ⟨hg₁, hwarm₁, hready₁⟩ := State.classEntry (e := e) Xs.warmed hcl
  generalize T.vm.noted m.cls index (.cls (gA G 4)) = vm₁ at hg₁ hwarm₁ hready₁
  obtain ⟨ko', o1', eo⟩ := hwarm₁.alike.2.2 _ _ o1
  obtain ⟨kr', r2', er⟩ := hwarm₁.alike.2.2 _ _ r2
  have o2' : ko'.kind = .array (gA G 0) (.array .int) := by rw [eo]; exact o2
  have r3' : kr'.kind = .array cc0 .int := by rw [er]; exact r3
  have X₁ := Xs.noted hwarm₁
  obtain ⟨hr1, hr2⟩ := Xs.roomAbove (a := 1 + N) (b := N + N * M) (by omega) (by omega)
  have XF := Stand_mn X₁ (gA G 4) (gA G 0) N M N
  have hf1 := (mnS_facts (T.setVm vm₁) (gA G 4) (gA G 0) N M N).1
  subst hT
  have hh : (T.setVm vm₁).heap = T.heap := rfl
  rw [hh] at hf1
  have hR : ∀ i, i ≤ N → Rep G (hman h q N M i) (xman (mnC (gA G 4) N T.heap.size N) (arrV (gA G 0) M (fun _ => .int 0)) T.heap i) := by
    intro i
    induction i with
    | zero =>
      intro _
      refine r.push g hx' (xman_size _ _ _ 0) ?_ (fun a ha => xman_old _ _ _ ha 0)
      show (xman _ _ T.heap 0)[T.heap.size]? = some (vp_cell (gA G 4) (N, .inr (.inr (.inr (.inr (fun i => (if i < N then some (q + 1 + i) else none).map (ad G)))))))
      rw [xman_out, vp_cell_q]
      refine congrArg (fun f => some (arrV (gA G 4) N f)) (funext fun j => congrArg va_rf ?_)
      by_cases v : j < N
      · rw [if_pos v, if_pos v]
        show _ = some (ad G (q + 1 + j))
        have := hx'.1
        have a1 := g q hx'.1
        have a2 := g (q + 1 + j) (by omega)
        rw [show T.heap.size + 1 + j = ad G (q + 1 + j) by omega]
      · rw [if_neg v, if_neg v]
        rfl
    | succ i ih =>
      intro hi
      have rr := ih (by omega)
      refine rr.push g (hx'.hman i) (by rw [xman_size, xman_size]; omega) ?_ (fun a ha => ?_)
      · show (xman _ _ T.heap (i + 1))[(xman _ _ T.heap i).size]? = some (arrV (gA G 0) M (fun _ => .int 0))
        rw [xman]
        simp
      · rw [xman, Array.getElem?_push, if_neg (by omega)]
  have hk := k l p e s m args below meth c _ (locs ++ (List.range N).map fun j => ⟨T.heap.size, j⟩) ls a (hR N (Nat.le_refl _)) hl (fun x hx => by
    rcases List.mem_append.mp hx with z | z
    · exact hf x z
    · obtain ⟨j, -, rfl⟩ := List.mem_map.mp z
      show (gH G).size ≤ T.heap.size
      have := g q hx'.1
      omega)
  rw [List.map_cons, show cv G (.ref q) = .ref (ad G q) from rfl, e1] at hk
  obtain ⟨t, a1, b1'⟩ := hk _ hf1 XF
  refine ⟨t, ?_, b1'⟩
  obtain ⟨fr, hfr⟩ : ∃ fr : JFrame, fr = F0 m pc ls ((Value.int (nI M) :: .int (nI N) :: st).map (cv G)) := ⟨_, rfl⟩
  rw [← hfr]
  have hd : decode c.code fr.pc = .ok (.multianewarray index 2, 4) := by rw [hfr, hb0]; exact d
  have hm' : fr.method = m := by rw [hfr]
  have hst : fr.stack = .int (nI M) :: .int (nI N) :: st.map (cv G) := by rw [hfr]; rfl
  rw [← hm'] at hg₁
  have hh0 : At T fr.method c below := by rw [hm']; exact Xs.here
  have hhF : At (mnS (T.setVm vm₁) (gA G 4) (gA G 0) N M N) fr.method c below := by rw [hm']; exact XF.here
  jvm_step hh0 [hx0, hd]
  simp only [multianewarray.sem, wp_bind', W.resolveClassAt_links (State.method?_setTop fr hh0.top) hg₁]
  rw [W.popN, if_neg (by decide)]
  refine ⟨fr, State.topJava?_setTop' (s := T.setVm vm₁) fr hh0.top, [.int (nI N), .int (nI M)], st.map (cv G), rfl, hst, ?_⟩
  simp only [List.mapM_cons, List.mapM_nil, wp_bind', wp_pure']
  have hw1 : vm₁.classes[gA G 4]? = some ko' := o1'
  have hw2 : vm₁.classes[gA G 0]? = some kr' := r2'
  have hal1 : ¬ N > e.platform.arrayLengthLimit := by rw [Launch.admits_arrayLengthLimit Xs.admits]; omega
  have hal2 : ¬ N * 4 > e.platform.maxHeapBytes := by rw [Launch.admits_maxHeapBytes Xs.admits]; omega
  have hal3 : ¬ M > e.platform.arrayLengthLimit := by rw [Launch.admits_arrayLengthLimit Xs.admits]; omega
  have hal4 : ¬ M * 4 > e.platform.maxHeapBytes := by rw [Launch.admits_maxHeapBytes Xs.admits]; omega
  refine wp_mn (k := ko') (kc := kr') (cB := gA G 0) (cc := cc0) hw1 o2' hw2 r3' hz.1 hz.2 hal1 hal2 hal3 hal4 (by show T.heap.size + 1 + N ≤ _; omega) (by show T.slotsUsed + N + N * M ≤ _; omega) (fun d' acts' => ?_)
  have eS : ((T.setTop fr).setVm vm₁).setTop { fr with stack := st.map (cv G) } = (T.setVm vm₁).setTop { fr with stack := st.map (cv G) } := by
    show ((T.setVm vm₁).setTop fr).setTop _ = _
    rw [State.setTop_setTop]
  rw [eS, mnS_top]
  simp only [wp_bind', W.mark, W.pushRef, State.topJava?_setTop' _ hhF.top, Option.some.injEq, exists_eq_left', State.setTop_setTop, State.heap_setTop]
  intro acts
  simp [jvm, hhF.top]
  have hF0 : F0 m (pc + 4) ls (.ref T.heap.size :: st.map (cv G)) = { fr with pc := fr.pc + 4, stack := .ref T.heap.size :: st.map (cv G) } := by rw [hfr]
  rw [hF0] at a1
  exact a1
end MAKE
