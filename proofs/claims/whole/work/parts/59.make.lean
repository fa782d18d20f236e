section MAKE
variable {G : GE} {y : MethodName} {cc : ByteArray} {nL : Nat} {ret : Option FieldType} {R : Room} {mc ms : Nat} {K : Option Value → AH → Prop} {u n pc : Nat} {L : List (Option Value)} {st : List Value} {h : AH}
theorem A_newa {t q z : Nat} {ty : FieldType} {atype : ArrayType} {x : vp_A} (d : decode cc pc = .ok (.newarray atype, 2)) (w : (.arrayClass (newarray.typeOf atype) : Cond) ∈ lw_g) (hty : newarray.typeOf atype = ty) (ht : wa_aty[t]? = some ty) (hno : ∀ C, ty ≠ .object C) (hx : Nx h q) (hcell : ∀ cA : ClassId, vp_cell cA (cvA G x) = arrV cA z (fun _ => defaultValue ty)) (hb : z * componentBytes ty ≤ 536870912) (hz : z < 2 ^ 31) (hc : u + 1 ≤ R.cells) (hs : n + z ≤ R.slots)
    (k : WA G y cc nL ret R mc ms K (u + 1) (n + z) (pc + 2) L (.ref q :: st) (hset h q (.inl (t, x)))) : WA G y cc nL ret R mc ms K u n pc L (.int (nI z) :: st) h := by
  intro l p e s m args below meth c H locs ls a r hl hf
  obtain ⟨hx0, hb0, hml, hown, hts, hK, hlk, hrt, g, hnm, hkx⟩ := id a
  have e1 := hx.ad r g
  subst hty
  refine va_newaK hx0 hb0 (hts _ w) rfl d rfl (nI_pos hz) (nI_clamp hz) hb hc hs rfl fun H1 cA c1 z1 o1 hAr hNm => ?_
  have hra := (hK.2 t _ (tys_at G ht)).2
  have hcA : cA = gA G t := by
    have h2 : s.vm.findClass ("[" ++ (newarray.typeOf atype).toString) = some (gA G t) := by
      cases atype <;> exact hra
    exact Option.some.inj (hNm.symm.trans h2)
  subst hcA
  have hat : va_at (gD G) classes (H.size, cvE G (.inl (t, x))) H1 := by
    show H1[H.size]? = some (vp_cell (gA G t) (cvA G x))
    rw [hcell]
    exact c1
  have hk := k l p e s m args below meth c H1 locs ls a (r.push g hx z1 hat o1) hl hf
  rw [List.map_cons, show cv G (.ref q) = .ref (ad G q) from rfl, e1] at hk
  exact hk
theorem A_newo {q ci N index : Nat} {C : String} {T : u_T} {t0 : Nat → FieldType} {fs : List Value} (d : decode cc pc = .ok (.new index, 3)) (ok : ClsOK ci C T N t0) (w1 : (.classLink y.cls index C : Cond) ∈ lw_g) (w2 : (.instantiable C N : Cond) ∈ lw_g) (w3 : (.initialized C : Cond) ∈ lw_g) (hx : Nx h q) (hfs : ∀ j, j < N → defaultValue (t0 j) = vp_V (fs.map (cv G)) j) (hc : u + 1 ≤ R.cells) (hs : n + N ≤ R.slots)
    (k : WA G y cc nL ret R mc ms K (u + 1) (n + N) (pc + 3) L (.ref q :: st) (hset h q (.inr (ci, fs)))) : WA G y cc nL ret R mc ms K u n pc L st h := by
  intro l p e s m args below meth c H locs ls a r hl hf
  obtain ⟨hx0, hb0, hml, hown, hts, hK, hlk, hrt, g, hnm, hkx⟩ := id a
  have e1 := hx.ad r g
  have hKn := hK.1 ci _ ok.1
  refine W.newcK hx0 hb0 hown (hts _ w1) (hts _ w2) (hts _ w3) rfl d hc hs hKn.2.1 rfl fun H1 kC hkC c1 z1 o1 => ?_
  have hat : va_at (gD G) classes (H.size, cvE G (.inr (ci, fs))) H1 := ⟨_, ok.1, (u_born t0 hts ok.2.1 hKn hkC c1 ok.2.2.1).to hfs⟩
  have hk := k l p e s m args below meth c H1 locs ls a (r.push g hx z1 hat o1) hl hf
  rw [List.map_cons, show cv G (.ref q) = .ref (ad G q) from rfl, e1] at hk
  exact hk
theorem A_anew {t q z index : Nat} {C : String} (d : decode cc pc = .ok (.anewarray index, 3)) (w1 : (.classLink y.cls index C : Cond) ∈ lw_g) (w2 : (.arrayOver (.object C) : Cond) ∈ lw_tbl) (ht : wa_aty[t]? = some (.object C)) (hx : Nx h q) (hz : z < 2 ^ 26) (hc : u + 1 ≤ R.cells) (hs : n + z ≤ R.slots)
    (k : WA G y cc nL ret R mc ms K (u + 1) (n + z) (pc + 3) L (.ref q :: st) (hset h q (.inl (t, z, .inr (.inr (.inr (.inr (fun _ => none)))))))) : WA G y cc nL ret R mc ms K u n pc L (.int (nI z) :: st) h := by
  intro l p e s m args below meth c H locs ls a r hl hf
  obtain ⟨hx0, hb0, hml, hown, hts, hK, hlk, hrt, g, hnm, hkx⟩ := id a
  have e1 := hx.ad r g
  refine W.anew hx0 hb0 hown (hts _ w1) (va_AO.use (hkx.2.1 C w2)) rfl d rfl (nI_pos (by omega)) (by rw [nI_clamp (by omega)]; omega) hc (by rw [nI_clamp (by omega)]; exact hs) fun cA kA comp f1 f2 f3 f4 => ?_
  rw [nI_clamp (show z < 2 ^ 31 by omega)]
  obtain ⟨-, -, -, -, -, hra⟩ := (hK.2 t _ (tys_at G ht)).2
  have hcA : cA = gA G t := Option.some.inj (f1.symm.trans hra)
  subst hcA
  generalize hH1 : H.push ({ cls := gA G t, slots := Array.replicate z .null, vm := .none } : Cell) = H1
  have z1 : H1.size = H.size + 1 := by rw [← hH1, Array.size_push]
  have o1 : ∀ b : Nat, b < H.size → H1[b]? = H[b]? := fun b hb => by rw [← hH1, Array.getElem?_push, if_neg (Nat.ne_of_lt hb)]
  have hat : va_at (gD G) classes (H.size, cvE G (.inl (t, z, .inr (.inr (.inr (.inr (fun _ => none))))))) H1 := by
    show H1[H.size]? = some (arrV (gA G t) z (fun _ => .null))
    rw [← hH1, Array.getElem?_push_size, ← arrV_new]
  have hk := k l p e s m args below meth c H1 locs ls a (r.push g hx z1 hat o1) hl hf
  rw [List.map_cons, show cv G (.ref q) = .ref (ad G q) from rfl, e1] at hk
  exact hk
theorem A_copyI {q0 q1 n0 n1 sp dp z index : Nat} {f f1 : Nat → Int32} (d : decode cc pc = .ok (.invokestatic index, 3)) (w1 : (.methodLink y.cls index arraycopyName : Cond) ∈ lw_g) (w2 : (.native arraycopyName : Cond) ∈ lw_g) (w3 : (.static arraycopyName : Cond) ∈ lw_g) (w4 : (.initialized "java/lang/System" : Cond) ∈ lw_g) (h0 : h q0 = some (.inl (0, n0, .inl f))) (h1 : h q1 = some (.inl (0, n1, .inl f1))) (hge : 1000 ≤ q1) (hz : sp + z ≤ n0 ∧ dp + z ≤ n1 ∧ n0 < 2 ^ 31 ∧ n1 < 2 ^ 31) (hR : 1 ≤ R.frames) (hW : (st.map fun v => v.category).sum + (nativeFrameWords "java/lang/System" "arraycopy" 5 + 11) ≤ R.locals)
    (k : WA G y cc nL ret R mc ms K u n (pc + 3) L st (hset h q1 (.inl (0, n1, .inl (va_cpy f f1 sp dp z))))) : WA G y cc nL ret R mc ms K u n pc L (.int (nI z) :: .int (nI dp) :: .ref q1 :: .int (nI sp) :: .ref q0 :: st) h := by
  intro l p e s m args below meth c H locs ls a r hl hf
  obtain ⟨hx0, hb0, hml, hown, hts, hK, hlk, hrt, g, hnm, hkx⟩ := id a
  have c0 : nI sp = nI sp := rfl
  have k1 := nI_clamp (show sp < 2 ^ 31 by omega)
  have k2 := nI_clamp (show dp < 2 ^ 31 by omega)
  have k3 := nI_clamp (show z < 2 ^ 31 by omega)
  have t1 := nI_toInt (show sp < 2 ^ 31 by omega)
  have t2 := nI_toInt (show dp < 2 ^ 31 by omega)
  have t3 := nI_toInt (show z < 2 ^ 31 by omega)
  intro T hT X
  have hc0 : H[ad G q0]? = some (vp_cell (gA G 0) (n0, .inl f)) := r.at h0
  have hc1 : H[ad G q1]? = some (vp_cell (gA G 0) (n1, .inl f1)) := r.at h1
  obtain ⟨-, k0, hk0, cm0, hkk0⟩ := (hK.2 0 _ (tys_at G rfl)).1 n0 (fun j => .int (f j))
  obtain ⟨-, k9, hk9, cm9, hkk9⟩ := (hK.2 0 _ (tys_at G rfl)).1 n1 (fun j => .int (f1 j))
  obtain ⟨vm', X', step⟩ := X.arraycopy hx0 hown (hts _ w1) (hts _ w2) (hts _ w3) (hts _ w4) (src := ad G q0) (dst := ad G q1) (cs := vp_cell (gA G 0) (n0, .inl f)) (cd := vp_cell (gA G 0) (n1, .inl f1)) (srcPos := nI sp) (destPos := nI dp) (n := nI z) (by rw [hT]; exact hc0) (by rw [hT]; exact hc1)
    (fun _ h => by cases h) (fun _ h => by cases h) (fun h => by cases h) (fun h => by cases h) hk0 hk9 hkk0 hkk9 (by simp [show refKind .int = false from rfl]) (nI_pos (by omega)) (nI_pos (by omega)) (nI_pos (by omega))
    (by rw [t1, t3]; show ¬ _ > ((arrV _ n0 (fun j => .int (f j))).slots.size : Int); rw [arrV_size]; omega)
    (by rw [t2, t3]; show ¬ _ > ((arrV _ n1 (fun j => .int (f1 j))).slots.size : Int); rw [arrV_size]; omega)
    (fun vm₁ _ i hi => by
      have e : (vp_cell (gA G 0) (n0, .inl f)).slots.getD ((nI sp).toNatClampNeg + i) .null = .int (f ((nI sp).toNatClampNeg + i)) := by
        show (arrV _ n0 (fun j => .int (f j))).slots.getD _ _ = _
        rw [Array.getD_eq_getD_getElem?, arrV_read _ _ (by omega)]
        rfl
      refine ⟨?_, ?_⟩
      · rw [e]
        rfl
      · rw [e]
        exact trivial)
    (g := F0 m pc ls (.int (nI z) :: .int (nI dp) :: .ref (ad G q1) :: .int (nI sp) :: .ref (ad G q0) :: st.map (cv G))) rfl (by show ls.size = _; rw [hml]; exact hl.2.1) (rest := st.map (cv G)) rfl (by rw [hb0]; exact d) hR (by show 2 * 0 + _ + _ ≤ _; rw [cat_map]; omega)
  have e1 : copied (vp_cell (gA G 0) (n0, .inl f)) (vp_cell (gA G 0) (n1, .inl f1)) (nI sp) (nI dp) (nI z) = vp_cell (gA G 0) (n1, .inl (va_cpy f f1 sp dp z)) := by
    have := va_copied (fun z => Value.int z) (gA G 0) (gA G 0) f f1 (sp := sp) (dp := dp) (n := z) (n0 := n0) (n1 := n1) (by omega)
    unfold copied
    rw [k1, k2, k3]
    exact this
  rw [e1] at X' step
  have hlt : ad G q1 < H.size := (Array.getElem?_eq_some_iff.mp hc1).1
  have hheap : ((T.setVm vm').setCell (ad G q1) (vp_cell (gA G 0) (n1, .inl (va_cpy f f1 sp dp z)))).heap = H.setIfInBounds (ad G q1) (vp_cell (gA G 0) (n1, .inl (va_cpy f f1 sp dp z))) := by rw [← hT]; rfl
  have oq : ∀ q : Nat, q ≠ ad G q1 → (H.setIfInBounds (ad G q1) (vp_cell (gA G 0) (n1, .inl (va_cpy f f1 sp dp z))))[q]? = H[q]? := fun q hq => by simp [Array.getElem?_setIfInBounds, Ne.symm hq]
  have hr := r.set g h1 hge (e := .inl (0, n1, .inl (va_cpy f f1 sp dp z))) (show (H.setIfInBounds (ad G q1) _).size = H.size by simp) (show (H.setIfInBounds (ad G q1) _)[ad G q1]? = some (vp_cell (gA G 0) (n1, .inl (va_cpy f f1 sp dp z))) by simp [Array.getElem?_setIfInBounds, hlt]) oq
  obtain ⟨t, a1, b1⟩ := k l p e s m args below meth c _ _ ls a hr hl (fun q hq => by
      rcases List.mem_append.mp hq with h | h
      · exact hf q h
      · obtain ⟨w, -, hw⟩ := List.mem_map.mp h
        rw [← hw]
        show (gH G).size ≤ ad G q1
        rw [g q1 hge]
        omega) _ hheap X'
  exact ⟨t, step t a1, b1⟩
theorem A_aast {q w t ci v i N : Nat} {C : String} {T : u_T} {fs : List Value} {f : Nat → Option Nat} (d : decode cc pc = .ok (.aastore, 1)) (hq : h q = some (.inl (t, w, .inr (.inr (.inr (.inr f)))))) (ht : wa_aty[t]? = some (.object C)) (hv : h v = some (.inr (ci, fs))) (hc : classes[ci]? = some (C, T, N)) (hi : i < w ∧ w < 2 ^ 31) (hge : 1000 ≤ q)
    (k : WA G y cc nL ret R mc ms K u n (pc + 1) L st (hset h q (.inl (t, w, .inr (.inr (.inr (.inr (fup f i (some v))))))))) : WA G y cc nL ret R mc ms K u n pc L (.ref v :: .int (nI i) :: .ref q :: st) h := by
  intro l p e s m args below meth c H locs ls a r hl hf
  obtain ⟨hx0, hb0, hml, hown, hts, hK, hlk, hrt, g, hnm, hkx⟩ := id a
  have hP := r.one hv
  obtain ⟨r', hr', cellV, g1, g2, g3, -⟩ := hP 0 _ rfl
  have hcls := (hK.1 ci _ hc).2
  obtain ⟨kA, comp, k1, k2, k3, -⟩ := (hK.2 t _ (tys_at G ht)).2
  have hcomp : comp = (gD G).1 ci := Option.some.inj (k3.symm.trans hcls.1)
  subst hcomp
  obtain ⟨kC, hkC, -⟩ := hcls.2
  have hcq : H[ad G q]? = some (vp_cell (gA G t) (cvA G (w, .inr (.inr (.inr (.inr f)))))) := r.at hq
  refine W.aast hx0 hb0 hcq (fun q h => by cases h) (fun h => by cases h) k1 k2 rfl hkC ⟨nI_pos (by omega), by rw [nI_clamp (by omega)]; show _ < (arrV _ w _).slots.size; rw [arrV_size]; exact hi.1⟩ g1 (fun q h => by rw [g3] at h; cases h) (by rw [g2]; exact hkC) (by rw [g2]; exact va_assign hcls) rfl rfl d fun H1 e1 z1 oq => ?_
  have hat : va_at (gD G) classes (ad G q, cvE G (.inl (t, w, .inr (.inr (.inr (.inr (fup f i (some v)))))))) H1 := by
    show H1[ad G q]? = some (vp_cell (gA G t) (w, .inr (.inr (.inr (.inr (fun j => (fup f i (some v) j).map (ad G)))))))
    rw [e1]
    show some ((vp_cell (gA G t) (w, .inr (.inr (.inr (.inr (fun j => (f j).map (ad G))))))).setSlot _ _) = _
    rw [vp_cell_q, vp_cell_q, arrV_store, nI_clamp (by omega)]
    congr 2
    funext j
    by_cases hj : j = i
    · subst hj
      simp [updV, fup, va_rf]
    · simp [updV, fup, hj]
  refine k l p e s m args below meth c H1 _ ls a (r.set g hq hge z1 hat oq) hl (fun x hx => ?_)
  rcases List.mem_append.mp hx with z | z
  · exact hf x z
  · rw [List.mem_singleton.mp z]
    show (gH G).size ≤ ad G q
    rw [g q hge]
    omega
theorem A_gets {index : Nat} {C nm dd : String} {v : Value} (d : decode cc pc = .ok (.getstatic index, 3)) (hz : (C, nm, dd, v) ∈ wa_zs) (hw : (.fieldLink y.cls index C nm dd : Cond) ∈ lw_g) (k : WA G y cc nL ret R mc ms K u n (pc + 3) L (v :: st) h) : WA G y cc nL ret R mc ms K u n pc L st h := by
  intro l p e s m args below meth c H locs ls a r hl hf
  obtain ⟨hx0, hb0, hml, hown, hts, hK, hlk, hrt, g, hnm, hkx⟩ := id a
  obtain ⟨cf, kf, fi, f, a0, cell, h1, h2, h3, h4, h5, h6, h7, h8⟩ := hkx.2.2.2.1 _ hz
  exact W.gets hx0 hb0 hown (hts _ hw) h1 h2 h3 h4 (by rw [r.2.1 a0 (Array.getElem?_eq_some_iff.mp h5).1]; exact h5) (fun e => by rw [e] at h6; cases h6) h7 rfl d (k l p e s m args below meth c H locs ls a r hl hf)
end MAKE
