/-- a class's table, and that its words are among the tables' -/
def ClsOK (ci : Nat) (C : String) (T : u_T) (N : Nat) (t0 : Nat → FieldType) : Prop := classes[ci]? = some (C, T, N) ∧ (∀ w ∈ u_ws C T N, w ∈ lw_g) ∧ (∀ k, k < N → parseFieldDescriptor (T k).2.2.1 = some (t0 k)) ∧ ∀ a, a < N → ∀ b, b < N → a ≠ b → (T a).2.1 ≠ (T b).2.1
theorem Rep.one {G : GE} {h : AH} {H : Heap} {q : Nat} {e : va_E} (r : Rep G h H) (hge : 1000 ≤ q) (hq : h q = some e) : va_P (gD G) classes [(ad G q, cvE G e)] H := by
  intro k x hx
  cases k with
  | zero => cases hx; exact r.2.2.2.1 q e hge hq
  | succ k => cases hx
theorem Rep.at {G : GE} {h : AH} {H : Heap} {q : Nat} {e : va_E} (r : Rep G h H) (hge : 1000 ≤ q) (hq : h q = some e) : va_at (gD G) classes (ad G q, cvE G e) H := r.2.2.2.1 q e hge hq
theorem Rep.hiO {G : GE} {h : AH} {H : Heap} {q ci : Nat} {fs : List Value} {s : State} (r : Rep G h H) (kx : KX G s) (hq : h q = some (.inr (ci, fs))) : 1000 ≤ q := by
  rcases Nat.lt_or_ge q 1000 with k | k
  · exact absurd (kx.2.2.2.2.2.2.2 q _ k (r.2.2.2.2 q _ k hq).1) (fun z => z)
  · exact k
theorem Rep.hiL {G : GE} {h : AH} {H : Heap} {q t w : Nat} {f : Nat → Int64} {s : State} (r : Rep G h H) (kx : KX G s) (hq : h q = some (.inl (t, w, .inr (.inl f)))) : 1000 ≤ q := by
  rcases Nat.lt_or_ge q 1000 with k | k
  · exact absurd (kx.2.2.2.2.2.2.2 q _ k (r.2.2.2.2 q _ k hq).1) (fun z => z)
  · exact k
theorem Rep.hiR {G : GE} {h : AH} {H : Heap} {q t w : Nat} {f : Nat → Option Nat} {s : State} (r : Rep G h H) (kx : KX G s) (hq : h q = some (.inl (t, w, .inr (.inr (.inr (.inr f)))))) : 1000 ≤ q := by
  rcases Nat.lt_or_ge q 1000 with k | k
  · exact absurd (kx.2.2.2.2.2.2.2 q _ k (r.2.2.2.2 q _ k hq).1) (fun z => z)
  · exact k
theorem Rep.hiZ {G : GE} {h : AH} {H : Heap} {q w : Nat} {f : Nat → Int32} {s : State} (r : Rep G h H) (kx : KX G s) (hq : h q = some (.inl (3, w, .inl f))) : 1000 ≤ q := by
  rcases Nat.lt_or_ge q 1000 with k | k
  · obtain ⟨ty, ⟨z, -⟩ | ⟨z, -⟩, -⟩ := kx.2.2.2.2.2.2.2 q _ k (r.2.2.2.2 q _ k hq).1
    · exact absurd z (by decide)
    · exact absurd z (by decide)
  · exact k
/-- an array of ints or bytes, old or new, as it is read -/
theorem Rep.ints {G : GE} {h : AH} {H : Heap} {q t w : Nat} {ty : FieldType} {f : Nat → Int32} {s : State} (r : Rep G h H) (kx : KX G s) (hA : ∀ v, s.isArrayOf (arrV (gA G t) w v) ty) (htt : (t = 0 ∧ ty = .int) ∨ (t = 2 ∧ ty = .byte)) (hq : h q = some (.inl (t, w, .inl f))) :
    ∃ cs : Cell, H[ad G q]? = some cs ∧ s.isArrayOf cs ty ∧ cs.vm ≠ .unknown ∧ w ≤ cs.slots.size ∧ cs.slots.size.toInt32 = Int32.ofNat w ∧ ∀ j : Nat, j < w → cs.slots[j]? = some (.int (f j)) := by
  rcases Nat.lt_or_ge q 1000 with k | k
  · obtain ⟨ty', h1, cs, g1, g2, g3, g4, g5, g6, -⟩ := kx.2.2.2.2.2.2.2 q _ k (r.2.2.2.2 q _ k hq).1
    have e : ty' = ty := by
      rcases htt with ⟨h2, h3⟩ | ⟨h2, h3⟩
      · rcases h1 with ⟨-, h4⟩ | ⟨h5, -⟩
        · rw [h4, h3]
        · exact absurd (h2.symm.trans h5) (by decide)
      · rcases h1 with ⟨h5, -⟩ | ⟨-, h4⟩
        · exact absurd (h2.symm.trans h5) (by decide)
        · rw [h4, h3]
    subst e
    exact ⟨cs, by rw [r.2.1 _ (Array.getElem?_eq_some_iff.mp g1).1]; exact g1, g2, g3, g4, g5, g6⟩
  · refine ⟨arrV (gA G t) w (fun j => .int (f j)), r.2.2.2.1 q _ k hq, hA _, (fun z => by cases z), Nat.le_of_eq (arrV_size _ _ _).symm, congrArg Nat.toInt32 (arrV_size _ _ _), fun j hj => arrV_read _ _ hj⟩
/-- the next cell's number -/
def Nx (h : AH) (n : Nat) : Prop := 1000 ≤ n ∧ ∀ i, 1000 ≤ i → (h i ≠ none ↔ i < n)
theorem Nx.push {h : AH} {n : Nat} (x : Nx h n) (e : va_E) : Nx (hset h n e) (n + 1) := by
  refine ⟨by have := x.1; omega, fun i hi => ?_⟩
  by_cases k : i = n
  · subst k
    simp [hset]
  · rw [hset_ne k, x.2 i hi]
    omega
theorem Nx.set {h : AH} {n q : Nat} {e e0 : va_E} (x : Nx h n) (hq : h q = some e0) : Nx (hset h q e) n := by
  refine ⟨x.1, fun i hi => ?_⟩
  by_cases k : i = q
  · subst k
    rw [hset_eq, ← x.2 i hi, hq]
    simp
  · rw [hset_ne k, x.2 i hi]
theorem Nx.ad {G : GE} {h : AH} {n : Nat} {H : Heap} (x : Nx h n) (r : Rep G h H) (g : GW G) : ad G n = H.size := by
  have h1 := x.1
  have e : n = 1000 + (H.size - (gH G).size) := by
    rcases Nat.lt_trichotomy n (1000 + (H.size - (gH G).size)) with k | k | k
    · have a := (r.2.2.1 n h1).mpr k
      have := (x.2 n h1).mp a
      omega
    · exact k
    · have a := (x.2 (1000 + (H.size - (gH G).size)) (by omega)).mpr k
      have := (r.2.2.1 _ (by omega)).mp a
      omega
  have := r.1
  rw [g n h1]
  omega
theorem Rep.push {G : GE} {h : AH} {H H1 : Heap} {q : Nat} {e : va_E} (r : Rep G h H) (g : GW G) (x : Nx h q) (hz : H1.size = H.size + 1) (hc : va_at (gD G) classes (H.size, cvE G e) H1) (ho : ∀ a, a < H.size → H1[a]? = H[a]?) : Rep G (hset h q e) H1 := by
  have e1 := x.ad r g
  have hx := x.1
  refine ⟨by have := r.1; omega, fun a ha => ?_, fun i hi => ?_, fun i e' hi he => ?_, fun i e' hi hn => ?_⟩
  · rw [ho a (by have := r.1; omega)]
    exact r.2.1 a ha
  · have := (x.push e).2 i hi
    rw [this]
    have := g q hx
    have := r.1
    omega
  · by_cases k : i = q
    · subst k
      rw [hset_eq] at he
      cases he
      rw [e1]
      exact hc
    · rw [hset_ne k] at he
      have := r.2.2.2.1 i e' hi he
      exact this.kept (ho _ this.lt)
  · rw [hset_ne (by omega)] at hn
    exact r.2.2.2.2 i e' hi hn
theorem cv_rf (G : GE) (r : Option Nat) : cv G (va_rf r) = va_rf (r.map (ad G)) := by cases r <;> rfl
theorem tys_at (G : GE) {t : Nat} {ty : FieldType} (h : wa_aty[t]? = some ty) : (wa_tys G)[t]? = some (gA G t, ty) := by
  unfold wa_tys
  rw [List.getElem?_mapIdx, h]
  rfl
section HEAP
variable {G : GE} {y : MethodName} {cc : ByteArray} {nL : Nat} {ret : Option FieldType} {R : Room} {mc ms : Nat} {K : Option Value → AH → Prop} {u n pc : Nat} {L : List (Option Value)} {st : List Value} {h : AH}
theorem A_getf {q ci kf index N : Nat} {C : String} {T : u_T} {t0 : Nat → FieldType} {fs : List Value} {v : Value} (d : decode cc pc = .ok (.getfield index, 3)) (hq : h q = some (.inr (ci, fs))) (ok : ClsOK ci C T N t0) (hk : kf < N) (hw : (.fieldLink y.cls index (T kf).1 (T kf).2.1 (T kf).2.2.1 : Cond) ∈ lw_g) (hv : fs[kf]? = some v) (k : WA G y cc nL ret R mc ms K u n (pc + 3) L (v :: st) h) : WA G y cc nL ret R mc ms K u n pc L (.ref q :: st) h :=
  fun l p e s m args below meth c H locs ls a r hl hf => va_get (T := T) (N := N) (ci := ci) a.1 a.2.1 a.2.2.2.2.1 ok.2.1 a.2.2.2.1 a.2.2.2.2.2.1 (r.one (r.hiO a.2.2.2.2.2.2.2.2.2.2 hq) hq) 0 (fs := fs.map (cv G)) rfl ok.1 kf hk (a.2.2.2.2.1 _ hw) (fun _ z => z) (v := cv G v) (by rw [List.getElem?_map, hv]; rfl) d (k l p e s m args below meth c H locs ls a r hl hf)
theorem map_set {G : GE} {fs : List Value} {k : Nat} {v : Value} : (fs.set k v).map (cv G) = (fs.map (cv G)).set k (cv G v) := by rw [List.map_set]
theorem A_put {q ci kf index N : Nat} {C : String} {T : u_T} {t0 : Nat → FieldType} {fs : List Value} {v : Value} {ty : FieldType} (d : decode cc pc = .ok (.putfield index, 3)) (hq : h q = some (.inr (ci, fs))) (ok : ClsOK ci C T N t0) (hk : kf < N) (hw : (.fieldLink y.cls index (T kf).1 (T kf).2.1 (T kf).2.2.1 : Cond) ∈ lw_g) (hfin : (T kf).2.2.2 = false ∨ ((T kf).2.2.2 = true ∧ y.name = "<init>" ∧ (T kf).1 = y.cls))
    (hd : parseFieldDescriptor (T kf).2.2.1 = some ty) (hn : narrow ty (cv G v) = cv G v) (hfit : fits ty (cv G v) = true) (hl : kf < fs.length) (h1 : 1000 ≤ q) (k : WA G y cc nL ret R mc ms K u n (pc + 3) L st (hset h q (.inr (ci, fs.set kf v)))) : WA G y cc nL ret R mc ms K u n pc L (v :: .ref q :: st) h := by
  intro l p e s m args below meth c H locs ls a r hl0 hf
  obtain ⟨hx, hb, hml, hown, hts, hK, hlk, hrt, g, hnm, hkx⟩ := id a
  have hP := r.one h1 hq
  have hap := va_apart (own := y.cls) hts ok.2.1 t0 ok.2.2.1 ok.2.2.2 hK ok.1
  obtain ⟨r', h1', cell, q1, q2, q3, q4⟩ := hP 0 _ rfl
  have hr : r' = (C, T, N) := Option.some.inj (h1'.symm.trans ok.1)
  subst hr
  obtain ⟨hS, hfc, kC, hkC, hkind⟩ := hK.1 ci _ ok.1
  obtain ⟨cf, kf', fi, f, hi, hsl⟩ := hS kf hk
  have hlay := hts _ (ok.2.1 _ (u_in_lay hk))
  unfold u_lay at hlay
  have hst := (u_facts hfc hkC (u_lays hts ok.2.1 hk) hi).1
  have fin : ∀ H' : Heap, H'[ad G q]? = some (cell.setSlot f.slot (cv G v)) → H'.size = H.size → (∀ b, b ≠ ad G q → H'[b]? = H[b]?) → W p l e R s m args below meth c H' (locs ++ [⟨ad G q, f.slot⟩]) u n (MQ below (QK G K) args s mc ms (fun q => (gH G).size ≤ q)) (F0 m (pc + 3) ls (st.map (cv G))) := by
    intro H' e1 e2 e3
    refine k l p e s m args below meth c H' _ ls a (r.set g hq h1 e2 ?_ e3) hl0 (fun x hx => ?_)
    · refine ⟨_, ok.1, ?_⟩
      rw [hsl] at e1
      show t_OB _ _ _ _ _ (vp_V ((fs.set kf v).map (cv G)))
      rw [map_set]
      exact t_OB.to (V := updV (vp_V (fs.map (cv G))) kf (cv G v)) ⟨_, e1, q2, q3, t_set q4 hap hk _⟩ (fun j _ => vp_updV_set (by simpa using hl) _ j)
    · rcases List.mem_append.mp hx with z | z
      · exact hf x z
      · rw [List.mem_singleton.mp z]
        show (gH G).size ≤ ad G q
        rw [g q h1]
        omega
  rcases hfin with hfin | ⟨hfin, hin, hdecl⟩
  · rw [if_neg (by rw [hfin]; decide)] at hlay
    have h6 := u_store hfc hkC hkind hlay hi hd hn hfit
    exact W.putK hx hb (f := f) ⟨hown, hts _ hw, ⟨_, _, _, hi⟩, hst⟩ (by rw [q2]; exact h6) q1 q3 (by rw [hsl]; exact k2_hasslot (q4 kf hk)) rfl rfl d fin
  · rw [if_pos hfin] at hlay
    have hcf : m.cls = cf := by
      obtain ⟨_, _, c', _, _, _, -, -, hf', -, -, -, hown2, -⟩ := Cond.laysFinal_spec hlay
      have e1 : c' = cf := by have := hi.symm.trans hf'; simp at this; exact this.1.symm
      rw [hdecl] at hown2
      rw [← e1]; exact Option.some.inj (hown.symm.trans hown2)
    have h6 := u_fits hfc hkC hkind (Or.inr hlay) hi hd hn hfit
    exact W.putFinK hx hb hown (hts _ hw) hi hst hcf (hnm.trans hin) (by rw [q2]; exact h6) q1 q3 (by rw [hsl]; exact k2_hasslot (q4 kf hk)) rfl rfl d fin
theorem A_iald {q w : Nat} {f : Nat → Int32} {j : Int32} (d : decode cc pc = .ok (.iaload, 1)) (hq : h q = some (.inl (0, w, .inl f))) (hin : vp_in j w) (k : WA G y cc nL ret R mc ms K u n (pc + 1) L (.int (f j.toNatClampNeg) :: st) h) : WA G y cc nL ret R mc ms K u n pc L (.int j :: .ref q :: st) h := by
  intro l p e s m args below meth c H locs ls a r hl hf
  obtain ⟨cs, g1, g2, g3, g4, -, g6⟩ := r.ints a.2.2.2.2.2.2.2.2.2.2 (fun v => (a.2.2.2.2.2.1.2 0 _ (tys_at G rfl)).1 w v) (.inl ⟨rfl, rfl⟩) hq
  have hlt : j.toNatClampNeg < w := Nat.not_le.mp fun q => hin (Or.inr q)
  exact W.iald (v := .int (f j.toNatClampNeg)) a.1 a.2.1 g1 g2 g3 (fun z => hin (z.imp id (fun z => Nat.le_trans g4 z))) (g6 _ hlt) rfl rfl d (k l p e s m args below meth c H locs ls a r hl hf)
theorem A_lald {q w : Nat} {f : Nat → Int64} {j : Int32} (d : decode cc pc = .ok (.laload, 1)) (hq : h q = some (.inl (1, w, .inr (.inl f)))) (hin : vp_in j w) (k : WA G y cc nL ret R mc ms K u n (pc + 1) L (.long (f j.toNatClampNeg) :: st) h) : WA G y cc nL ret R mc ms K u n pc L (.int j :: .ref q :: st) h :=
  fun l p e s m args below meth c H locs ls a r hl hf => va_lald a.1 a.2.1 a.2.2.2.2.2.1 (r.one (r.hiL a.2.2.2.2.2.2.2.2.2.2 hq) hq) 0 1 (cA := gA G 1) (n := w) (f := f) rfl (tys_at G rfl) hin d (k l p e s m args below meth c H locs ls a r hl hf)
theorem A_bald {q w : Nat} {f : Nat → Int32} {j : Int32} (d : decode cc pc = .ok (.baload, 1)) (hq : h q = some (.inl (2, w, .inl f))) (hin : vp_in j w) (k : WA G y cc nL ret R mc ms K u n (pc + 1) L (.int (f j.toNatClampNeg) :: st) h) : WA G y cc nL ret R mc ms K u n pc L (.int j :: .ref q :: st) h := by
  intro l p e s m args below meth c H locs ls a r hl hf
  obtain ⟨cs, g1, g2, g3, g4, -, g6⟩ := r.ints a.2.2.2.2.2.2.2.2.2.2 (fun v => (a.2.2.2.2.2.1.2 2 _ (tys_at G rfl)).1 w v) (.inr ⟨rfl, rfl⟩) hq
  have hlt : j.toNatClampNeg < w := Nat.not_le.mp fun q => hin (Or.inr q)
  exact W.bald (v := .int (f j.toNatClampNeg)) a.1 a.2.1 g1 g2 g3 (fun z => hin (z.imp id (fun z => Nat.le_trans g4 z))) (g6 _ hlt) rfl rfl d (k l p e s m args below meth c H locs ls a r hl hf)
theorem A_zald {q w : Nat} {f : Nat → Int32} {j : Int32} (d : decode cc pc = .ok (.baload, 1)) (hq : h q = some (.inl (3, w, .inl f))) (hin : vp_in j w) (k : WA G y cc nL ret R mc ms K u n (pc + 1) L (.int (f j.toNatClampNeg) :: st) h) : WA G y cc nL ret R mc ms K u n pc L (.int j :: .ref q :: st) h :=
  fun l p e s m args below meth c H locs ls a r hl hf => va_zald a.1 a.2.1 a.2.2.2.2.2.1 (r.one (r.hiZ a.2.2.2.2.2.2.2.2.2.2 hq) hq) 0 3 (cA := gA G 3) (n := w) (f := f) rfl (tys_at G rfl) hin d (k l p e s m args below meth c H locs ls a r hl hf)
theorem A_aald {q w t : Nat} {ty : FieldType} {f : Nat → Option Nat} {j : Int32} {v : Value} (d : decode cc pc = .ok (.aaload, 1)) (hq : h q = some (.inl (t, w, .inr (.inr (.inr (.inr f)))))) (ht : wa_aty[t]? = some ty) (hr : ty.isReference = true) (hin : vp_in j w) (hv : va_rf (f j.toNatClampNeg) = v) (k : WA G y cc nL ret R mc ms K u n (pc + 1) L (v :: st) h) : WA G y cc nL ret R mc ms K u n pc L (.int j :: .ref q :: st) h := by
  intro l p e s m args below meth c H locs ls a r hl hf
  subst hv
  have hlt : j.toNatClampNeg < w := Nat.not_le.mp fun q => hin (Or.inr q)
  have hP := r.one (r.hiR a.2.2.2.2.2.2.2.2.2.2 hq) hq
  have hc : H[ad G q]? = some (arrV (gA G t) w (fun i => va_rf ((f i).map (ad G)))) := hP 0 _ rfl
  refine W.aald (v := cv G (va_rf (f j.toNatClampNeg))) (ty := ty) a.1 a.2.1 hc ((a.2.2.2.2.2.1.2 t _ (tys_at G ht)).1 w _) hr (fun q => by cases q) (by rw [arrV_size]; exact hin) (by rw [arrV_read _ _ hlt, cv_rf]) rfl rfl d (k l p e s m args below meth c H locs ls a r hl hf)
theorem A_alen {q w t : Nat} {x : vp_A} {ty : FieldType} (d : decode cc pc = .ok (.arraylength, 1)) (hq : h q = some (.inl (t, x))) (ht : wa_aty[t]? = some ty) (k : WA G y cc nL ret R mc ms K u n (pc + 1) L (.int (Int32.ofNat x.1) :: st) h) : WA G y cc nL ret R mc ms K u n pc L (.ref q :: st) h := by
  intro l p e s m args below meth c H locs ls a r hl hf
  rcases Nat.lt_or_ge q 1000 with kq | kq
  · have ho := a.2.2.2.2.2.2.2.2.2.2.2.2.2.2.2.2.2 q _ kq (r.2.2.2.2 q _ kq hq).1
    obtain ⟨n0, f | f | f | f | f⟩ := x
    · obtain ⟨ty', -, cs, g1, g2, g3, g4, g5, g6, -⟩ := ho
      exact W.alen a.1 a.2.1 (by rw [r.2.1 _ (Array.getElem?_eq_some_iff.mp g1).1]; exact g1) g2 g5 rfl rfl d (k l p e s m args below meth c H locs ls a r hl hf)
    all_goals exact absurd ho (fun z => z)
  · exact va_alen a.1 a.2.1 a.2.2.2.2.2.1 (r.one kq hq) 0 t (cA := gA G t) (x := cvA G x) rfl (tys_at G ht) (v := Int32.ofNat x.1) (by obtain ⟨n, z | z | z | z | z⟩ := x <;> rfl) d (k l p e s m args below meth c H locs ls a r hl hf)
theorem A_iast {q w : Nat} {f : Nat → Int32} {j : Int32} {x : Int32} (d : decode cc pc = .ok (.iastore, 1)) (hq : h q = some (.inl (0, w, .inl f))) (hin : vp_in j w) (h1 : 1000 ≤ q) (k : WA G y cc nL ret R mc ms K u n (pc + 1) L st (hset h q (.inl (0, w, .inl (upd f j.toNatClampNeg x))))) : WA G y cc nL ret R mc ms K u n pc L (.int x :: .int j :: .ref q :: st) h := by
  intro l p e s m args below meth c H locs ls a r hl hf
  obtain ⟨hx, hb, hml, hown, hts, hK, hlk, hrt, g, hnm, hkx⟩ := id a
  have hP := r.one h1 hq
  refine W.iast hx hb (hP 0 _ rfl) ((hK.2 0 _ (tys_at G rfl)).1 w (fun j => .int (f j))) (fun q => by cases q) (by show ¬ (j < 0 ∨ (arrV _ _ _).slots.size ≤ _); rw [arrV_size]; exact hin) rfl rfl d fun H1 e1 z oq => ?_
  refine k l p e s m args below meth c H1 _ ls a (r.set g hq h1 z ?_ oq) hl (fun b hb => ?_)
  · show H1[ad G q]? = some (vp_cell _ _)
    rw [e1]
    show some ((vp_cell _ _).setSlot _ _) = some (vp_cell _ _)
    rw [show cvA G (w, .inl f) = (w, .inl f) from rfl, show cvA G (w, .inl (upd f j.toNatClampNeg x)) = (w, .inl (upd f j.toNatClampNeg x)) from rfl, vp_cell_i, vp_cell_i, arrV_store]
    congr 2
    funext i
    by_cases hi : i = j.toNatClampNeg
    · subst hi
      simp [updV, upd, vp_nar]
      try rfl
    · simp [updV, upd, hi]
  · rcases List.mem_append.mp hb with z | z
    · exact hf b z
    · rw [List.mem_singleton.mp z]
      show (gH G).size ≤ ad G q
      rw [g q h1]
      omega
theorem A_last {q w : Nat} {f : Nat → Int64} {j : Int32} {x : Int64} (d : decode cc pc = .ok (.lastore, 1)) (hq : h q = some (.inl (1, w, .inr (.inl f)))) (hin : vp_in j w) (h1 : 1000 ≤ q) (k : WA G y cc nL ret R mc ms K u n (pc + 1) L st (hset h q (.inl (1, w, .inr (.inl (fun i => if i = j.toNatClampNeg then x else f i)))))) : WA G y cc nL ret R mc ms K u n pc L (.long x :: .int j :: .ref q :: st) h := by
  intro l p e s m args below meth c H locs ls a r hl hf
  obtain ⟨hx, hb, hml, hown, hts, hK, hlk, hrt, g, hnm, hkx⟩ := id a
  have hP := r.one h1 hq
  refine W.last hx hb (hP 0 _ rfl) ((hK.2 1 _ (tys_at G rfl)).1 w (fun j => .long (f j))) (fun q => by cases q) (by show ¬ (j < 0 ∨ (arrV _ _ _).slots.size ≤ _); rw [arrV_size]; exact hin) rfl rfl d fun H1 e1 z oq => ?_
  refine k l p e s m args below meth c H1 _ ls a (r.set g hq h1 z ?_ oq) hl (fun b hb => ?_)
  · show H1[ad G q]? = some (vp_cell _ _)
    rw [e1]
    show some ((vp_cell _ _).setSlot _ _) = some (vp_cell _ _)
    rw [show cvA G (w, .inr (.inl f)) = (w, .inr (.inl f)) from rfl, show cvA G (w, .inr (.inl (fun i => if i = j.toNatClampNeg then x else f i))) = (w, .inr (.inl (fun i => if i = j.toNatClampNeg then x else f i))) from rfl, vp_cell_l, vp_cell_l, arrV_store]
    congr 2
    funext i
    by_cases hi : i = j.toNatClampNeg
    · subst hi
      simp [updV, upd, vp_nar]
      try rfl
    · simp [updV, upd, hi]
  · rcases List.mem_append.mp hb with z | z
    · exact hf b z
    · rw [List.mem_singleton.mp z]
      show (gH G).size ≤ ad G q
      rw [g q h1]
      omega
theorem A_bast {q w : Nat} {f : Nat → Int32} {j : Int32} {x : Int32} (d : decode cc pc = .ok (.bastore, 1)) (hq : h q = some (.inl (2, w, .inl f))) (hin : vp_in j w) (h1 : 1000 ≤ q) (k : WA G y cc nL ret R mc ms K u n (pc + 1) L st (hset h q (.inl (2, w, .inl (upd f j.toNatClampNeg (vp_nar .byte x)))))) : WA G y cc nL ret R mc ms K u n pc L (.int x :: .int j :: .ref q :: st) h := by
  intro l p e s m args below meth c H locs ls a r hl hf
  obtain ⟨hx, hb, hml, hown, hts, hK, hlk, hrt, g, hnm, hkx⟩ := id a
  have hP := r.one h1 hq
  refine W.bast hx hb (hP 0 _ rfl) ((hK.2 2 _ (tys_at G rfl)).1 w (fun j => .int (f j))) (fun q => by cases q) (by show ¬ (j < 0 ∨ (arrV _ _ _).slots.size ≤ _); rw [arrV_size]; exact hin) rfl rfl d fun H1 e1 z oq => ?_
  refine k l p e s m args below meth c H1 _ ls a (r.set g hq h1 z ?_ oq) hl (fun b hb => ?_)
  · show H1[ad G q]? = some (vp_cell _ _)
    rw [e1]
    show some ((vp_cell _ _).setSlot _ _) = some (vp_cell _ _)
    rw [show cvA G (w, .inl f) = (w, .inl f) from rfl, show cvA G (w, .inl (upd f j.toNatClampNeg (vp_nar .byte x))) = (w, .inl (upd f j.toNatClampNeg (vp_nar .byte x))) from rfl, vp_cell_i, vp_cell_i, arrV_store]
    congr 2
    funext i
    by_cases hi : i = j.toNatClampNeg
    · subst hi
      simp [updV, upd, vp_nar]
      try rfl
    · simp [updV, upd, hi]
  · rcases List.mem_append.mp hb with z | z
    · exact hf b z
    · rw [List.mem_singleton.mp z]
      show (gH G).size ≤ ad G q
      rw [g q h1]
      omega
theorem A_zast {q w : Nat} {f : Nat → Int32} {j : Int32} {x : Int32} (d : decode cc pc = .ok (.bastore, 1)) (hq : h q = some (.inl (3, w, .inl f))) (hin : vp_in j w) (h1 : 1000 ≤ q) (k : WA G y cc nL ret R mc ms K u n (pc + 1) L st (hset h q (.inl (3, w, .inl (upd f j.toNatClampNeg (vp_nar .boolean x)))))) : WA G y cc nL ret R mc ms K u n pc L (.int x :: .int j :: .ref q :: st) h := by
  intro l p e s m args below meth c H locs ls a r hl hf
  obtain ⟨hx, hb, hml, hown, hts, hK, hlk, hrt, g, hnm, hkx⟩ := id a
  have hP := r.one h1 hq
  refine W.zast hx hb (hP 0 _ rfl) ((hK.2 3 _ (tys_at G rfl)).1 w (fun j => .int (f j))) (fun q => by cases q) (by show ¬ (j < 0 ∨ (arrV _ _ _).slots.size ≤ _); rw [arrV_size]; exact hin) rfl rfl d fun H1 e1 z oq => ?_
  refine k l p e s m args below meth c H1 _ ls a (r.set g hq h1 z ?_ oq) hl (fun b hb => ?_)
  · show H1[ad G q]? = some (vp_cell _ _)
    rw [e1]
    show some ((vp_cell _ _).setSlot _ _) = some (vp_cell _ _)
    rw [show cvA G (w, .inl f) = (w, .inl f) from rfl, show cvA G (w, .inl (upd f j.toNatClampNeg (vp_nar .boolean x))) = (w, .inl (upd f j.toNatClampNeg (vp_nar .boolean x))) from rfl, vp_cell_i, vp_cell_i, arrV_store]
    congr 2
    funext i
    by_cases hi : i = j.toNatClampNeg
    · subst hi
      simp [updV, upd, vp_nar]
      try rfl
    · simp [updV, upd, hi]
  · rcases List.mem_append.mp hb with z | z
    · exact hf b z
    · rw [List.mem_singleton.mp z]
      show (gH G).size ≤ ad G q
      rw [g q h1]
      omega
end HEAP
