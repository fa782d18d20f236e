/-! THE ABSTRACT LAYER: states of a method's frame over a heap of numbered cells (WA), contracts over it (Ctr). Cell i lies at ad i; cells from 1000 on are new (b0 + (i - 1000)), below 1000 old ones, only read. -/
abbrev AH : Type := Nat → Option va_E
/-- classes' numbers and slots, array classes' numbers, addresses, the heap at the law's entry, what is read of its cells -/
abbrev GE : Type := va_G × (Nat → ClassId) × (Nat → Nat) × Heap × (Nat → Option va_E)
def gD (G : GE) : va_G := G.1
def gA (G : GE) : Nat → ClassId := G.2.1
def ad (G : GE) : Nat → Nat := G.2.2.1
def gH (G : GE) : Heap := G.2.2.2.1
def gO (G : GE) : Nat → Option va_E := G.2.2.2.2
def cv (G : GE) : Value → Value
  | .ref i => .ref (ad G i)
  | v => v
def cvA (G : GE) : vp_A → vp_A
  | (n, .inr (.inr (.inr (.inr f)))) => (n, .inr (.inr (.inr (.inr (fun i => (f i).map (ad G))))))
  | x => x
def cvE (G : GE) : va_E → va_E
  | .inl (t, a) => .inl (gA G t, cvA G a)
  | .inr (c, fs) => .inr (c, fs.map (cv G))
def wa_tys (G : GE) : List (ClassId × FieldType) := wa_aty.mapIdx (fun i t => (gA G i, t))
def GW (G : GE) : Prop := ∀ i, 1000 ≤ i → ad G i = (gH G).size + (i - 1000)
def Rep (G : GE) (h : AH) (H : Heap) : Prop :=
  (gH G).size ≤ H.size ∧ (∀ q, q < (gH G).size → H[q]? = (gH G)[q]?) ∧ (∀ i, 1000 ≤ i → (h i ≠ none ↔ i < 1000 + (H.size - (gH G).size))) ∧ (∀ i e, 1000 ≤ i → h i = some e → va_at (gD G) classes (ad G i, cvE G e) H) ∧ ∀ i e, i < 1000 → h i = some e → gO G i = some e ∧ ad G i < (gH G).size
theorem Rep.inj {G : GE} {h : AH} {H : Heap} (r : Rep G h H) (g : GW G) {i j : Nat} (hi : 1000 ≤ i) (hj : h j ≠ none) (e : ad G j = ad G i) : j = i := by
  rcases Nat.lt_or_ge j 1000 with k | k
  · obtain ⟨e', he'⟩ : ∃ e', h j = some e' := by
      cases q : h j with
      | none => exact absurd q hj
      | some e' => exact ⟨e', rfl⟩
    have := (r.2.2.2.2 j e' k he').2
    rw [e, g i hi] at this
    omega
  · rw [g i hi, g j k] at e
    omega
def hset (h : AH) (q : Nat) (e : va_E) : AH := fun i => if i = q then some e else h i
theorem hset_eq (h : AH) (q : Nat) (e : va_E) : hset h q e q = some e := by simp [hset]
theorem hset_ne {h : AH} {q : Nat} {e : va_E} {i : Nat} (k : i ≠ q) : hset h q e i = h i := by simp [hset, k]
theorem Rep.set {G : GE} {h : AH} {H H1 : Heap} {q : Nat} {e0 e : va_E} (r : Rep G h H) (g : GW G) (hq : h q = some e0) (h1 : 1000 ≤ q) (hz : H1.size = H.size) (hc : va_at (gD G) classes (ad G q, cvE G e) H1) (ho : ∀ a, a ≠ ad G q → H1[a]? = H[a]?) : Rep G (hset h q e) H1 := by
  have inj := fun {i j : Nat} => r.inj g (i := i) (j := j)
  obtain ⟨r1, r2, r3, r4, r5⟩ := r
  refine ⟨by omega, fun a ha => ?_, fun i hi => ?_, fun i e' hi he => ?_, fun i e' hi hn => ?_⟩
  · rw [ho a (by have := g q h1; omega)]
    exact r2 a ha
  · rw [hz, ← r3 i hi]
    by_cases k : i = q
    · subst k
      simp [hset, hq]
    · rw [hset_ne k]
  · by_cases k : i = q
    · subst k
      rw [hset_eq] at he
      cases he
      exact hc
    · rw [hset_ne k] at he
      exact (r4 i e' hi he).kept (ho _ (fun z => k (inj h1 (by rw [he]; simp) z)))
  · rw [hset_ne (by omega)] at hn
    exact r5 i e' hi hn
/-- locals: their number, and what is held in each -/
def asc (G : GE) : Nat → List (Option Value) → List (Nat × Value)
  | _, [] => []
  | k, none :: t => asc G (k + 1) t
  | k, some v :: t => (k, cv G v) :: asc G (k + 1) t
theorem asc_mem {G : GE} {L : List (Option Value)} {k : Nat} {q : Nat × Value} : q ∈ asc G k L ↔ ∃ i v, L[i]? = some (some v) ∧ q = (k + i, cv G v) := by
  induction L generalizing k with
  | nil => simp [asc]
  | cons a t ih =>
    cases a with
    | none =>
      rw [asc, ih]
      constructor
      · rintro ⟨i, v, h1, h2⟩
        exact ⟨i + 1, v, by simpa using h1, by rw [h2]; congr 1; omega⟩
      · rintro ⟨i, v, h1, h2⟩
        cases i with
        | zero => simp at h1
        | succ i => exact ⟨i, v, by simpa using h1, by rw [h2]; congr 1; omega⟩
    | some w =>
      rw [asc, List.mem_cons, ih]
      constructor
      · rintro (h | ⟨i, v, h1, h2⟩)
        · exact ⟨0, w, by simp, by simpa using h⟩
        · exact ⟨i + 1, v, by simpa using h1, by rw [h2]; congr 1; omega⟩
      · rintro ⟨i, v, h1, h2⟩
        cases i with
        | zero => left; simp at h1; subst h1; simpa using h2
        | succ i => right; exact ⟨i, v, by simpa using h1, by rw [h2]; congr 1; omega⟩
def LH (G : GE) (ls : Array Slot) (nL : Nat) (L : List (Option Value)) : Prop := L.length = nL ∧ lv_has ls nL (asc G 0 L)
theorem LH.at {G : GE} {ls : Array Slot} {nL : Nat} {L : List (Option Value)} (h : LH G ls nL L) {i : Nat} {v : Value} (hi : L[i]? = some (some v)) : ls[i]? = some (.val (cv G v)) :=
  h.2.2.2 (i, cv G v) (asc_mem.mpr ⟨i, v, hi, by simp⟩)
/-- not a long -/
def nlg : Option Value → Prop
  | some (.long _) => False
  | some (.double _) => False
  | _ => True
theorem nlg_cat {G : GE} {v : Value} (h : nlg (some v)) : (cv G v).category ≠ 2 := by
  cases v <;> simp_all [nlg, cv, Value.category]
theorem LH.st1 {G : GE} {ls0 ls : Array Slot} {nL i : Nat} {L L' : List (Option Value)} {v : Value} (h : LH G ls0 nL L) (hi : i < L.length) (hL : L' = L.set i (some v)) (hn : ∀ j, j + 1 = i → ∀ o, L[j]? = some o → nlg o)
    (k : lv_has ls nL ((i, cv G v) :: (asc G 0 L).filter (fun q => !(q.1 == i) && !(q.1 + 1 == i && q.2.category == 2)))) : LH G ls nL L' := by
  subst hL
  refine ⟨by simpa using h.1, k.1, k.2.1, fun q hq => ?_⟩
  obtain ⟨j, w, hj, rfl⟩ := asc_mem.mp hq
  refine k.2.2 _ ?_
  simp only [Nat.zero_add]
  by_cases e : j = i
  · subst e
    rw [List.getElem?_set_self hi] at hj
    cases hj
    exact List.mem_cons_self
  · rw [List.getElem?_set_ne (Ne.symm e)] at hj
    refine List.mem_cons_of_mem _ (List.mem_filter.mpr ⟨asc_mem.mpr ⟨j, w, hj, by simp⟩, ?_⟩)
    by_cases e2 : j + 1 = i
    · have := nlg_cat (G := G) (hn j e2 _ hj)
      simp [e, e2, this]
    · simp [e, e2]
theorem LH.st2 {G : GE} {ls0 ls : Array Slot} {nL i : Nat} {L L' : List (Option Value)} {v : Value} (h : LH G ls0 nL L) (hi : i + 1 < L.length) (hL : L' = (L.set i (some v)).set (i + 1) none) (hn : ∀ j, j + 1 = i → ∀ o, L[j]? = some o → nlg o)
    (k : lv_has ls nL ((i, cv G v) :: (asc G 0 L).filter (fun q => !(q.1 == i) && (!(q.1 == i + 1) && !(q.1 + 1 == i && q.2.category == 2))))) : LH G ls nL L' := by
  subst hL
  refine ⟨by simpa using h.1, k.1, k.2.1, fun q hq => ?_⟩
  obtain ⟨j, w, hj, rfl⟩ := asc_mem.mp hq
  refine k.2.2 _ ?_
  simp only [Nat.zero_add]
  by_cases e3 : j = i + 1
  · subst e3
    rw [List.getElem?_set_self (by simpa using hi)] at hj
    cases hj
  · rw [List.getElem?_set_ne (Ne.symm e3)] at hj
    by_cases e : j = i
    · subst e
      rw [List.getElem?_set_self (by omega)] at hj
      cases hj
      exact List.mem_cons_self
    · rw [List.getElem?_set_ne (Ne.symm e)] at hj
      refine List.mem_cons_of_mem _ (List.mem_filter.mpr ⟨asc_mem.mpr ⟨j, w, hj, by simp⟩, ?_⟩)
      by_cases e2 : j + 1 = i
      · have := nlg_cat (G := G) (hn j e2 _ hj)
        simp [e, e2, e3, this]
      · simp [e, e2, e3]
/-- words that travel apart -/
def nestW : Cond → Bool
  | .fieldLinkNest .. => true
  | .methodLinkNest .. => true
  | _ => false
theorem nestW.warm {w : Cond} (hn : nestW w = true) {s U : State} (hW : s.WarmedH U.vm) (h : va_Nw w s) : va_Nw w U := by
  cases w <;> simp [nestW] at hn
  · exact va_Nw.warmM hW h
  · exact va_Nw.warmF hW h
theorem nestW.same {w : Cond} (hn : nestW w = true) {u U : State} (hv : u.vm = U.vm) (h : va_Nw w u) : va_Nw w U := by
  refine va_tabs ?_ hv h
  cases w <;> simp [nestW] at hn <;> rfl
/-- statics that nobody writes -/
def wa_zs : List (String × String × String × Value) := [("NightBridge$Reader", "NUMBERS", "[I", .ref 1), ("NightBridge$Reader", "LOW", "[I", .ref 2), ("NightBridge$Reader", "HIGH", "[I", .ref 3), ("java/lang/String", "COMPACT_STRINGS", "Z", .int 1)]
/-- String constants: class, pool index, text, cell -/
def wa_st : List (String × Nat × String × Nat) := [("NightBridge$Reader", 148, "hours", 10), ("NightBridge$Reader", 149, "cross", 11), ("NightBridge$Reader", 151, "crowd", 12), ("NightBridge$Reader", 153, "walk", 13), ("NightBridge$Reader", 155, "person", 14), ("NightBridge$Reader", 157, "likes", 15), ("NightBridge$Reader", 159, "bearer", 16), ("NightBridge$Reader", 161, "toll", 17), ("NightBridge$Reader", 136, "night", 18), ("NightBridge$Reader", 142, "at", 19), ("NightBridge$Reader", 144, "saw", 20), ("NightBridge$Reader", 146, "worth", 21), ("NightBridge$Reader", 163, "dark", 22), ("NightBridge$Reader", 169, "light", 23)]
def wa_len : List Nat := [5, 5, 5, 4, 6, 5, 6, 4, 5, 2, 3, 5, 4, 5]
def wa_byt : List (List Int32) := [[104, 111, 117, 114, 115], [99, 114, 111, 115, 115], [99, 114, 111, 119, 100], [119, 97, 108, 107], [112, 101, 114, 115, 111, 110], [108, 105, 107, 101, 115], [98, 101, 97, 114, 101, 114], [116, 111, 108, 108], [110, 105, 103, 104, 116], [97, 116], [115, 97, 119], [119, 111, 114, 116, 104], [100, 97, 114, 107], [108, 105, 103, 104, 116]]
def gF (G : GE) : Nat → Prop := fun a => (gH G).size ≤ a
/-- what is read of a cell that was there before: an array of ints or bytes -/
def oldT (G : GE) (e : va_E) (a : Nat) (s : State) : Prop := match e with
  | .inl (t, n, .inl f) => ∃ ty, ((t = 0 ∧ ty = FieldType.int) ∨ (t = 2 ∧ ty = FieldType.byte)) ∧ va_T ty a n (fun j => .int (f j)) (gF G) s (gH G)
  | _ => False
theorem oldT.moved {G : GE} {e : va_E} {a : Nat} {s U : State} (hv : s.vm.Alike U.vm) (h : oldT G e a s) : oldT G e a U := by
  obtain ⟨t, n, z | z | z | z | z⟩ | ⟨c, fs⟩ := e
  · obtain ⟨ty, h1, h2⟩ := h
    exact ⟨ty, h1, h2.moved hv⟩
  all_goals exact h
def KX (G : GE) (s : State) : Prop :=
  (∀ w ∈ lw_tbl, nestW w = true → va_Nw w s) ∧ (∀ C, (.arrayOver (.object C) : Cond) ∈ lw_tbl → va_AO C s) ∧ va_Nw (.arrayOver (.array .int)) s ∧
  (∀ q ∈ wa_zs, va_Z q.1 q.2.1 q.2.2.1 (cv G q.2.2.2) (gF G) s (gH G)) ∧ (∃ w : Value, (w = .null ∨ w = .ref 4) ∧ va_Z "jdk/internal/util/Preconditions" "SIOOBE_FORMATTER" "Ljava/util/function/BiFunction;" (cv G w) (gF G) s (gH G)) ∧
  (∀ q ∈ wa_st, vk_R q.1 q.2.1 q.2.2.1 (ad G q.2.2.2) s) ∧ vk_S 14 wa_len wa_byt (fun i => ad G (10 + i)) (fun i => ad G (30 + i)) (gF G) s (gH G) ∧
  ∀ i e, i < 1000 → gO G i = some e → oldT G e (ad G i) s
theorem ao_alike {ty : FieldType} {u U : State} (hv : u.vm.Alike U.vm) (h : va_Nw (.arrayOver ty) u) : va_Nw (.arrayOver ty) U :=
  (show (Cond.arrayOver ty).before #[] (u.setVm U.vm) = true by rw [Cond.arrayOver_setVmC hv]; exact h)
theorem KX.warm {G : GE} {s U : State} (hW : s.WarmedH U.vm) (h : KX G s) : KX G U := by
  obtain ⟨h1, h2, h3, h4, ⟨w, hw, h5⟩, h6, h7, h8⟩ := h
  exact ⟨fun w hw hn => nestW.warm hn hW (h1 w hw hn), fun C hC => (h2 C hC).moved hW.alike, ao_alike hW.alike h3, fun q hq => (h4 q hq).moved hW.alike, ⟨w, hw, h5.moved hW.alike⟩, fun q hq => vk_R.warm hW (h6 q hq), h7.moved hW.alike, fun i e hi he => (h8 i e hi he).moved hW.alike⟩
theorem KX.same {G : GE} {u U : State} (hv : U.vm = u.vm) (h : KX G u) : KX G U := by
  obtain ⟨h1, h2, h3, h4, ⟨w, hw, h5⟩, h6, h7, h8⟩ := h
  have ha : u.vm.Alike U.vm := by rw [hv]; exact Vm.Alike.refl _
  exact ⟨fun w hw hn => nestW.same hn hv.symm (h1 w hw hn), fun C hC => (h2 C hC).moved ha, ao_alike ha h3, fun q hq => (h4 q hq).moved ha, ⟨w, hw, h5.moved ha⟩, fun q hq => vk_R.same hv (h6 q hq), h7.moved ha, fun i e hi he => (h8 i e hi he).moved ha⟩
/-- what holds in a method's activation -/
def Act (G : GE) (y : MethodName) (cc : ByteArray) (nL : Nat) (ret : Option FieldType) (p : Program) (s : State) (m : MethodId) (args : Array Value) (meth : Method) (c : Code) : Prop :=
  p.tables.exec = Jvm.exec ∧ c.code = cc ∧ c.maxLocals = nL ∧ s.vm.findClass y.cls = some m.cls ∧ (∀ w ∈ lw_g, w.before args s = true) ∧ va_K (gD G) classes (wa_tys G) s ∧ meth.locks = false ∧ meth.sig.returnType = ret ∧ GW G ∧ meth.name = y.name ∧ KX G s
def QK (G : GE) (K : Option Value → AH → Prop) : Array Value → State → Outcome → State → Prop := fun _ _ o t => ∃ v h', o = .returned (v.map (cv G)) ∧ Rep G h' t.heap ∧ K v h'
/-- from here the activation returns, with K of its answer and heap -/
def WA (G : GE) (y : MethodName) (cc : ByteArray) (nL : Nat) (ret : Option FieldType) (R : Room) (mc ms : Nat) (K : Option Value → AH → Prop) (u n : Nat) (pc : Nat) (L : List (Option Value)) (st : List Value) (h : AH) : Prop :=
  ∀ (l : Launch) (p : Program) (e : Env) (s : State) (m : MethodId) (args : Array Value) (below : List Frame) (meth : Method) (c : Code) (H : Heap) (locs : List Loc) (ls : Array Slot), Act G y cc nL ret p s m args meth c → Rep G h H → LH G ls nL L → (∀ q ∈ locs, (gH G).size ≤ q.base) →
    W p l e R s m args below meth c H locs u n (MQ below (QK G K) args s mc ms (fun q => (gH G).size ≤ q)) (F0 m pc ls (st.map (cv G)))
def KN (G : GE) (U : State) : Prop := va_K (gD G) classes (wa_tys G) U ∧ GW G ∧ KX G U
/-- a method's contract for these arguments over this heap -/
def Ctr (G : GE) (y : MethodName) (cc : ByteArray) (nL : Nat) (ret : Option FieldType) (R : Room) (vs : List Value) (h : AH) (K : Option Value → AH → Prop) : Prop :=
  ∀ l : Launch, Met l y (Cond.code y cc nL ret :: lw_g) R (fun a U => a = (vs.map (cv G)).toArray ∧ Rep G h U.heap ∧ KN G U) (QK G K) R.cells R.slots (fun q => (gH G).size ≤ q)
/-- locals at a method's entry -/
def entL : List Value → List (Option Value)
  | [] => []
  | .long x :: t => some (.long x) :: none :: entL t
  | v :: t => some v :: entL t
