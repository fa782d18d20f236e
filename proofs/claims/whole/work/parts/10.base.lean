theorem ok_0 : ClsOK 0 RX0 TX0 5 tyX0 := ⟨rfl, iw_0, tyX0_ok, nmX0⟩
theorem ok_1 : ClsOK 1 RX1 TX1 18 tyX1 := ⟨rfl, iw_1, tyX1_ok, nmX1⟩
theorem ok_2 : ClsOK 2 RX2 TX2 11 tyX2 := ⟨rfl, iw_2, tyX2_ok, nmX2⟩
theorem ok_3 : ClsOK 3 RX3 TX3 15 tyX3 := ⟨rfl, iw_3, tyX3_ok, nmX3⟩
theorem ok_4 : ClsOK 4 RX4 TX4 4 tyX4 := ⟨rfl, iw_4, tyX4_ok, nmX4⟩
theorem ok_5 : ClsOK 5 RX5 TX5 6 tyX5 := ⟨rfl, iw_5, tyX5_ok, nmX5⟩
theorem ok_6 : ClsOK 6 RX6 TX6 10 tyX6 := ⟨rfl, iw_6, tyX6_ok, nmX6⟩
theorem ok_7 : ClsOK 7 RX7 TX7 8 tyX7 := ⟨rfl, iw_7, tyX7_ok, nmX7⟩
theorem ok_8 : ClsOK 8 RX8 TX8 56 tyX8 := ⟨rfl, iw_8, tyX8_ok, nmX8⟩
def bI (b : Bool) : Int32 := if b then nI 1 else nI 0
theorem bI_0 {b : Bool} : bI b = 0 ↔ b = false := by cases b <;> decide
theorem bI_1 {b : Bool} : bI b = 1 ↔ b = true := by cases b <;> decide
theorem bI_nar (b : Bool) : narrow .boolean (.int (bI b)) = .int (bI b) := by cases b <;> rfl
/-- an answer, and the heap as it was -/
def Pu (r : Value) (h : AH) : Option Value → AH → Prop := fun v h' => v = some r ∧ h' = h
theorem pu {r r' : Value} {h : AH} (e : r' = r) : Pu r h (some r') h := ⟨by rw [e], rfl⟩
section PURE
variable {G : GE} {y : MethodName} {cc : ByteArray} {nL : Nat} {ret : Option FieldType} {R : Room} {mc ms : Nat} {K : Option Value → AH → Prop} {u n pc : Nat} {L : List (Option Value)} {st : List Value} {h : AH}
variable {y1 : MethodName} {cc1 : ByteArray} {nL1 na index : Nat} {ret1 : Option FieldType} {R1 : Room} {K1 : Option Value → AH → Prop} {st0 : List Value}
theorem A_top {v v' : Value} (e : v = v') (k : WA G y cc nL ret R mc ms K u n pc L (v' :: st) h) : WA G y cc nL ret R mc ms K u n pc L (v :: st) h := e ▸ k
theorem A_topI {v v' : Int32} (e : v = v') (k : WA G y cc nL ret R mc ms K u n pc L (.int v' :: st) h) : WA G y cc nL ret R mc ms K u n pc L (.int v :: st) h := e ▸ k
theorem A_loc {L' : List (Option Value)} (e : L = L') (k : WA G y cc nL ret R mc ms K u n pc L' st h) : WA G y cc nL ret R mc ms K u n pc L st h := e ▸ k
/-- a local that is not needed any more -/
theorem LH.weak {G : GE} {ls : Array Slot} {nL : Nat} {L L' : List (Option Value)} (hl : LH G ls nL L) (hn : L'.length = L.length) (hs : ∀ (i : Nat) (v : Value), L'[i]? = some (some v) → L[i]? = some (some v)) : LH G ls nL L' :=
  ⟨hn.trans hl.1, hl.2.1, hl.2.2.1, fun q hq => by
    obtain ⟨i, v, h1, rfl⟩ := asc_mem.mp hq
    exact hl.2.2.2 _ (asc_mem.mpr ⟨i, v, hs i v h1, rfl⟩)⟩
theorem A_weak {L' : List (Option Value)} (hn : L'.length = L.length) (hs : ∀ (i : Nat) (v : Value), L'[i]? = some (some v) → L[i]? = some (some v)) (k : WA G y cc nL ret R mc ms K u n pc L' st h) : WA G y cc nL ret R mc ms K u n pc L st h :=
  fun l p e s m args below meth c H locs ls a r hl hf => k l p e s m args below meth c H locs ls a r (hl.weak hn hs) hf
theorem A_if_eqB {b : Bool} {i : Int} {tgt : Nat} (d : decode cc pc = .ok (.ifCond .eq i, 3)) (ht : (pc : Int) + i = (tgt : Int)) (kt : b = false → WA G y cc nL ret R mc ms K u n tgt L st h) (kf : b = true → WA G y cc nL ret R mc ms K u n (pc + 3) L st h) : WA G y cc nL ret R mc ms K u n pc L (.int (bI b) :: st) h :=
  A_if_eq d ht (fun e => kt (bI_0.mp e)) (fun e => kf (by cases b <;> first | rfl | exact absurd (by decide) e))
theorem A_if_neB {b : Bool} {i : Int} {tgt : Nat} (d : decode cc pc = .ok (.ifCond .ne i, 3)) (ht : (pc : Int) + i = (tgt : Int)) (kt : b = true → WA G y cc nL ret R mc ms K u n tgt L st h) (kf : b = false → WA G y cc nL ret R mc ms K u n (pc + 3) L st h) : WA G y cc nL ret R mc ms K u n pc L (.int (bI b) :: st) h :=
  A_if_ne d ht (fun e => kt (by cases b <;> first | rfl | exact absurd (by decide) e)) (fun e => kf (by cases b <;> first | rfl | exact absurd e (by decide)))
theorem A_callVP {q ci N : Nat} {T : u_T} {fs As : List Value} {r : Value} (d : decode cc pc = .ok (.invokevirtual index, 3)) (hM : Ctr G y1 cc1 nL1 ret1 R1 (.ref q :: As) h (Pu r h)) (hq : h q = some (.inr (ci, fs))) (hc : classes[ci]? = some (y1.cls, T, N)) (w1 : (.methodLink y.cls index y1 : Cond) ∈ lw_g) (w2 : (.instanceMethod y1 : Cond) ∈ lw_g) (w3 : (.selects y1.cls y1 y1 : Cond) ∈ lw_g) (ok : MOK y1 cc1 nL1 ret1 na) (hn : As.length = na)
    (hR : R1.frames + 1 ≤ R.frames ∧ 8 + (nL1 + 11) + R1.locals ≤ R.locals) (hst : st0 = As.reverse ++ .ref q :: st) (hW : (st.map fun v => v.category).sum ≤ 8) (hu : u + R1.cells ≤ R.cells ∧ n + R1.slots ≤ R.slots) (hz : R1.cells = 0 ∧ R1.slots = 0) (k : WA G y cc nL ret R mc ms K u n (pc + 3) L (r :: st) h) : WA G y cc nL ret R mc ms K u n pc L st0 h := by
  refine A_callV d hM hq hc w1 w2 w3 ok hn hR hst hW hu (fun v h1 hv => ?_)
  obtain ⟨rfl, rfl⟩ := hv
  rw [hz.1, hz.2]
  exact k
theorem A_callSP {As : List Value} {r : Value} (d : decode cc pc = .ok (.invokestatic index, 3)) (hM : Ctr G y1 cc1 nL1 ret1 R1 As h (Pu r h)) (w1 : (.methodLink y.cls index y1 : Cond) ∈ lw_g) (w2 : (.static y1 : Cond) ∈ lw_g) (ok : MOK y1 cc1 nL1 ret1 na) (hn : As.length = na)
    (hR : R1.frames + 1 ≤ R.frames ∧ 8 + (nL1 + 11) + R1.locals ≤ R.locals) (hst : st0 = As.reverse ++ st) (hW : (st.map fun v => v.category).sum ≤ 8) (hu : u + R1.cells ≤ R.cells ∧ n + R1.slots ≤ R.slots) (hz : R1.cells = 0 ∧ R1.slots = 0) (k : WA G y cc nL ret R mc ms K u n (pc + 3) L (r :: st) h) : WA G y cc nL ret R mc ms K u n pc L st0 h := by
  refine A_callS d hM w1 w2 ok hn hR hst hW hu (fun v h1 hv => ?_)
  obtain ⟨rfl, rfl⟩ := hv
  rw [hz.1, hz.2]
  exact k
theorem A_callVNP {q ci N : Nat} {T : u_T} {fs As : List Value} {r : Value} {host : String} (d : decode cc pc = .ok (.invokevirtual index, 3)) (hM : Ctr G y1 cc1 nL1 ret1 R1 (.ref q :: As) h (Pu r h)) (hq : h q = some (.inr (ci, fs))) (hc : classes[ci]? = some (y1.cls, T, N)) (w1 : (.methodLinkNest y.cls index y1 host : Cond) ∈ lw_tbl) (w2 : (.instanceMethod y1 : Cond) ∈ lw_g) (w3 : (.selects y1.cls y1 y1 : Cond) ∈ lw_g) (ok : MOK y1 cc1 nL1 ret1 na) (hn : As.length = na)
    (hR : R1.frames + 1 ≤ R.frames ∧ 8 + (nL1 + 11) + R1.locals ≤ R.locals) (hst : st0 = As.reverse ++ .ref q :: st) (hW : (st.map fun v => v.category).sum ≤ 8) (hu : u + R1.cells ≤ R.cells ∧ n + R1.slots ≤ R.slots) (hz : R1.cells = 0 ∧ R1.slots = 0) (k : WA G y cc nL ret R mc ms K u n (pc + 3) L (r :: st) h) : WA G y cc nL ret R mc ms K u n pc L st0 h := by
  refine A_callVN d hM hq hc w1 w2 w3 ok hn hR hst hW hu (fun v h1 hv => ?_)
  obtain ⟨rfl, rfl⟩ := hv
  rw [hz.1, hz.2]
  exact k
theorem A_callSNP {As : List Value} {r : Value} {host : String} (d : decode cc pc = .ok (.invokestatic index, 3)) (hM : Ctr G y1 cc1 nL1 ret1 R1 As h (Pu r h)) (w1 : (.methodLinkNest y.cls index y1 host : Cond) ∈ lw_tbl) (w2 : (.static y1 : Cond) ∈ lw_g) (ok : MOK y1 cc1 nL1 ret1 na) (hn : As.length = na)
    (hR : R1.frames + 1 ≤ R.frames ∧ 8 + (nL1 + 11) + R1.locals ≤ R.locals) (hst : st0 = As.reverse ++ st) (hW : (st.map fun v => v.category).sum ≤ 8) (hu : u + R1.cells ≤ R.cells ∧ n + R1.slots ≤ R.slots) (hz : R1.cells = 0 ∧ R1.slots = 0) (k : WA G y cc nL ret R mc ms K u n (pc + 3) L (r :: st) h) : WA G y cc nL ret R mc ms K u n pc L st0 h := by
  refine A_callSN d hM w1 w2 ok hn hR hst hW hu (fun v h1 hv => ?_)
  obtain ⟨rfl, rfl⟩ := hv
  rw [hz.1, hz.2]
  exact k
end PURE
theorem nI_mul (a b : Nat) : nI a * nI b = nI (a * b) := (Int32.ofNat_mul a b).symm
theorem nI_sub {a b : Nat} (h : b ≤ a) : nI a - nI b = nI (a - b) := by
  have := nI_add (a - b) b
  rw [Nat.sub_add_cancel h] at this
  rw [← this]
  rw [Int32.add_sub_cancel]
theorem nI_lit (n : Nat) : (OfNat.ofNat n : Int32) = nI n := rfl
def fup {α : Type} (f : Nat → α) (k : Nat) (x : α) : Nat → α := fun j => if j = k then x else f j
theorem fup_eq {α : Type} (f : Nat → α) (k : Nat) (x : α) : fup f k x k = x := if_pos rfl
theorem fup_ne {α : Type} (f : Nat → α) {k j : Nat} (x : α) (h : j ≠ k) : fup f k x j = f j := if_neg h
section NROWS
variable {G : GE} {y : MethodName} {cc : ByteArray} {nL : Nat} {ret : Option FieldType} {R : Room} {mc ms : Nat} {K : Option Value → AH → Prop} {u n pc : Nat} {L : List (Option Value)} {st : List Value} {h : AH}
theorem A_topN {v : Int32} {k : Nat} (e : v = nI k) (kk : WA G y cc nL ret R mc ms K u n pc L (.int (nI k) :: st) h) : WA G y cc nL ret R mc ms K u n pc L (.int v :: st) h := e ▸ kk
theorem A_iaddN {a b : Nat} {x z : Int32} (d : decode cc pc = .ok (.iadd, 1)) (ha : x = nI a) (hb : z = nI b) (k : WA G y cc nL ret R mc ms K u n (pc + 1) L (.int (nI (a + b)) :: st) h) : WA G y cc nL ret R mc ms K u n pc L (.int z :: .int x :: st) h := A_iadd d (by rw [ha, hb, nI_add]; exact k)
theorem A_imulN {a b : Nat} {x z : Int32} (d : decode cc pc = .ok (.imul, 1)) (ha : x = nI a) (hb : z = nI b) (k : WA G y cc nL ret R mc ms K u n (pc + 1) L (.int (nI (a * b)) :: st) h) : WA G y cc nL ret R mc ms K u n pc L (.int z :: .int x :: st) h := A_imul d (by rw [ha, hb, nI_mul]; exact k)
theorem A_isubN {a b : Nat} {x z : Int32} (d : decode cc pc = .ok (.isub, 1)) (ha : x = nI a) (hz : z = nI b) (hb : b ≤ a) (k : WA G y cc nL ret R mc ms K u n (pc + 1) L (.int (nI (a - b)) :: st) h) : WA G y cc nL ret R mc ms K u n pc L (.int z :: .int x :: st) h := A_isub d (by rw [ha, hz, nI_sub hb]; exact k)
theorem A_iremN {a b : Nat} {x z : Int32} (d : decode cc pc = .ok (.irem, 1)) (ha : x = nI a) (hz : z = nI b) (hb : a < 2 ^ 31 ∧ 0 < b ∧ b < 2 ^ 31) (k : WA G y cc nL ret R mc ms K u n (pc + 1) L (.int (nI (a % b)) :: st) h) : WA G y cc nL ret R mc ms K u n pc L (.int z :: .int x :: st) h := by
  subst ha hz
  exact A_irem0 d (nI_ne0 hb.2.1 hb.2.2) (by rw [pk_rem hb.1 hb.2.1 hb.2.2]; exact k)
theorem A_idivN {a b : Nat} {x z : Int32} (d : decode cc pc = .ok (.idiv, 1)) (ha : x = nI a) (hz : z = nI b) (hb : a < 2 ^ 31 ∧ 0 < b ∧ b < 2 ^ 31) (k : WA G y cc nL ret R mc ms K u n (pc + 1) L (.int (nI (a / b)) :: st) h) : WA G y cc nL ret R mc ms K u n pc L (.int z :: .int x :: st) h := by
  subst ha hz
  exact A_idiv d (nI_ne0 hb.2.1 hb.2.2) (by rw [pk_div hb.1 hb.2.1 hb.2.2]; exact k)
theorem A_drop (i : Nat) {L1 : List (Option Value)} (hL : L.set i none = L1) (k : WA G y cc nL ret R mc ms K u n pc L1 st h) : WA G y cc nL ret R mc ms K u n pc L st h := by
  subst hL
  refine A_weak (by simp) (fun j v hv => ?_) k
  by_cases e : i = j
  · subst e
    rw [List.getElem?_set] at hv
    split at hv <;> simp_all
  · rwa [List.getElem?_set_ne e] at hv
theorem A_drop0 {o0 : Option Value} {t : List (Option Value)} (k : WA G y cc nL ret R mc ms K u n pc (none :: t) st h) : WA G y cc nL ret R mc ms K u n pc (o0 :: t) st h := A_drop 0 rfl k
theorem A_drop1 {o0 o1 : Option Value} {t : List (Option Value)} (k : WA G y cc nL ret R mc ms K u n pc (o0 :: none :: t) st h) : WA G y cc nL ret R mc ms K u n pc (o0 :: o1 :: t) st h := A_drop 1 rfl k
theorem A_drop2 {o0 o1 o2 : Option Value} {t : List (Option Value)} (k : WA G y cc nL ret R mc ms K u n pc (o0 :: o1 :: none :: t) st h) : WA G y cc nL ret R mc ms K u n pc (o0 :: o1 :: o2 :: t) st h := A_drop 2 rfl k
theorem A_drop3 {o0 o1 o2 o3 : Option Value} {t : List (Option Value)} (k : WA G y cc nL ret R mc ms K u n pc (o0 :: o1 :: o2 :: none :: t) st h) : WA G y cc nL ret R mc ms K u n pc (o0 :: o1 :: o2 :: o3 :: t) st h := A_drop 3 rfl k
theorem A_drop4 {o0 o1 o2 o3 o4 : Option Value} {t : List (Option Value)} (k : WA G y cc nL ret R mc ms K u n pc (o0 :: o1 :: o2 :: o3 :: none :: t) st h) : WA G y cc nL ret R mc ms K u n pc (o0 :: o1 :: o2 :: o3 :: o4 :: t) st h := A_drop 4 rfl k
theorem A_drop5 {o0 o1 o2 o3 o4 o5 : Option Value} {t : List (Option Value)} (k : WA G y cc nL ret R mc ms K u n pc (o0 :: o1 :: o2 :: o3 :: o4 :: none :: t) st h) : WA G y cc nL ret R mc ms K u n pc (o0 :: o1 :: o2 :: o3 :: o4 :: o5 :: t) st h := A_drop 5 rfl k
theorem A_drop6 {o0 o1 o2 o3 o4 o5 o6 : Option Value} {t : List (Option Value)} (k : WA G y cc nL ret R mc ms K u n pc (o0 :: o1 :: o2 :: o3 :: o4 :: o5 :: none :: t) st h) : WA G y cc nL ret R mc ms K u n pc (o0 :: o1 :: o2 :: o3 :: o4 :: o5 :: o6 :: t) st h := A_drop 6 rfl k
theorem A_drop7 {o0 o1 o2 o3 o4 o5 o6 o7 : Option Value} {t : List (Option Value)} (k : WA G y cc nL ret R mc ms K u n pc (o0 :: o1 :: o2 :: o3 :: o4 :: o5 :: o6 :: none :: t) st h) : WA G y cc nL ret R mc ms K u n pc (o0 :: o1 :: o2 :: o3 :: o4 :: o5 :: o6 :: o7 :: t) st h := A_drop 7 rfl k
theorem A_drop8 {o0 o1 o2 o3 o4 o5 o6 o7 o8 : Option Value} {t : List (Option Value)} (k : WA G y cc nL ret R mc ms K u n pc (o0 :: o1 :: o2 :: o3 :: o4 :: o5 :: o6 :: o7 :: none :: t) st h) : WA G y cc nL ret R mc ms K u n pc (o0 :: o1 :: o2 :: o3 :: o4 :: o5 :: o6 :: o7 :: o8 :: t) st h := A_drop 8 rfl k
theorem A_drop9 {o0 o1 o2 o3 o4 o5 o6 o7 o8 o9 : Option Value} {t : List (Option Value)} (k : WA G y cc nL ret R mc ms K u n pc (o0 :: o1 :: o2 :: o3 :: o4 :: o5 :: o6 :: o7 :: o8 :: none :: t) st h) : WA G y cc nL ret R mc ms K u n pc (o0 :: o1 :: o2 :: o3 :: o4 :: o5 :: o6 :: o7 :: o8 :: o9 :: t) st h := A_drop 9 rfl k
theorem A_drop10 {o0 o1 o2 o3 o4 o5 o6 o7 o8 o9 o10 : Option Value} {t : List (Option Value)} (k : WA G y cc nL ret R mc ms K u n pc (o0 :: o1 :: o2 :: o3 :: o4 :: o5 :: o6 :: o7 :: o8 :: o9 :: none :: t) st h) : WA G y cc nL ret R mc ms K u n pc (o0 :: o1 :: o2 :: o3 :: o4 :: o5 :: o6 :: o7 :: o8 :: o9 :: o10 :: t) st h := A_drop 10 rfl k
theorem A_drop11 {o0 o1 o2 o3 o4 o5 o6 o7 o8 o9 o10 o11 : Option Value} {t : List (Option Value)} (k : WA G y cc nL ret R mc ms K u n pc (o0 :: o1 :: o2 :: o3 :: o4 :: o5 :: o6 :: o7 :: o8 :: o9 :: o10 :: none :: t) st h) : WA G y cc nL ret R mc ms K u n pc (o0 :: o1 :: o2 :: o3 :: o4 :: o5 :: o6 :: o7 :: o8 :: o9 :: o10 :: o11 :: t) st h := A_drop 11 rfl k
theorem A_drop12 {o0 o1 o2 o3 o4 o5 o6 o7 o8 o9 o10 o11 o12 : Option Value} {t : List (Option Value)} (k : WA G y cc nL ret R mc ms K u n pc (o0 :: o1 :: o2 :: o3 :: o4 :: o5 :: o6 :: o7 :: o8 :: o9 :: o10 :: o11 :: none :: t) st h) : WA G y cc nL ret R mc ms K u n pc (o0 :: o1 :: o2 :: o3 :: o4 :: o5 :: o6 :: o7 :: o8 :: o9 :: o10 :: o11 :: o12 :: t) st h := A_drop 12 rfl k
theorem A_drop13 {o0 o1 o2 o3 o4 o5 o6 o7 o8 o9 o10 o11 o12 o13 : Option Value} {t : List (Option Value)} (k : WA G y cc nL ret R mc ms K u n pc (o0 :: o1 :: o2 :: o3 :: o4 :: o5 :: o6 :: o7 :: o8 :: o9 :: o10 :: o11 :: o12 :: none :: t) st h) : WA G y cc nL ret R mc ms K u n pc (o0 :: o1 :: o2 :: o3 :: o4 :: o5 :: o6 :: o7 :: o8 :: o9 :: o10 :: o11 :: o12 :: o13 :: t) st h := A_drop 13 rfl k
theorem A_drop14 {o0 o1 o2 o3 o4 o5 o6 o7 o8 o9 o10 o11 o12 o13 o14 : Option Value} {t : List (Option Value)} (k : WA G y cc nL ret R mc ms K u n pc (o0 :: o1 :: o2 :: o3 :: o4 :: o5 :: o6 :: o7 :: o8 :: o9 :: o10 :: o11 :: o12 :: o13 :: none :: t) st h) : WA G y cc nL ret R mc ms K u n pc (o0 :: o1 :: o2 :: o3 :: o4 :: o5 :: o6 :: o7 :: o8 :: o9 :: o10 :: o11 :: o12 :: o13 :: o14 :: t) st h := A_drop 14 rfl k
theorem A_drop15 {o0 o1 o2 o3 o4 o5 o6 o7 o8 o9 o10 o11 o12 o13 o14 o15 : Option Value} {t : List (Option Value)} (k : WA G y cc nL ret R mc ms K u n pc (o0 :: o1 :: o2 :: o3 :: o4 :: o5 :: o6 :: o7 :: o8 :: o9 :: o10 :: o11 :: o12 :: o13 :: o14 :: none :: t) st h) : WA G y cc nL ret R mc ms K u n pc (o0 :: o1 :: o2 :: o3 :: o4 :: o5 :: o6 :: o7 :: o8 :: o9 :: o10 :: o11 :: o12 :: o13 :: o14 :: o15 :: t) st h := A_drop 15 rfl k
theorem A_icmp_eqN {a b : Nat} {x z : Int32} {i : Int} {tgt : Nat} (d : decode cc pc = .ok (.if_icmp .eq i, 3)) (ht : (pc : Int) + i = (tgt : Int)) (hx : x = nI a) (hz : z = nI b) (ha : a < 2 ^ 31) (hb : b < 2 ^ 31) (kt : a = b → WA G y cc nL ret R mc ms K u n tgt L st h) (kf : ¬ a = b → WA G y cc nL ret R mc ms K u n (pc + 3) L st h) : WA G y cc nL ret R mc ms K u n pc L (.int z :: .int x :: st) h := by
  subst hx hz
  exact A_icmp_eq d ht (fun e => kt (by have h1 := nI_eq ha hb; have h2 := nI_ltI ha hb; have h3 := nI_ltI hb ha; have h4 := nI_leI ha hb; have h5 := nI_leI hb ha; simp only [ne_eq, h1, h2, h3, h4, h5] at e; omega)) (fun e => kf (by have h1 := nI_eq ha hb; have h2 := nI_ltI ha hb; have h3 := nI_ltI hb ha; have h4 := nI_leI ha hb; have h5 := nI_leI hb ha; simp only [ne_eq, h1, h2, h3, h4, h5] at e; omega))
theorem A_icmp_neN {a b : Nat} {x z : Int32} {i : Int} {tgt : Nat} (d : decode cc pc = .ok (.if_icmp .ne i, 3)) (ht : (pc : Int) + i = (tgt : Int)) (hx : x = nI a) (hz : z = nI b) (ha : a < 2 ^ 31) (hb : b < 2 ^ 31) (kt : ¬ a = b → WA G y cc nL ret R mc ms K u n tgt L st h) (kf : a = b → WA G y cc nL ret R mc ms K u n (pc + 3) L st h) : WA G y cc nL ret R mc ms K u n pc L (.int z :: .int x :: st) h := by
  subst hx hz
  exact A_icmp_ne d ht (fun e => kt (by have h1 := nI_eq ha hb; have h2 := nI_ltI ha hb; have h3 := nI_ltI hb ha; have h4 := nI_leI ha hb; have h5 := nI_leI hb ha; simp only [ne_eq, h1, h2, h3, h4, h5] at e; omega)) (fun e => kf (by have h1 := nI_eq ha hb; have h2 := nI_ltI ha hb; have h3 := nI_ltI hb ha; have h4 := nI_leI ha hb; have h5 := nI_leI hb ha; simp only [ne_eq, h1, h2, h3, h4, h5] at e; omega))
theorem A_icmp_ltN {a b : Nat} {x z : Int32} {i : Int} {tgt : Nat} (d : decode cc pc = .ok (.if_icmp .lt i, 3)) (ht : (pc : Int) + i = (tgt : Int)) (hx : x = nI a) (hz : z = nI b) (ha : a < 2 ^ 31) (hb : b < 2 ^ 31) (kt : a < b → WA G y cc nL ret R mc ms K u n tgt L st h) (kf : b ≤ a → WA G y cc nL ret R mc ms K u n (pc + 3) L st h) : WA G y cc nL ret R mc ms K u n pc L (.int z :: .int x :: st) h := by
  subst hx hz
  exact A_icmp_lt d ht (fun e => kt (by have h1 := nI_eq ha hb; have h2 := nI_ltI ha hb; have h3 := nI_ltI hb ha; have h4 := nI_leI ha hb; have h5 := nI_leI hb ha; simp only [ne_eq, h1, h2, h3, h4, h5] at e; omega)) (fun e => kf (by have h1 := nI_eq ha hb; have h2 := nI_ltI ha hb; have h3 := nI_ltI hb ha; have h4 := nI_leI ha hb; have h5 := nI_leI hb ha; simp only [ne_eq, h1, h2, h3, h4, h5] at e; omega))
theorem A_icmp_geN {a b : Nat} {x z : Int32} {i : Int} {tgt : Nat} (d : decode cc pc = .ok (.if_icmp .ge i, 3)) (ht : (pc : Int) + i = (tgt : Int)) (hx : x = nI a) (hz : z = nI b) (ha : a < 2 ^ 31) (hb : b < 2 ^ 31) (kt : b ≤ a → WA G y cc nL ret R mc ms K u n tgt L st h) (kf : a < b → WA G y cc nL ret R mc ms K u n (pc + 3) L st h) : WA G y cc nL ret R mc ms K u n pc L (.int z :: .int x :: st) h := by
  subst hx hz
  exact A_icmp_ge d ht (fun e => kt (by have h1 := nI_eq ha hb; have h2 := nI_ltI ha hb; have h3 := nI_ltI hb ha; have h4 := nI_leI ha hb; have h5 := nI_leI hb ha; simp only [ne_eq, h1, h2, h3, h4, h5] at e; omega)) (fun e => kf (by have h1 := nI_eq ha hb; have h2 := nI_ltI ha hb; have h3 := nI_ltI hb ha; have h4 := nI_leI ha hb; have h5 := nI_leI hb ha; simp only [ne_eq, h1, h2, h3, h4, h5] at e; omega))
theorem A_icmp_gtN {a b : Nat} {x z : Int32} {i : Int} {tgt : Nat} (d : decode cc pc = .ok (.if_icmp .gt i, 3)) (ht : (pc : Int) + i = (tgt : Int)) (hx : x = nI a) (hz : z = nI b) (ha : a < 2 ^ 31) (hb : b < 2 ^ 31) (kt : b < a → WA G y cc nL ret R mc ms K u n tgt L st h) (kf : a ≤ b → WA G y cc nL ret R mc ms K u n (pc + 3) L st h) : WA G y cc nL ret R mc ms K u n pc L (.int z :: .int x :: st) h := by
  subst hx hz
  exact A_icmp_gt d ht (fun e => kt (by have h1 := nI_eq ha hb; have h2 := nI_ltI ha hb; have h3 := nI_ltI hb ha; have h4 := nI_leI ha hb; have h5 := nI_leI hb ha; simp only [ne_eq, h1, h2, h3, h4, h5] at e; omega)) (fun e => kf (by have h1 := nI_eq ha hb; have h2 := nI_ltI ha hb; have h3 := nI_ltI hb ha; have h4 := nI_leI ha hb; have h5 := nI_leI hb ha; simp only [ne_eq, h1, h2, h3, h4, h5] at e; omega))
theorem A_icmp_leN {a b : Nat} {x z : Int32} {i : Int} {tgt : Nat} (d : decode cc pc = .ok (.if_icmp .le i, 3)) (ht : (pc : Int) + i = (tgt : Int)) (hx : x = nI a) (hz : z = nI b) (ha : a < 2 ^ 31) (hb : b < 2 ^ 31) (kt : a ≤ b → WA G y cc nL ret R mc ms K u n tgt L st h) (kf : b < a → WA G y cc nL ret R mc ms K u n (pc + 3) L st h) : WA G y cc nL ret R mc ms K u n pc L (.int z :: .int x :: st) h := by
  subst hx hz
  exact A_icmp_le d ht (fun e => kt (by have h1 := nI_eq ha hb; have h2 := nI_ltI ha hb; have h3 := nI_ltI hb ha; have h4 := nI_leI ha hb; have h5 := nI_leI hb ha; simp only [ne_eq, h1, h2, h3, h4, h5] at e; omega)) (fun e => kf (by have h1 := nI_eq ha hb; have h2 := nI_ltI ha hb; have h3 := nI_ltI hb ha; have h4 := nI_leI ha hb; have h5 := nI_leI hb ha; simp only [ne_eq, h1, h2, h3, h4, h5] at e; omega))
theorem A_if_eqN {a : Nat} {x : Int32} {i : Int} {tgt : Nat} (d : decode cc pc = .ok (.ifCond .eq i, 3)) (ht : (pc : Int) + i = (tgt : Int)) (hx : x = nI a) (ha : a < 2 ^ 31) (kt : a = 0 → WA G y cc nL ret R mc ms K u n tgt L st h) (kf : ¬ a = 0 → WA G y cc nL ret R mc ms K u n (pc + 3) L st h) : WA G y cc nL ret R mc ms K u n pc L (.int x :: st) h := by
  subst hx
  exact A_if_eq d ht (fun e => kt (by have z : (0 : Int32) = nI 0 := rfl; have hb : 0 < 2 ^ 31 := (by decide); rw [z] at e; have h1 := nI_eq ha hb; have h2 := nI_ltI ha hb; have h3 := nI_ltI hb ha; have h4 := nI_leI ha hb; have h5 := nI_leI hb ha; simp only [ne_eq, h1, h2, h3, h4, h5] at e; omega)) (fun e => kf (by have z : (0 : Int32) = nI 0 := rfl; have hb : 0 < 2 ^ 31 := (by decide); rw [z] at e; have h1 := nI_eq ha hb; have h2 := nI_ltI ha hb; have h3 := nI_ltI hb ha; have h4 := nI_leI ha hb; have h5 := nI_leI hb ha; simp only [ne_eq, h1, h2, h3, h4, h5] at e; omega))
theorem A_if_neN {a : Nat} {x : Int32} {i : Int} {tgt : Nat} (d : decode cc pc = .ok (.ifCond .ne i, 3)) (ht : (pc : Int) + i = (tgt : Int)) (hx : x = nI a) (ha : a < 2 ^ 31) (kt : ¬ a = 0 → WA G y cc nL ret R mc ms K u n tgt L st h) (kf : a = 0 → WA G y cc nL ret R mc ms K u n (pc + 3) L st h) : WA G y cc nL ret R mc ms K u n pc L (.int x :: st) h := by
  subst hx
  exact A_if_ne d ht (fun e => kt (by have z : (0 : Int32) = nI 0 := rfl; have hb : 0 < 2 ^ 31 := (by decide); rw [z] at e; have h1 := nI_eq ha hb; have h2 := nI_ltI ha hb; have h3 := nI_ltI hb ha; have h4 := nI_leI ha hb; have h5 := nI_leI hb ha; simp only [ne_eq, h1, h2, h3, h4, h5] at e; omega)) (fun e => kf (by have z : (0 : Int32) = nI 0 := rfl; have hb : 0 < 2 ^ 31 := (by decide); rw [z] at e; have h1 := nI_eq ha hb; have h2 := nI_ltI ha hb; have h3 := nI_ltI hb ha; have h4 := nI_leI ha hb; have h5 := nI_leI hb ha; simp only [ne_eq, h1, h2, h3, h4, h5] at e; omega))
theorem A_if_gtN {a : Nat} {x : Int32} {i : Int} {tgt : Nat} (d : decode cc pc = .ok (.ifCond .gt i, 3)) (ht : (pc : Int) + i = (tgt : Int)) (hx : x = nI a) (ha : a < 2 ^ 31) (kt : 0 < a → WA G y cc nL ret R mc ms K u n tgt L st h) (kf : a = 0 → WA G y cc nL ret R mc ms K u n (pc + 3) L st h) : WA G y cc nL ret R mc ms K u n pc L (.int x :: st) h := by
  subst hx
  exact A_if_gt d ht (fun e => kt (by have z : (0 : Int32) = nI 0 := rfl; have hb : 0 < 2 ^ 31 := (by decide); rw [z] at e; have h1 := nI_eq ha hb; have h2 := nI_ltI ha hb; have h3 := nI_ltI hb ha; have h4 := nI_leI ha hb; have h5 := nI_leI hb ha; simp only [ne_eq, h1, h2, h3, h4, h5] at e; omega)) (fun e => kf (by have z : (0 : Int32) = nI 0 := rfl; have hb : 0 < 2 ^ 31 := (by decide); rw [z] at e; have h1 := nI_eq ha hb; have h2 := nI_ltI ha hb; have h3 := nI_ltI hb ha; have h4 := nI_leI ha hb; have h5 := nI_leI hb ha; simp only [ne_eq, h1, h2, h3, h4, h5] at e; omega))
theorem A_if_leN {a : Nat} {x : Int32} {i : Int} {tgt : Nat} (d : decode cc pc = .ok (.ifCond .le i, 3)) (ht : (pc : Int) + i = (tgt : Int)) (hx : x = nI a) (ha : a < 2 ^ 31) (kt : a = 0 → WA G y cc nL ret R mc ms K u n tgt L st h) (kf : 0 < a → WA G y cc nL ret R mc ms K u n (pc + 3) L st h) : WA G y cc nL ret R mc ms K u n pc L (.int x :: st) h := by
  subst hx
  exact A_if_le d ht (fun e => kt (by have z : (0 : Int32) = nI 0 := rfl; have hb : 0 < 2 ^ 31 := (by decide); rw [z] at e; have h1 := nI_eq ha hb; have h2 := nI_ltI ha hb; have h3 := nI_ltI hb ha; have h4 := nI_leI ha hb; have h5 := nI_leI hb ha; simp only [ne_eq, h1, h2, h3, h4, h5] at e; omega)) (fun e => kf (by have z : (0 : Int32) = nI 0 := rfl; have hb : 0 < 2 ^ 31 := (by decide); rw [z] at e; have h1 := nI_eq ha hb; have h2 := nI_ltI ha hb; have h3 := nI_ltI hb ha; have h4 := nI_leI ha hb; have h5 := nI_leI hb ha; simp only [ne_eq, h1, h2, h3, h4, h5] at e; omega))
theorem A_ialdN {q w k : Nat} {f : Nat → Int32} (d : decode cc pc = .ok (.iaload, 1)) (hq : h q = some (.inl (0, w, .inl f))) (hk : k < w ∧ w < 2 ^ 31) (kk : WA G y cc nL ret R mc ms K u n (pc + 1) L (.int (f k) :: st) h) : WA G y cc nL ret R mc ms K u n pc L (.int (nI k) :: .ref q :: st) h :=
  A_iald d hq (vp_in_nI hk.1 hk.2) (by rw [nI_clamp (by omega)]; exact kk)
theorem A_laldN {q w k : Nat} {f : Nat → Int64} (d : decode cc pc = .ok (.laload, 1)) (hq : h q = some (.inl (1, w, .inr (.inl f)))) (hk : k < w ∧ w < 2 ^ 31) (kk : WA G y cc nL ret R mc ms K u n (pc + 1) L (.long (f k) :: st) h) : WA G y cc nL ret R mc ms K u n pc L (.int (nI k) :: .ref q :: st) h :=
  A_lald d hq (vp_in_nI hk.1 hk.2) (by rw [nI_clamp (by omega)]; exact kk)
theorem A_baldN {q w k : Nat} {f : Nat → Int32} (d : decode cc pc = .ok (.baload, 1)) (hq : h q = some (.inl (2, w, .inl f))) (hk : k < w ∧ w < 2 ^ 31) (kk : WA G y cc nL ret R mc ms K u n (pc + 1) L (.int (f k) :: st) h) : WA G y cc nL ret R mc ms K u n pc L (.int (nI k) :: .ref q :: st) h :=
  A_bald d hq (vp_in_nI hk.1 hk.2) (by rw [nI_clamp (by omega)]; exact kk)
theorem A_zaldN {q w k : Nat} {f : Nat → Int32} (d : decode cc pc = .ok (.baload, 1)) (hq : h q = some (.inl (3, w, .inl f))) (hk : k < w ∧ w < 2 ^ 31) (kk : WA G y cc nL ret R mc ms K u n (pc + 1) L (.int (f k) :: st) h) : WA G y cc nL ret R mc ms K u n pc L (.int (nI k) :: .ref q :: st) h :=
  A_zald d hq (vp_in_nI hk.1 hk.2) (by rw [nI_clamp (by omega)]; exact kk)
theorem A_aaldN {q w t k : Nat} {ty : FieldType} {f : Nat → Option Nat} {v : Value} (d : decode cc pc = .ok (.aaload, 1)) (hq : h q = some (.inl (t, w, .inr (.inr (.inr (.inr f)))))) (ht : wa_aty[t]? = some ty) (hr : ty.isReference = true) (hk : k < w ∧ w < 2 ^ 31) (hv : va_rf (f k) = v) (kk : WA G y cc nL ret R mc ms K u n (pc + 1) L (v :: st) h) : WA G y cc nL ret R mc ms K u n pc L (.int (nI k) :: .ref q :: st) h :=
  A_aald d hq ht hr (vp_in_nI hk.1 hk.2) (by rw [nI_clamp (by omega)]; exact hv) kk
theorem A_iastN {q w k : Nat} {f : Nat → Int32} {x : Int32} (d : decode cc pc = .ok (.iastore, 1)) (hq : h q = some (.inl (0, w, .inl f))) (hk : k < w ∧ w < 2 ^ 31) (h1 : 1000 ≤ q) (kk : WA G y cc nL ret R mc ms K u n (pc + 1) L st (hset h q (.inl (0, w, .inl (fup f k x))))) : WA G y cc nL ret R mc ms K u n pc L (.int x :: .int (nI k) :: .ref q :: st) h :=
  A_iast d hq (vp_in_nI hk.1 hk.2) h1 (by rw [nI_clamp (by omega)]; exact kk)
theorem A_lastN {q w k : Nat} {f : Nat → Int64} {x : Int64} (d : decode cc pc = .ok (.lastore, 1)) (hq : h q = some (.inl (1, w, .inr (.inl f)))) (hk : k < w ∧ w < 2 ^ 31) (h1 : 1000 ≤ q) (kk : WA G y cc nL ret R mc ms K u n (pc + 1) L st (hset h q (.inl (1, w, .inr (.inl (fup f k x)))))) : WA G y cc nL ret R mc ms K u n pc L (.long x :: .int (nI k) :: .ref q :: st) h :=
  A_last d hq (vp_in_nI hk.1 hk.2) h1 (by rw [nI_clamp (by omega)]; exact kk)
theorem A_bastN {q w k : Nat} {f : Nat → Int32} {x : Int32} (d : decode cc pc = .ok (.bastore, 1)) (hq : h q = some (.inl (2, w, .inl f))) (hk : k < w ∧ w < 2 ^ 31) (h1 : 1000 ≤ q) (kk : WA G y cc nL ret R mc ms K u n (pc + 1) L st (hset h q (.inl (2, w, .inl (fup f k (vp_nar .byte x)))))) : WA G y cc nL ret R mc ms K u n pc L (.int x :: .int (nI k) :: .ref q :: st) h :=
  A_bast d hq (vp_in_nI hk.1 hk.2) h1 (by rw [nI_clamp (by omega)]; exact kk)
theorem A_zastN {q w k : Nat} {f : Nat → Int32} {x : Int32} (d : decode cc pc = .ok (.bastore, 1)) (hq : h q = some (.inl (3, w, .inl f))) (hk : k < w ∧ w < 2 ^ 31) (h1 : 1000 ≤ q) (kk : WA G y cc nL ret R mc ms K u n (pc + 1) L st (hset h q (.inl (3, w, .inl (fup f k (vp_nar .boolean x)))))) : WA G y cc nL ret R mc ms K u n pc L (.int x :: .int (nI k) :: .ref q :: st) h :=
  A_zast d hq (vp_in_nI hk.1 hk.2) h1 (by rw [nI_clamp (by omega)]; exact kk)
end NROWS
abbrev r_N_init : Room := { frames := 3, cells := 0, slots := 0, locals := 61 }
theorem mk_N_init : MOK y_N_init b_N_init 1 none 0 := ⟨q_1, q_22, by decide +kernel, by decide +kernel, by decide +kernel⟩
abbrev r_Td_init : Room := { frames := 2, cells := 0, slots := 0, locals := 40 }
theorem mk_Td_init : MOK y_Td_init b_Td_init 2 none 0 := ⟨q_2, q_30, by decide +kernel, by decide +kernel, by decide +kernel⟩
abbrev r_Ld_init : Room := { frames := 1, cells := 0, slots := 0, locals := 20 }
theorem mk_Ld_init : MOK y_Ld_init b_Ld_init 1 none 0 := ⟨q_3, q_43, by decide +kernel, by decide +kernel, by decide +kernel⟩
abbrev r_Bk_init : Room := { frames := 1, cells := 0, slots := 0, locals := 20 }
theorem mk_Bk_init : MOK y_Bk_init b_Bk_init 1 none 0 := ⟨q_4, q_144, by decide +kernel, by decide +kernel, by decide +kernel⟩
abbrev r_Si_init : Room := { frames := 1, cells := 0, slots := 0, locals := 20 }
theorem mk_Si_init : MOK y_Si_init b_Si_init 1 none 0 := ⟨q_5, q_172, by decide +kernel, by decide +kernel, by decide +kernel⟩
abbrev r_Rd_init : Room := { frames := 2, cells := 0, slots := 0, locals := 40 }
theorem mk_Rd_init : MOK y_Rd_init b_Rd_init 1 none 0 := ⟨q_6, q_238, by decide +kernel, by decide +kernel, by decide +kernel⟩
abbrev r_To_init : Room := { frames := 1, cells := 0, slots := 0, locals := 20 }
theorem mk_To_init : MOK y_To_init b_To_init 1 none 0 := ⟨q_7, q_244, by decide +kernel, by decide +kernel, by decide +kernel⟩
abbrev r_Pl_init : Room := { frames := 1, cells := 0, slots := 0, locals := 20 }
theorem mk_Pl_init : MOK y_Pl_init b_Pl_init 1 none 0 := ⟨q_8, q_331, by decide +kernel, by decide +kernel, by decide +kernel⟩
abbrev r_N_feed : Room := { frames := 1, cells := 0, slots := 0, locals := 22 }
theorem mk_N_feed : MOK y_N_feed b_N_feed 6 (some .int) 5 := ⟨q_1, q_396, by decide +kernel, by decide +kernel, by decide +kernel⟩
abbrev r_Td_append : Room := { frames := 0, cells := 0, slots := 0, locals := 0 }
theorem mk_Td_append : MOK y_Td_append b_Td_append 3 none 1 := ⟨q_2, q_400, by decide +kernel, by decide +kernel, by decide +kernel⟩
abbrev r_N_end : Room := { frames := 0, cells := 0, slots := 0, locals := 0 }
theorem mk_N_end : MOK y_N_end b_N_end 2 (some .int) 1 := ⟨q_1, q_404, by decide +kernel, by decide +kernel, by decide +kernel⟩
abbrev r_N_text : Room := { frames := 10, cells := 0, slots := 0, locals := 215 }
theorem mk_N_text : MOK y_N_text b_N_text 5 (some .int) 2 := ⟨q_1, q_408, by decide +kernel, by decide +kernel, by decide +kernel⟩
abbrev r_N_slotFor : Room := { frames := 0, cells := 0, slots := 0, locals := 0 }
theorem mk_N_slotFor : MOK y_N_slotFor b_N_slotFor 4 (some .int) 2 := ⟨q_1, q_412, by decide +kernel, by decide +kernel, by decide +kernel⟩
abbrev r_Rd_read : Room := { frames := 9, cells := 0, slots := 0, locals := 191 }
theorem mk_Rd_read : MOK y_Rd_read b_Rd_read 5 none 3 := ⟨q_6, q_416, by decide +kernel, by decide +kernel, by decide +kernel⟩
abbrev r_Rd_clear : Room := { frames := 2, cells := 0, slots := 0, locals := 43 }
theorem mk_Rd_clear : MOK y_Rd_clear b_Rd_clear 1 none 0 := ⟨q_6, q_420, by decide +kernel, by decide +kernel, by decide +kernel⟩
abbrev r_Ld_clear : Room := { frames := 1, cells := 0, slots := 0, locals := 23 }
theorem mk_Ld_clear : MOK y_Ld_clear b_Ld_clear 1 none 0 := ⟨q_3, q_424, by decide +kernel, by decide +kernel, by decide +kernel⟩
abbrev r_JA_fill_0 : Room := { frames := 0, cells := 0, slots := 0, locals := 0 }
theorem mk_JA_fill_0 : MOK y_JA_fill_0 b_JA_fill_0 4 none 2 := ⟨q_10, q_427, by decide +kernel, by decide +kernel, by decide +kernel⟩
abbrev r_Bk_clear : Room := { frames := 0, cells := 0, slots := 0, locals := 0 }
theorem mk_Bk_clear : MOK y_Bk_clear b_Bk_clear 1 none 0 := ⟨q_4, q_432, by decide +kernel, by decide +kernel, by decide +kernel⟩
abbrev r_To_begin : Room := { frames := 3, cells := 0, slots := 0, locals := 65 }
theorem mk_To_begin : MOK y_To_begin b_To_begin 3 none 2 := ⟨q_7, q_436, by decide +kernel, by decide +kernel, by decide +kernel⟩
abbrev r_JM_min : Room := { frames := 0, cells := 0, slots := 0, locals := 0 }
theorem mk_JM_min : MOK y_JM_min b_JM_min 2 (some .int) 2 := ⟨q_11, q_439, by decide +kernel, by decide +kernel, by decide +kernel⟩
abbrev r_To_step : Room := { frames := 2, cells := 0, slots := 0, locals := 45 }
theorem mk_To_step : MOK y_To_step b_To_step 1 none 0 := ⟨q_7, q_443, by decide +kernel, by decide +kernel, by decide +kernel⟩
abbrev r_To_isWithin : Room := { frames := 0, cells := 0, slots := 0, locals := 0 }
theorem mk_To_isWithin : MOK y_To_isWithin b_To_isWithin 4 (some .boolean) 3 := ⟨q_7, q_447, by decide +kernel, by decide +kernel, by decide +kernel⟩
abbrev r_To_pass : Room := { frames := 1, cells := 0, slots := 0, locals := 23 }
theorem mk_To_pass : MOK y_To_pass b_To_pass 3 none 2 := ⟨q_7, q_451, by decide +kernel, by decide +kernel, by decide +kernel⟩
abbrev r_To_takeNumber : Room := { frames := 0, cells := 0, slots := 0, locals := 0 }
theorem mk_To_takeNumber : MOK y_To_takeNumber b_To_takeNumber 2 none 0 := ⟨q_7, q_455, by decide +kernel, by decide +kernel, by decide +kernel⟩
abbrev r_Rd_readLine : Room := { frames := 8, cells := 0, slots := 0, locals := 169 }
theorem mk_Rd_readLine : MOK y_Rd_readLine b_Rd_readLine 3 (some .boolean) 1 := ⟨q_6, q_459, by decide +kernel, by decide +kernel, by decide +kernel⟩
abbrev r_Rd_lineHere : Room := { frames := 7, cells := 0, slots := 0, locals := 148 }
theorem mk_Rd_lineHere : MOK y_Rd_lineHere b_Rd_lineHere 2 (some .int) 1 := ⟨q_6, q_463, by decide +kernel, by decide +kernel, by decide +kernel⟩
abbrev r_Rd_landLineHere : Room := { frames := 6, cells := 0, slots := 0, locals := 128 }
theorem mk_Rd_landLineHere : MOK y_Rd_landLineHere b_Rd_landLineHere 1 (some .int) 0 := ⟨q_6, q_467, by decide +kernel, by decide +kernel, by decide +kernel⟩
abbrev r_To_isWord : Room := { frames := 5, cells := 0, slots := 0, locals := 106 }
theorem mk_To_isWord : MOK y_To_isWord b_To_isWord 3 (some .boolean) 1 := ⟨q_7, q_472, by decide +kernel, by decide +kernel, by decide +kernel⟩
abbrev r_JS_length : Room := { frames := 1, cells := 0, slots := 0, locals := 20 }
theorem mk_JS_length : MOK y_JS_length b_JS_length 1 (some .int) 0 := ⟨q_12, q_476, by decide +kernel, by decide +kernel, by decide +kernel⟩
abbrev r_JS_coder : Room := { frames := 0, cells := 0, slots := 0, locals := 0 }
theorem mk_JS_coder : MOK y_JS_coder b_JS_coder 1 (some .byte) 0 := ⟨q_12, q_480, by decide +kernel, by decide +kernel, by decide +kernel⟩
abbrev r_JS_charAt : Room := { frames := 4, cells := 0, slots := 0, locals := 85 }
theorem mk_JS_charAt : MOK y_JS_charAt b_JS_charAt 2 (some .char) 1 := ⟨q_12, q_486, by decide +kernel, by decide +kernel, by decide +kernel⟩
abbrev r_JS_isLatin1 : Room := { frames := 0, cells := 0, slots := 0, locals := 0 }
theorem mk_JS_isLatin1 : MOK y_JS_isLatin1 b_JS_isLatin1 1 (some .boolean) 0 := ⟨q_12, q_490, by decide +kernel, by decide +kernel, by decide +kernel⟩
abbrev r_JL_charAt : Room := { frames := 2, cells := 0, slots := 0, locals := 43 }
theorem mk_JL_charAt : MOK y_JL_charAt b_JL_charAt 2 (some .char) 2 := ⟨q_13, q_493, by decide +kernel, by decide +kernel, by decide +kernel⟩
abbrev r_JS_checkIndex : Room := { frames := 1, cells := 0, slots := 0, locals := 22 }
theorem mk_JS_checkIndex : MOK y_JS_checkIndex b_JS_checkIndex 2 none 2 := ⟨q_12, q_496, by decide +kernel, by decide +kernel, by decide +kernel⟩
abbrev r_JP_checkIndex : Room := { frames := 0, cells := 0, slots := 0, locals := 0 }
theorem mk_JP_checkIndex : MOK y_JP_checkIndex b_JP_checkIndex 3 (some .int) 3 := ⟨q_14, q_501, by decide +kernel, by decide +kernel, by decide +kernel⟩
abbrev r_JU_charAt : Room := { frames := 3, cells := 0, slots := 0, locals := 64 }
theorem mk_JU_charAt : MOK y_JU_charAt b_JU_charAt 2 (some .char) 2 := ⟨q_15, q_504, by decide +kernel, by decide +kernel, by decide +kernel⟩
abbrev r_JU_checkIndex : Room := { frames := 2, cells := 0, slots := 0, locals := 43 }
theorem mk_JU_checkIndex : MOK y_JU_checkIndex b_JU_checkIndex 2 none 2 := ⟨q_15, q_507, by decide +kernel, by decide +kernel, by decide +kernel⟩
abbrev r_JU_length : Room := { frames := 0, cells := 0, slots := 0, locals := 0 }
theorem mk_JU_length : MOK y_JU_length b_JU_length 1 (some .int) 1 := ⟨q_15, q_510, by decide +kernel, by decide +kernel, by decide +kernel⟩
abbrev r_JU_getChar : Room := { frames := 1, cells := 0, slots := 0, locals := 20 }
theorem mk_JU_getChar : MOK y_JU_getChar b_JU_getChar 2 (some .char) 2 := ⟨q_15, q_514, by decide +kernel, by decide +kernel, by decide +kernel⟩
abbrev r_Rd_readDark : Room := { frames := 6, cells := 0, slots := 0, locals := 128 }
theorem mk_Rd_readDark : MOK y_Rd_readDark b_Rd_readDark 1 (some .boolean) 0 := ⟨q_6, q_538, by decide +kernel, by decide +kernel, by decide +kernel⟩
abbrev r_Rd_checkLine : Room := { frames := 1, cells := 0, slots := 0, locals := 22 }
theorem mk_Rd_checkLine : MOK y_Rd_checkLine b_Rd_checkLine 2 none 0 := ⟨q_6, q_544, by decide +kernel, by decide +kernel, by decide +kernel⟩
abbrev r_Rd_isOneTooMany : Room := { frames := 0, cells := 0, slots := 0, locals := 0 }
theorem mk_Rd_isOneTooMany : MOK y_Rd_isOneTooMany b_Rd_isOneTooMany 1 (some .boolean) 0 := ⟨q_6, q_548, by decide +kernel, by decide +kernel, by decide +kernel⟩
abbrev r_Rd_note : Room := { frames := 0, cells := 0, slots := 0, locals := 0 }
theorem mk_Rd_note : MOK y_Rd_note b_Rd_note 3 none 2 := ⟨q_6, q_552, by decide +kernel, by decide +kernel, by decide +kernel⟩
abbrev r_Rd_canBe : Room := { frames := 0, cells := 0, slots := 0, locals := 0 }
theorem mk_Rd_canBe : MOK y_Rd_canBe b_Rd_canBe 3 (some .boolean) 1 := ⟨q_6, q_556, by decide +kernel, by decide +kernel, by decide +kernel⟩
abbrev r_Rd_tellLine : Room := { frames := 3, cells := 0, slots := 0, locals := 67 }
theorem mk_Rd_tellLine : MOK y_Rd_tellLine b_Rd_tellLine 1 none 0 := ⟨q_6, q_564, by decide +kernel, by decide +kernel, by decide +kernel⟩
abbrev r_Rd_tellPerson : Room := { frames := 0, cells := 0, slots := 0, locals := 0 }
theorem mk_Rd_tellPerson : MOK y_Rd_tellPerson b_Rd_tellPerson 1 none 0 := ⟨q_6, q_568, by decide +kernel, by decide +kernel, by decide +kernel⟩
abbrev r_Rd_tellLikes : Room := { frames := 2, cells := 0, slots := 0, locals := 46 }
theorem mk_Rd_tellLikes : MOK y_Rd_tellLikes b_Rd_tellLikes 2 none 0 := ⟨q_6, q_572, by decide +kernel, by decide +kernel, by decide +kernel⟩
abbrev r_JA_fill_1 : Room := { frames := 1, cells := 0, slots := 0, locals := 22 }
theorem mk_JA_fill_1 : MOK y_JA_fill_1 b_JA_fill_1 5 none 4 := ⟨q_10, q_575, by decide +kernel, by decide +kernel, by decide +kernel⟩
abbrev r_JA_rangeCheck : Room := { frames := 0, cells := 0, slots := 0, locals := 0 }
theorem mk_JA_rangeCheck : MOK y_JA_rangeCheck b_JA_rangeCheck 3 none 3 := ⟨q_10, q_578, by decide +kernel, by decide +kernel, by decide +kernel⟩
abbrev r_JM_max_0 : Room := { frames := 0, cells := 0, slots := 0, locals := 0 }
theorem mk_JM_max_0 : MOK y_JM_max_0 b_JM_max_0 2 (some .int) 2 := ⟨q_11, q_581, by decide +kernel, by decide +kernel, by decide +kernel⟩
abbrev r_Bk_add : Room := { frames := 0, cells := 0, slots := 0, locals := 0 }
theorem mk_Bk_add : MOK y_Bk_add b_Bk_add 4 none 2 := ⟨q_4, q_585, by decide +kernel, by decide +kernel, by decide +kernel⟩
abbrev r_Si_add : Room := { frames := 1, cells := 0, slots := 0, locals := 20 }
theorem mk_Si_add : MOK y_Si_add b_Si_add 4 none 3 := ⟨q_5, q_589, by decide +kernel, by decide +kernel, by decide +kernel⟩
abbrev r_N_oneIf : Room := { frames := 0, cells := 0, slots := 0, locals := 0 }
theorem mk_N_oneIf : MOK y_N_oneIf b_N_oneIf 1 (some .int) 1 := ⟨q_1, q_592, by decide +kernel, by decide +kernel, by decide +kernel⟩
abbrev r_N_keep : Room := { frames := 2, cells := 0, slots := 0, locals := 61 }
theorem mk_N_keep : MOK y_N_keep b_N_keep 3 none 2 := ⟨q_1, q_596, by decide +kernel, by decide +kernel, by decide +kernel⟩
abbrev r_Ld_copyFrom : Room := { frames := 1, cells := 0, slots := 0, locals := 40 }
theorem mk_Ld_copyFrom : MOK y_Ld_copyFrom b_Ld_copyFrom 2 none 1 := ⟨q_3, q_600, by decide +kernel, by decide +kernel, by decide +kernel⟩
abbrev r_Bk_copyFrom : Room := { frames := 1, cells := 0, slots := 0, locals := 40 }
theorem mk_Bk_copyFrom : MOK y_Bk_copyFrom b_Bk_copyFrom 2 none 1 := ⟨q_4, q_608, by decide +kernel, by decide +kernel, by decide +kernel⟩
abbrev r_Si_copyFrom : Room := { frames := 1, cells := 0, slots := 0, locals := 40 }
theorem mk_Si_copyFrom : MOK y_Si_copyFrom b_Si_copyFrom 2 none 1 := ⟨q_5, q_613, by decide +kernel, by decide +kernel, by decide +kernel⟩
abbrev r_N_fault : Room := { frames := 0, cells := 0, slots := 0, locals := 0 }
theorem mk_N_fault : MOK y_N_fault b_N_fault 2 (some .int) 1 := ⟨q_1, q_619, by decide +kernel, by decide +kernel, by decide +kernel⟩
abbrev r_N_count : Room := { frames := 0, cells := 0, slots := 0, locals := 0 }
theorem mk_N_count : MOK y_N_count b_N_count 2 (some .int) 1 := ⟨q_1, q_623, by decide +kernel, by decide +kernel, by decide +kernel⟩
abbrev r_N_image : Room := { frames := 3, cells := 0, slots := 0, locals := 83 }
theorem mk_N_image : MOK y_N_image b_N_image 2 (some .boolean) 1 := ⟨q_1, q_627, by decide +kernel, by decide +kernel, by decide +kernel⟩
abbrev r_Td_copyFrom : Room := { frames := 2, cells := 0, slots := 0, locals := 61 }
theorem mk_Td_copyFrom : MOK y_Td_copyFrom b_Td_copyFrom 3 none 1 := ⟨q_2, q_631, by decide +kernel, by decide +kernel, by decide +kernel⟩
abbrev r_N_again : Room := { frames := 3, cells := 0, slots := 0, locals := 83 }
theorem mk_N_again : MOK y_N_again b_N_again 2 (some .boolean) 1 := ⟨q_1, q_639, by decide +kernel, by decide +kernel, by decide +kernel⟩
abbrev r_N_land : Room := { frames := 1, cells := 0, slots := 0, locals := 22 }
theorem mk_N_land : MOK y_N_land b_N_land 4 (some .int) 2 := ⟨q_1, q_643, by decide +kernel, by decide +kernel, by decide +kernel⟩
abbrev r_N_isTold : Room := { frames := 0, cells := 0, slots := 0, locals := 0 }
theorem mk_N_isTold : MOK y_N_isTold b_N_isTold 3 (some .boolean) 2 := ⟨q_1, q_647, by decide +kernel, by decide +kernel, by decide +kernel⟩
abbrev r_N_person : Room := { frames := 1, cells := 0, slots := 0, locals := 22 }
theorem mk_N_person : MOK y_N_person b_N_person 5 (some .int) 3 := ⟨q_1, q_651, by decide +kernel, by decide +kernel, by decide +kernel⟩
abbrev r_Ld_hasPerson : Room := { frames := 0, cells := 0, slots := 0, locals := 0 }
theorem mk_Ld_hasPerson : MOK y_Ld_hasPerson b_Ld_hasPerson 2 (some .boolean) 1 := ⟨q_3, q_655, by decide +kernel, by decide +kernel, by decide +kernel⟩
abbrev r_N_night : Room := { frames := 1, cells := 0, slots := 0, locals := 22 }
theorem mk_N_night : MOK y_N_night b_N_night 3 (some .int) 2 := ⟨q_1, q_659, by decide +kernel, by decide +kernel, by decide +kernel⟩
abbrev r_N_spell : Room := { frames := 1, cells := 0, slots := 0, locals := 22 }
theorem mk_N_spell : MOK y_N_spell b_N_spell 5 (some .int) 3 := ⟨q_1, q_663, by decide +kernel, by decide +kernel, by decide +kernel⟩
abbrev r_N_seen : Room := { frames := 1, cells := 0, slots := 0, locals := 22 }
theorem mk_N_seen : MOK y_N_seen b_N_seen 5 (some .int) 3 := ⟨q_1, q_667, by decide +kernel, by decide +kernel, by decide +kernel⟩
abbrev r_N_row : Room := { frames := 4, cells := 0, slots := 0, locals := 91 }
theorem mk_N_row : MOK y_N_row b_N_row 6 (some .int) 3 := ⟨q_1, q_671, by decide +kernel, by decide +kernel, by decide +kernel⟩
abbrev r_N_hasRow : Room := { frames := 1, cells := 0, slots := 0, locals := 22 }
theorem mk_N_hasRow : MOK y_N_hasRow b_N_hasRow 3 (some .boolean) 2 := ⟨q_1, q_675, by decide +kernel, by decide +kernel, by decide +kernel⟩
abbrev r_Ld_isLegal : Room := { frames := 3, cells := 0, slots := 0, locals := 67 }
theorem mk_Ld_isLegal : MOK y_Ld_isLegal b_Ld_isLegal 5 (some .boolean) 1 := ⟨q_3, q_679, by decide +kernel, by decide +kernel, by decide +kernel⟩
abbrev r_Ld_before : Room := { frames := 1, cells := 0, slots := 0, locals := 22 }
theorem mk_Ld_before : MOK y_Ld_before b_Ld_before 3 (some .int) 2 := ⟨q_3, q_683, by decide +kernel, by decide +kernel, by decide +kernel⟩
abbrev r_Ld_at : Room := { frames := 0, cells := 0, slots := 0, locals := 0 }
theorem mk_Ld_at : MOK y_Ld_at b_Ld_at 3 (some .int) 2 := ⟨q_3, q_687, by decide +kernel, by decide +kernel, by decide +kernel⟩
abbrev r_Ld_isCrossing : Room := { frames := 2, cells := 0, slots := 0, locals := 44 }
theorem mk_Ld_isCrossing : MOK y_Ld_isCrossing b_Ld_isCrossing 4 (some .boolean) 2 := ⟨q_3, q_691, by decide +kernel, by decide +kernel, by decide +kernel⟩
abbrev r_Ld_carryings : Room := { frames := 2, cells := 0, slots := 0, locals := 46 }
theorem mk_Ld_carryings : MOK y_Ld_carryings b_Ld_carryings 4 (some .int) 1 := ⟨q_3, q_696, by decide +kernel, by decide +kernel, by decide +kernel⟩
abbrev r_Ld_arrives : Room := { frames := 1, cells := 0, slots := 0, locals := 22 }
theorem mk_Ld_arrives : MOK y_Ld_arrives b_Ld_arrives 5 (some .boolean) 2 := ⟨q_3, q_700, by decide +kernel, by decide +kernel, by decide +kernel⟩
abbrev r_Ld_dark : Room := { frames := 1, cells := 0, slots := 0, locals := 20 }
theorem mk_Ld_dark : MOK y_Ld_dark b_Ld_dark 5 (some .int) 2 := ⟨q_3, q_705, by decide +kernel, by decide +kernel, by decide +kernel⟩
abbrev r_Ld_sleepless : Room := { frames := 0, cells := 0, slots := 0, locals := 0 }
theorem mk_Ld_sleepless : MOK y_Ld_sleepless b_Ld_sleepless 6 (some .int) 2 := ⟨q_3, q_709, by decide +kernel, by decide +kernel, by decide +kernel⟩
abbrev r_Ld_valueOf : Room := { frames := 1, cells := 0, slots := 0, locals := 25 }
theorem mk_Ld_valueOf : MOK y_Ld_valueOf b_Ld_valueOf 4 (some .int) 1 := ⟨q_3, q_713, by decide +kernel, by decide +kernel, by decide +kernel⟩
abbrev r_Ld_likedDark : Room := { frames := 0, cells := 0, slots := 0, locals := 0 }
theorem mk_Ld_likedDark : MOK y_Ld_likedDark b_Ld_likedDark 6 (some .int) 3 := ⟨q_3, q_717, by decide +kernel, by decide +kernel, by decide +kernel⟩
abbrev r_Ld_priceOf : Room := { frames := 2, cells := 0, slots := 0, locals := 46 }
theorem mk_Ld_priceOf : MOK y_Ld_priceOf b_Ld_priceOf 4 (some .int) 1 := ⟨q_3, q_721, by decide +kernel, by decide +kernel, by decide +kernel⟩
abbrev r_Ld_feeAt : Room := { frames := 1, cells := 0, slots := 0, locals := 21 }
theorem mk_Ld_feeAt : MOK y_Ld_feeAt b_Ld_feeAt 4 (some .int) 1 := ⟨q_3, q_725, by decide +kernel, by decide +kernel, by decide +kernel⟩
abbrev r_N_days : Room := { frames := 4, cells := 0, slots := 0, locals := 91 }
theorem mk_N_days : MOK y_N_days b_N_days 7 (some .int) 3 := ⟨q_1, q_730, by decide +kernel, by decide +kernel, by decide +kernel⟩
abbrev r_N_sleptOn : Room := { frames := 3, cells := 0, slots := 0, locals := 66 }
theorem mk_N_sleptOn : MOK y_N_sleptOn b_N_sleptOn 6 (some .int) 3 := ⟨q_1, q_733, by decide +kernel, by decide +kernel, by decide +kernel⟩
abbrev r_Bk_hoursAt : Room := { frames := 2, cells := 0, slots := 0, locals := 41 }
theorem mk_Bk_hoursAt : MOK y_Bk_hoursAt b_Bk_hoursAt 6 (some .int) 3 := ⟨q_4, q_737, by decide +kernel, by decide +kernel, by decide +kernel⟩
abbrev r_Bk_trackHours : Room := { frames := 1, cells := 0, slots := 0, locals := 21 }
theorem mk_Bk_trackHours : MOK y_Bk_trackHours b_Bk_trackHours 1 (some .int) 0 := ⟨q_4, q_742, by decide +kernel, by decide +kernel, by decide +kernel⟩
abbrev r_Ld_everybody : Room := { frames := 0, cells := 0, slots := 0, locals := 0 }
theorem mk_Ld_everybody : MOK y_Ld_everybody b_Ld_everybody 1 (some .int) 0 := ⟨q_3, q_748, by decide +kernel, by decide +kernel, by decide +kernel⟩
abbrev r_Bk_villages : Room := { frames := 2, cells := 0, slots := 0, locals := 41 }
theorem mk_Bk_villages : MOK y_Bk_villages b_Bk_villages 5 (some .int) 1 := ⟨q_4, q_752, by decide +kernel, by decide +kernel, by decide +kernel⟩
abbrev r_N_breach : Room := { frames := 3, cells := 0, slots := 0, locals := 66 }
theorem mk_N_breach : MOK y_N_breach b_N_breach 7 (some .int) 4 := ⟨q_1, q_756, by decide +kernel, by decide +kernel, by decide +kernel⟩
abbrev r_N_firstBreach : Room := { frames := 2, cells := 0, slots := 0, locals := 41 }
theorem mk_N_firstBreach : MOK y_N_firstBreach b_N_firstBreach 4 (some .int) 3 := ⟨q_1, q_759, by decide +kernel, by decide +kernel, by decide +kernel⟩
abbrev r_N_owed : Room := { frames := 2, cells := 0, slots := 0, locals := 41 }
theorem mk_N_owed : MOK y_N_owed b_N_owed 6 (some .int) 4 := ⟨q_1, q_764, by decide +kernel, by decide +kernel, by decide +kernel⟩
abbrev r_N_ways : Room := { frames := 3, cells := 0, slots := 0, locals := 73 }
theorem mk_N_ways : MOK y_N_ways b_N_ways 6 (some .long) 1 := ⟨q_1, q_768, by decide +kernel, by decide +kernel, by decide +kernel⟩
abbrev r_N_waysWith : Room := { frames := 2, cells := 0, slots := 0, locals := 47 }
theorem mk_N_waysWith : MOK y_N_waysWith b_N_waysWith 7 (some .long) 2 := ⟨q_1, q_772, by decide +kernel, by decide +kernel, by decide +kernel⟩
abbrev r_N_rowsWith : Room := { frames := 1, cells := 0, slots := 0, locals := 24 }
theorem mk_N_rowsWith : MOK y_N_rowsWith b_N_rowsWith 4 (some .long) 4 := ⟨q_1, q_775, by decide +kernel, by decide +kernel, by decide +kernel⟩
abbrev r_N_choose : Room := { frames := 0, cells := 0, slots := 0, locals := 0 }
theorem mk_N_choose : MOK y_N_choose b_N_choose 5 (some .long) 2 := ⟨q_1, q_778, by decide +kernel, by decide +kernel, by decide +kernel⟩
abbrev r_N_best : Room := { frames := 5, cells := 0, slots := 0, locals := 130 }
theorem mk_N_best : MOK y_N_best b_N_best 5 (some .int) 2 := ⟨q_1, q_782, by decide +kernel, by decide +kernel, by decide +kernel⟩
abbrev r_N_fewest : Room := { frames := 3, cells := 0, slots := 0, locals := 73 }
theorem mk_N_fewest : MOK y_N_fewest b_N_fewest 2 (some .int) 1 := ⟨q_1, q_785, by decide +kernel, by decide +kernel, by decide +kernel⟩
abbrev r_Ld_greatestNeed : Room := { frames := 1, cells := 0, slots := 0, locals := 21 }
theorem mk_Ld_greatestNeed : MOK y_Ld_greatestNeed b_Ld_greatestNeed 4 (some .int) 1 := ⟨q_3, q_789, by decide +kernel, by decide +kernel, by decide +kernel⟩
abbrev r_Pl_plan : Room := { frames := 4, cells := 0, slots := 0, locals := 106 }
theorem mk_Pl_plan : MOK y_Pl_plan b_Pl_plan 5 none 1 := ⟨q_8, q_795, by decide +kernel, by decide +kernel, by decide +kernel⟩
abbrev r_Pl_prepare : Room := { frames := 2, cells := 0, slots := 0, locals := 44 }
theorem mk_Pl_prepare : MOK y_Pl_prepare b_Pl_prepare 3 none 1 := ⟨q_8, q_799, by decide +kernel, by decide +kernel, by decide +kernel⟩
abbrev r_Ld_worthOf : Room := { frames := 0, cells := 0, slots := 0, locals := 0 }
theorem mk_Ld_worthOf : MOK y_Ld_worthOf b_Ld_worthOf 6 (some .int) 2 := ⟨q_3, q_805, by decide +kernel, by decide +kernel, by decide +kernel⟩
abbrev r_Pl_bestFrom : Room := { frames := 3, cells := 0, slots := 0, locals := 82 }
theorem mk_Pl_bestFrom : MOK y_Pl_bestFrom b_Pl_bestFrom 5 (some .long) 2 := ⟨q_8, q_811, by decide +kernel, by decide +kernel, by decide +kernel⟩
abbrev r_JA_fill_2 : Room := { frames := 1, cells := 0, slots := 0, locals := 22 }
theorem mk_JA_fill_2 : MOK y_JA_fill_2 b_JA_fill_2 6 none 4 := ⟨q_10, q_814, by decide +kernel, by decide +kernel, by decide +kernel⟩
abbrev r_Pl_cell : Room := { frames := 0, cells := 0, slots := 0, locals := 0 }
theorem mk_Pl_cell : MOK y_Pl_cell b_Pl_cell 4 (some .int) 3 := ⟨q_8, q_819, by decide +kernel, by decide +kernel, by decide +kernel⟩
abbrev r_Pl_scoreOf : Room := { frames := 0, cells := 0, slots := 0, locals := 0 }
theorem mk_Pl_scoreOf : MOK y_Pl_scoreOf b_Pl_scoreOf 3 (some .long) 2 := ⟨q_8, q_823, by decide +kernel, by decide +kernel, by decide +kernel⟩
abbrev r_Pl_advance : Room := { frames := 2, cells := 0, slots := 0, locals := 56 }
theorem mk_Pl_advance : MOK y_Pl_advance b_Pl_advance 7 none 1 := ⟨q_8, q_828, by decide +kernel, by decide +kernel, by decide +kernel⟩
abbrev r_Pl_onward : Room := { frames := 0, cells := 0, slots := 0, locals := 0 }
theorem mk_Pl_onward : MOK y_Pl_onward b_Pl_onward 2 (some .int) 1 := ⟨q_8, q_832, by decide +kernel, by decide +kernel, by decide +kernel⟩
abbrev r_Pl_enter : Room := { frames := 1, cells := 0, slots := 0, locals := 23 }
theorem mk_Pl_enter : MOK y_Pl_enter b_Pl_enter 14 none 6 := ⟨q_8, q_836, by decide +kernel, by decide +kernel, by decide +kernel⟩
abbrev r_Pl_isArrival : Room := { frames := 0, cells := 0, slots := 0, locals := 0 }
theorem mk_Pl_isArrival : MOK y_Pl_isArrival b_Pl_isArrival 2 (some .boolean) 2 := ⟨q_8, q_839, by decide +kernel, by decide +kernel, by decide +kernel⟩
abbrev r_JM_max_1 : Room := { frames := 0, cells := 0, slots := 0, locals := 0 }
theorem mk_JM_max_1 : MOK y_JM_max_1 b_JM_max_1 4 (some .long) 2 := ⟨q_11, q_842, by decide +kernel, by decide +kernel, by decide +kernel⟩
abbrev r_Pl_leaving : Room := { frames := 0, cells := 0, slots := 0, locals := 0 }
theorem mk_Pl_leaving : MOK y_Pl_leaving b_Pl_leaving 2 (some .int) 1 := ⟨q_8, q_846, by decide +kernel, by decide +kernel, by decide +kernel⟩
abbrev r_Pl_bestClosed : Room := { frames := 2, cells := 0, slots := 0, locals := 56 }
theorem mk_Pl_bestClosed : MOK y_Pl_bestClosed b_Pl_bestClosed 7 (some .long) 2 := ⟨q_8, q_850, by decide +kernel, by decide +kernel, by decide +kernel⟩
abbrev r_Pl_bestEnd : Room := { frames := 1, cells := 0, slots := 0, locals := 25 }
theorem mk_Pl_bestEnd : MOK y_Pl_bestEnd b_Pl_bestEnd 12 (some .long) 4 := ⟨q_8, q_854, by decide +kernel, by decide +kernel, by decide +kernel⟩
abbrev r_Pl_keep : Room := { frames := 1, cells := 0, slots := 0, locals := 25 }
theorem mk_Pl_keep : MOK y_Pl_keep b_Pl_keep 9 none 2 := ⟨q_8, q_859, by decide +kernel, by decide +kernel, by decide +kernel⟩
abbrev r_JM_floorDiv : Room := { frames := 0, cells := 0, slots := 0, locals := 0 }
theorem mk_JM_floorDiv : MOK y_JM_floorDiv b_JM_floorDiv 6 (some .long) 2 := ⟨q_11, q_862, by decide +kernel, by decide +kernel, by decide +kernel⟩
abbrev r_N_worth : Room := { frames := 1, cells := 0, slots := 0, locals := 25 }
theorem mk_N_worth : MOK y_N_worth b_N_worth 4 (some .int) 3 := ⟨q_1, q_867, by decide +kernel, by decide +kernel, by decide +kernel⟩
abbrev r_N_isCity : Room := { frames := 0, cells := 0, slots := 0, locals := 0 }
theorem mk_N_isCity : MOK y_N_isCity b_N_isCity 1 (some .boolean) 1 := ⟨q_1, q_870, by decide +kernel, by decide +kernel, by decide +kernel⟩
abbrev r_N_envy : Room := { frames := 1, cells := 0, slots := 0, locals := 25 }
theorem mk_N_envy : MOK y_N_envy b_N_envy 6 (some .int) 3 := ⟨q_1, q_875, by decide +kernel, by decide +kernel, by decide +kernel⟩
abbrev r_N_cut : Room := { frames := 3, cells := 0, slots := 0, locals := 76 }
theorem mk_N_cut : MOK y_N_cut b_N_cut 5 (some .int) 3 := ⟨q_1, q_879, by decide +kernel, by decide +kernel, by decide +kernel⟩
abbrev r_N_evenCut : Room := { frames := 2, cells := 0, slots := 0, locals := 47 }
theorem mk_N_evenCut : MOK y_N_evenCut b_N_evenCut 10 (some .int) 1 := ⟨q_1, q_883, by decide +kernel, by decide +kernel, by decide +kernel⟩
abbrev r_N_weighHours : Room := { frames := 1, cells := 0, slots := 0, locals := 25 }
theorem mk_N_weighHours : MOK y_N_weighHours b_N_weighHours 3 none 1 := ⟨q_1, q_887, by decide +kernel, by decide +kernel, by decide +kernel⟩
abbrev r_Ld_allHours : Room := { frames := 0, cells := 0, slots := 0, locals := 0 }
theorem mk_Ld_allHours : MOK y_Ld_allHours b_Ld_allHours 1 (some .int) 0 := ⟨q_3, q_891, by decide +kernel, by decide +kernel, by decide +kernel⟩
abbrev r_N_cutByTurns : Room := { frames := 2, cells := 0, slots := 0, locals := 50 }
theorem mk_N_cutByTurns : MOK y_N_cutByTurns b_N_cutByTurns 7 (some .int) 2 := ⟨q_1, q_895, by decide +kernel, by decide +kernel, by decide +kernel⟩
abbrev r_N_dearest : Room := { frames := 1, cells := 0, slots := 0, locals := 25 }
theorem mk_N_dearest : MOK y_N_dearest b_N_dearest 6 (some .int) 3 := ⟨q_1, q_898, by decide +kernel, by decide +kernel, by decide +kernel⟩
abbrev r_N_cutByKnife : Room := { frames := 1, cells := 0, slots := 0, locals := 25 }
theorem mk_N_cutByKnife : MOK y_N_cutByKnife b_N_cutByKnife 8 (some .int) 2 := ⟨q_1, q_901, by decide +kernel, by decide +kernel, by decide +kernel⟩
abbrev r_JM_abs : Room := { frames := 0, cells := 0, slots := 0, locals := 0 }
theorem mk_JM_abs : MOK y_JM_abs b_JM_abs 1 (some .int) 1 := ⟨q_11, q_904, by decide +kernel, by decide +kernel, by decide +kernel⟩
abbrev r_N_gain : Room := { frames := 2, cells := 0, slots := 0, locals := 48 }
theorem mk_N_gain : MOK y_N_gain b_N_gain 6 (some .int) 4 := ⟨q_1, q_908, by decide +kernel, by decide +kernel, by decide +kernel⟩
abbrev r_N_weighDark : Room := { frames := 1, cells := 0, slots := 0, locals := 25 }
theorem mk_N_weighDark : MOK y_N_weighDark b_N_weighDark 4 none 2 := ⟨q_1, q_912, by decide +kernel, by decide +kernel, by decide +kernel⟩
abbrev r_Ld_livingAsTold : Room := { frames := 0, cells := 0, slots := 0, locals := 0 }
theorem mk_Ld_livingAsTold : MOK y_Ld_livingAsTold b_Ld_livingAsTold 3 (some .int) 0 := ⟨q_3, q_917, by decide +kernel, by decide +kernel, by decide +kernel⟩
abbrev r_N_gainIn : Room := { frames := 1, cells := 0, slots := 0, locals := 20 }
theorem mk_N_gainIn : MOK y_N_gainIn b_N_gainIn 8 (some .int) 4 := ⟨q_1, q_921, by decide +kernel, by decide +kernel, by decide +kernel⟩
abbrev r_JI_bitCount : Room := { frames := 0, cells := 0, slots := 0, locals := 0 }
theorem mk_JI_bitCount : MOK y_JI_bitCount b_JI_bitCount 1 (some .int) 1 := ⟨q_17, q_924, by decide +kernel, by decide +kernel, by decide +kernel⟩
abbrev r_N_moves : Room := { frames := 5, cells := 0, slots := 0, locals := 120 }
theorem mk_N_moves : MOK y_N_moves b_N_moves 5 (some .int) 3 := ⟨q_1, q_931, by decide +kernel, by decide +kernel, by decide +kernel⟩
abbrev r_N_settled : Room := { frames := 4, cells := 0, slots := 0, locals := 95 }
theorem mk_N_settled : MOK y_N_settled b_N_settled 6 (some .int) 2 := ⟨q_1, q_935, by decide +kernel, by decide +kernel, by decide +kernel⟩
abbrev r_N_afterRound : Room := { frames := 3, cells := 0, slots := 0, locals := 71 }
theorem mk_N_afterRound : MOK y_N_afterRound b_N_afterRound 5 (some .int) 2 := ⟨q_1, q_939, by decide +kernel, by decide +kernel, by decide +kernel⟩
abbrev r_N_wouldMove : Room := { frames := 2, cells := 0, slots := 0, locals := 47 }
theorem mk_N_wouldMove : MOK y_N_wouldMove b_N_wouldMove 5 (some .boolean) 3 := ⟨q_1, q_943, by decide +kernel, by decide +kernel, by decide +kernel⟩
abbrev r_N_countRests : Room := { frames := 4, cells := 0, slots := 0, locals := 94 }
theorem mk_N_countRests : MOK y_N_countRests b_N_countRests 4 (some .int) 1 := ⟨q_1, q_947, by decide +kernel, by decide +kernel, by decide +kernel⟩
abbrev r_N_isRest : Room := { frames := 3, cells := 0, slots := 0, locals := 71 }
theorem mk_N_isRest : MOK y_N_isRest b_N_isRest 4 (some .boolean) 2 := ⟨q_1, q_951, by decide +kernel, by decide +kernel, by decide +kernel⟩
abbrev r_N_restNumber : Room := { frames := 4, cells := 0, slots := 0, locals := 94 }
theorem mk_N_restNumber : MOK y_N_restNumber b_N_restNumber 5 (some .int) 2 := ⟨q_1, q_955, by decide +kernel, by decide +kernel, by decide +kernel⟩
abbrev r_N_teams : Room := { frames := 2, cells := 0, slots := 0, locals := 49 }
theorem mk_N_teams : MOK y_N_teams b_N_teams 11 (some .int) 3 := ⟨q_1, q_959, by decide +kernel, by decide +kernel, by decide +kernel⟩
abbrev r_N_chanceOf : Room := { frames := 1, cells := 0, slots := 0, locals := 23 }
theorem mk_N_chanceOf : MOK y_N_chanceOf b_N_chanceOf 7 (some .int) 3 := ⟨q_1, q_963, by decide +kernel, by decide +kernel, by decide +kernel⟩
abbrev r_N_commonDivisor : Room := { frames := 1, cells := 0, slots := 0, locals := 21 }
theorem mk_N_commonDivisor : MOK y_N_commonDivisor b_N_commonDivisor 6 (some .int) 2 := ⟨q_1, q_967, by decide +kernel, by decide +kernel, by decide +kernel⟩
abbrev r_N_inBaseEight : Room := { frames := 0, cells := 0, slots := 0, locals := 0 }
theorem mk_N_inBaseEight : MOK y_N_inBaseEight b_N_inBaseEight 6 (some .int) 3 := ⟨q_1, q_970, by decide +kernel, by decide +kernel, by decide +kernel⟩
abbrev r_N_hire : Room := { frames := 1, cells := 0, slots := 0, locals := 25 }
theorem mk_N_hire : MOK y_N_hire b_N_hire 9 (some .int) 3 := ⟨q_1, q_974, by decide +kernel, by decide +kernel, by decide +kernel⟩
abbrev r_Ld_costOf : Room := { frames := 0, cells := 0, slots := 0, locals := 0 }
theorem mk_Ld_costOf : MOK y_Ld_costOf b_Ld_costOf 4 (some .int) 1 := ⟨q_3, q_978, by decide +kernel, by decide +kernel, by decide +kernel⟩
abbrev r_Ld_putsDownWithin : Room := { frames := 0, cells := 0, slots := 0, locals := 0 }
theorem mk_Ld_putsDownWithin : MOK y_Ld_putsDownWithin b_Ld_putsDownWithin 6 (some .boolean) 2 := ⟨q_3, q_982, by decide +kernel, by decide +kernel, by decide +kernel⟩
abbrev r_N_stolen : Room := { frames := 2, cells := 0, slots := 0, locals := 45 }
theorem mk_N_stolen : MOK y_N_stolen b_N_stolen 15 (some .int) 4 := ⟨q_1, q_986, by decide +kernel, by decide +kernel, by decide +kernel⟩
abbrev r_Si_isOf : Room := { frames := 1, cells := 0, slots := 0, locals := 21 }
theorem mk_Si_isOf : MOK y_Si_isOf b_Si_isOf 3 (some .boolean) 1 := ⟨q_5, q_990, by decide +kernel, by decide +kernel, by decide +kernel⟩
abbrev r_Ld_hoursFrom : Room := { frames := 0, cells := 0, slots := 0, locals := 0 }
theorem mk_Ld_hoursFrom : MOK y_Ld_hoursFrom b_Ld_hoursFrom 5 (some .int) 2 := ⟨q_3, q_995, by decide +kernel, by decide +kernel, by decide +kernel⟩
abbrev r_Si_fits : Room := { frames := 1, cells := 0, slots := 0, locals := 20 }
theorem mk_Si_fits : MOK y_Si_fits b_Si_fits 6 (some .boolean) 3 := ⟨q_5, q_999, by decide +kernel, by decide +kernel, by decide +kernel⟩
abbrev r_N_game : Room := { frames := 2, cells := 0, slots := 0, locals := 50 }
theorem mk_N_game : MOK y_N_game b_N_game 5 (some .int) 3 := ⟨q_1, q_1003, by decide +kernel, by decide +kernel, by decide +kernel⟩
abbrev r_N_core : Room := { frames := 1, cells := 0, slots := 0, locals := 23 }
theorem mk_N_core : MOK y_N_core b_N_core 8 (some .int) 2 := ⟨q_1, q_1006, by decide +kernel, by decide +kernel, by decide +kernel⟩
abbrev r_N_nobodyLeaves : Room := { frames := 0, cells := 0, slots := 0, locals := 0 }
theorem mk_N_nobodyLeaves : MOK y_N_nobodyLeaves b_N_nobodyLeaves 4 (some .boolean) 4 := ⟨q_1, q_1009, by decide +kernel, by decide +kernel, by decide +kernel⟩
abbrev r_N_power : Room := { frames := 0, cells := 0, slots := 0, locals := 0 }
theorem mk_N_power : MOK y_N_power b_N_power 5 (some .int) 2 := ⟨q_1, q_1012, by decide +kernel, by decide +kernel, by decide +kernel⟩
abbrev r_N_errand : Room := { frames := 2, cells := 0, slots := 0, locals := 49 }
theorem mk_N_errand : MOK y_N_errand b_N_errand 9 (some .int) 6 := ⟨q_1, q_1016, by decide +kernel, by decide +kernel, by decide +kernel⟩
abbrev r_N_canGo : Room := { frames := 1, cells := 0, slots := 0, locals := 22 }
theorem mk_N_canGo : MOK y_N_canGo b_N_canGo 8 (some .boolean) 5 := ⟨q_1, q_1019, by decide +kernel, by decide +kernel, by decide +kernel⟩
abbrev r_N_meet : Room := { frames := 2, cells := 0, slots := 0, locals := 44 }
theorem mk_N_meet : MOK y_N_meet b_N_meet 9 (some .int) 5 := ⟨q_1, q_1023, by decide +kernel, by decide +kernel, by decide +kernel⟩
abbrev r_N_drawn : Room := { frames := 4, cells := 0, slots := 0, locals := 97 }
theorem mk_N_drawn : MOK y_N_drawn b_N_drawn 8 (some .int) 5 := ⟨q_1, q_1027, by decide +kernel, by decide +kernel, by decide +kernel⟩
abbrev r_N_drawnVillages : Room := { frames := 3, cells := 0, slots := 0, locals := 69 }
theorem mk_N_drawnVillages : MOK y_N_drawnVillages b_N_drawnVillages 9 (some .int) 4 := ⟨q_1, q_1030, by decide +kernel, by decide +kernel, by decide +kernel⟩
abbrev r_N_draw : Room := { frames := 0, cells := 0, slots := 0, locals := 0 }
theorem mk_N_draw : MOK y_N_draw b_N_draw 1 (some .int) 1 := ⟨q_1, q_1033, by decide +kernel, by decide +kernel, by decide +kernel⟩
abbrev r_N_putsDown : Room := { frames := 0, cells := 0, slots := 0, locals := 0 }
theorem mk_N_putsDown : MOK y_N_putsDown b_N_putsDown 3 (some .boolean) 3 := ⟨q_1, q_1037, by decide +kernel, by decide +kernel, by decide +kernel⟩
abbrev r_N_drawnSleep : Room := { frames := 2, cells := 0, slots := 0, locals := 46 }
theorem mk_N_drawnSleep : MOK y_N_drawnSleep b_N_drawnSleep 11 (some .int) 5 := ⟨q_1, q_1040, by decide +kernel, by decide +kernel, by decide +kernel⟩
abbrev r_M_init : Room := { frames := 1, cells := 0, slots := 0, locals := 20 }
theorem mk_M_init : MOK y_M_init b_M_init 1 none 0 := ⟨q_9, q_1046, by decide +kernel, by decide +kernel, by decide +kernel⟩
abbrev r_M_feed : Room := { frames := 1, cells := 0, slots := 0, locals := 22 }
theorem mk_M_feed : MOK y_M_feed b_M_feed 6 (some .int) 5 := ⟨q_9, q_1222, by decide +kernel, by decide +kernel, by decide +kernel⟩
abbrev r_M_four : Room := { frames := 0, cells := 0, slots := 0, locals := 0 }
theorem mk_M_four : MOK y_M_four b_M_four 3 none 1 := ⟨q_9, q_1226, by decide +kernel, by decide +kernel, by decide +kernel⟩
abbrev r_M_end : Room := { frames := 1, cells := 0, slots := 0, locals := 22 }
theorem mk_M_end : MOK y_M_end b_M_end 2 (some .int) 1 := ⟨q_9, q_1230, by decide +kernel, by decide +kernel, by decide +kernel⟩
abbrev r_M_in : Room := { frames := 0, cells := 0, slots := 0, locals := 0 }
theorem mk_M_in : MOK y_M_in b_M_in 3 (some .boolean) 3 := ⟨q_9, q_1233, by decide +kernel, by decide +kernel, by decide +kernel⟩
abbrev r_M_text : Room := { frames := 8, cells := 0, slots := 0, locals := 181 }
theorem mk_M_text : MOK y_M_text b_M_text 4 (some .int) 2 := ⟨q_9, q_1237, by decide +kernel, by decide +kernel, by decide +kernel⟩
abbrev r_M_is : Room := { frames := 1, cells := 0, slots := 0, locals := 22 }
theorem mk_M_is : MOK y_M_is b_M_is 3 (some .boolean) 2 := ⟨q_9, q_1241, by decide +kernel, by decide +kernel, by decide +kernel⟩
abbrev r_M_readText : Room := { frames := 7, cells := 0, slots := 0, locals := 159 }
theorem mk_M_readText : MOK y_M_readText b_M_readText 3 (some .boolean) 1 := ⟨q_9, q_1245, by decide +kernel, by decide +kernel, by decide +kernel⟩
abbrev r_M_token : Room := { frames := 1, cells := 0, slots := 0, locals := 22 }
theorem mk_M_token : MOK y_M_token b_M_token 3 none 0 := ⟨q_9, q_1249, by decide +kernel, by decide +kernel, by decide +kernel⟩
abbrev r_M_see : Room := { frames := 0, cells := 0, slots := 0, locals := 0 }
theorem mk_M_see : MOK y_M_see b_M_see 1 (some .int) 0 := ⟨q_9, q_1253, by decide +kernel, by decide +kernel, by decide +kernel⟩
abbrev r_M_lines : Room := { frames := 6, cells := 0, slots := 0, locals := 136 }
theorem mk_M_lines : MOK y_M_lines b_M_lines 4 (some .boolean) 1 := ⟨q_9, q_1257, by decide +kernel, by decide +kernel, by decide +kernel⟩
abbrev r_M_lineOf : Room := { frames := 5, cells := 0, slots := 0, locals := 112 }
theorem mk_M_lineOf : MOK y_M_lineOf b_M_lineOf 5 (some .boolean) 3 := ⟨q_9, q_1261, by decide +kernel, by decide +kernel, by decide +kernel⟩
abbrev r_M_landLine : Room := { frames := 4, cells := 0, slots := 0, locals := 88 }
theorem mk_M_landLine : MOK y_M_landLine b_M_landLine 5 (some .boolean) 2 := ⟨q_9, q_1265, by decide +kernel, by decide +kernel, by decide +kernel⟩
abbrev r_M_fails : Room := { frames := 0, cells := 0, slots := 0, locals := 0 }
theorem mk_M_fails : MOK y_M_fails b_M_fails 1 (some .boolean) 0 := ⟨q_9, q_1277, by decide +kernel, by decide +kernel, by decide +kernel⟩
abbrev r_M_full : Room := { frames := 1, cells := 0, slots := 0, locals := 22 }
theorem mk_M_full : MOK y_M_full b_M_full 4 none 3 := ⟨q_9, q_1281, by decide +kernel, by decide +kernel, by decide +kernel⟩
abbrev r_M_later : Room := { frames := 0, cells := 0, slots := 0, locals := 0 }
theorem mk_M_later : MOK y_M_later b_M_later 3 none 2 := ⟨q_9, q_1285, by decide +kernel, by decide +kernel, by decide +kernel⟩
abbrev r_M_likesLine : Room := { frames := 3, cells := 0, slots := 0, locals := 67 }
theorem mk_M_likesLine : MOK y_M_likesLine b_M_likesLine 2 (some .boolean) 0 := ⟨q_9, q_1289, by decide +kernel, by decide +kernel, by decide +kernel⟩
abbrev r_M_take : Room := { frames := 2, cells := 0, slots := 0, locals := 44 }
theorem mk_M_take : MOK y_M_take b_M_take 4 (some .boolean) 3 := ⟨q_9, q_1293, by decide +kernel, by decide +kernel, by decide +kernel⟩
abbrev r_M_greater : Room := { frames := 0, cells := 0, slots := 0, locals := 0 }
theorem mk_M_greater : MOK y_M_greater b_M_greater 2 (some .int) 2 := ⟨q_9, q_1296, by decide +kernel, by decide +kernel, by decide +kernel⟩
abbrev r_M_keep : Room := { frames := 0, cells := 0, slots := 0, locals := 0 }
theorem mk_M_keep : MOK y_M_keep b_M_keep 8 none 5 := ⟨q_9, q_1300, by decide +kernel, by decide +kernel, by decide +kernel⟩
abbrev r_M_treatyLine : Room := { frames := 3, cells := 0, slots := 0, locals := 67 }
theorem mk_M_treatyLine : MOK y_M_treatyLine b_M_treatyLine 4 (some .boolean) 1 := ⟨q_9, q_1304, by decide +kernel, by decide +kernel, by decide +kernel⟩
abbrev r_M_bookLine : Room := { frames := 3, cells := 0, slots := 0, locals := 67 }
theorem mk_M_bookLine : MOK y_M_bookLine b_M_bookLine 4 (some .boolean) 2 := ⟨q_9, q_1309, by decide +kernel, by decide +kernel, by decide +kernel⟩
abbrev r_M_sightLine : Room := { frames := 3, cells := 0, slots := 0, locals := 67 }
theorem mk_M_sightLine : MOK y_M_sightLine b_M_sightLine 6 (some .boolean) 2 := ⟨q_9, q_1314, by decide +kernel, by decide +kernel, by decide +kernel⟩
abbrev r_M_gameLine : Room := { frames := 3, cells := 0, slots := 0, locals := 67 }
theorem mk_M_gameLine : MOK y_M_gameLine b_M_gameLine 3 (some .boolean) 1 := ⟨q_9, q_1321, by decide +kernel, by decide +kernel, by decide +kernel⟩
abbrev r_M_storeAll : Room := { frames := 1, cells := 0, slots := 0, locals := 24 }
theorem mk_M_storeAll : MOK y_M_storeAll b_M_storeAll 3 none 2 := ⟨q_9, q_1326, by decide +kernel, by decide +kernel, by decide +kernel⟩
abbrev r_M_store : Room := { frames := 0, cells := 0, slots := 0, locals := 0 }
theorem mk_M_store : MOK y_M_store b_M_store 5 none 3 := ⟨q_9, q_1330, by decide +kernel, by decide +kernel, by decide +kernel⟩
abbrev r_M_fault : Room := { frames := 0, cells := 0, slots := 0, locals := 0 }
theorem mk_M_fault : MOK y_M_fault b_M_fault 2 (some .int) 1 := ⟨q_9, q_1334, by decide +kernel, by decide +kernel, by decide +kernel⟩
abbrev r_M_land : Room := { frames := 3, cells := 0, slots := 0, locals := 65 }
theorem mk_M_land : MOK y_M_land b_M_land 3 (some .int) 2 := ⟨q_9, q_1338, by decide +kernel, by decide +kernel, by decide +kernel⟩
abbrev r_M_hand : Room := { frames := 2, cells := 0, slots := 0, locals := 44 }
theorem mk_M_hand : MOK y_M_hand b_M_hand 2 (some .boolean) 1 := ⟨q_9, q_1342, by decide +kernel, by decide +kernel, by decide +kernel⟩
abbrev r_M_of : Room := { frames := 0, cells := 0, slots := 0, locals := 0 }
theorem mk_M_of : MOK y_M_of b_M_of 2 (some .int) 1 := ⟨q_9, q_1346, by decide +kernel, by decide +kernel, by decide +kernel⟩
abbrev r_M_person : Room := { frames := 3, cells := 0, slots := 0, locals := 65 }
theorem mk_M_person : MOK y_M_person b_M_person 4 (some .int) 3 := ⟨q_9, q_1350, by decide +kernel, by decide +kernel, by decide +kernel⟩
abbrev r_M_isOne : Room := { frames := 1, cells := 0, slots := 0, locals := 22 }
theorem mk_M_isOne : MOK y_M_isOne b_M_isOne 2 (some .boolean) 1 := ⟨q_9, q_1354, by decide +kernel, by decide +kernel, by decide +kernel⟩
abbrev r_M_ofOne : Room := { frames := 1, cells := 0, slots := 0, locals := 21 }
theorem mk_M_ofOne : MOK y_M_ofOne b_M_ofOne 3 (some .int) 2 := ⟨q_9, q_1358, by decide +kernel, by decide +kernel, by decide +kernel⟩
abbrev r_M_likeOf : Room := { frames := 2, cells := 0, slots := 0, locals := 43 }
theorem mk_M_likeOf : MOK y_M_likeOf b_M_likeOf 3 (some .int) 2 := ⟨q_9, q_1362, by decide +kernel, by decide +kernel, by decide +kernel⟩
abbrev r_M_night : Room := { frames := 2, cells := 0, slots := 0, locals := 44 }
theorem mk_M_night : MOK y_M_night b_M_night 3 (some .int) 2 := ⟨q_9, q_1366, by decide +kernel, by decide +kernel, by decide +kernel⟩
abbrev r_M_row : Room := { frames := 4, cells := 0, slots := 0, locals := 89 }
theorem mk_M_row : MOK y_M_row b_M_row 7 (some .int) 3 := ⟨q_9, q_1370, by decide +kernel, by decide +kernel, by decide +kernel⟩
abbrev r_M_layRow : Room := { frames := 3, cells := 0, slots := 0, locals := 65 }
theorem mk_M_layRow : MOK y_M_layRow b_M_layRow 4 (some .boolean) 2 := ⟨q_9, q_1374, by decide +kernel, by decide +kernel, by decide +kernel⟩
abbrev r_M_countDark : Room := { frames := 0, cells := 0, slots := 0, locals := 0 }
theorem mk_M_countDark : MOK y_M_countDark b_M_countDark 2 none 0 := ⟨q_9, q_1378, by decide +kernel, by decide +kernel, by decide +kernel⟩
abbrev r_M_likedIn : Room := { frames := 3, cells := 0, slots := 0, locals := 65 }
theorem mk_M_likedIn : MOK y_M_likedIn b_M_likedIn 5 (some .int) 2 := ⟨q_9, q_1382, by decide +kernel, by decide +kernel, by decide +kernel⟩
abbrev r_M_comesAt : Room := { frames := 1, cells := 0, slots := 0, locals := 23 }
theorem mk_M_comesAt : MOK y_M_comesAt b_M_comesAt 2 (some .boolean) 1 := ⟨q_9, q_1386, by decide +kernel, by decide +kernel, by decide +kernel⟩
abbrev r_M_cityAhead : Room := { frames := 0, cells := 0, slots := 0, locals := 0 }
theorem mk_M_cityAhead : MOK y_M_cityAhead b_M_cityAhead 4 (some .int) 1 := ⟨q_9, q_1390, by decide +kernel, by decide +kernel, by decide +kernel⟩
abbrev r_M_cheapest : Room := { frames := 1, cells := 0, slots := 0, locals := 21 }
theorem mk_M_cheapest : MOK y_M_cheapest b_M_cheapest 3 (some .int) 0 := ⟨q_9, q_1394, by decide +kernel, by decide +kernel, by decide +kernel⟩
abbrev r_M_lesser : Room := { frames := 0, cells := 0, slots := 0, locals := 0 }
theorem mk_M_lesser : MOK y_M_lesser b_M_lesser 2 (some .int) 2 := ⟨q_9, q_1398, by decide +kernel, by decide +kernel, by decide +kernel⟩
abbrev r_M_isLegal : Room := { frames := 1, cells := 0, slots := 0, locals := 23 }
theorem mk_M_isLegal : MOK y_M_isLegal b_M_isLegal 4 (some .boolean) 0 := ⟨q_9, q_1402, by decide +kernel, by decide +kernel, by decide +kernel⟩
abbrev r_M_carryings : Room := { frames := 2, cells := 0, slots := 0, locals := 44 }
theorem mk_M_carryings : MOK y_M_carryings b_M_carryings 3 (some .int) 0 := ⟨q_9, q_1406, by decide +kernel, by decide +kernel, by decide +kernel⟩
abbrev r_M_darkOf : Room := { frames := 0, cells := 0, slots := 0, locals := 0 }
theorem mk_M_darkOf : MOK y_M_darkOf b_M_darkOf 2 (some .int) 1 := ⟨q_9, q_1410, by decide +kernel, by decide +kernel, by decide +kernel⟩
abbrev r_M_awake : Room := { frames := 3, cells := 0, slots := 0, locals := 65 }
theorem mk_M_awake : MOK y_M_awake b_M_awake 3 (some .int) 0 := ⟨q_9, q_1414, by decide +kernel, by decide +kernel, by decide +kernel⟩
abbrev r_M_sleeps : Room := { frames := 2, cells := 0, slots := 0, locals := 43 }
theorem mk_M_sleeps : MOK y_M_sleeps b_M_sleeps 3 (some .boolean) 2 := ⟨q_9, q_1418, by decide +kernel, by decide +kernel, by decide +kernel⟩
abbrev r_M_spell : Room := { frames := 3, cells := 0, slots := 0, locals := 65 }
theorem mk_M_spell : MOK y_M_spell b_M_spell 4 (some .int) 3 := ⟨q_9, q_1422, by decide +kernel, by decide +kernel, by decide +kernel⟩
abbrev r_M_hasBook : Room := { frames := 2, cells := 0, slots := 0, locals := 44 }
theorem mk_M_hasBook : MOK y_M_hasBook b_M_hasBook 2 (some .boolean) 1 := ⟨q_9, q_1426, by decide +kernel, by decide +kernel, by decide +kernel⟩
abbrev r_M_layBook : Room := { frames := 1, cells := 0, slots := 0, locals := 22 }
theorem mk_M_layBook : MOK y_M_layBook b_M_layBook 3 none 0 := ⟨q_9, q_1430, by decide +kernel, by decide +kernel, by decide +kernel⟩
abbrev r_M_spells : Room := { frames := 0, cells := 0, slots := 0, locals := 0 }
theorem mk_M_spells : MOK y_M_spells b_M_spells 1 (some .int) 0 := ⟨q_9, q_1434, by decide +kernel, by decide +kernel, by decide +kernel⟩
abbrev r_M_spellOf : Room := { frames := 0, cells := 0, slots := 0, locals := 0 }
theorem mk_M_spellOf : MOK y_M_spellOf b_M_spellOf 3 (some .int) 2 := ⟨q_9, q_1438, by decide +kernel, by decide +kernel, by decide +kernel⟩
abbrev r_M_days : Room := { frames := 4, cells := 0, slots := 0, locals := 88 }
theorem mk_M_days : MOK y_M_days b_M_days 5 (some .int) 3 := ⟨q_9, q_1442, by decide +kernel, by decide +kernel, by decide +kernel⟩
abbrev r_M_sleptIn : Room := { frames := 3, cells := 0, slots := 0, locals := 65 }
theorem mk_M_sleptIn : MOK y_M_sleptIn b_M_sleptIn 4 (some .int) 1 := ⟨q_9, q_1446, by decide +kernel, by decide +kernel, by decide +kernel⟩
abbrev r_M_wentIn : Room := { frames := 0, cells := 0, slots := 0, locals := 0 }
theorem mk_M_wentIn : MOK y_M_wentIn b_M_wentIn 6 (some .int) 3 := ⟨q_9, q_1450, by decide +kernel, by decide +kernel, by decide +kernel⟩
abbrev r_M_villages : Room := { frames := 0, cells := 0, slots := 0, locals := 0 }
theorem mk_M_villages : MOK y_M_villages b_M_villages 4 (some .int) 0 := ⟨q_9, q_1454, by decide +kernel, by decide +kernel, by decide +kernel⟩
abbrev r_M_breach : Room := { frames := 4, cells := 0, slots := 0, locals := 88 }
theorem mk_M_breach : MOK y_M_breach b_M_breach 9 (some .int) 4 := ⟨q_9, q_1458, by decide +kernel, by decide +kernel, by decide +kernel⟩
abbrev r_M_ways : Room := { frames := 5, cells := 0, slots := 0, locals := 110 }
theorem mk_M_ways : MOK y_M_ways b_M_ways 5 (some .long) 1 := ⟨q_9, q_1462, by decide +kernel, by decide +kernel, by decide +kernel⟩
abbrev r_M_layNeeds : Room := { frames := 4, cells := 0, slots := 0, locals := 89 }
theorem mk_M_layNeeds : MOK y_M_layNeeds b_M_layNeeds 2 none 0 := ⟨q_9, q_1467, by decide +kernel, by decide +kernel, by decide +kernel⟩
abbrev r_M_stateMany : Room := { frames := 0, cells := 0, slots := 0, locals := 0 }
theorem mk_M_stateMany : MOK y_M_stateMany b_M_stateMany 1 (some .int) 0 := ⟨q_9, q_1471, by decide +kernel, by decide +kernel, by decide +kernel⟩
abbrev r_M_waysFrom : Room := { frames := 2, cells := 0, slots := 0, locals := 51 }
theorem mk_M_waysFrom : MOK y_M_waysFrom b_M_waysFrom 6 (some .long) 1 := ⟨q_9, q_1475, by decide +kernel, by decide +kernel, by decide +kernel⟩
abbrev r_M_more : Room := { frames := 0, cells := 0, slots := 0, locals := 0 }
theorem mk_M_more : MOK y_M_more b_M_more 3 (some .int) 2 := ⟨q_9, q_1479, by decide +kernel, by decide +kernel, by decide +kernel⟩
abbrev r_M_grid : Room := { frames := 0, cells := 0, slots := 0, locals := 0 }
theorem mk_M_grid : MOK y_M_grid b_M_grid 4 (some .int) 3 := ⟨q_9, q_1483, by decide +kernel, by decide +kernel, by decide +kernel⟩
abbrev r_M_spread : Room := { frames := 1, cells := 0, slots := 0, locals := 24 }
theorem mk_M_spread : MOK y_M_spread b_M_spread 8 none 2 := ⟨q_9, q_1487, by decide +kernel, by decide +kernel, by decide +kernel⟩
abbrev r_M_nextOf : Room := { frames := 0, cells := 0, slots := 0, locals := 0 }
theorem mk_M_nextOf : MOK y_M_nextOf b_M_nextOf 5 (some .int) 2 := ⟨q_9, q_1491, by decide +kernel, by decide +kernel, by decide +kernel⟩
abbrev r_M_goesTo : Room := { frames := 1, cells := 0, slots := 0, locals := 24 }
theorem mk_M_goesTo : MOK y_M_goesTo b_M_goesTo 3 (some .boolean) 2 := ⟨q_9, q_1495, by decide +kernel, by decide +kernel, by decide +kernel⟩
abbrev r_M_fitsDark : Room := { frames := 0, cells := 0, slots := 0, locals := 0 }
theorem mk_M_fitsDark : MOK y_M_fitsDark b_M_fitsDark 3 (some .boolean) 2 := ⟨q_9, q_1499, by decide +kernel, by decide +kernel, by decide +kernel⟩
abbrev r_M_best : Room := { frames := 7, cells := 0, slots := 0, locals := 164 }
theorem mk_M_best : MOK y_M_best b_M_best 5 (some .int) 2 := ⟨q_9, q_1503, by decide +kernel, by decide +kernel, by decide +kernel⟩
abbrev r_M_bestAll : Room := { frames := 6, cells := 0, slots := 0, locals := 141 }
theorem mk_M_bestAll : MOK y_M_bestAll b_M_bestAll 4 (some .int) 1 := ⟨q_9, q_1507, by decide +kernel, by decide +kernel, by decide +kernel⟩
abbrev r_M_bestFrom : Room := { frames := 5, cells := 0, slots := 0, locals := 120 }
theorem mk_M_bestFrom : MOK y_M_bestFrom b_M_bestFrom 2 (some .int) 1 := ⟨q_9, q_1512, by decide +kernel, by decide +kernel, by decide +kernel⟩
abbrev r_M_findBest : Room := { frames := 4, cells := 0, slots := 0, locals := 96 }
theorem mk_M_findBest : MOK y_M_findBest b_M_findBest 5 none 1 := ⟨q_9, q_1516, by decide +kernel, by decide +kernel, by decide +kernel⟩
abbrev r_M_bestAt : Room := { frames := 3, cells := 0, slots := 0, locals := 67 }
theorem mk_M_bestAt : MOK y_M_bestAt b_M_bestAt 10 (some .int) 5 := ⟨q_9, q_1520, by decide +kernel, by decide +kernel, by decide +kernel⟩
abbrev r_M_gains : Room := { frames := 2, cells := 0, slots := 0, locals := 43 }
theorem mk_M_gains : MOK y_M_gains b_M_gains 5 (some .int) 3 := ⟨q_9, q_1524, by decide +kernel, by decide +kernel, by decide +kernel⟩
abbrev r_M_carries : Room := { frames := 0, cells := 0, slots := 0, locals := 0 }
theorem mk_M_carries : MOK y_M_carries b_M_carries 3 (some .boolean) 2 := ⟨q_9, q_1528, by decide +kernel, by decide +kernel, by decide +kernel⟩
abbrev r_M_findRow : Room := { frames := 6, cells := 0, slots := 0, locals := 141 }
theorem mk_M_findRow : MOK y_M_findRow b_M_findRow 4 none 1 := ⟨q_9, q_1532, by decide +kernel, by decide +kernel, by decide +kernel⟩
abbrev r_M_walkFrom : Room := { frames := 3, cells := 0, slots := 0, locals := 67 }
theorem mk_M_walkFrom : MOK y_M_walkFrom b_M_walkFrom 12 none 1 := ⟨q_9, q_1536, by decide +kernel, by decide +kernel, by decide +kernel⟩
abbrev r_M_cityOf : Room := { frames := 0, cells := 0, slots := 0, locals := 0 }
theorem mk_M_cityOf : MOK y_M_cityOf b_M_cityOf 2 (some .int) 1 := ⟨q_9, q_1540, by decide +kernel, by decide +kernel, by decide +kernel⟩
abbrev r_M_isSooner : Room := { frames := 0, cells := 0, slots := 0, locals := 0 }
theorem mk_M_isSooner : MOK y_M_isSooner b_M_isSooner 2 (some .boolean) 0 := ⟨q_9, q_1544, by decide +kernel, by decide +kernel, by decide +kernel⟩
abbrev r_M_worth : Room := { frames := 5, cells := 0, slots := 0, locals := 113 }
theorem mk_M_worth : MOK y_M_worth b_M_worth 4 (some .int) 3 := ⟨q_9, q_1548, by decide +kernel, by decide +kernel, by decide +kernel⟩
abbrev r_M_worthOf : Room := { frames := 4, cells := 0, slots := 0, locals := 89 }
theorem mk_M_worthOf : MOK y_M_worthOf b_M_worthOf 5 (some .int) 2 := ⟨q_9, q_1552, by decide +kernel, by decide +kernel, by decide +kernel⟩
abbrev r_M_has : Room := { frames := 0, cells := 0, slots := 0, locals := 0 }
theorem mk_M_has : MOK y_M_has b_M_has 2 (some .boolean) 2 := ⟨q_9, q_1555, by decide +kernel, by decide +kernel, by decide +kernel⟩
abbrev r_M_cut : Room := { frames := 6, cells := 0, slots := 0, locals := 139 }
theorem mk_M_cut : MOK y_M_cut b_M_cut 4 (some .int) 3 := ⟨q_9, q_1559, by decide +kernel, by decide +kernel, by decide +kernel⟩
abbrev r_M_byTurns : Room := { frames := 4, cells := 0, slots := 0, locals := 89 }
theorem mk_M_byTurns : MOK y_M_byTurns b_M_byTurns 7 (some .int) 1 := ⟨q_9, q_1563, by decide +kernel, by decide +kernel, by decide +kernel⟩
abbrev r_M_allHours : Room := { frames := 0, cells := 0, slots := 0, locals := 0 }
theorem mk_M_allHours : MOK y_M_allHours b_M_allHours 1 (some .int) 0 := ⟨q_9, q_1567, by decide +kernel, by decide +kernel, by decide +kernel⟩
abbrev r_M_byKnife : Room := { frames := 5, cells := 0, slots := 0, locals := 113 }
theorem mk_M_byKnife : MOK y_M_byKnife b_M_byKnife 7 (some .int) 1 := ⟨q_9, q_1571, by decide +kernel, by decide +kernel, by decide +kernel⟩
abbrev r_M_size : Room := { frames := 0, cells := 0, slots := 0, locals := 0 }
theorem mk_M_size : MOK y_M_size b_M_size 1 (some .int) 1 := ⟨q_9, q_1574, by decide +kernel, by decide +kernel, by decide +kernel⟩
abbrev r_M_evenly : Room := { frames := 1, cells := 0, slots := 0, locals := 21 }
theorem mk_M_evenly : MOK y_M_evenly b_M_evenly 7 (some .int) 0 := ⟨q_9, q_1578, by decide +kernel, by decide +kernel, by decide +kernel⟩
abbrev r_M_envy : Room := { frames := 5, cells := 0, slots := 0, locals := 113 }
theorem mk_M_envy : MOK y_M_envy b_M_envy 5 (some .int) 3 := ⟨q_9, q_1582, by decide +kernel, by decide +kernel, by decide +kernel⟩
abbrev r_M_gain : Room := { frames := 4, cells := 0, slots := 0, locals := 90 }
theorem mk_M_gain : MOK y_M_gain b_M_gain 5 (some .int) 4 := ⟨q_9, q_1586, by decide +kernel, by decide +kernel, by decide +kernel⟩
abbrev r_M_asTold : Room := { frames := 2, cells := 0, slots := 0, locals := 43 }
theorem mk_M_asTold : MOK y_M_asTold b_M_asTold 3 (some .int) 0 := ⟨q_9, q_1590, by decide +kernel, by decide +kernel, by decide +kernel⟩
abbrev r_M_gainOf : Room := { frames := 3, cells := 0, slots := 0, locals := 65 }
theorem mk_M_gainOf : MOK y_M_gainOf b_M_gainOf 6 (some .int) 3 := ⟨q_9, q_1594, by decide +kernel, by decide +kernel, by decide +kernel⟩
abbrev r_M_livingIn : Room := { frames := 1, cells := 0, slots := 0, locals := 21 }
theorem mk_M_livingIn : MOK y_M_livingIn b_M_livingIn 6 (some .int) 3 := ⟨q_9, q_1598, by decide +kernel, by decide +kernel, by decide +kernel⟩
abbrev r_M_moves : Room := { frames := 7, cells := 0, slots := 0, locals := 158 }
theorem mk_M_moves : MOK y_M_moves b_M_moves 9 (some .int) 3 := ⟨q_9, q_1602, by decide +kernel, by decide +kernel, by decide +kernel⟩
abbrev r_M_restAt : Room := { frames := 6, cells := 0, slots := 0, locals := 135 }
theorem mk_M_restAt : MOK y_M_restAt b_M_restAt 4 (some .int) 1 := ⟨q_9, q_1606, by decide +kernel, by decide +kernel, by decide +kernel⟩
abbrev r_M_isRest : Room := { frames := 5, cells := 0, slots := 0, locals := 113 }
theorem mk_M_isRest : MOK y_M_isRest b_M_isRest 3 (some .boolean) 1 := ⟨q_9, q_1610, by decide +kernel, by decide +kernel, by decide +kernel⟩
abbrev r_M_wouldMove : Room := { frames := 4, cells := 0, slots := 0, locals := 90 }
theorem mk_M_wouldMove : MOK y_M_wouldMove b_M_wouldMove 4 (some .boolean) 2 := ⟨q_9, q_1614, by decide +kernel, by decide +kernel, by decide +kernel⟩
abbrev r_M_teams : Room := { frames := 3, cells := 0, slots := 0, locals := 68 }
theorem mk_M_teams : MOK y_M_teams b_M_teams 11 (some .int) 3 := ⟨q_9, q_1618, by decide +kernel, by decide +kernel, by decide +kernel⟩
abbrev r_M_chanceOf : Room := { frames := 2, cells := 0, slots := 0, locals := 42 }
theorem mk_M_chanceOf : MOK y_M_chanceOf b_M_chanceOf 7 (some .int) 1 := ⟨q_9, q_1622, by decide +kernel, by decide +kernel, by decide +kernel⟩
abbrev r_M_tiredOf : Room := { frames := 1, cells := 0, slots := 0, locals := 21 }
theorem mk_M_tiredOf : MOK y_M_tiredOf b_M_tiredOf 2 (some .int) 1 := ⟨q_9, q_1626, by decide +kernel, by decide +kernel, by decide +kernel⟩
abbrev r_M_tens : Room := { frames := 0, cells := 0, slots := 0, locals := 0 }
theorem mk_M_tens : MOK y_M_tens b_M_tens 3 (some .int) 1 := ⟨q_9, q_1629, by decide +kernel, by decide +kernel, by decide +kernel⟩
abbrev r_M_common : Room := { frames := 0, cells := 0, slots := 0, locals := 0 }
theorem mk_M_common : MOK y_M_common b_M_common 5 (some .int) 2 := ⟨q_9, q_1632, by decide +kernel, by decide +kernel, by decide +kernel⟩
abbrev r_M_hire : Room := { frames := 3, cells := 0, slots := 0, locals := 65 }
theorem mk_M_hire : MOK y_M_hire b_M_hire 11 (some .int) 3 := ⟨q_9, q_1636, by decide +kernel, by decide +kernel, by decide +kernel⟩
abbrev r_M_seen : Room := { frames := 3, cells := 0, slots := 0, locals := 65 }
theorem mk_M_seen : MOK y_M_seen b_M_seen 4 (some .int) 3 := ⟨q_9, q_1640, by decide +kernel, by decide +kernel, by decide +kernel⟩
abbrev r_M_hasSight : Room := { frames := 2, cells := 0, slots := 0, locals := 44 }
theorem mk_M_hasSight : MOK y_M_hasSight b_M_hasSight 2 (some .boolean) 1 := ⟨q_9, q_1644, by decide +kernel, by decide +kernel, by decide +kernel⟩
abbrev r_M_seenMany : Room := { frames := 0, cells := 0, slots := 0, locals := 0 }
theorem mk_M_seenMany : MOK y_M_seenMany b_M_seenMany 1 (some .int) 0 := ⟨q_9, q_1648, by decide +kernel, by decide +kernel, by decide +kernel⟩
abbrev r_M_seenOf : Room := { frames := 0, cells := 0, slots := 0, locals := 0 }
theorem mk_M_seenOf : MOK y_M_seenOf b_M_seenOf 3 (some .int) 2 := ⟨q_9, q_1652, by decide +kernel, by decide +kernel, by decide +kernel⟩
abbrev r_M_stolen : Room := { frames := 4, cells := 0, slots := 0, locals := 88 }
theorem mk_M_stolen : MOK y_M_stolen b_M_stolen 13 (some .int) 4 := ⟨q_9, q_1656, by decide +kernel, by decide +kernel, by decide +kernel⟩
abbrev r_M_areThere : Room := { frames := 2, cells := 0, slots := 0, locals := 43 }
theorem mk_M_areThere : MOK y_M_areThere b_M_areThere 2 (some .boolean) 0 := ⟨q_9, q_1660, by decide +kernel, by decide +kernel, by decide +kernel⟩
abbrev r_M_isHour : Room := { frames := 1, cells := 0, slots := 0, locals := 22 }
theorem mk_M_isHour : MOK y_M_isHour b_M_isHour 2 (some .boolean) 1 := ⟨q_9, q_1664, by decide +kernel, by decide +kernel, by decide +kernel⟩
abbrev r_M_awayFor : Room := { frames := 0, cells := 0, slots := 0, locals := 0 }
theorem mk_M_awayFor : MOK y_M_awayFor b_M_awayFor 5 (some .int) 2 := ⟨q_9, q_1668, by decide +kernel, by decide +kernel, by decide +kernel⟩
abbrev r_M_fits : Room := { frames := 2, cells := 0, slots := 0, locals := 43 }
theorem mk_M_fits : MOK y_M_fits b_M_fits 5 (some .boolean) 1 := ⟨q_9, q_1672, by decide +kernel, by decide +kernel, by decide +kernel⟩
abbrev r_M_game : Room := { frames := 2, cells := 0, slots := 0, locals := 46 }
theorem mk_M_game : MOK y_M_game b_M_game 9 (some .int) 3 := ⟨q_9, q_1676, by decide +kernel, by decide +kernel, by decide +kernel⟩
abbrev r_M_worthIn : Room := { frames := 0, cells := 0, slots := 0, locals := 0 }
theorem mk_M_worthIn : MOK y_M_worthIn b_M_worthIn 2 (some .int) 1 := ⟨q_9, q_1680, by decide +kernel, by decide +kernel, by decide +kernel⟩
abbrev r_M_addedBy : Room := { frames := 1, cells := 0, slots := 0, locals := 21 }
theorem mk_M_addedBy : MOK y_M_addedBy b_M_addedBy 6 (some .int) 1 := ⟨q_9, q_1684, by decide +kernel, by decide +kernel, by decide +kernel⟩
abbrev r_M_isCore : Room := { frames := 1, cells := 0, slots := 0, locals := 21 }
theorem mk_M_isCore : MOK y_M_isCore b_M_isCore 6 (some .boolean) 3 := ⟨q_9, q_1688, by decide +kernel, by decide +kernel, by decide +kernel⟩
abbrev r_M_errand : Room := { frames := 4, cells := 0, slots := 0, locals := 88 }
theorem mk_M_errand : MOK y_M_errand b_M_errand 8 (some .int) 6 := ⟨q_9, q_1692, by decide +kernel, by decide +kernel, by decide +kernel⟩
abbrev r_M_canGo : Room := { frames := 1, cells := 0, slots := 0, locals := 22 }
theorem mk_M_canGo : MOK y_M_canGo b_M_canGo 7 (some .boolean) 3 := ⟨q_9, q_1696, by decide +kernel, by decide +kernel, by decide +kernel⟩
abbrev r_M_isLight : Room := { frames := 0, cells := 0, slots := 0, locals := 0 }
theorem mk_M_isLight : MOK y_M_isLight b_M_isLight 3 (some .boolean) 2 := ⟨q_9, q_1700, by decide +kernel, by decide +kernel, by decide +kernel⟩
abbrev r_M_meet : Room := { frames := 4, cells := 0, slots := 0, locals := 88 }
theorem mk_M_meet : MOK y_M_meet b_M_meet 7 (some .int) 5 := ⟨q_9, q_1704, by decide +kernel, by decide +kernel, by decide +kernel⟩
abbrev r_M_drawn : Room := { frames := 4, cells := 0, slots := 0, locals := 88 }
theorem mk_M_drawn : MOK y_M_drawn b_M_drawn 7 (some .int) 5 := ⟨q_9, q_1708, by decide +kernel, by decide +kernel, by decide +kernel⟩
abbrev r_M_drawDay : Room := { frames := 2, cells := 0, slots := 0, locals := 44 }
theorem mk_M_drawDay : MOK y_M_drawDay b_M_drawDay 5 none 0 := ⟨q_9, q_1712, by decide +kernel, by decide +kernel, by decide +kernel⟩
abbrev r_M_draw : Room := { frames := 0, cells := 0, slots := 0, locals := 0 }
theorem mk_M_draw : MOK y_M_draw b_M_draw 2 (some .int) 1 := ⟨q_9, q_1716, by decide +kernel, by decide +kernel, by decide +kernel⟩
abbrev r_M_count : Room := { frames := 1, cells := 0, slots := 0, locals := 22 }
theorem mk_M_count : MOK y_M_count b_M_count 2 (some .int) 1 := ⟨q_9, q_1721, by decide +kernel, by decide +kernel, by decide +kernel⟩
abbrev r_M_image : Room := { frames := 2, cells := 0, slots := 0, locals := 47 }
theorem mk_M_image : MOK y_M_image b_M_image 2 (some .boolean) 1 := ⟨q_9, q_1725, by decide +kernel, by decide +kernel, by decide +kernel⟩
abbrev r_M_copyAll : Room := { frames := 1, cells := 0, slots := 0, locals := 24 }
theorem mk_M_copyAll : MOK y_M_copyAll b_M_copyAll 4 none 2 := ⟨q_9, q_1729, by decide +kernel, by decide +kernel, by decide +kernel⟩
abbrev r_M_copyRow : Room := { frames := 0, cells := 0, slots := 0, locals := 0 }
theorem mk_M_copyRow : MOK y_M_copyRow b_M_copyRow 5 none 4 := ⟨q_9, q_1732, by decide +kernel, by decide +kernel, by decide +kernel⟩
abbrev r_M_again : Room := { frames := 2, cells := 0, slots := 0, locals := 47 }
theorem mk_M_again : MOK y_M_again b_M_again 2 (some .boolean) 1 := ⟨q_9, q_1736, by decide +kernel, by decide +kernel, by decide +kernel⟩
