theorem Met.ofWF {y : MethodName} {l : Launch} {ws ws' : List Cond} {rm : Room} {Pc : Array Value → State → Prop} {Qc : Array Value → State → Outcome → State → Prop} {mc ms : Nat} {free : Addr → Prop} {cc : ByteArray} {maxL : Nat} {ret : Option FieldType}
    (hy : plainFor y = true) (hw : ws = Cond.code y cc maxL ret :: ws')
    (body : ∀ p e s m args below meth c s₁, BodyLoose p l y (headSpec ws rm) cc maxL ret e s m args below meth c s₁ → c.maxLocals = maxL → Pc args s →
      W p l e (headSpec ws rm).room s m args below meth c s.heap [] 0 0 (MQ below Qc args s mc ms free) (entryFrame m args maxL)) : Met l y ws rm Pc Qc mc ms free := by
  refine MetFree.of_bodySF (code := cc) (maxLocals := maxL) (ret := ret) hy ?_ ?_
  · intro args s m h hn
    obtain ⟨meth, c, h1, h2, h3, h4, h5, h6, -, -⟩ := Cond.code_spec hn (atoms_spec (ws := ws) h _ (by rw [hw]; exact List.mem_cons_self))
    exact ⟨meth, c, h1, h2, h3, h4, h5, h6⟩
  · intro p e s m args below meth c s₁ B hml hP _
    have hh0 : s₁.heap = s.heap := by rw [B.state]; rfl
    obtain ⟨t, a1, o, b1, b2, b3⟩ := body p e s m args below meth c s₁ B hml hP s₁ hh0 (Stand.of_body B)
    exact ⟨t, o, a1, b1, b2, ⟨b3.1, b3.2⟩⟩
theorem Ctr.ofF {G : GE} {y : MethodName} {cc : ByteArray} {nL : Nat} {ret : Option FieldType} {R : Room} {K : Option Value → AH → Prop} {h : AH} {vs : List Value} (hy : plainFor y = true) (hd : ∀ v ∈ vs, ∀ b, v ≠ .double b) (hlen : (entL vs).length ≤ nL) {L0 : List (Option Value)} (hL : entN nL vs = L0) (k : WA G y cc nL ret R R.cells R.slots K 0 0 0 L0 [] h) : Ctr G y cc nL ret R vs h K := by
  intro l
  refine Met.ofWF (cc := cc) (maxL := nL) (ret := ret) hy rfl ?_
  intro p e s m args below meth c s₁ B hml hv
  obtain ⟨ha, hR, hK, hg, hkx⟩ := hv
  subst ha
  subst hL
  have hts := atoms_spec (ws := Cond.code y cc nL ret :: lw_g) B.pre
  have hl := lv_entry (vs.map (cv G)) (n := nL) (by rw [← entL_len G vs hd]; exact hlen)
  rw [lg_entry_eq]
  refine k l p e s m _ below meth c s.heap [] _ ⟨B.exec, B.bytes, hml, findClass_of_methodNamed B.named, fun w hw => hts w (List.mem_cons_of_mem _ hw), hK, B.notSynchronized, B.returns, hg, (name_of_methodNamed B.named B.method).1, hkx⟩ hR ⟨by simp [entN]; omega, hl.1, hl.2.1, fun q hq => hl.2.2 q (entL_asc G vs hd _ 0 q hq)⟩ (fun q hq => by cases hq)
/-! A LAND of the class, at the cells a .. a + 8: its int fields by number, its arrays by their fields' numbers -/
abbrev LD : Type := (Nat → Int32) × (Nat → Nat → Int32)
def ldfs (a : Nat) (D : LD) : List Value := [.int (D.1 0), .int (D.1 1), .int (D.1 2), .int (D.1 3), .int (D.1 4), .ref (a + 1), .ref (a + 2), .ref (a + 3), .ref (a + 4), .int (D.1 9), .ref (a + 5), .ref (a + 6), .ref (a + 7), .int (D.1 13), .int (D.1 14), .int (D.1 15), .int (D.1 16), .ref (a + 8)]
def LAt (h : AH) (a : Nat) (D : LD) : Prop := 1000 ≤ a ∧ h a = some (.inr (1, ldfs a D)) ∧ h (a + 1) = some (.inl (0, 10, .inl (D.2 5))) ∧ h (a + 2) = some (.inl (0, 10, .inl (D.2 6))) ∧ h (a + 3) = some (.inl (0, 10, .inl (D.2 7))) ∧ h (a + 4) = some (.inl (0, 240, .inl (D.2 8))) ∧ h (a + 5) = some (.inl (0, 6, .inl (D.2 10))) ∧ h (a + 6) = some (.inl (0, 6, .inl (D.2 11))) ∧ h (a + 7) = some (.inl (0, 24, .inl (D.2 12))) ∧ h (a + 8) = some (.inl (0, 24, .inl (D.2 17)))
theorem LAt.o {h : AH} {a : Nat} {D : LD} (H : LAt h a D) : h a = some (.inr (1, ldfs a D)) := H.2.1
theorem LAt.ge {h : AH} {a : Nat} {D : LD} (H : LAt h a D) : 1000 ≤ a := H.1
theorem LAt.a5 {h : AH} {a : Nat} {D : LD} (H : LAt h a D) : h (a + 1) = some (.inl (0, 10, .inl (D.2 5))) := H.2.2.1
theorem LAt.a6 {h : AH} {a : Nat} {D : LD} (H : LAt h a D) : h (a + 2) = some (.inl (0, 10, .inl (D.2 6))) := H.2.2.2.1
theorem LAt.a7 {h : AH} {a : Nat} {D : LD} (H : LAt h a D) : h (a + 3) = some (.inl (0, 10, .inl (D.2 7))) := H.2.2.2.2.1
theorem LAt.a8 {h : AH} {a : Nat} {D : LD} (H : LAt h a D) : h (a + 4) = some (.inl (0, 240, .inl (D.2 8))) := H.2.2.2.2.2.1
theorem LAt.a10 {h : AH} {a : Nat} {D : LD} (H : LAt h a D) : h (a + 5) = some (.inl (0, 6, .inl (D.2 10))) := H.2.2.2.2.2.2.1
theorem LAt.a11 {h : AH} {a : Nat} {D : LD} (H : LAt h a D) : h (a + 6) = some (.inl (0, 6, .inl (D.2 11))) := H.2.2.2.2.2.2.2.1
theorem LAt.a12 {h : AH} {a : Nat} {D : LD} (H : LAt h a D) : h (a + 7) = some (.inl (0, 24, .inl (D.2 12))) := H.2.2.2.2.2.2.2.2.1
theorem LAt.a17 {h : AH} {a : Nat} {D : LD} (H : LAt h a D) : h (a + 8) = some (.inl (0, 24, .inl (D.2 17))) := H.2.2.2.2.2.2.2.2.2
/-- what it says, in the reference's numbers -/
def LVr (D : LD) (V : Nat → Nat) : Prop := VOK V ∧ (D.1 0 = nI (V 0) ∧ D.1 1 = nI (V 1) ∧ D.1 2 = nI (V 2) ∧ D.1 3 = nI (V 3) ∧ D.1 4 = nI (V 4) ∧ D.1 9 = nI (V 5)) ∧ (∀ p, p < V 4 → D.2 5 p = nI (V (42 + 27 * p + 0)) ∧ D.2 6 p = nI (V (42 + 27 * p + 1)) ∧ D.2 7 p = nI (V (42 + 27 * p + 2)) ∧ ∀ x, x < 24 → D.2 8 (p * 24 + x) = nI (V (42 + 27 * p + (3 + x)))) ∧ (∀ b, b < V 5 → D.2 10 b = nI (V (30 + 2 * b)) ∧ D.2 11 b = nI (V (30 + 2 * b + 1))) ∧ ∀ x, x < 24 → D.2 12 x = nI (V (6 + x))
/-- a row of a treaty in a cell -/
def TAt (h : AH) (w : Nat) (t : Nat → Nat) : Prop := ∃ g, h w = some (.inl (0, 24, .inl g)) ∧ ∀ i, i < 24 → g i = nI (t i) ∧ t i ≤ 2
theorem inB_dl {x : Int32} {n : Nat} (hn : n < 2 ^ 31) : inB x (nI 0) (nI n - nI 1) = (!decide (x < 0) && decide (x < nI n)) := by
  by_cases q : x < 0
  · rw [decide_eq_true q]
    unfold inB
    rw [decide_eq_true (p := x < nI 0) q]
    rfl
  · obtain ⟨j, hj, rfl⟩ := nI_of q
    rw [decide_eq_false q]
    cases n with
    | zero =>
      unfold inB
      rw [show nI 0 - nI 1 = -1 from by decide, decide_eq_true (p := (-1 : Int32) < nI j) (by
        rw [Int32.lt_iff_toInt_lt, nI_toInt hj]
        have : (-1 : Int32).toInt = -1 := rfl
        omega), decide_eq_false (p := nI j < nI 0) (fun z => by rw [nI_ltI hj (by decide)] at z; omega)]
      simp
    | succ n =>
      rw [show nI (n + 1) - nI 1 = nI n from nI_pred n, inB_N hj (by decide) (by omega)]
      have e := nI_ltI hj hn
      by_cases z : j < n + 1
      · rw [decide_eq_true (e.mpr z), decide_eq_true (p := 0 ≤ j) (by omega), decide_eq_true (p := j ≤ n) (by omega)]; rfl
      · rw [decide_eq_false (fun y => z (e.mp y)), decide_eq_false (p := j ≤ n) (by omega)]; simp
theorem bI_n (b : Bool) : bI b = nI (if b = true then 1 else 0) := by cases b <;> rfl
set_option maxHeartbeats 4000000 in
set_option maxRecDepth 100000 in
theorem c_N_one1 {G : GE} (h : AH) : Ctr G y_N_oneIf b_N_oneIf 1 (some .int) r_N_oneIf [.int (nI 1)] h (Pu (.int (nI 1)) h) := by
  refine Ctr.of (by decide +kernel) (by simp) (Nat.le_of_ble_eq_true rfl) (L0 := [some (.int (nI 1))]) rfl ?_
  refine A_iload_n0 d_N_oneIf_0 ?_
  refine A_if_eq (tgt := 8) d_N_oneIf_1 (by decide) (fun c => absurd c (by decide)) (fun c_1 => ?_)
  refine A_iconst (v := nI 1) d_N_oneIf_4 (by decide) ?_
  refine A_goto (tgt := 9) d_N_oneIf_5 (by decide) ?_
  refine A_iret d_N_oneIf_9 rfl ⟨Nat.zero_le _, Nat.zero_le _⟩ ?_
  exact pu rfl
set_option maxHeartbeats 4000000 in
set_option maxRecDepth 100000 in
theorem c_N_one0 {G : GE} (h : AH) : Ctr G y_N_oneIf b_N_oneIf 1 (some .int) r_N_oneIf [.int (nI 0)] h (Pu (.int (nI 0)) h) := by
  refine Ctr.of (by decide +kernel) (by simp) (Nat.le_of_ble_eq_true rfl) (L0 := [some (.int (nI 0))]) rfl ?_
  refine A_iload_n0 d_N_oneIf_0 ?_
  refine A_if_eq (tgt := 8) d_N_oneIf_1 (by decide) (fun c_1 => ?_) (fun c => absurd rfl c)
  refine A_iconst (v := nI 0) d_N_oneIf_8 (by decide) ?_
  refine A_iret d_N_oneIf_9 rfl ⟨Nat.zero_le _, Nat.zero_le _⟩ ?_
  exact pu rfl
theorem c_N_oneB {G : GE} (b : Bool) (h : AH) : Ctr G y_N_oneIf b_N_oneIf 1 (some .int) r_N_oneIf [.int (bI b)] h (Pu (.int (bI b)) h) := by cases b <;> first | exact c_N_one0 h | exact c_N_one1 h
set_option maxHeartbeats 4000000 in
set_option maxRecDepth 100000 in
theorem c_JM_max_0 {G : GE} (a b : Int32) (h : AH) : Ctr G y_JM_max_0 b_JM_max_0 2 (some .int) r_JM_max_0 [.int a, .int b] h (Pu (.int (if a < b then b else a)) h) := by
  refine Ctr.ofF (by decide +kernel) (by simp) (Nat.le_of_ble_eq_true rfl) (L0 := [some (.int a), some (.int b)]) rfl ?_
  refine A_iload_n0 d_JM_max_0_0 ?_
  refine A_iload_n1 d_JM_max_0_1 ?_
  first | refine A_icmp_ltN (tgt := 9) d_JM_max_0_2 (by decide) (by with_reducible rfl) (by with_reducible rfl) (by omega) (by omega) (fun c_2 => ?_) (fun c_2 => ?_) | refine A_icmp_lt (tgt := 9) d_JM_max_0_2 (by decide) (fun c_2 => ?_) (fun c_2 => ?_)
  · refine A_iload_n1 d_JM_max_0_9 ?_
    refine A_iret d_JM_max_0_10 rfl ⟨Nat.zero_le _, Nat.zero_le _⟩ ?_
    exact pu (by first | rw [if_pos c_2] | rw [if_neg c_2])
  · refine A_iload_n0 d_JM_max_0_5 ?_
    refine A_goto (tgt := 10) d_JM_max_0_6 (by decide) ?_
    refine A_iret d_JM_max_0_10 rfl ⟨Nat.zero_le _, Nat.zero_le _⟩ ?_
    exact pu (by first | rw [if_pos c_2] | rw [if_neg c_2])
set_option maxHeartbeats 4000000 in
set_option maxRecDepth 100000 in
theorem c_JM_min {G : GE} (a b : Int32) (h : AH) : Ctr G y_JM_min b_JM_min 2 (some .int) r_JM_min [.int a, .int b] h (Pu (.int (if b < a then b else a)) h) := by
  refine Ctr.ofF (by decide +kernel) (by simp) (Nat.le_of_ble_eq_true rfl) (L0 := [some (.int a), some (.int b)]) rfl ?_
  refine A_iload_n0 d_JM_min_0 ?_
  refine A_iload_n1 d_JM_min_1 ?_
  first | refine A_icmp_gtN (tgt := 9) d_JM_min_2 (by decide) (by with_reducible rfl) (by with_reducible rfl) (by omega) (by omega) (fun c_2 => ?_) (fun c_2 => ?_) | refine A_icmp_gt (tgt := 9) d_JM_min_2 (by decide) (fun c_2 => ?_) (fun c_2 => ?_)
  · refine A_iload_n1 d_JM_min_9 ?_
    refine A_iret d_JM_min_10 rfl ⟨Nat.zero_le _, Nat.zero_le _⟩ ?_
    exact pu (by first | rw [if_pos c_2] | rw [if_neg c_2])
  · refine A_iload_n0 d_JM_min_5 ?_
    refine A_goto (tgt := 10) d_JM_min_6 (by decide) ?_
    refine A_iret d_JM_min_10 rfl ⟨Nat.zero_le _, Nat.zero_le _⟩ ?_
    exact pu (by first | rw [if_pos c_2] | rw [if_neg c_2])
set_option maxHeartbeats 4000000 in
set_option maxRecDepth 100000 in
theorem c_JM_abs {G : GE} (a : Int32) (h : AH) : Ctr G y_JM_abs b_JM_abs 1 (some .int) r_JM_abs [.int a] h (Pu (.int (if 0 ≤ a then a else -a)) h) := by
  refine Ctr.ofF (by decide +kernel) (by simp) (Nat.le_of_ble_eq_true rfl) (L0 := [some (.int a)]) rfl ?_
  refine A_iload_n0 d_JM_abs_0 ?_
  refine A_if_ge (tgt := 9) d_JM_abs_1 (by decide) (fun c_1 => ?_) (fun c_1 => ?_)
  · refine A_iload_n0 d_JM_abs_9 ?_
    refine A_iret d_JM_abs_10 rfl ⟨Nat.zero_le _, Nat.zero_le _⟩ ?_
    exact pu (by first | rw [if_pos c_1] | rw [if_neg c_1])
  · refine A_iload_n0 d_JM_abs_4 ?_
    refine A_ineg d_JM_abs_5 ?_
    refine A_goto (tgt := 10) d_JM_abs_6 (by decide) ?_
    refine A_iret d_JM_abs_10 rfl ⟨Nat.zero_le _, Nat.zero_le _⟩ ?_
    exact pu (by first | rw [if_pos c_1] | rw [if_neg c_1])
theorem nI_maxJ {a b : Nat} (ha : a < 2 ^ 31) (hb : b < 2 ^ 31) : (if nI a < nI b then nI b else nI a) = nI (max a b) := by
  simp only [nI_ltI ha hb]
  split <;> congr 1 <;> omega
theorem nI_minJ {a b : Nat} (ha : a < 2 ^ 31) (hb : b < 2 ^ 31) : (if nI b < nI a then nI b else nI a) = nI (min a b) := by
  simp only [nI_ltI hb ha]
  split <;> congr 1 <;> omega
set_option maxHeartbeats 4000000 in
set_option maxRecDepth 100000 in
theorem c_Ld_hasPerson {G : GE} {h : AH} {a : Nat} {D : LD} (hA : LAt h a D) {V : Nat → Nat} (hV : LVr D V) (x : Int32) : Ctr G y_Ld_hasPerson b_Ld_hasPerson 2 (some .boolean) r_Ld_hasPerson [.ref a, .int x] h (Pu (.int (bI (inB x (nI 0) (nI (V 4) - nI 1)))) h) := by
  obtain ⟨ok, ⟨f0, f1, f2, f3, f4, f9⟩, hP, hBe, hTo⟩ := hV
  have hH := ok.1
  have h4 := ok.2.2.2.2.1
  refine Ctr.of (by decide +kernel) (by simp) (Nat.le_of_ble_eq_true rfl) (L0 := [some (.ref a), some (.int x)]) rfl ?_
  refine A_iload_n1 d_Ld_hasPerson_0 ?_
  refine A_if_lt (tgt := 16) d_Ld_hasPerson_1 (by decide) (fun c_1 => ?_) (fun c_1 => ?_)
  · refine A_iconst (v := nI 0) d_Ld_hasPerson_16 (by decide) ?_
    refine A_zret d_Ld_hasPerson_17 rfl (by first | rfl | exact bI_nar _ | decide) ⟨Nat.zero_le _, Nat.zero_le _⟩ ?_
    refine pu ?_
    rw [inB_dl (by omega)]
    first
      | (rw [decide_eq_true c_1]; rfl)
      | (rw [decide_eq_false c_1, decide_eq_true c_9]; rfl)
      | (rw [decide_eq_false c_1, decide_eq_true (Int32.not_le.mp c_9)]; rfl)
      | (rw [decide_eq_false c_1, decide_eq_false (Int32.not_lt.mpr c_9)]; rfl)
  · refine A_iload_n1 d_Ld_hasPerson_4 ?_
    refine A_aload_n0 d_Ld_hasPerson_5 ?_
    refine A_getf (kf := 4) d_Ld_hasPerson_6 hA.o ok_1 (by decide) q_60 rfl ?_
    refine A_topI f4 ?_
    first | refine A_icmp_geN (tgt := 16) d_Ld_hasPerson_9 (by decide) (by with_reducible rfl) (by with_reducible rfl) (by omega) (by omega) (fun c_9 => ?_) (fun c_9 => ?_) | refine A_icmp_ge (tgt := 16) d_Ld_hasPerson_9 (by decide) (fun c_9 => ?_) (fun c_9 => ?_)
    · refine A_iconst (v := nI 0) d_Ld_hasPerson_16 (by decide) ?_
      refine A_zret d_Ld_hasPerson_17 rfl (by first | rfl | exact bI_nar _ | decide) ⟨Nat.zero_le _, Nat.zero_le _⟩ ?_
      refine pu ?_
      rw [inB_dl (by omega)]
      first
        | (rw [decide_eq_true c_1]; rfl)
        | (rw [decide_eq_false c_1, decide_eq_true c_9]; rfl)
        | (rw [decide_eq_false c_1, decide_eq_true (Int32.not_le.mp c_9)]; rfl)
        | (rw [decide_eq_false c_1, decide_eq_false (Int32.not_lt.mpr c_9)]; rfl)
    · refine A_iconst (v := nI 1) d_Ld_hasPerson_12 (by decide) ?_
      refine A_goto (tgt := 17) d_Ld_hasPerson_13 (by decide) ?_
      refine A_zret d_Ld_hasPerson_17 rfl (by first | rfl | exact bI_nar _ | decide) ⟨Nat.zero_le _, Nat.zero_le _⟩ ?_
      refine pu ?_
      rw [inB_dl (by omega)]
      first
        | (rw [decide_eq_true c_1]; rfl)
        | (rw [decide_eq_false c_1, decide_eq_true c_9]; rfl)
        | (rw [decide_eq_false c_1, decide_eq_true (Int32.not_le.mp c_9)]; rfl)
        | (rw [decide_eq_false c_1, decide_eq_false (Int32.not_lt.mpr c_9)]; rfl)
set_option maxHeartbeats 4000000 in
set_option maxRecDepth 100000 in
theorem c_Ld_allHours {G : GE} {h : AH} {a : Nat} {D : LD} (hA : LAt h a D) {V : Nat → Nat} (hV : LVr D V)  : Ctr G y_Ld_allHours b_Ld_allHours 1 (some .int) r_Ld_allHours [.ref a] h (Pu (.int (allI (V 0))) h) := by
  obtain ⟨ok, ⟨f0, f1, f2, f3, f4, f9⟩, hP, hBe, hTo⟩ := hV
  have hH := ok.1
  refine Ctr.of (by decide +kernel) (by simp) (Nat.le_of_ble_eq_true rfl) (L0 := [some (.ref a)]) rfl ?_
  refine A_iconst (v := nI 1) d_Ld_allHours_0 (by decide) ?_
  refine A_aload_n0 d_Ld_allHours_1 ?_
  refine A_getf (kf := 0) d_Ld_allHours_2 hA.o ok_1 (by decide) q_45 rfl ?_
  refine A_topI f0 ?_
  refine A_ishl d_Ld_allHours_5 ?_
  refine A_iconst (v := nI 1) d_Ld_allHours_6 (by decide) ?_
  first | refine A_isubN d_Ld_allHours_7 (by with_reducible rfl) (by with_reducible rfl) (by omega) ?_ | refine A_isub d_Ld_allHours_7 ?_
  refine A_iret d_Ld_allHours_8 rfl ⟨Nat.zero_le _, Nat.zero_le _⟩ ?_
  exact pu rfl
set_option maxHeartbeats 4000000 in
set_option maxRecDepth 100000 in
theorem c_Ld_everybody {G : GE} {h : AH} {a : Nat} {D : LD} (hA : LAt h a D) {V : Nat → Nat} (hV : LVr D V)  : Ctr G y_Ld_everybody b_Ld_everybody 1 (some .int) r_Ld_everybody [.ref a] h (Pu (.int (allI (V 4))) h) := by
  obtain ⟨ok, ⟨f0, f1, f2, f3, f4, f9⟩, hP, hBe, hTo⟩ := hV
  have hH := ok.1
  refine Ctr.of (by decide +kernel) (by simp) (Nat.le_of_ble_eq_true rfl) (L0 := [some (.ref a)]) rfl ?_
  refine A_iconst (v := nI 1) d_Ld_everybody_0 (by decide) ?_
  refine A_aload_n0 d_Ld_everybody_1 ?_
  refine A_getf (kf := 4) d_Ld_everybody_2 hA.o ok_1 (by decide) q_60 rfl ?_
  refine A_topI f4 ?_
  refine A_ishl d_Ld_everybody_5 ?_
  refine A_iconst (v := nI 1) d_Ld_everybody_6 (by decide) ?_
  first | refine A_isubN d_Ld_everybody_7 (by with_reducible rfl) (by with_reducible rfl) (by omega) ?_ | refine A_isub d_Ld_everybody_7 ?_
  refine A_iret d_Ld_everybody_8 rfl ⟨Nat.zero_le _, Nat.zero_le _⟩ ?_
  exact pu rfl
set_option maxHeartbeats 4000000 in
set_option maxRecDepth 100000 in
theorem c_Ld_at {G : GE} {h : AH} {a : Nat} {D : LD} (hA : LAt h a D) {V : Nat → Nat} (hV : LVr D V) {w : Nat} {t : Nat → Nat} (hT : TAt h w t) (x : Nat) (hx : x < 2 ^ 31) : Ctr G y_Ld_at b_Ld_at 3 (some .int) r_Ld_at [.ref a, .ref w, .int (nI x)] h (Pu (.int (nI (t (x % V 0)))) h) := by
  obtain ⟨ok, ⟨f0, f1, f2, f3, f4, f9⟩, hP, hBe, hTo⟩ := hV
  have hH := ok.1
  obtain ⟨g, hg, ht⟩ := hT
  refine Ctr.of (by decide +kernel) (by simp) (Nat.le_of_ble_eq_true rfl) (L0 := [some (.ref a), some (.ref w), some (.int (nI x))]) rfl ?_
  refine A_aload_n0 d_Ld_at_0 ?_
  refine A_getf (kf := 0) d_Ld_at_1 hA.o ok_1 (by decide) q_45 rfl ?_
  refine A_topI f0 ?_
  refine A_if_le (tgt := 18) d_Ld_at_4 (by decide) (fun c => absurd c (nI_nle (by omega) (by omega))) (fun c_4 => ?_)
  refine A_aload_n1 d_Ld_at_7 ?_
  refine A_iload_n2 d_Ld_at_8 ?_
  refine A_aload_n0 d_Ld_at_9 ?_
  refine A_getf (kf := 0) d_Ld_at_10 hA.o ok_1 (by decide) q_45 rfl ?_
  refine A_topI f0 ?_
  refine A_iremN d_Ld_at_13 (by with_reducible rfl) (by with_reducible rfl) (by omega) ?_
  refine A_ialdN d_Ld_at_14 hg ⟨Nat.lt_of_lt_of_le (Nat.mod_lt _ (by omega)) (by omega), by decide⟩ ?_
  refine A_topI (ht (x % V 0) (Nat.lt_of_lt_of_le (Nat.mod_lt _ (by omega)) (by omega))).1 ?_
  refine A_goto (tgt := 19) d_Ld_at_15 (by decide) ?_
  refine A_iret d_Ld_at_19 rfl ⟨Nat.zero_le _, Nat.zero_le _⟩ ?_
  exact pu rfl
set_option maxHeartbeats 4000000 in
set_option maxRecDepth 100000 in
theorem c_Ld_before {G : GE} {h : AH} {a : Nat} {D : LD} (hA : LAt h a D) {V : Nat → Nat} (hV : LVr D V) {w : Nat} {t : Nat → Nat} (hT : TAt h w t) (x : Nat) (hx : x < 2 ^ 30) : Ctr G y_Ld_before b_Ld_before 3 (some .int) r_Ld_before [.ref a, .ref w, .int (nI x)] h (Pu (.int (nI (t ((x + V 0 - 1) % V 0)))) h) := by
  have hV0 := hV
  obtain ⟨ok, ⟨f0, f1, f2, f3, f4, f9⟩, hP, hBe, hTo⟩ := hV
  have hH := ok.1
  refine Ctr.of (by decide +kernel) (by simp) (Nat.le_of_ble_eq_true rfl) (L0 := [some (.ref a), some (.ref w), some (.int (nI x))]) rfl ?_
  refine A_aload_n0 d_Ld_before_0 ?_
  refine A_aload_n1 d_Ld_before_1 ?_
  refine A_iload_n2 d_Ld_before_2 ?_
  refine A_aload_n0 d_Ld_before_3 ?_
  refine A_getf (kf := 0) d_Ld_before_4 hA.o ok_1 (by decide) q_45 rfl ?_
  refine A_topI f0 ?_
  first | refine A_iaddN d_Ld_before_7 (by with_reducible rfl) (by with_reducible rfl) ?_ | refine A_iadd d_Ld_before_7 ?_
  refine A_iconst (v := nI 1) d_Ld_before_8 (by decide) ?_
  first | refine A_isubN d_Ld_before_9 (by with_reducible rfl) (by with_reducible rfl) (by omega) ?_ | refine A_isub d_Ld_before_9 ?_
  refine A_callVP d_Ld_before_10 (c_Ld_at hA hV0 hT (x + V 0 - 1) (by omega)) hA.o rfl q_684 q_685 q_686 mk_Ld_at rfl (by decide) rfl (Nat.le_of_ble_eq_true rfl) ⟨Nat.le_of_ble_eq_true rfl, Nat.le_of_ble_eq_true rfl⟩ ⟨rfl, rfl⟩ ?_
  refine A_iret d_Ld_before_13 rfl ⟨Nat.zero_le _, Nat.zero_le _⟩ ?_
  exact pu rfl
def arrB (t : Nat → Nat) (H x : Nat) : Bool := !decide (t x = 2) && firstU (fun k => !decide (t ((x + H - k) % H) = 2)) (fun k => !decide (t ((x + H - k) % H) = t x)) false H 1
theorem firstU_eq {α β : Type} {c : Nat → Bool} {r : Nat → α} {r2 : Nat → β} {d : α} {d2 : β} {n n2 : Nat} (P : α → β → Prop) (hn : n ≤ n2) (h1 : ∀ k, k < n → c k = true → P (r k) (r2 k)) (h2 : P d (firstU c r2 d2 n2 n)) : ∀ j k, k + j = n → P (firstU c r d n k) (firstU c r2 d2 n2 k)
  | 0, k, h => by
    obtain rfl : k = n := by omega
    rw [firstU_end]
    exact h2
  | j + 1, k, h => by
    rw [firstU_step _ _ _ (show k < n by omega), firstU_step _ _ _ (show k < n2 by omega)]
    by_cases q : c k = true
    · rw [if_pos q, if_pos q]
      exact h1 k (by omega) q
    · rw [if_neg q, if_neg q]
      exact firstU_eq P hn h1 h2 j (k + 1) (by omega)
theorem arrB_eq {t : Nat → Nat} {H x : Nat} (hH : 0 < H) (hx : x < H) (ht : ∀ i, i < H → t i ≤ 2) : arrB t H x = comesB t H x := by
  unfold arrB comesB
  by_cases q : t x = 2
  · rw [decide_eq_true q]; rfl
  · rw [decide_eq_false q, Bool.not_false, Bool.true_and, Bool.true_and]
    have htx := ht x hx
    unfold caI
    refine firstU_eq (fun a b => a = decide (b = nI 1 - nI (t x))) (by omega) (fun k hk hc => ?_) ?_ (H - 1) 1 (by omega)
    · have hm := ht ((x + H - k) % H) (Nat.mod_lt _ hH)
      have hc : t ((x + H - k) % H) ≠ 2 := by simpa using hc
      rw [nI_sub (by omega)]
      by_cases z : t ((x + H - k) % H) = t x
      · rw [decide_eq_true z, decide_eq_false (fun y => by rw [nI_eq (by omega) (by omega)] at y; omega)]; rfl
      · rw [decide_eq_false z, decide_eq_true ((nI_eq (by omega) (by omega)).mpr (by omega))]; rfl
    · rw [firstU_step _ _ _ (by omega), show x + H - H = x by omega, Nat.mod_eq_of_lt hx, if_pos (by rw [decide_eq_false q]; rfl), nI_sub (by omega), decide_eq_false (fun y => by rw [nI_eq (by omega) (by omega)] at y; omega)]
set_option maxHeartbeats 4000000 in
set_option maxRecDepth 100000 in
theorem c_Ld_arrives {G : GE} {h : AH} {a : Nat} {D : LD} (hA : LAt h a D) {V : Nat → Nat} (hV : LVr D V) {w : Nat} {t : Nat → Nat} (hT : TAt h w t) (x : Nat) (hx : x < V 0) : Ctr G y_Ld_arrives b_Ld_arrives 5 (some .boolean) r_Ld_arrives [.ref a, .ref w, .int (nI x)] h (Pu (.int (bI (comesB t (V 0) x))) h) := by
  rw [← arrB_eq (by have := hV.1.1; omega) hx (fun i hi => by obtain ⟨g, -, ht⟩ := hT; exact (ht i (by have := hV.1.1; omega)).2)]
  have hV0 := hV
  have hT0 := hT
  obtain ⟨ok, ⟨f0, f1, f2, f3, f4, f9⟩, hP, hBe, hTo⟩ := hV
  have hH := ok.1
  obtain ⟨g, hg, ht⟩ := hT
  have key : ∀ i, i ≤ V 0 - 1 → WA G y_Ld_arrives b_Ld_arrives 5 (some .boolean) r_Ld_arrives 0 0 (Pu (.int (bI (firstU (fun k => !decide (t ((x + V 0 - k) % V 0) = 2)) (fun k => !decide (t ((x + V 0 - k) % V 0) = t x)) false (V 0) (i + 1)))) h) 0 0 11 [some (.ref a), some (.ref w), some (.int (nI x)), some (.int (nI (i + 1))), none] [] h := by
    refine down ?_ (fun i hi ih => ?_)
    · rw [show V 0 - 1 + 1 = V 0 by omega]
      refine A_iload_n3 d_Ld_arrives_11 ?_
      refine A_aload_n0 d_Ld_arrives_12 ?_
      refine A_getf (kf := 0) d_Ld_arrives_13 hA.o ok_1 (by decide) q_45 rfl ?_
      refine A_topI f0 ?_
      first | refine A_icmp_geN (tgt := 60) d_Ld_arrives_16 (by decide) (by with_reducible rfl) (by with_reducible rfl) (by omega) (by omega) (fun c_16 => ?_) (fun c_16 => ?_) | refine A_icmp_ge (tgt := 60) d_Ld_arrives_16 (by decide) (fun c_16 => ?_) (fun c_16 => ?_)
      · refine A_iconst (v := nI 0) d_Ld_arrives_60 (by decide) ?_
        refine A_zret d_Ld_arrives_61 rfl (by first | rfl | exact bI_nar _ | decide) ⟨Nat.zero_le _, Nat.zero_le _⟩ ?_
        exact pu (by rw [firstU_end]; rfl)
      · exact absurd c_16 (by omega)
    · refine A_iload_n3 d_Ld_arrives_11 ?_
      refine A_aload_n0 d_Ld_arrives_12 ?_
      refine A_getf (kf := 0) d_Ld_arrives_13 hA.o ok_1 (by decide) q_45 rfl ?_
      refine A_topI f0 ?_
      first | refine A_icmp_geN (tgt := 60) d_Ld_arrives_16 (by decide) (by with_reducible rfl) (by with_reducible rfl) (by omega) (by omega) (fun c_16 => ?_) (fun c_16 => ?_) | refine A_icmp_ge (tgt := 60) d_Ld_arrives_16 (by decide) (fun c_16 => ?_) (fun c_16 => ?_)
      · exact absurd c_16 (by omega)
      · refine A_aload_n0 d_Ld_arrives_19 ?_
        refine A_aload_n1 d_Ld_arrives_20 ?_
        refine A_iload_n2 d_Ld_arrives_21 ?_
        refine A_aload_n0 d_Ld_arrives_22 ?_
        refine A_getf (kf := 0) d_Ld_arrives_23 hA.o ok_1 (by decide) q_45 rfl ?_
        refine A_topI f0 ?_
        first | refine A_iaddN d_Ld_arrives_26 (by with_reducible rfl) (by with_reducible rfl) ?_ | refine A_iadd d_Ld_arrives_26 ?_
        refine A_iload_n3 d_Ld_arrives_27 ?_
        first | refine A_isubN d_Ld_arrives_28 (by with_reducible rfl) (by with_reducible rfl) (by omega) ?_ | refine A_isub d_Ld_arrives_28 ?_
        refine A_callVP d_Ld_arrives_29 (c_Ld_at hA hV0 hT0 (x + V 0 - (i + 1)) (by omega)) hA.o rfl q_684 q_685 q_686 mk_Ld_at rfl (by decide) rfl (Nat.le_of_ble_eq_true rfl) ⟨Nat.le_of_ble_eq_true rfl, Nat.le_of_ble_eq_true rfl⟩ ⟨rfl, rfl⟩ ?_
        refine A_istore4 d_Ld_arrives_32 trivial ?_
        have hm := (ht ((x + V 0 - (i + 1)) % V 0) (Nat.lt_of_lt_of_le (Nat.mod_lt _ (by omega)) (by omega))).2
        have hx2 := (ht x (by omega)).2
        refine A_iload4 d_Ld_arrives_34 ?_
        refine A_iconst (v := nI 2) d_Ld_arrives_36 (by decide) ?_
        first | refine A_icmp_eqN (tgt := 54) d_Ld_arrives_37 (by decide) (by with_reducible rfl) (by with_reducible rfl) (by omega) (by omega) (fun c_37 => ?_) (fun c_37 => ?_) | refine A_icmp_eq (tgt := 54) d_Ld_arrives_37 (by decide) (fun c_37 => ?_) (fun c_37 => ?_)
        · first | refine A_iinc3 d_Ld_arrives_54 (nI_1 _) trivial ?_ | refine A_iinc3 d_Ld_arrives_54 rfl trivial ?_
          refine A_goto (tgt := 11) d_Ld_arrives_57 (by decide) ?_
          rw [firstU_step _ _ _ (by omega), if_neg (by rw [decide_eq_true c_37]; decide)]
          exact A_drop4 ih
        · refine A_iload4 d_Ld_arrives_40 ?_
          refine A_aload_n1 d_Ld_arrives_42 ?_
          refine A_iload_n2 d_Ld_arrives_43 ?_
          refine A_ialdN d_Ld_arrives_44 hg ⟨by omega, by decide⟩ ?_
          refine A_topI (ht (x) (by omega)).1 ?_
          first | refine A_icmp_eqN (tgt := 52) d_Ld_arrives_45 (by decide) (by with_reducible rfl) (by with_reducible rfl) (by omega) (by omega) (fun c_45 => ?_) (fun c_45 => ?_) | refine A_icmp_eq (tgt := 52) d_Ld_arrives_45 (by decide) (fun c_45 => ?_) (fun c_45 => ?_)
          · refine A_iconst (v := nI 0) d_Ld_arrives_52 (by decide) ?_
            refine A_zret d_Ld_arrives_53 rfl (by first | rfl | exact bI_nar _ | decide) ⟨Nat.zero_le _, Nat.zero_le _⟩ ?_
            exact pu (by rw [firstU_step _ _ _ (by omega), if_pos (by rw [decide_eq_false c_37]; rfl)]; first | (rw [decide_eq_true c_45]; rfl) | (rw [decide_eq_false c_45]; rfl))
          · refine A_iconst (v := nI 1) d_Ld_arrives_48 (by decide) ?_
            refine A_goto (tgt := 53) d_Ld_arrives_49 (by decide) ?_
            refine A_zret d_Ld_arrives_53 rfl (by first | rfl | exact bI_nar _ | decide) ⟨Nat.zero_le _, Nat.zero_le _⟩ ?_
            exact pu (by rw [firstU_step _ _ _ (by omega), if_pos (by rw [decide_eq_false c_37]; rfl)]; first | (rw [decide_eq_true c_45]; rfl) | (rw [decide_eq_false c_45]; rfl))
  refine Ctr.of (by decide +kernel) (by simp) (Nat.le_of_ble_eq_true rfl) (L0 := [some (.ref a), some (.ref w), some (.int (nI x)), none, none]) rfl ?_
  refine A_aload_n1 d_Ld_arrives_0 ?_
  refine A_iload_n2 d_Ld_arrives_1 ?_
  refine A_ialdN d_Ld_arrives_2 hg ⟨by omega, by decide⟩ ?_
  refine A_topI (ht (x) (by omega)).1 ?_
  have hx2 := (ht x (by omega)).2
  refine A_iconst (v := nI 2) d_Ld_arrives_3 (by decide) ?_
  first | refine A_icmp_neN (tgt := 9) d_Ld_arrives_4 (by decide) (by with_reducible rfl) (by with_reducible rfl) (by omega) (by omega) (fun c_4 => ?_) (fun c_4 => ?_) | refine A_icmp_ne (tgt := 9) d_Ld_arrives_4 (by decide) (fun c_4 => ?_) (fun c_4 => ?_)
  · refine A_iconst (v := nI 1) d_Ld_arrives_9 (by decide) ?_
    refine A_istore3 d_Ld_arrives_10 trivial ?_
    rw [show arrB t (V 0) x = firstU (fun k => !decide (t ((x + V 0 - k) % V 0) = 2)) (fun k => !decide (t ((x + V 0 - k) % V 0) = t x)) false (V 0) (0 + 1) by unfold arrB; rw [decide_eq_false c_4]; rfl]
    exact key 0 (Nat.zero_le _)
  · refine A_iconst (v := nI 0) d_Ld_arrives_7 (by decide) ?_
    refine A_zret d_Ld_arrives_8 rfl (by first | rfl | exact bI_nar _ | decide) ⟨Nat.zero_le _, Nat.zero_le _⟩ ?_
    exact pu (by unfold arrB; rw [decide_eq_true c_4]; rfl)
