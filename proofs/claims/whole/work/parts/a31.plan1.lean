def PlW (h0 h : AH) (r x y : Nat) (Z : PC) : Prop := PlAt h r x y Z ∧ ∀ i, (i < r ∨ r + 6 ≤ i) → h i = h0 i
theorem PlW.start {h : AH} {r x y : Nat} {Z : PC} (A : PlAt h r x y Z) : PlW h h r x y Z := ⟨A, fun _ _ => rfl⟩
theorem PlW.trans {h0 h h1 : AH} {r x y x1 y1 : Nat} {Z Z1 : PC} (M : PlW h0 h r x y Z) (M1 : PlW h h1 r x1 y1 Z1) : PlW h0 h1 r x1 y1 Z1 := ⟨M1.1, fun i hi => (M1.2 i hi).trans (M.2 i hi)⟩
theorem PlW.so {h0 h : AH} {r x y : Nat} {Z : PC} (M : PlW h0 h r x y Z) (F : Nat → Int32) (v : Int64) : PlW h0 (hset h r (.inr (2, plfs r x y F v))) r x y (F, v, Z.2.2) := ⟨⟨M.1.ge, M.1.xy, hset_eq _ _ _, (hset_ne (by have := M.1.xy; omega)).trans M.1.be, (hset_ne (by have := M.1.xy; omega)).trans M.1.th, (hset_ne (by have := M.1.xy; omega)).trans M.1.rk, (hset_ne (by have := M.1.xy; omega)).trans M.1.po, (hset_ne (by have := M.1.xy; omega)).trans M.1.fe⟩, fun i hi => (hset_ne (by have := M.1.xy; omega)).trans (M.2 i hi)⟩
theorem PlW.sbe {h0 h : AH} {r x y : Nat} {Z : PC} (M : PlW h0 h r x y Z) (g : Nat → Int64) : PlW h0 (hset h x (.inl (1, 1400, .inr (.inl g)))) r x y (Z.1, Z.2.1, g, Z.2.2.2.1, Z.2.2.2.2.1, Z.2.2.2.2.2.1, Z.2.2.2.2.2.2) := ⟨⟨M.1.ge, M.1.xy, (hset_ne (by have := M.1.xy; omega)).trans M.1.o, hset_eq _ _ _, (hset_ne (by have := M.1.xy; omega)).trans M.1.th, (hset_ne (by have := M.1.xy; omega)).trans M.1.rk, (hset_ne (by have := M.1.xy; omega)).trans M.1.po, (hset_ne (by have := M.1.xy; omega)).trans M.1.fe⟩, fun i hi => (hset_ne (by have := M.1.xy; omega)).trans (M.2 i hi)⟩
theorem PlW.sth {h0 h : AH} {r x y : Nat} {Z : PC} (M : PlW h0 h r x y Z) (g : Nat → Int64) : PlW h0 (hset h y (.inl (1, 1400, .inr (.inl g)))) r x y (Z.1, Z.2.1, Z.2.2.1, g, Z.2.2.2.2.1, Z.2.2.2.2.2.1, Z.2.2.2.2.2.2) := ⟨⟨M.1.ge, M.1.xy, (hset_ne (by have := M.1.xy; omega)).trans M.1.o, (hset_ne (by have := M.1.xy; omega)).trans M.1.be, hset_eq _ _ _, (hset_ne (by have := M.1.xy; omega)).trans M.1.rk, (hset_ne (by have := M.1.xy; omega)).trans M.1.po, (hset_ne (by have := M.1.xy; omega)).trans M.1.fe⟩, fun i hi => (hset_ne (by have := M.1.xy; omega)).trans (M.2 i hi)⟩
theorem PlW.srk {h0 h : AH} {r x y : Nat} {Z : PC} (M : PlW h0 h r x y Z) (g : Nat → Int64) : PlW h0 (hset h (r + 3) (.inl (1, 24, .inr (.inl g)))) r x y (Z.1, Z.2.1, Z.2.2.1, Z.2.2.2.1, g, Z.2.2.2.2.2.1, Z.2.2.2.2.2.2) := ⟨⟨M.1.ge, M.1.xy, (hset_ne (by have := M.1.xy; omega)).trans M.1.o, (hset_ne (by have := M.1.xy; omega)).trans M.1.be, (hset_ne (by have := M.1.xy; omega)).trans M.1.th, hset_eq _ _ _, (hset_ne (by have := M.1.xy; omega)).trans M.1.po, (hset_ne (by have := M.1.xy; omega)).trans M.1.fe⟩, fun i hi => (hset_ne (by have := M.1.xy; omega)).trans (M.2 i hi)⟩
theorem PlW.spo {h0 h : AH} {r x y : Nat} {Z : PC} (M : PlW h0 h r x y Z) (g : Nat → Int32) : PlW h0 (hset h (r + 4) (.inl (0, 48, .inl g))) r x y (Z.1, Z.2.1, Z.2.2.1, Z.2.2.2.1, Z.2.2.2.2.1, g, Z.2.2.2.2.2.2) := ⟨⟨M.1.ge, M.1.xy, (hset_ne (by have := M.1.xy; omega)).trans M.1.o, (hset_ne (by have := M.1.xy; omega)).trans M.1.be, (hset_ne (by have := M.1.xy; omega)).trans M.1.th, (hset_ne (by have := M.1.xy; omega)).trans M.1.rk, hset_eq _ _ _, (hset_ne (by have := M.1.xy; omega)).trans M.1.fe⟩, fun i hi => (hset_ne (by have := M.1.xy; omega)).trans (M.2 i hi)⟩
theorem PlW.sfe {h0 h : AH} {r x y : Nat} {Z : PC} (M : PlW h0 h r x y Z) (g : Nat → Int32) : PlW h0 (hset h (r + 5) (.inl (0, 24, .inl g))) r x y (Z.1, Z.2.1, Z.2.2.1, Z.2.2.2.1, Z.2.2.2.2.1, Z.2.2.2.2.2.1, g) := ⟨⟨M.1.ge, M.1.xy, (hset_ne (by have := M.1.xy; omega)).trans M.1.o, (hset_ne (by have := M.1.xy; omega)).trans M.1.be, (hset_ne (by have := M.1.xy; omega)).trans M.1.th, (hset_ne (by have := M.1.xy; omega)).trans M.1.rk, (hset_ne (by have := M.1.xy; omega)).trans M.1.po, hset_eq _ _ _⟩, fun i hi => (hset_ne (by have := M.1.xy; omega)).trans (M.2 i hi)⟩
section PLR
variable {G : GE} {y : MethodName} {cc : ByteArray} {nL : Nat} {ret : Option FieldType} {R : Room} {mc ms : Nat} {K : Option Value → AH → Prop} {u n pc : Nat} {L : List (Option Value)} {st : List Value} {h0 h : AH} {r rx ry : Nat} {Z : PC}
theorem A_plInt {kf index : Nat} {x : Int32} (d : decode cc pc = .ok (.putfield index, 3)) (hk : kf < 11) (hw : (.fieldLink y.cls index (TX2 kf).1 (TX2 kf).2.1 (TX2 kf).2.2.1 : Cond) ∈ lw_g) (hfin : (TX2 kf).2.2.2 = false ∨ ((TX2 kf).2.2.2 = true ∧ y.name = "<init>" ∧ (TX2 kf).1 = y.cls)) (hd : parseFieldDescriptor (TX2 kf).2.2.1 = some .int) (M : PlW h0 h r rx ry Z) (he : (plfs r rx ry Z.1 Z.2.1).set kf (.int x) = plfs r rx ry (fup Z.1 kf x) Z.2.1)
    (k : ∀ h1, PlW h0 h1 r rx ry (fup Z.1 kf x, Z.2) → WA G y cc nL ret R mc ms K u n (pc + 3) L st h1) : WA G y cc nL ret R mc ms K u n pc L (.int x :: .ref r :: st) h :=
  A_put (kf := kf) (ty := .int) d M.1.o ok_2 hk hw hfin hd rfl rfl (by show kf < 11; exact hk) M.1.ge (k _ (by rw [he]; exact M.so _ _))
theorem A_plUnit {index : Nat} {x : Int64} (d : decode cc pc = .ok (.putfield index, 3)) (hw : (.fieldLink y.cls index (TX2 10).1 (TX2 10).2.1 (TX2 10).2.2.1 : Cond) ∈ lw_g) (M : PlW h0 h r rx ry Z)
    (k : ∀ h1, PlW h0 h1 r rx ry (Z.1, x, Z.2.2) → WA G y cc nL ret R mc ms K u n (pc + 3) L st h1) : WA G y cc nL ret R mc ms K u n pc L (.long x :: .ref r :: st) h :=
  A_put (kf := 10) (ty := .long) d M.1.o ok_2 (by decide) hw (Or.inl rfl) (by decide +kernel) rfl rfl (by show 10 < 11; decide) M.1.ge (k _ (by rw [show (plfs r rx ry Z.1 Z.2.1).set 10 (.long x) = plfs r rx ry Z.1 x from rfl]; exact M.so _ _))
theorem A_plRk {i : Nat} {x : Int64} (d : decode cc pc = .ok (.lastore, 1)) (M : PlW h0 h r rx ry Z) (hi : i < 24)
    (k : ∀ h1, PlW h0 h1 r rx ry (Z.1, Z.2.1, Z.2.2.1, Z.2.2.2.1, fup Z.2.2.2.2.1 i x, Z.2.2.2.2.2.1, Z.2.2.2.2.2.2) → WA G y cc nL ret R mc ms K u n (pc + 1) L st h1) : WA G y cc nL ret R mc ms K u n pc L (.long x :: .int (nI i) :: .ref (r + 3) :: st) h :=
  A_lastN d M.1.rk ⟨hi, by decide⟩ (by have := M.1.ge; omega) (k _ (M.srk _))
theorem A_plPo {i : Nat} {x : Int32} (d : decode cc pc = .ok (.iastore, 1)) (M : PlW h0 h r rx ry Z) (hi : i < 48)
    (k : ∀ h1, PlW h0 h1 r rx ry (Z.1, Z.2.1, Z.2.2.1, Z.2.2.2.1, Z.2.2.2.2.1, fup Z.2.2.2.2.2.1 i x, Z.2.2.2.2.2.2) → WA G y cc nL ret R mc ms K u n (pc + 1) L st h1) : WA G y cc nL ret R mc ms K u n pc L (.int x :: .int (nI i) :: .ref (r + 4) :: st) h :=
  A_iastN d M.1.po ⟨hi, by decide⟩ (by have := M.1.ge; omega) (k _ (M.spo _))
theorem A_plFe {i : Nat} {x : Int32} (d : decode cc pc = .ok (.iastore, 1)) (M : PlW h0 h r rx ry Z) (hi : i < 24)
    (k : ∀ h1, PlW h0 h1 r rx ry (Z.1, Z.2.1, Z.2.2.1, Z.2.2.2.1, Z.2.2.2.2.1, Z.2.2.2.2.2.1, fup Z.2.2.2.2.2.2 i x) → WA G y cc nL ret R mc ms K u n (pc + 1) L st h1) : WA G y cc nL ret R mc ms K u n pc L (.int x :: .int (nI i) :: .ref (r + 5) :: st) h :=
  A_iastN d M.1.fe ⟨hi, by decide⟩ (by have := M.1.ge; omega) (k _ (M.sfe _))
end PLR
/-- made ready for a land: its j last hours' numbers -/
def PRP (V : Nat → Nat) (j : Nat) (Z : PC) : Prop := Z.2.1 = lN (3 ^ j) ∧ ∀ k, V 0 - j ≤ k → k < V 0 → Z.2.2.2.2.1 k = lN (3 ^ (V 0 - 1 - k)) ∧ Z.2.2.2.2.2.1 k = nI (likedInN V 0 k * 4753) ∧ Z.2.2.2.2.2.1 (24 + k) = nI (likedInN V 1 k * 4753) ∧ Z.2.2.2.2.2.2 k = nI (V (6 + k) + cheapN V)
theorem minI {x : Nat} (hx : x < 2 ^ 31) : (if nI x < nI 1400 then nI x else nI 1400) = nI (min 1400 x) := by
  by_cases z : x < 1400
  · rw [if_pos ((nI_ltI hx (by decide)).mpr z), Nat.min_eq_right (by omega)]
  · rw [if_neg (fun w => z ((nI_ltI hx (by decide)).mp w)), Nat.min_eq_left (by omega)]
def carD (V : Nat → Nat) : Nat := if 0 < V 1 then V 0 / (V 1 + 1) + 1 else 1
theorem carD_0 {V : Nat → Nat} (h : ¬ 0 < V 1) : nI 1 = nI (carD V) := by unfold carD; rw [if_neg h]
theorem carD_1 {V : Nat → Nat} (h : 0 < V 1) : nI (V 0 / (V 1 + 1) + 1) = nI (carD V) := by unfold carD; rw [if_pos h]
def PRI (V : Nat → Nat) (F : Nat → Int32) : Prop := F 5 = nI (V 0) ∧ F 6 = nI (V 1) ∧ F 7 = nI (2 + 2 * V 1) ∧ F 8 = nI (carD V) ∧ F 9 = nI (min 1400 ((2 + 2 * V 1) * (V 0 + 1) * carD V))
theorem PRP.step {V : Nat → Nat} {j : Nat} {Z : PC} (h : PRP V j Z) (hj : j < V 0) (hH : V 0 ≤ 24) : PRP V (j + 1) (Z.1, lN (3 ^ (j + 1)), Z.2.2.1, Z.2.2.2.1, fup Z.2.2.2.2.1 (V 0 - 1 - j) (lN (3 ^ j)), fup (fup Z.2.2.2.2.2.1 (V 0 - 1 - j) (nI (likedInN V 0 (V 0 - 1 - j) * 4753))) (24 + (V 0 - 1 - j)) (nI (likedInN V 1 (V 0 - 1 - j) * 4753)), fup Z.2.2.2.2.2.2 (V 0 - 1 - j) (nI (V (6 + (V 0 - 1 - j)) + cheapN V))) := by
  refine ⟨rfl, fun k hk hk2 => ?_⟩
  dsimp only
  by_cases z : k = V 0 - 1 - j
  · subst z
    refine ⟨?_, ?_, fup_eq _ _ _, fup_eq _ _ _⟩
    · rw [fup_eq, show V 0 - 1 - (V 0 - 1 - j) = j by omega]
    · rw [fup_ne _ _ (by omega), fup_eq]
  · obtain ⟨a, b, c, d⟩ := h.2 k (by omega) hk2
    refine ⟨?_, ?_, ?_, ?_⟩
    · rw [fup_ne _ _ z]; exact a
    · rw [fup_ne _ _ (by omega), fup_ne _ _ z]; exact b
    · rw [fup_ne _ _ (by omega), fup_ne _ _ (by omega)]; exact c
    · rw [fup_ne _ _ z]; exact d
set_option maxHeartbeats 4000000 in
set_option maxRecDepth 100000 in
theorem c_Pl_prepare {G : GE} {h : AH} {r rx ry : Nat} {Z : PC} (hP : PlAt h r rx ry Z) {a : Nat} {D : LD} (hA : LAt h a D) {V : Nat → Nat} (hV : LVr D V) (har : a + 9 ≤ r ∨ r + 6 ≤ a)  : Ctr G y_Pl_prepare b_Pl_prepare 3 none r_Pl_prepare [.ref r, .ref a] h (fun v' h1 => v' = none ∧ ∃ Z1, PlW h h1 r rx ry Z1 ∧ PRI V Z1.1 ∧ PRP V (V 0) Z1) := by
  refine Ctr.of (by decide +kernel) (by simp) (Nat.le_of_ble_eq_true rfl) (L0 := [some (.ref r), some (.ref a), none]) rfl ?_
  have hV0 := hV
  obtain ⟨ok, ⟨f0, f1, -⟩, -⟩ := hV0
  have hH := ok.1.2
  have h4 := ok.1.1
  have hC := ok.2.1
  have key : ∀ j, j ≤ V 0 → ∀ h' Z1, PlW h h' r rx ry Z1 → PRI V Z1.1 → PRP V j Z1 → WA G y_Pl_prepare b_Pl_prepare 3 none r_Pl_prepare 0 0 (fun v' h1 => v' = none ∧ ∃ Z1, PlW h h1 r rx ry Z1 ∧ PRI V Z1.1 ∧ PRP V (V 0) Z1) 0 0 94 [some (.ref r), some (.ref a), some (.int (hI (V 0 - j)))] [] h' := by
    refine down ?_ (fun j hi ih => ?_)
    · intro h' Z1 M hI1 hP1
      refine A_iload_n2 d_Pl_prepare_94 ?_
      refine A_if_lt (tgt := 176) d_Pl_prepare_95 (by decide) (fun c_95 => ?_) (fun c_95 => ?_)
      · refine A_vret d_Pl_prepare_176 rfl ⟨Nat.zero_le _, Nat.zero_le _⟩ ?_
        exact ⟨rfl, Z1, M, hI1, hP1⟩
      · exact absurd (by rw [show V 0 - V 0 = 0 by omega]; decide) c_95
    · intro h' Z1 M hI1 hP1
      rw [show hI (V 0 - j) = nI (V 0 - 1 - j) by rw [hI_p (by omega)]; exact congrArg nI (by omega)]
      refine A_iload_n2 d_Pl_prepare_94 ?_
      refine A_if_lt (tgt := 176) d_Pl_prepare_95 (by decide) (fun c_95 => ?_) (fun c_95 => ?_)
      · exact absurd c_95 (nI_pos (by omega))
      · refine A_aload_n0 d_Pl_prepare_98 ?_
        refine A_getf (kf := 2) d_Pl_prepare_99 M.1.o ok_2 (by decide) q_335 rfl ?_
        refine A_iload_n2 d_Pl_prepare_102 ?_
        refine A_aload_n0 d_Pl_prepare_103 ?_
        refine A_getf (kf := 10) d_Pl_prepare_104 M.1.o ok_2 (by decide) q_343 rfl ?_
        refine A_topL hP1.1 ?_
        refine A_plRk d_Pl_prepare_107 M (by omega) (fun h' M' => ?_)
        replace M := M'
        clear M'
        refine A_aload_n0 d_Pl_prepare_108 ?_
        first | refine A_dupR d_Pl_prepare_109 ?_ | refine A_dupI d_Pl_prepare_109 ?_
        refine A_getf (kf := 10) d_Pl_prepare_110 M.1.o ok_2 (by decide) q_343 rfl ?_
        refine A_topL hP1.1 ?_
        refine A_ldc2 d_Pl_prepare_113 q_801 ?_
        refine A_lmul d_Pl_prepare_116 ?_
        refine A_topL (show lN (3 ^ j) * 3 = lN (3 ^ (j + 1)) from (lN_mul (3 ^ j) 3).trans (congrArg lN (Nat.pow_succ 3 j).symm)) ?_
        refine A_plUnit d_Pl_prepare_117 q_343 M (fun h' M' => ?_)
        replace M := M'
        clear M'
        refine A_aload_n0 d_Pl_prepare_120 ?_
        refine A_getf (kf := 3) d_Pl_prepare_121 M.1.o ok_2 (by decide) q_336 rfl ?_
        refine A_iload_n2 d_Pl_prepare_124 ?_
        refine A_aload_n1 d_Pl_prepare_125 ?_
        refine A_iconst (v := nI 0) d_Pl_prepare_126 (by decide) ?_
        refine A_iconst (v := nI 1) d_Pl_prepare_127 (by decide) ?_
        refine A_iload_n2 d_Pl_prepare_128 ?_
        refine A_ishl d_Pl_prepare_129 ?_
        refine A_callVP d_Pl_prepare_130 (c_Ld_worthOf (hA.kept (fun i _ _ => M.2 i (by omega))) hV 0 (by decide) _) (hA.kept (fun i _ _ => M.2 i (by omega))).o rfl q_802 q_803 q_804 mk_Ld_worthOf rfl (by decide) rfl (Nat.le_of_ble_eq_true rfl) ⟨Nat.le_of_ble_eq_true rfl, Nat.le_of_ble_eq_true rfl⟩ ⟨rfl, rfl⟩ ?_
        refine A_topI (congrArg nI (worthN_1 0 (k := V 0 - 1 - j) (by omega) (by omega))) ?_
        refine A_sipush (v := nI 4753) d_Pl_prepare_133 (by decide) ?_
        first | refine A_imulN d_Pl_prepare_136 (by with_reducible rfl) (by with_reducible rfl) ?_ | refine A_imul d_Pl_prepare_136 ?_
        refine A_plPo d_Pl_prepare_137 M (by omega) (fun h' M' => ?_)
        replace M := M'
        clear M'
        refine A_aload_n0 d_Pl_prepare_138 ?_
        refine A_getf (kf := 3) d_Pl_prepare_139 M.1.o ok_2 (by decide) q_336 rfl ?_
        refine A_bipush (v := nI 24) d_Pl_prepare_142 (by decide) ?_
        refine A_iload_n2 d_Pl_prepare_144 ?_
        first | refine A_iaddN d_Pl_prepare_145 (by with_reducible rfl) (by with_reducible rfl) ?_ | refine A_iadd d_Pl_prepare_145 ?_
        refine A_aload_n1 d_Pl_prepare_146 ?_
        refine A_iconst (v := nI 1) d_Pl_prepare_147 (by decide) ?_
        refine A_iconst (v := nI 1) d_Pl_prepare_148 (by decide) ?_
        refine A_iload_n2 d_Pl_prepare_149 ?_
        refine A_ishl d_Pl_prepare_150 ?_
        refine A_callVP d_Pl_prepare_151 (c_Ld_worthOf (hA.kept (fun i _ _ => M.2 i (by omega))) hV 1 (by decide) _) (hA.kept (fun i _ _ => M.2 i (by omega))).o rfl q_802 q_803 q_804 mk_Ld_worthOf rfl (by decide) rfl (Nat.le_of_ble_eq_true rfl) ⟨Nat.le_of_ble_eq_true rfl, Nat.le_of_ble_eq_true rfl⟩ ⟨rfl, rfl⟩ ?_
        refine A_topI (congrArg nI (worthN_1 1 (k := V 0 - 1 - j) (by omega) (by omega))) ?_
        refine A_sipush (v := nI 4753) d_Pl_prepare_154 (by decide) ?_
        first | refine A_imulN d_Pl_prepare_157 (by with_reducible rfl) (by with_reducible rfl) ?_ | refine A_imul d_Pl_prepare_157 ?_
        refine A_plPo d_Pl_prepare_158 M (by omega) (fun h' M' => ?_)
        replace M := M'
        clear M'
        refine A_aload_n0 d_Pl_prepare_159 ?_
        refine A_getf (kf := 4) d_Pl_prepare_160 M.1.o ok_2 (by decide) q_337 rfl ?_
        refine A_iload_n2 d_Pl_prepare_163 ?_
        refine A_aload_n1 d_Pl_prepare_164 ?_
        refine A_iload_n2 d_Pl_prepare_165 ?_
        refine A_callVP d_Pl_prepare_166 (c_Ld_feeAt (hA.kept (fun i _ _ => M.2 i (by omega))) hV (V 0 - 1 - j) (by omega)) (hA.kept (fun i _ _ => M.2 i (by omega))).o rfl q_806 q_723 q_724 mk_Ld_feeAt rfl (by decide) rfl (Nat.le_of_ble_eq_true rfl) ⟨Nat.le_of_ble_eq_true rfl, Nat.le_of_ble_eq_true rfl⟩ ⟨rfl, rfl⟩ ?_
        refine A_plFe d_Pl_prepare_169 M (by omega) (fun h' M' => ?_)
        replace M := M'
        clear M'
        refine A_iinc2 d_Pl_prepare_170 (show _ = hI (V 0 - (j + 1)) by rw [show V 0 - (j + 1) = V 0 - 1 - j by omega]; exact hI_dec _) trivial ?_
        refine A_goto (tgt := 94) d_Pl_prepare_173 (by decide) ?_
        exact ih _ _ M hI1 (hP1.step hi hH)
  have hX1 : (2 + 2 * V 1) * (V 0 + 1) ≤ 8 * 25 := Nat.mul_le_mul (by omega) (by omega)
  have hdv : V 0 / (V 1 + 1) ≤ 24 := Nat.le_trans (Nat.div_le_self _ _) hH
  have hcd : carD V ≤ 25 := by
    unfold carD
    split <;> omega
  have hX2 : (2 + 2 * V 1) * (V 0 + 1) * carD V ≤ 8 * 25 * 25 := Nat.mul_le_mul hX1 hcd
  have M := PlW.start hP
  refine A_aload_n0 d_Pl_prepare_0 ?_
  refine A_aload_n1 d_Pl_prepare_1 ?_
  refine A_getf (kf := 0) d_Pl_prepare_2 (hA.kept (fun i _ _ => M.2 i (by omega))).o ok_1 (by decide) q_47 rfl ?_
  refine A_topI f0 ?_
  refine A_plInt (kf := 5) d_Pl_prepare_5 (by decide) q_338 (Or.inl rfl) (by decide +kernel) M rfl (fun h' M' => ?_)
  replace M := M'
  clear M'
  refine A_aload_n0 d_Pl_prepare_8 ?_
  refine A_aload_n1 d_Pl_prepare_9 ?_
  refine A_getf (kf := 1) d_Pl_prepare_10 (hA.kept (fun i _ _ => M.2 i (by omega))).o ok_1 (by decide) q_51 rfl ?_
  refine A_topI f1 ?_
  refine A_plInt (kf := 6) d_Pl_prepare_13 (by decide) q_339 (Or.inl rfl) (by decide +kernel) M rfl (fun h' M' => ?_)
  replace M := M'
  clear M'
  refine A_aload_n0 d_Pl_prepare_16 ?_
  refine A_iconst (v := nI 2) d_Pl_prepare_17 (by decide) ?_
  refine A_iconst (v := nI 2) d_Pl_prepare_18 (by decide) ?_
  refine A_aload_n0 d_Pl_prepare_19 ?_
  refine A_getf (kf := 6) d_Pl_prepare_20 M.1.o ok_2 (by decide) q_339 rfl ?_
  refine A_topI (show _ = nI (V 1) from rfl) ?_
  first | refine A_imulN d_Pl_prepare_23 (by with_reducible rfl) (by with_reducible rfl) ?_ | refine A_imul d_Pl_prepare_23 ?_
  first | refine A_iaddN d_Pl_prepare_24 (by with_reducible rfl) (by with_reducible rfl) ?_ | refine A_iadd d_Pl_prepare_24 ?_
  refine A_plInt (kf := 7) d_Pl_prepare_25 (by decide) q_340 (Or.inl rfl) (by decide +kernel) M rfl (fun h' M' => ?_)
  replace M := M'
  clear M'
  refine A_aload_n0 d_Pl_prepare_28 ?_
  refine A_aload_n0 d_Pl_prepare_29 ?_
  refine A_getf (kf := 6) d_Pl_prepare_30 M.1.o ok_2 (by decide) q_339 rfl ?_
  refine A_topI (show _ = nI (V 1) from rfl) ?_
  first | refine A_if_leN (tgt := 52) d_Pl_prepare_33 (by decide) (by with_reducible rfl) (by omega) (fun c_33 => ?_) (fun c_33 => ?_) | refine A_if_le (tgt := 52) d_Pl_prepare_33 (by decide) (fun c_33 => ?_) (fun c_33 => ?_)
  · refine A_iconst (v := nI 1) d_Pl_prepare_52 (by decide) ?_
    first
      | (have hc0 : ¬ 0 < V 1 := by omega
         refine A_topI (carD_0 hc0) ?_)
      | (have hc0 : 0 < V 1 := by omega
         refine A_topI (carD_1 hc0) ?_)
    refine A_plInt (kf := 8) d_Pl_prepare_53 (by decide) q_341 (Or.inl rfl) (by decide +kernel) M rfl (fun h' M' => ?_)
    replace M := M'
    clear M'
    refine A_aload_n0 d_Pl_prepare_56 ?_
    refine A_sipush (v := nI 1400) d_Pl_prepare_57 (by decide) ?_
    refine A_aload_n0 d_Pl_prepare_60 ?_
    refine A_getf (kf := 7) d_Pl_prepare_61 M.1.o ok_2 (by decide) q_340 rfl ?_
    refine A_topI (show _ = nI (2 + 2 * V 1) from rfl) ?_
    refine A_aload_n0 d_Pl_prepare_64 ?_
    refine A_getf (kf := 5) d_Pl_prepare_65 M.1.o ok_2 (by decide) q_338 rfl ?_
    refine A_topI (show _ = nI (V 0) from rfl) ?_
    refine A_iconst (v := nI 1) d_Pl_prepare_68 (by decide) ?_
    first | refine A_iaddN d_Pl_prepare_69 (by with_reducible rfl) (by with_reducible rfl) ?_ | refine A_iadd d_Pl_prepare_69 ?_
    first | refine A_imulN d_Pl_prepare_70 (by with_reducible rfl) (by with_reducible rfl) ?_ | refine A_imul d_Pl_prepare_70 ?_
    refine A_aload_n0 d_Pl_prepare_71 ?_
    refine A_getf (kf := 8) d_Pl_prepare_72 M.1.o ok_2 (by decide) q_341 rfl ?_
    refine A_topI (show _ = nI (carD V) from rfl) ?_
    first | refine A_imulN d_Pl_prepare_75 (by with_reducible rfl) (by with_reducible rfl) ?_ | refine A_imul d_Pl_prepare_75 ?_
    refine A_callSP d_Pl_prepare_76 (c_JM_min _ _ _) q_800 q_438 mk_JM_min rfl (by decide) rfl (Nat.le_of_ble_eq_true rfl) ⟨Nat.le_of_ble_eq_true rfl, Nat.le_of_ble_eq_true rfl⟩ ⟨rfl, rfl⟩ ?_
    refine A_topI (minI (x := (2 + 2 * V 1) * (V 0 + 1) * carD V) (by omega)) ?_
    refine A_plInt (kf := 9) d_Pl_prepare_79 (by decide) q_342 (Or.inl rfl) (by decide +kernel) M rfl (fun h' M' => ?_)
    replace M := M'
    clear M'
    refine A_aload_n0 d_Pl_prepare_82 ?_
    refine A_lconst (v := 1) d_Pl_prepare_83 (by decide) ?_
    refine A_plUnit d_Pl_prepare_84 q_343 M (fun h' M' => ?_)
    replace M := M'
    clear M'
    refine A_aload_n0 d_Pl_prepare_87 ?_
    refine A_getf (kf := 5) d_Pl_prepare_88 M.1.o ok_2 (by decide) q_338 rfl ?_
    refine A_topI (show _ = nI (V 0) from rfl) ?_
    refine A_iconst (v := nI 1) d_Pl_prepare_91 (by decide) ?_
    first | refine A_isubN d_Pl_prepare_92 (by with_reducible rfl) (by with_reducible rfl) (by omega) ?_ | refine A_isub d_Pl_prepare_92 ?_
    refine A_istore2 d_Pl_prepare_93 trivial ?_
    have k0 := key 0 (Nat.zero_le _) _ _ M ⟨rfl, rfl, rfl, rfl, rfl⟩ ⟨rfl, fun k h1 h2 => absurd h1 (by omega)⟩
    rw [show hI (V 0 - 0) = nI (V 0 - 1) by rw [hI_p (by omega)]; rfl] at k0
    exact k0
  · refine A_aload_n0 d_Pl_prepare_36 ?_
    refine A_getf (kf := 5) d_Pl_prepare_37 M.1.o ok_2 (by decide) q_338 rfl ?_
    refine A_topI (show _ = nI (V 0) from rfl) ?_
    refine A_aload_n0 d_Pl_prepare_40 ?_
    refine A_getf (kf := 6) d_Pl_prepare_41 M.1.o ok_2 (by decide) q_339 rfl ?_
    refine A_topI (show _ = nI (V 1) from rfl) ?_
    refine A_iconst (v := nI 1) d_Pl_prepare_44 (by decide) ?_
    first | refine A_iaddN d_Pl_prepare_45 (by with_reducible rfl) (by with_reducible rfl) ?_ | refine A_iadd d_Pl_prepare_45 ?_
    refine A_idivN d_Pl_prepare_46 (by with_reducible rfl) (by with_reducible rfl) (by omega) ?_
    refine A_iconst (v := nI 1) d_Pl_prepare_47 (by decide) ?_
    first | refine A_iaddN d_Pl_prepare_48 (by with_reducible rfl) (by with_reducible rfl) ?_ | refine A_iadd d_Pl_prepare_48 ?_
    refine A_goto (tgt := 53) d_Pl_prepare_49 (by decide) ?_
    first
      | (have hc0 : ¬ 0 < V 1 := by omega
         refine A_topI (carD_0 hc0) ?_)
      | (have hc0 : 0 < V 1 := by omega
         refine A_topI (carD_1 hc0) ?_)
    refine A_plInt (kf := 8) d_Pl_prepare_53 (by decide) q_341 (Or.inl rfl) (by decide +kernel) M rfl (fun h' M' => ?_)
    replace M := M'
    clear M'
    refine A_aload_n0 d_Pl_prepare_56 ?_
    refine A_sipush (v := nI 1400) d_Pl_prepare_57 (by decide) ?_
    refine A_aload_n0 d_Pl_prepare_60 ?_
    refine A_getf (kf := 7) d_Pl_prepare_61 M.1.o ok_2 (by decide) q_340 rfl ?_
    refine A_topI (show _ = nI (2 + 2 * V 1) from rfl) ?_
    refine A_aload_n0 d_Pl_prepare_64 ?_
    refine A_getf (kf := 5) d_Pl_prepare_65 M.1.o ok_2 (by decide) q_338 rfl ?_
    refine A_topI (show _ = nI (V 0) from rfl) ?_
    refine A_iconst (v := nI 1) d_Pl_prepare_68 (by decide) ?_
    first | refine A_iaddN d_Pl_prepare_69 (by with_reducible rfl) (by with_reducible rfl) ?_ | refine A_iadd d_Pl_prepare_69 ?_
    first | refine A_imulN d_Pl_prepare_70 (by with_reducible rfl) (by with_reducible rfl) ?_ | refine A_imul d_Pl_prepare_70 ?_
    refine A_aload_n0 d_Pl_prepare_71 ?_
    refine A_getf (kf := 8) d_Pl_prepare_72 M.1.o ok_2 (by decide) q_341 rfl ?_
    refine A_topI (show _ = nI (carD V) from rfl) ?_
    first | refine A_imulN d_Pl_prepare_75 (by with_reducible rfl) (by with_reducible rfl) ?_ | refine A_imul d_Pl_prepare_75 ?_
    refine A_callSP d_Pl_prepare_76 (c_JM_min _ _ _) q_800 q_438 mk_JM_min rfl (by decide) rfl (Nat.le_of_ble_eq_true rfl) ⟨Nat.le_of_ble_eq_true rfl, Nat.le_of_ble_eq_true rfl⟩ ⟨rfl, rfl⟩ ?_
    refine A_topI (minI (x := (2 + 2 * V 1) * (V 0 + 1) * carD V) (by omega)) ?_
    refine A_plInt (kf := 9) d_Pl_prepare_79 (by decide) q_342 (Or.inl rfl) (by decide +kernel) M rfl (fun h' M' => ?_)
    replace M := M'
    clear M'
    refine A_aload_n0 d_Pl_prepare_82 ?_
    refine A_lconst (v := 1) d_Pl_prepare_83 (by decide) ?_
    refine A_plUnit d_Pl_prepare_84 q_343 M (fun h' M' => ?_)
    replace M := M'
    clear M'
    refine A_aload_n0 d_Pl_prepare_87 ?_
    refine A_getf (kf := 5) d_Pl_prepare_88 M.1.o ok_2 (by decide) q_338 rfl ?_
    refine A_topI (show _ = nI (V 0) from rfl) ?_
    refine A_iconst (v := nI 1) d_Pl_prepare_91 (by decide) ?_
    first | refine A_isubN d_Pl_prepare_92 (by with_reducible rfl) (by with_reducible rfl) (by omega) ?_ | refine A_isub d_Pl_prepare_92 ?_
    refine A_istore2 d_Pl_prepare_93 trivial ?_
    have k0 := key 0 (Nat.zero_le _) _ _ M ⟨rfl, rfl, rfl, rfl, rfl⟩ ⟨rfl, fun k h1 h2 => absurd h1 (by omega)⟩
    rw [show hI (V 0 - 0) = nI (V 0 - 1) by rw [hI_p (by omega)]; rfl] at k0
    exact k0
