/-- a game chosen -/
def HG (S : MS) (b : Nat) (g : Nat → Nat) : Prop := MG S b g ∧ S.1 49 = nI b
def wI (g : Nat → Nat) (s : Nat) : Nat := if s = 0 then 0 else g s
theorem wI_le {S : MS} {b : Nat} {g : Nat → Nat} (h : HG S b g) {s : Nat} (hs : s < 8) : wI g s ≤ 60 := by
  have := (h.1.2 s hs).2
  unfold wI
  split <;> omega
def uB (b : Bool) (x : Nat) : Nat := if b = true then x else 0
def lackB (g : Nat → Nat) (a b cc s : Nat) : Bool := !decide (wI g s ≤ uB (hasB (nI s) (nI 0)) a + uB (hasB (nI s) (nI 1)) b + uB (hasB (nI s) (nI 2)) cc)
def coreB (g : Nat → Nat) (a b cc : Nat) : Bool := firstU (lackB g a b cc) (fun _ => false) true 8 1
def aheadN (s : Nat) : Nat := uB (hasB (nI s) (nI 0)) 1 + uB (hasB (nI s) (nI 1)) 1 + uB (hasB (nI s) (nI 2)) 1
def addF (g : Nat → Nat) (cc s : Nat) (z : Int32) : Int32 := if hasB (nI s) (nI cc) = true then z else z + (if aheadN s = 1 then nI 1 else nI 2) * (nI (wI g (s ||| 2 ^ cc)) - nI (wI g s))
def addI (g : Nat → Nat) (cc : Nat) : Int32 := foldN (addF g cc) (nI 0) 8
def crIn (g : Nat → Nat) (a : Nat) (st : Nat × Nat) : Nat → Nat × Nat := foldN (fun b st => if coreB g a b (wI g 7 - a - b) then (st.1 + 1, if st.1 = 0 then 100 * a + b else st.2) else st) st
def crOut (g : Nat → Nat) : Nat → Nat × Nat := foldN (fun a st => crIn g a st (wI g 7 - a + 1)) (0, 0)
def coreV (g : Nat → Nat) (k : Nat) : Int32 := if k = 0 then nI (crOut g (wI g 7 + 1)).1 else if (crOut g (wI g 7 + 1)).1 = 0 then -1 else if k = 1 then nI ((crOut g (wI g 7 + 1)).2 / 100) else if k = 2 then nI ((crOut g (wI g 7 + 1)).2 % 100) else nI (wI g 7) - nI ((crOut g (wI g 7 + 1)).2 / 100) - nI ((crOut g (wI g 7 + 1)).2 % 100)
def gameV (g : Nat → Nat) (s : Nat) (x : Int32) : Int32 := if 0 < s then rg x 0 0 (fun _ => nI (wI g s)) (-1000) else rg x 0 6 (fun k => if k ≤ 3 then coreV g k else addI g (k - 4)) (-1000)
theorem or8 {a b : Nat} (ha : a < 8) (hb : b < 8) : nI a ||| nI b = nI (a ||| b) := by
  have : ∀ i j : Fin 8, nI i.val ||| nI j.val = nI (i.val ||| j.val) := by decide +kernel
  exact this ⟨a, ha⟩ ⟨b, hb⟩
theorem or8_lt {a cc : Nat} (ha : a < 8) (hc : cc < 3) : 2 ^ cc < 8 ∧ a ||| 2 ^ cc < 8 := by
  have : ∀ (i : Fin 8) (j : Fin 3), 2 ^ j.val < 8 ∧ i.val ||| 2 ^ j.val < 8 := by decide +kernel
  exact this ⟨a, ha⟩ ⟨cc, hc⟩
theorem crIn_le (g : Nat → Nat) (a : Nat) (st : Nat × Nat) : ∀ b, (crIn g a st b).1 ≤ st.1 + b ∧ (st.2 ≤ 100 * a + b → (crIn g a st b).2 ≤ 100 * a + b)
  | 0 => ⟨Nat.le_refl _, fun h => h⟩
  | b + 1 => by
    have h := crIn_le g a st b
    have h3 : st.2 ≤ 100 * a + b ∨ 100 * a + b < st.2 := by omega
    have e : crIn g a st (b + 1) = if coreB g a b (wI g 7 - a - b) then ((crIn g a st b).1 + 1, if (crIn g a st b).1 = 0 then 100 * a + b else (crIn g a st b).2) else crIn g a st b := rfl
    have h4 : (crIn g a st b).2 ≤ max st.2 (100 * a + b) := by
      clear h e h3
      induction b with
      | zero => exact Nat.le_max_left _ _
      | succ b ih =>
        have e : crIn g a st (b + 1) = if coreB g a b (wI g 7 - a - b) then ((crIn g a st b).1 + 1, if (crIn g a st b).1 = 0 then 100 * a + b else (crIn g a st b).2) else crIn g a st b := rfl
        rw [e]
        split
        · dsimp only
          split <;> omega
        · omega
    rw [e]
    split
    · dsimp only
      refine ⟨by omega, fun q => ?_⟩
      split <;> omega
    · exact ⟨by omega, fun q => by omega⟩
theorem crOut_le (g : Nat → Nat) (h : wI g 7 ≤ 60) : ∀ a, a ≤ 61 → (crOut g a).1 ≤ a * 61 ∧ (crOut g a).2 ≤ 100 * a + 61
  | 0, _ => by simp [crOut, foldN]
  | a + 1, ha => by
    obtain ⟨h1, h2⟩ := crOut_le g h a (by omega)
    obtain ⟨h3, -⟩ := crIn_le g a (crOut g a) (wI g 7 - a + 1)
    have e : crOut g (a + 1) = crIn g a (crOut g a) (wI g 7 - a + 1) := rfl
    have h4 : ∀ b, b ≤ 61 → (crIn g a (crOut g a) b).2 ≤ 100 * a + 61 := by
      intro b hb
      induction b with
      | zero => exact h2
      | succ b ih =>
        have e : crIn g a (crOut g a) (b + 1) = if coreB g a b (wI g 7 - a - b) then ((crIn g a (crOut g a) b).1 + 1, if (crIn g a (crOut g a) b).1 = 0 then 100 * a + b else (crIn g a (crOut g a) b).2) else crIn g a (crOut g a) b := rfl
        have := ih (by omega)
        rw [e]
        split
        · dsimp only
          split <;> omega
        · omega
    have := h4 (wI g 7 - a + 1) (by omega)
    rw [e]
    constructor
    · rw [Nat.succ_mul]; omega
    · omega
set_option maxHeartbeats 4000000 in
set_option maxRecDepth 100000 in
theorem c_M_worthIn {G : GE} {h0 h : AH} {m : Nat} {S : MS} (hM : MW h0 h m S) {b : Nat} {g : Nat → Nat} (hG : HG S b g) (s : Nat) (hs : s < 8) : Ctr G y_M_worthIn b_M_worthIn 2 (some .int) r_M_worthIn [.ref m, .int (nI s)] h (Pu (.int (nI (wI g s))) h) := by
  have hb := hG.1.1
  refine Ctr.of (by decide +kernel) (by simp) (Nat.le_of_ble_eq_true rfl) (L0 := [some (.ref m), some (.int (nI s))]) rfl ?_
  refine A_iload_n1 d_M_worthIn_0 ?_
  first | refine A_if_neN (tgt := 8) d_M_worthIn_1 (by decide) (by with_reducible rfl) (by omega) (fun c_1 => ?_) (fun c_1 => ?_) | refine A_if_ne (tgt := 8) d_M_worthIn_1 (by decide) (fun c_1 => ?_) (fun c_1 => ?_)
  · refine A_aload_n0 d_M_worthIn_8 ?_
    refine A_getf (kf := 10) d_M_worthIn_9 hM.o ok_8 (by decide) q_1059 rfl ?_
    refine A_bipush (v := nI 8) d_M_worthIn_12 (by decide) ?_
    refine A_aload_n0 d_M_worthIn_14 ?_
    refine A_getf (kf := 49) d_M_worthIn_15 hM.o ok_8 (by decide) q_1098 rfl ?_
    refine A_topI hG.2 ?_
    first | refine A_imulN d_M_worthIn_18 (by with_reducible rfl) (by with_reducible rfl) ?_ | refine A_imul d_M_worthIn_18 ?_
    refine A_iload_n1 d_M_worthIn_19 ?_
    first | refine A_iaddN d_M_worthIn_20 (by with_reducible rfl) (by with_reducible rfl) ?_ | refine A_iadd d_M_worthIn_20 ?_
    refine A_ialdN d_M_worthIn_21 hM.a10 ⟨by omega, by decide⟩ ?_
    first | refine A_topI (hG.1.2 s hs).1 ?_ | skip
    refine A_iret d_M_worthIn_22 rfl ⟨Nat.zero_le _, Nat.zero_le _⟩ ?_
    exact pu (by simp only [wI, c_1, reduceIte])
  · refine A_iconst (v := nI 0) d_M_worthIn_4 (by decide) ?_
    refine A_goto (tgt := 22) d_M_worthIn_5 (by decide) ?_
    first | refine A_topI (hG.1.2 s hs).1 ?_ | skip
    refine A_iret d_M_worthIn_22 rfl ⟨Nat.zero_le _, Nat.zero_le _⟩ ?_
    exact pu (by simp only [wI, c_1, reduceIte])
section STK
variable {G : GE} {y : MethodName} {cc : ByteArray} {nL : Nat} {ret : Option FieldType} {R : Room} {mc ms : Nat} {K : Option Value → AH → Prop} {u n pc : Nat} {L : List (Option Value)} {st : List Value} {h : AH}
theorem A_stk {st1 : List Value} (e : st = st1) (k : WA G y cc nL ret R mc ms K u n pc L st1 h) : WA G y cc nL ret R mc ms K u n pc L st h := e ▸ k
end STK
set_option maxHeartbeats 4000000 in
set_option maxRecDepth 100000 in
theorem c_M_isCore {G : GE} {h0 h : AH} {m : Nat} {S : MS} (hM : MW h0 h m S) {b : Nat} {g : Nat → Nat} (hG : HG S b g) (a e f : Nat) (ha : a ≤ 60) (he : e ≤ 60) (hf : f ≤ 60) : Ctr G y_M_isCore b_M_isCore 6 (some .boolean) r_M_isCore [.ref m, .int (nI a), .int (nI e), .int (nI f)] h (Pu (.int (bI (coreB g a e f))) h) := by
  have key : ∀ i, i ≤ 8 → 1 ≤ i → WA G y_M_isCore b_M_isCore 6 (some .boolean) r_M_isCore 0 0 (Pu (.int (bI (firstU (lackB g a e f) (fun _ => false) true 8 i))) h) 0 0 3 [some (.ref m), some (.int (nI a)), some (.int (nI e)), some (.int (nI f)), some (.int (nI i)), none] [] h := by
    refine down ?_ (fun i hi ih => ?_)
    · intro _
      refine A_iload4 d_M_isCore_3 ?_
      refine A_bipush (v := nI 8) d_M_isCore_5 (by decide) ?_
      first | refine A_icmp_geN (tgt := 75) d_M_isCore_7 (by decide) (by with_reducible rfl) (by with_reducible rfl) (by omega) (by omega) (fun c_7 => ?_) (fun c_7 => ?_) | refine A_icmp_ge (tgt := 75) d_M_isCore_7 (by decide) (fun c_7 => ?_) (fun c_7 => ?_)
      · refine A_iconst (v := nI 1) d_M_isCore_75 (by decide) ?_
        refine A_zret d_M_isCore_76 rfl (by first | rfl | exact bI_nar _ | decide) ⟨Nat.zero_le _, Nat.zero_le _⟩ ?_
        exact pu (by rw [firstU_end]; rfl)
      · exact absurd c_7 (by omega)
    · intro hi1
      have hwi := wI_le hG hi
      have hu : ∀ (q : Bool) (x : Nat), x ≤ 60 → uB q x ≤ 60 := fun q x hx => by unfold uB; split <;> omega
      have hu0 := hu (hasB (nI i) (nI 0)) a ha
      have hu1 := hu (hasB (nI i) (nI 1)) e he
      have hu2 := hu (hasB (nI i) (nI 2)) f hf
      refine A_iload4 d_M_isCore_3 ?_
      refine A_bipush (v := nI 8) d_M_isCore_5 (by decide) ?_
      first | refine A_icmp_geN (tgt := 75) d_M_isCore_7 (by decide) (by with_reducible rfl) (by with_reducible rfl) (by omega) (by omega) (fun c_7 => ?_) (fun c_7 => ?_) | refine A_icmp_ge (tgt := 75) d_M_isCore_7 (by decide) (fun c_7 => ?_) (fun c_7 => ?_)
      · exact absurd c_7 (by omega)
      · refine A_iload4 d_M_isCore_10 ?_
        refine A_iconst (v := nI 0) d_M_isCore_12 (by decide) ?_
        refine A_callSP d_M_isCore_13 (c_M_has _ _ _) q_1553 q_1554 mk_M_has rfl (by decide) rfl (Nat.le_of_ble_eq_true rfl) ⟨Nat.le_of_ble_eq_true rfl, Nat.le_of_ble_eq_true rfl⟩ ⟨rfl, rfl⟩ ?_
        refine A_if_eqB (tgt := 23) d_M_isCore_16 (by decide) (fun c_16 => ?_) (fun c_16 => ?_)
        · refine A_iconst (v := nI 0) d_M_isCore_23 (by decide) ?_
          refine A_iload4 d_M_isCore_24 ?_
          refine A_iconst (v := nI 1) d_M_isCore_26 (by decide) ?_
          refine A_callSP d_M_isCore_27 (c_M_has _ _ _) q_1553 q_1554 mk_M_has rfl (by decide) rfl (Nat.le_of_ble_eq_true rfl) ⟨Nat.le_of_ble_eq_true rfl, Nat.le_of_ble_eq_true rfl⟩ ⟨rfl, rfl⟩ ?_
          refine A_if_eqB (tgt := 37) d_M_isCore_30 (by decide) (fun c_30 => ?_) (fun c_30 => ?_)
          · refine A_iconst (v := nI 0) d_M_isCore_37 (by decide) ?_
            first | refine A_iaddN d_M_isCore_38 (by with_reducible rfl) (by with_reducible rfl) ?_ | refine A_iadd d_M_isCore_38 ?_
            refine A_iload4 d_M_isCore_39 ?_
            refine A_iconst (v := nI 2) d_M_isCore_41 (by decide) ?_
            refine A_callSP d_M_isCore_42 (c_M_has _ _ _) q_1553 q_1554 mk_M_has rfl (by decide) rfl (Nat.le_of_ble_eq_true rfl) ⟨Nat.le_of_ble_eq_true rfl, Nat.le_of_ble_eq_true rfl⟩ ⟨rfl, rfl⟩ ?_
            refine A_if_eqB (tgt := 52) d_M_isCore_45 (by decide) (fun c_45 => ?_) (fun c_45 => ?_)
            · refine A_iconst (v := nI 0) d_M_isCore_52 (by decide) ?_
              first | refine A_iaddN d_M_isCore_53 (by with_reducible rfl) (by with_reducible rfl) ?_ | refine A_iadd d_M_isCore_53 ?_
              refine A_istore5 d_M_isCore_54 trivial ?_
              refine A_iload5 d_M_isCore_56 ?_
              refine A_aload_n0 d_M_isCore_58 ?_
              refine A_iload4 d_M_isCore_59 ?_
              refine A_callVP d_M_isCore_61 (c_M_worthIn hM hG i hi) hM.o rfl q_1677 q_1679 qs_97 mk_M_worthIn rfl (by decide) rfl (Nat.le_of_ble_eq_true rfl) ⟨Nat.le_of_ble_eq_true rfl, Nat.le_of_ble_eq_true rfl⟩ ⟨rfl, rfl⟩ ?_
              refine A_stk (show _ = [Value.int (nI (wI g i)), .int (nI (uB (hasB (nI i) (nI 0)) a + uB (hasB (nI i) (nI 1)) e + uB (hasB (nI i) (nI 2)) f))] by simp only [uB, c_7, c_16, c_30, c_45, reduceIte, Bool.false_eq_true]) ?_
              first | refine A_icmp_geN (tgt := 69) d_M_isCore_64 (by decide) (by with_reducible rfl) (by with_reducible rfl) (by omega) (by omega) (fun c_64 => ?_) (fun c_64 => ?_) | refine A_icmp_ge (tgt := 69) d_M_isCore_64 (by decide) (fun c_64 => ?_) (fun c_64 => ?_)
              · first | refine A_iinc4 d_M_isCore_69 (nI_1 _) trivial ?_ | refine A_iinc4 d_M_isCore_69 rfl trivial ?_
                refine A_goto (tgt := 3) d_M_isCore_72 (by decide) ?_
                refine A_drop5 ?_
                rw [firstU_step _ _ _ hi, if_neg (by unfold lackB; rw [decide_eq_true (by omega)]; decide)]
                exact ih (by omega)
              · refine A_iconst (v := nI 0) d_M_isCore_67 (by decide) ?_
                refine A_zret d_M_isCore_68 rfl (by first | rfl | exact bI_nar _ | decide) ⟨Nat.zero_le _, Nat.zero_le _⟩ ?_
                exact pu (by rw [firstU_step _ _ _ hi, if_pos (by unfold lackB; rw [decide_eq_false (by omega)]; rfl)]; rfl)
            · refine A_iload_n3 d_M_isCore_48 ?_
              refine A_goto (tgt := 53) d_M_isCore_49 (by decide) ?_
              first | refine A_iaddN d_M_isCore_53 (by with_reducible rfl) (by with_reducible rfl) ?_ | refine A_iadd d_M_isCore_53 ?_
              refine A_istore5 d_M_isCore_54 trivial ?_
              refine A_iload5 d_M_isCore_56 ?_
              refine A_aload_n0 d_M_isCore_58 ?_
              refine A_iload4 d_M_isCore_59 ?_
              refine A_callVP d_M_isCore_61 (c_M_worthIn hM hG i hi) hM.o rfl q_1677 q_1679 qs_97 mk_M_worthIn rfl (by decide) rfl (Nat.le_of_ble_eq_true rfl) ⟨Nat.le_of_ble_eq_true rfl, Nat.le_of_ble_eq_true rfl⟩ ⟨rfl, rfl⟩ ?_
              refine A_stk (show _ = [Value.int (nI (wI g i)), .int (nI (uB (hasB (nI i) (nI 0)) a + uB (hasB (nI i) (nI 1)) e + uB (hasB (nI i) (nI 2)) f))] by simp only [uB, c_7, c_16, c_30, c_45, reduceIte, Bool.false_eq_true]) ?_
              first | refine A_icmp_geN (tgt := 69) d_M_isCore_64 (by decide) (by with_reducible rfl) (by with_reducible rfl) (by omega) (by omega) (fun c_64 => ?_) (fun c_64 => ?_) | refine A_icmp_ge (tgt := 69) d_M_isCore_64 (by decide) (fun c_64 => ?_) (fun c_64 => ?_)
              · first | refine A_iinc4 d_M_isCore_69 (nI_1 _) trivial ?_ | refine A_iinc4 d_M_isCore_69 rfl trivial ?_
                refine A_goto (tgt := 3) d_M_isCore_72 (by decide) ?_
                refine A_drop5 ?_
                rw [firstU_step _ _ _ hi, if_neg (by unfold lackB; rw [decide_eq_true (by omega)]; decide)]
                exact ih (by omega)
              · refine A_iconst (v := nI 0) d_M_isCore_67 (by decide) ?_
                refine A_zret d_M_isCore_68 rfl (by first | rfl | exact bI_nar _ | decide) ⟨Nat.zero_le _, Nat.zero_le _⟩ ?_
                exact pu (by rw [firstU_step _ _ _ hi, if_pos (by unfold lackB; rw [decide_eq_false (by omega)]; rfl)]; rfl)
          · refine A_iload_n2 d_M_isCore_33 ?_
            refine A_goto (tgt := 38) d_M_isCore_34 (by decide) ?_
            first | refine A_iaddN d_M_isCore_38 (by with_reducible rfl) (by with_reducible rfl) ?_ | refine A_iadd d_M_isCore_38 ?_
            refine A_iload4 d_M_isCore_39 ?_
            refine A_iconst (v := nI 2) d_M_isCore_41 (by decide) ?_
            refine A_callSP d_M_isCore_42 (c_M_has _ _ _) q_1553 q_1554 mk_M_has rfl (by decide) rfl (Nat.le_of_ble_eq_true rfl) ⟨Nat.le_of_ble_eq_true rfl, Nat.le_of_ble_eq_true rfl⟩ ⟨rfl, rfl⟩ ?_
            refine A_if_eqB (tgt := 52) d_M_isCore_45 (by decide) (fun c_45 => ?_) (fun c_45 => ?_)
            · refine A_iconst (v := nI 0) d_M_isCore_52 (by decide) ?_
              first | refine A_iaddN d_M_isCore_53 (by with_reducible rfl) (by with_reducible rfl) ?_ | refine A_iadd d_M_isCore_53 ?_
              refine A_istore5 d_M_isCore_54 trivial ?_
              refine A_iload5 d_M_isCore_56 ?_
              refine A_aload_n0 d_M_isCore_58 ?_
              refine A_iload4 d_M_isCore_59 ?_
              refine A_callVP d_M_isCore_61 (c_M_worthIn hM hG i hi) hM.o rfl q_1677 q_1679 qs_97 mk_M_worthIn rfl (by decide) rfl (Nat.le_of_ble_eq_true rfl) ⟨Nat.le_of_ble_eq_true rfl, Nat.le_of_ble_eq_true rfl⟩ ⟨rfl, rfl⟩ ?_
              refine A_stk (show _ = [Value.int (nI (wI g i)), .int (nI (uB (hasB (nI i) (nI 0)) a + uB (hasB (nI i) (nI 1)) e + uB (hasB (nI i) (nI 2)) f))] by simp only [uB, c_7, c_16, c_30, c_45, reduceIte, Bool.false_eq_true]) ?_
              first | refine A_icmp_geN (tgt := 69) d_M_isCore_64 (by decide) (by with_reducible rfl) (by with_reducible rfl) (by omega) (by omega) (fun c_64 => ?_) (fun c_64 => ?_) | refine A_icmp_ge (tgt := 69) d_M_isCore_64 (by decide) (fun c_64 => ?_) (fun c_64 => ?_)
              · first | refine A_iinc4 d_M_isCore_69 (nI_1 _) trivial ?_ | refine A_iinc4 d_M_isCore_69 rfl trivial ?_
                refine A_goto (tgt := 3) d_M_isCore_72 (by decide) ?_
                refine A_drop5 ?_
                rw [firstU_step _ _ _ hi, if_neg (by unfold lackB; rw [decide_eq_true (by omega)]; decide)]
                exact ih (by omega)
              · refine A_iconst (v := nI 0) d_M_isCore_67 (by decide) ?_
                refine A_zret d_M_isCore_68 rfl (by first | rfl | exact bI_nar _ | decide) ⟨Nat.zero_le _, Nat.zero_le _⟩ ?_
                exact pu (by rw [firstU_step _ _ _ hi, if_pos (by unfold lackB; rw [decide_eq_false (by omega)]; rfl)]; rfl)
            · refine A_iload_n3 d_M_isCore_48 ?_
              refine A_goto (tgt := 53) d_M_isCore_49 (by decide) ?_
              first | refine A_iaddN d_M_isCore_53 (by with_reducible rfl) (by with_reducible rfl) ?_ | refine A_iadd d_M_isCore_53 ?_
              refine A_istore5 d_M_isCore_54 trivial ?_
              refine A_iload5 d_M_isCore_56 ?_
              refine A_aload_n0 d_M_isCore_58 ?_
              refine A_iload4 d_M_isCore_59 ?_
              refine A_callVP d_M_isCore_61 (c_M_worthIn hM hG i hi) hM.o rfl q_1677 q_1679 qs_97 mk_M_worthIn rfl (by decide) rfl (Nat.le_of_ble_eq_true rfl) ⟨Nat.le_of_ble_eq_true rfl, Nat.le_of_ble_eq_true rfl⟩ ⟨rfl, rfl⟩ ?_
              refine A_stk (show _ = [Value.int (nI (wI g i)), .int (nI (uB (hasB (nI i) (nI 0)) a + uB (hasB (nI i) (nI 1)) e + uB (hasB (nI i) (nI 2)) f))] by simp only [uB, c_7, c_16, c_30, c_45, reduceIte, Bool.false_eq_true]) ?_
              first | refine A_icmp_geN (tgt := 69) d_M_isCore_64 (by decide) (by with_reducible rfl) (by with_reducible rfl) (by omega) (by omega) (fun c_64 => ?_) (fun c_64 => ?_) | refine A_icmp_ge (tgt := 69) d_M_isCore_64 (by decide) (fun c_64 => ?_) (fun c_64 => ?_)
              · first | refine A_iinc4 d_M_isCore_69 (nI_1 _) trivial ?_ | refine A_iinc4 d_M_isCore_69 rfl trivial ?_
                refine A_goto (tgt := 3) d_M_isCore_72 (by decide) ?_
                refine A_drop5 ?_
                rw [firstU_step _ _ _ hi, if_neg (by unfold lackB; rw [decide_eq_true (by omega)]; decide)]
                exact ih (by omega)
              · refine A_iconst (v := nI 0) d_M_isCore_67 (by decide) ?_
                refine A_zret d_M_isCore_68 rfl (by first | rfl | exact bI_nar _ | decide) ⟨Nat.zero_le _, Nat.zero_le _⟩ ?_
                exact pu (by rw [firstU_step _ _ _ hi, if_pos (by unfold lackB; rw [decide_eq_false (by omega)]; rfl)]; rfl)
        · refine A_iload_n1 d_M_isCore_19 ?_
          refine A_goto (tgt := 24) d_M_isCore_20 (by decide) ?_
          refine A_iload4 d_M_isCore_24 ?_
          refine A_iconst (v := nI 1) d_M_isCore_26 (by decide) ?_
          refine A_callSP d_M_isCore_27 (c_M_has _ _ _) q_1553 q_1554 mk_M_has rfl (by decide) rfl (Nat.le_of_ble_eq_true rfl) ⟨Nat.le_of_ble_eq_true rfl, Nat.le_of_ble_eq_true rfl⟩ ⟨rfl, rfl⟩ ?_
          refine A_if_eqB (tgt := 37) d_M_isCore_30 (by decide) (fun c_30 => ?_) (fun c_30 => ?_)
          · refine A_iconst (v := nI 0) d_M_isCore_37 (by decide) ?_
            first | refine A_iaddN d_M_isCore_38 (by with_reducible rfl) (by with_reducible rfl) ?_ | refine A_iadd d_M_isCore_38 ?_
            refine A_iload4 d_M_isCore_39 ?_
            refine A_iconst (v := nI 2) d_M_isCore_41 (by decide) ?_
            refine A_callSP d_M_isCore_42 (c_M_has _ _ _) q_1553 q_1554 mk_M_has rfl (by decide) rfl (Nat.le_of_ble_eq_true rfl) ⟨Nat.le_of_ble_eq_true rfl, Nat.le_of_ble_eq_true rfl⟩ ⟨rfl, rfl⟩ ?_
            refine A_if_eqB (tgt := 52) d_M_isCore_45 (by decide) (fun c_45 => ?_) (fun c_45 => ?_)
            · refine A_iconst (v := nI 0) d_M_isCore_52 (by decide) ?_
              first | refine A_iaddN d_M_isCore_53 (by with_reducible rfl) (by with_reducible rfl) ?_ | refine A_iadd d_M_isCore_53 ?_
              refine A_istore5 d_M_isCore_54 trivial ?_
              refine A_iload5 d_M_isCore_56 ?_
              refine A_aload_n0 d_M_isCore_58 ?_
              refine A_iload4 d_M_isCore_59 ?_
              refine A_callVP d_M_isCore_61 (c_M_worthIn hM hG i hi) hM.o rfl q_1677 q_1679 qs_97 mk_M_worthIn rfl (by decide) rfl (Nat.le_of_ble_eq_true rfl) ⟨Nat.le_of_ble_eq_true rfl, Nat.le_of_ble_eq_true rfl⟩ ⟨rfl, rfl⟩ ?_
              refine A_stk (show _ = [Value.int (nI (wI g i)), .int (nI (uB (hasB (nI i) (nI 0)) a + uB (hasB (nI i) (nI 1)) e + uB (hasB (nI i) (nI 2)) f))] by simp only [uB, c_7, c_16, c_30, c_45, reduceIte, Bool.false_eq_true]) ?_
              first | refine A_icmp_geN (tgt := 69) d_M_isCore_64 (by decide) (by with_reducible rfl) (by with_reducible rfl) (by omega) (by omega) (fun c_64 => ?_) (fun c_64 => ?_) | refine A_icmp_ge (tgt := 69) d_M_isCore_64 (by decide) (fun c_64 => ?_) (fun c_64 => ?_)
              · first | refine A_iinc4 d_M_isCore_69 (nI_1 _) trivial ?_ | refine A_iinc4 d_M_isCore_69 rfl trivial ?_
                refine A_goto (tgt := 3) d_M_isCore_72 (by decide) ?_
                refine A_drop5 ?_
                rw [firstU_step _ _ _ hi, if_neg (by unfold lackB; rw [decide_eq_true (by omega)]; decide)]
                exact ih (by omega)
              · refine A_iconst (v := nI 0) d_M_isCore_67 (by decide) ?_
                refine A_zret d_M_isCore_68 rfl (by first | rfl | exact bI_nar _ | decide) ⟨Nat.zero_le _, Nat.zero_le _⟩ ?_
                exact pu (by rw [firstU_step _ _ _ hi, if_pos (by unfold lackB; rw [decide_eq_false (by omega)]; rfl)]; rfl)
            · refine A_iload_n3 d_M_isCore_48 ?_
              refine A_goto (tgt := 53) d_M_isCore_49 (by decide) ?_
              first | refine A_iaddN d_M_isCore_53 (by with_reducible rfl) (by with_reducible rfl) ?_ | refine A_iadd d_M_isCore_53 ?_
              refine A_istore5 d_M_isCore_54 trivial ?_
              refine A_iload5 d_M_isCore_56 ?_
              refine A_aload_n0 d_M_isCore_58 ?_
              refine A_iload4 d_M_isCore_59 ?_
              refine A_callVP d_M_isCore_61 (c_M_worthIn hM hG i hi) hM.o rfl q_1677 q_1679 qs_97 mk_M_worthIn rfl (by decide) rfl (Nat.le_of_ble_eq_true rfl) ⟨Nat.le_of_ble_eq_true rfl, Nat.le_of_ble_eq_true rfl⟩ ⟨rfl, rfl⟩ ?_
              refine A_stk (show _ = [Value.int (nI (wI g i)), .int (nI (uB (hasB (nI i) (nI 0)) a + uB (hasB (nI i) (nI 1)) e + uB (hasB (nI i) (nI 2)) f))] by simp only [uB, c_7, c_16, c_30, c_45, reduceIte, Bool.false_eq_true]) ?_
              first | refine A_icmp_geN (tgt := 69) d_M_isCore_64 (by decide) (by with_reducible rfl) (by with_reducible rfl) (by omega) (by omega) (fun c_64 => ?_) (fun c_64 => ?_) | refine A_icmp_ge (tgt := 69) d_M_isCore_64 (by decide) (fun c_64 => ?_) (fun c_64 => ?_)
              · first | refine A_iinc4 d_M_isCore_69 (nI_1 _) trivial ?_ | refine A_iinc4 d_M_isCore_69 rfl trivial ?_
                refine A_goto (tgt := 3) d_M_isCore_72 (by decide) ?_
                refine A_drop5 ?_
                rw [firstU_step _ _ _ hi, if_neg (by unfold lackB; rw [decide_eq_true (by omega)]; decide)]
                exact ih (by omega)
              · refine A_iconst (v := nI 0) d_M_isCore_67 (by decide) ?_
                refine A_zret d_M_isCore_68 rfl (by first | rfl | exact bI_nar _ | decide) ⟨Nat.zero_le _, Nat.zero_le _⟩ ?_
                exact pu (by rw [firstU_step _ _ _ hi, if_pos (by unfold lackB; rw [decide_eq_false (by omega)]; rfl)]; rfl)
          · refine A_iload_n2 d_M_isCore_33 ?_
            refine A_goto (tgt := 38) d_M_isCore_34 (by decide) ?_
            first | refine A_iaddN d_M_isCore_38 (by with_reducible rfl) (by with_reducible rfl) ?_ | refine A_iadd d_M_isCore_38 ?_
            refine A_iload4 d_M_isCore_39 ?_
            refine A_iconst (v := nI 2) d_M_isCore_41 (by decide) ?_
            refine A_callSP d_M_isCore_42 (c_M_has _ _ _) q_1553 q_1554 mk_M_has rfl (by decide) rfl (Nat.le_of_ble_eq_true rfl) ⟨Nat.le_of_ble_eq_true rfl, Nat.le_of_ble_eq_true rfl⟩ ⟨rfl, rfl⟩ ?_
            refine A_if_eqB (tgt := 52) d_M_isCore_45 (by decide) (fun c_45 => ?_) (fun c_45 => ?_)
            · refine A_iconst (v := nI 0) d_M_isCore_52 (by decide) ?_
              first | refine A_iaddN d_M_isCore_53 (by with_reducible rfl) (by with_reducible rfl) ?_ | refine A_iadd d_M_isCore_53 ?_
              refine A_istore5 d_M_isCore_54 trivial ?_
              refine A_iload5 d_M_isCore_56 ?_
              refine A_aload_n0 d_M_isCore_58 ?_
              refine A_iload4 d_M_isCore_59 ?_
              refine A_callVP d_M_isCore_61 (c_M_worthIn hM hG i hi) hM.o rfl q_1677 q_1679 qs_97 mk_M_worthIn rfl (by decide) rfl (Nat.le_of_ble_eq_true rfl) ⟨Nat.le_of_ble_eq_true rfl, Nat.le_of_ble_eq_true rfl⟩ ⟨rfl, rfl⟩ ?_
              refine A_stk (show _ = [Value.int (nI (wI g i)), .int (nI (uB (hasB (nI i) (nI 0)) a + uB (hasB (nI i) (nI 1)) e + uB (hasB (nI i) (nI 2)) f))] by simp only [uB, c_7, c_16, c_30, c_45, reduceIte, Bool.false_eq_true]) ?_
              first | refine A_icmp_geN (tgt := 69) d_M_isCore_64 (by decide) (by with_reducible rfl) (by with_reducible rfl) (by omega) (by omega) (fun c_64 => ?_) (fun c_64 => ?_) | refine A_icmp_ge (tgt := 69) d_M_isCore_64 (by decide) (fun c_64 => ?_) (fun c_64 => ?_)
              · first | refine A_iinc4 d_M_isCore_69 (nI_1 _) trivial ?_ | refine A_iinc4 d_M_isCore_69 rfl trivial ?_
                refine A_goto (tgt := 3) d_M_isCore_72 (by decide) ?_
                refine A_drop5 ?_
                rw [firstU_step _ _ _ hi, if_neg (by unfold lackB; rw [decide_eq_true (by omega)]; decide)]
                exact ih (by omega)
              · refine A_iconst (v := nI 0) d_M_isCore_67 (by decide) ?_
                refine A_zret d_M_isCore_68 rfl (by first | rfl | exact bI_nar _ | decide) ⟨Nat.zero_le _, Nat.zero_le _⟩ ?_
                exact pu (by rw [firstU_step _ _ _ hi, if_pos (by unfold lackB; rw [decide_eq_false (by omega)]; rfl)]; rfl)
            · refine A_iload_n3 d_M_isCore_48 ?_
              refine A_goto (tgt := 53) d_M_isCore_49 (by decide) ?_
              first | refine A_iaddN d_M_isCore_53 (by with_reducible rfl) (by with_reducible rfl) ?_ | refine A_iadd d_M_isCore_53 ?_
              refine A_istore5 d_M_isCore_54 trivial ?_
              refine A_iload5 d_M_isCore_56 ?_
              refine A_aload_n0 d_M_isCore_58 ?_
              refine A_iload4 d_M_isCore_59 ?_
              refine A_callVP d_M_isCore_61 (c_M_worthIn hM hG i hi) hM.o rfl q_1677 q_1679 qs_97 mk_M_worthIn rfl (by decide) rfl (Nat.le_of_ble_eq_true rfl) ⟨Nat.le_of_ble_eq_true rfl, Nat.le_of_ble_eq_true rfl⟩ ⟨rfl, rfl⟩ ?_
              refine A_stk (show _ = [Value.int (nI (wI g i)), .int (nI (uB (hasB (nI i) (nI 0)) a + uB (hasB (nI i) (nI 1)) e + uB (hasB (nI i) (nI 2)) f))] by simp only [uB, c_7, c_16, c_30, c_45, reduceIte, Bool.false_eq_true]) ?_
              first | refine A_icmp_geN (tgt := 69) d_M_isCore_64 (by decide) (by with_reducible rfl) (by with_reducible rfl) (by omega) (by omega) (fun c_64 => ?_) (fun c_64 => ?_) | refine A_icmp_ge (tgt := 69) d_M_isCore_64 (by decide) (fun c_64 => ?_) (fun c_64 => ?_)
              · first | refine A_iinc4 d_M_isCore_69 (nI_1 _) trivial ?_ | refine A_iinc4 d_M_isCore_69 rfl trivial ?_
                refine A_goto (tgt := 3) d_M_isCore_72 (by decide) ?_
                refine A_drop5 ?_
                rw [firstU_step _ _ _ hi, if_neg (by unfold lackB; rw [decide_eq_true (by omega)]; decide)]
                exact ih (by omega)
              · refine A_iconst (v := nI 0) d_M_isCore_67 (by decide) ?_
                refine A_zret d_M_isCore_68 rfl (by first | rfl | exact bI_nar _ | decide) ⟨Nat.zero_le _, Nat.zero_le _⟩ ?_
                exact pu (by rw [firstU_step _ _ _ hi, if_pos (by unfold lackB; rw [decide_eq_false (by omega)]; rfl)]; rfl)
  refine Ctr.of (by decide +kernel) (by simp) (Nat.le_of_ble_eq_true rfl) (L0 := [some (.ref m), some (.int (nI a)), some (.int (nI e)), some (.int (nI f)), none, none]) rfl ?_
  refine A_iconst (v := nI 1) d_M_isCore_0 (by decide) ?_
  refine A_istore4 d_M_isCore_1 trivial ?_
  exact key 1 (by decide) (by decide)
set_option maxHeartbeats 4000000 in
set_option maxRecDepth 100000 in
theorem c_M_addedBy {G : GE} {h0 h : AH} {m : Nat} {S : MS} (hM : MW h0 h m S) {b : Nat} {g : Nat → Nat} (hG : HG S b g) (cc : Nat) (hcc : cc < 3) : Ctr G y_M_addedBy b_M_addedBy 6 (some .int) r_M_addedBy [.ref m, .int (nI cc)] h (Pu (.int (addI g cc)) h) := by
  have key : ∀ i, i ≤ 8 → WA G y_M_addedBy b_M_addedBy 6 (some .int) r_M_addedBy 0 0 (Pu (.int (addI g cc)) h) 0 0 9 [some (.ref m), some (.int (nI cc)), some (.int (nI (2 ^ cc))), some (.int (foldN (addF g cc) (nI 0) i)), some (.int (nI i)), none] [] h := by
    refine down ?_ (fun i hi ih => ?_)
    · refine A_iload4 d_M_addedBy_9 ?_
      refine A_bipush (v := nI 8) d_M_addedBy_11 (by decide) ?_
      first | refine A_icmp_geN (tgt := 107) d_M_addedBy_13 (by decide) (by with_reducible rfl) (by with_reducible rfl) (by omega) (by omega) (fun c_13 => ?_) (fun c_13 => ?_) | refine A_icmp_ge (tgt := 107) d_M_addedBy_13 (by decide) (fun c_13 => ?_) (fun c_13 => ?_)
      · refine A_iload_n3 d_M_addedBy_107 ?_
        refine A_iret d_M_addedBy_108 rfl ⟨Nat.zero_le _, Nat.zero_le _⟩ ?_
        exact pu rfl
      · exact absurd c_13 (by omega)
    · have hah : aheadN i ≤ 3 := by unfold aheadN uB; split <;> split <;> split <;> omega
      refine A_iload4 d_M_addedBy_9 ?_
      refine A_bipush (v := nI 8) d_M_addedBy_11 (by decide) ?_
      first | refine A_icmp_geN (tgt := 107) d_M_addedBy_13 (by decide) (by with_reducible rfl) (by with_reducible rfl) (by omega) (by omega) (fun c_13 => ?_) (fun c_13 => ?_) | refine A_icmp_ge (tgt := 107) d_M_addedBy_13 (by decide) (fun c_13 => ?_) (fun c_13 => ?_)
      · exact absurd c_13 (by omega)
      · refine A_iload4 d_M_addedBy_16 ?_
        refine A_iload_n1 d_M_addedBy_18 ?_
        refine A_callSP d_M_addedBy_19 (c_M_has _ _ _) q_1553 q_1554 mk_M_has rfl (by decide) rfl (Nat.le_of_ble_eq_true rfl) ⟨Nat.le_of_ble_eq_true rfl, Nat.le_of_ble_eq_true rfl⟩ ⟨rfl, rfl⟩ ?_
        refine A_if_neB (tgt := 101) d_M_addedBy_22 (by decide) (fun c_22 => ?_) (fun c_22 => ?_)
        · first | refine A_iinc4 d_M_addedBy_101 (nI_1 _) trivial ?_ | refine A_iinc4 d_M_addedBy_101 rfl trivial ?_
          refine A_goto (tgt := 9) d_M_addedBy_104 (by decide) ?_
          first | (refine A_drop5 ?_; exact A_loc (by simp only [foldN, addF, c_13, c_22, reduceIte, Bool.false_eq_true]) ih) | exact A_loc (by simp only [foldN, addF, c_13, c_22, reduceIte, Bool.false_eq_true]) ih
        · refine A_iload4 d_M_addedBy_25 ?_
          refine A_iconst (v := nI 0) d_M_addedBy_27 (by decide) ?_
          refine A_callSP d_M_addedBy_28 (c_M_has _ _ _) q_1553 q_1554 mk_M_has rfl (by decide) rfl (Nat.le_of_ble_eq_true rfl) ⟨Nat.le_of_ble_eq_true rfl, Nat.le_of_ble_eq_true rfl⟩ ⟨rfl, rfl⟩ ?_
          refine A_if_eqB (tgt := 38) d_M_addedBy_31 (by decide) (fun c_31 => ?_) (fun c_31 => ?_)
          · refine A_iconst (v := nI 0) d_M_addedBy_38 (by decide) ?_
            refine A_iload4 d_M_addedBy_39 ?_
            refine A_iconst (v := nI 1) d_M_addedBy_41 (by decide) ?_
            refine A_callSP d_M_addedBy_42 (c_M_has _ _ _) q_1553 q_1554 mk_M_has rfl (by decide) rfl (Nat.le_of_ble_eq_true rfl) ⟨Nat.le_of_ble_eq_true rfl, Nat.le_of_ble_eq_true rfl⟩ ⟨rfl, rfl⟩ ?_
            refine A_if_eqB (tgt := 52) d_M_addedBy_45 (by decide) (fun c_45 => ?_) (fun c_45 => ?_)
            · refine A_iconst (v := nI 0) d_M_addedBy_52 (by decide) ?_
              first | refine A_iaddN d_M_addedBy_53 (by with_reducible rfl) (by with_reducible rfl) ?_ | refine A_iadd d_M_addedBy_53 ?_
              refine A_iload4 d_M_addedBy_54 ?_
              refine A_iconst (v := nI 2) d_M_addedBy_56 (by decide) ?_
              refine A_callSP d_M_addedBy_57 (c_M_has _ _ _) q_1553 q_1554 mk_M_has rfl (by decide) rfl (Nat.le_of_ble_eq_true rfl) ⟨Nat.le_of_ble_eq_true rfl, Nat.le_of_ble_eq_true rfl⟩ ⟨rfl, rfl⟩ ?_
              refine A_if_eqB (tgt := 67) d_M_addedBy_60 (by decide) (fun c_60 => ?_) (fun c_60 => ?_)
              · refine A_iconst (v := nI 0) d_M_addedBy_67 (by decide) ?_
                first | refine A_iaddN d_M_addedBy_68 (by with_reducible rfl) (by with_reducible rfl) ?_ | refine A_iadd d_M_addedBy_68 ?_
                refine A_topN (k := aheadN i) (by unfold aheadN uB; simp only [c_13, c_22, c_31, c_45, c_60, reduceIte, Bool.false_eq_true]) ?_
                refine A_istore5 d_M_addedBy_69 trivial ?_
                refine A_iload_n3 d_M_addedBy_71 ?_
                refine A_iload5 d_M_addedBy_72 ?_
                refine A_iconst (v := nI 1) d_M_addedBy_74 (by decide) ?_
                first | refine A_icmp_neN (tgt := 82) d_M_addedBy_75 (by decide) (by with_reducible rfl) (by with_reducible rfl) (by omega) (by omega) (fun c_75 => ?_) (fun c_75 => ?_) | refine A_icmp_ne (tgt := 82) d_M_addedBy_75 (by decide) (fun c_75 => ?_) (fun c_75 => ?_)
                · refine A_iconst (v := nI 2) d_M_addedBy_82 (by decide) ?_
                  refine A_aload_n0 d_M_addedBy_83 ?_
                  refine A_iload4 d_M_addedBy_84 ?_
                  refine A_iload_n2 d_M_addedBy_86 ?_
                  refine A_ior d_M_addedBy_87 ?_
                  refine A_topN (k := i ||| 2 ^ cc) (or8 hi (or8_lt hi hcc).1) ?_
                  refine A_callVP d_M_addedBy_88 (c_M_worthIn hM hG _ (or8_lt hi hcc).2) hM.o rfl q_1677 q_1679 qs_97 mk_M_worthIn rfl (by decide) rfl (Nat.le_of_ble_eq_true rfl) ⟨Nat.le_of_ble_eq_true rfl, Nat.le_of_ble_eq_true rfl⟩ ⟨rfl, rfl⟩ ?_
                  refine A_aload_n0 d_M_addedBy_91 ?_
                  refine A_iload4 d_M_addedBy_92 ?_
                  refine A_callVP d_M_addedBy_94 (c_M_worthIn hM hG i hi) hM.o rfl q_1677 q_1679 qs_97 mk_M_worthIn rfl (by decide) rfl (Nat.le_of_ble_eq_true rfl) ⟨Nat.le_of_ble_eq_true rfl, Nat.le_of_ble_eq_true rfl⟩ ⟨rfl, rfl⟩ ?_
                  skip
                  refine A_isub d_M_addedBy_97 ?_
                  first | refine A_imulN d_M_addedBy_98 (by with_reducible rfl) (by with_reducible rfl) ?_ | refine A_imul d_M_addedBy_98 ?_
                  first | refine A_iaddN d_M_addedBy_99 (by with_reducible rfl) (by with_reducible rfl) ?_ | refine A_iadd d_M_addedBy_99 ?_
                  refine A_istore3 d_M_addedBy_100 trivial ?_
                  first | refine A_iinc4 d_M_addedBy_101 (nI_1 _) trivial ?_ | refine A_iinc4 d_M_addedBy_101 rfl trivial ?_
                  refine A_goto (tgt := 9) d_M_addedBy_104 (by decide) ?_
                  first | (refine A_drop5 ?_; exact A_loc (by simp only [foldN, addF, c_13, c_22, c_31, c_45, c_60, c_75, reduceIte, Bool.false_eq_true]) ih) | exact A_loc (by simp only [foldN, addF, c_13, c_22, c_31, c_45, c_60, c_75, reduceIte, Bool.false_eq_true]) ih
                · refine A_iconst (v := nI 1) d_M_addedBy_78 (by decide) ?_
                  refine A_goto (tgt := 83) d_M_addedBy_79 (by decide) ?_
                  refine A_aload_n0 d_M_addedBy_83 ?_
                  refine A_iload4 d_M_addedBy_84 ?_
                  refine A_iload_n2 d_M_addedBy_86 ?_
                  refine A_ior d_M_addedBy_87 ?_
                  refine A_topN (k := i ||| 2 ^ cc) (or8 hi (or8_lt hi hcc).1) ?_
                  refine A_callVP d_M_addedBy_88 (c_M_worthIn hM hG _ (or8_lt hi hcc).2) hM.o rfl q_1677 q_1679 qs_97 mk_M_worthIn rfl (by decide) rfl (Nat.le_of_ble_eq_true rfl) ⟨Nat.le_of_ble_eq_true rfl, Nat.le_of_ble_eq_true rfl⟩ ⟨rfl, rfl⟩ ?_
                  refine A_aload_n0 d_M_addedBy_91 ?_
                  refine A_iload4 d_M_addedBy_92 ?_
                  refine A_callVP d_M_addedBy_94 (c_M_worthIn hM hG i hi) hM.o rfl q_1677 q_1679 qs_97 mk_M_worthIn rfl (by decide) rfl (Nat.le_of_ble_eq_true rfl) ⟨Nat.le_of_ble_eq_true rfl, Nat.le_of_ble_eq_true rfl⟩ ⟨rfl, rfl⟩ ?_
                  skip
                  refine A_isub d_M_addedBy_97 ?_
                  first | refine A_imulN d_M_addedBy_98 (by with_reducible rfl) (by with_reducible rfl) ?_ | refine A_imul d_M_addedBy_98 ?_
                  first | refine A_iaddN d_M_addedBy_99 (by with_reducible rfl) (by with_reducible rfl) ?_ | refine A_iadd d_M_addedBy_99 ?_
                  refine A_istore3 d_M_addedBy_100 trivial ?_
                  first | refine A_iinc4 d_M_addedBy_101 (nI_1 _) trivial ?_ | refine A_iinc4 d_M_addedBy_101 rfl trivial ?_
                  refine A_goto (tgt := 9) d_M_addedBy_104 (by decide) ?_
                  first | (refine A_drop5 ?_; exact A_loc (by simp only [foldN, addF, c_13, c_22, c_31, c_45, c_60, c_75, reduceIte, Bool.false_eq_true]) ih) | exact A_loc (by simp only [foldN, addF, c_13, c_22, c_31, c_45, c_60, c_75, reduceIte, Bool.false_eq_true]) ih
              · refine A_iconst (v := nI 1) d_M_addedBy_63 (by decide) ?_
                refine A_goto (tgt := 68) d_M_addedBy_64 (by decide) ?_
                first | refine A_iaddN d_M_addedBy_68 (by with_reducible rfl) (by with_reducible rfl) ?_ | refine A_iadd d_M_addedBy_68 ?_
                refine A_topN (k := aheadN i) (by unfold aheadN uB; simp only [c_13, c_22, c_31, c_45, c_60, reduceIte, Bool.false_eq_true]) ?_
                refine A_istore5 d_M_addedBy_69 trivial ?_
                refine A_iload_n3 d_M_addedBy_71 ?_
                refine A_iload5 d_M_addedBy_72 ?_
                refine A_iconst (v := nI 1) d_M_addedBy_74 (by decide) ?_
                first | refine A_icmp_neN (tgt := 82) d_M_addedBy_75 (by decide) (by with_reducible rfl) (by with_reducible rfl) (by omega) (by omega) (fun c_75 => ?_) (fun c_75 => ?_) | refine A_icmp_ne (tgt := 82) d_M_addedBy_75 (by decide) (fun c_75 => ?_) (fun c_75 => ?_)
                · refine A_iconst (v := nI 2) d_M_addedBy_82 (by decide) ?_
                  refine A_aload_n0 d_M_addedBy_83 ?_
                  refine A_iload4 d_M_addedBy_84 ?_
                  refine A_iload_n2 d_M_addedBy_86 ?_
                  refine A_ior d_M_addedBy_87 ?_
                  refine A_topN (k := i ||| 2 ^ cc) (or8 hi (or8_lt hi hcc).1) ?_
                  refine A_callVP d_M_addedBy_88 (c_M_worthIn hM hG _ (or8_lt hi hcc).2) hM.o rfl q_1677 q_1679 qs_97 mk_M_worthIn rfl (by decide) rfl (Nat.le_of_ble_eq_true rfl) ⟨Nat.le_of_ble_eq_true rfl, Nat.le_of_ble_eq_true rfl⟩ ⟨rfl, rfl⟩ ?_
                  refine A_aload_n0 d_M_addedBy_91 ?_
                  refine A_iload4 d_M_addedBy_92 ?_
                  refine A_callVP d_M_addedBy_94 (c_M_worthIn hM hG i hi) hM.o rfl q_1677 q_1679 qs_97 mk_M_worthIn rfl (by decide) rfl (Nat.le_of_ble_eq_true rfl) ⟨Nat.le_of_ble_eq_true rfl, Nat.le_of_ble_eq_true rfl⟩ ⟨rfl, rfl⟩ ?_
                  skip
                  refine A_isub d_M_addedBy_97 ?_
                  first | refine A_imulN d_M_addedBy_98 (by with_reducible rfl) (by with_reducible rfl) ?_ | refine A_imul d_M_addedBy_98 ?_
                  first | refine A_iaddN d_M_addedBy_99 (by with_reducible rfl) (by with_reducible rfl) ?_ | refine A_iadd d_M_addedBy_99 ?_
                  refine A_istore3 d_M_addedBy_100 trivial ?_
                  first | refine A_iinc4 d_M_addedBy_101 (nI_1 _) trivial ?_ | refine A_iinc4 d_M_addedBy_101 rfl trivial ?_
                  refine A_goto (tgt := 9) d_M_addedBy_104 (by decide) ?_
                  first | (refine A_drop5 ?_; exact A_loc (by simp only [foldN, addF, c_13, c_22, c_31, c_45, c_60, c_75, reduceIte, Bool.false_eq_true]) ih) | exact A_loc (by simp only [foldN, addF, c_13, c_22, c_31, c_45, c_60, c_75, reduceIte, Bool.false_eq_true]) ih
                · refine A_iconst (v := nI 1) d_M_addedBy_78 (by decide) ?_
                  refine A_goto (tgt := 83) d_M_addedBy_79 (by decide) ?_
                  refine A_aload_n0 d_M_addedBy_83 ?_
                  refine A_iload4 d_M_addedBy_84 ?_
                  refine A_iload_n2 d_M_addedBy_86 ?_
                  refine A_ior d_M_addedBy_87 ?_
                  refine A_topN (k := i ||| 2 ^ cc) (or8 hi (or8_lt hi hcc).1) ?_
                  refine A_callVP d_M_addedBy_88 (c_M_worthIn hM hG _ (or8_lt hi hcc).2) hM.o rfl q_1677 q_1679 qs_97 mk_M_worthIn rfl (by decide) rfl (Nat.le_of_ble_eq_true rfl) ⟨Nat.le_of_ble_eq_true rfl, Nat.le_of_ble_eq_true rfl⟩ ⟨rfl, rfl⟩ ?_
                  refine A_aload_n0 d_M_addedBy_91 ?_
                  refine A_iload4 d_M_addedBy_92 ?_
                  refine A_callVP d_M_addedBy_94 (c_M_worthIn hM hG i hi) hM.o rfl q_1677 q_1679 qs_97 mk_M_worthIn rfl (by decide) rfl (Nat.le_of_ble_eq_true rfl) ⟨Nat.le_of_ble_eq_true rfl, Nat.le_of_ble_eq_true rfl⟩ ⟨rfl, rfl⟩ ?_
                  skip
                  refine A_isub d_M_addedBy_97 ?_
                  first | refine A_imulN d_M_addedBy_98 (by with_reducible rfl) (by with_reducible rfl) ?_ | refine A_imul d_M_addedBy_98 ?_
                  first | refine A_iaddN d_M_addedBy_99 (by with_reducible rfl) (by with_reducible rfl) ?_ | refine A_iadd d_M_addedBy_99 ?_
                  refine A_istore3 d_M_addedBy_100 trivial ?_
                  first | refine A_iinc4 d_M_addedBy_101 (nI_1 _) trivial ?_ | refine A_iinc4 d_M_addedBy_101 rfl trivial ?_
                  refine A_goto (tgt := 9) d_M_addedBy_104 (by decide) ?_
                  first | (refine A_drop5 ?_; exact A_loc (by simp only [foldN, addF, c_13, c_22, c_31, c_45, c_60, c_75, reduceIte, Bool.false_eq_true]) ih) | exact A_loc (by simp only [foldN, addF, c_13, c_22, c_31, c_45, c_60, c_75, reduceIte, Bool.false_eq_true]) ih
            · refine A_iconst (v := nI 1) d_M_addedBy_48 (by decide) ?_
              refine A_goto (tgt := 53) d_M_addedBy_49 (by decide) ?_
              first | refine A_iaddN d_M_addedBy_53 (by with_reducible rfl) (by with_reducible rfl) ?_ | refine A_iadd d_M_addedBy_53 ?_
              refine A_iload4 d_M_addedBy_54 ?_
              refine A_iconst (v := nI 2) d_M_addedBy_56 (by decide) ?_
              refine A_callSP d_M_addedBy_57 (c_M_has _ _ _) q_1553 q_1554 mk_M_has rfl (by decide) rfl (Nat.le_of_ble_eq_true rfl) ⟨Nat.le_of_ble_eq_true rfl, Nat.le_of_ble_eq_true rfl⟩ ⟨rfl, rfl⟩ ?_
              refine A_if_eqB (tgt := 67) d_M_addedBy_60 (by decide) (fun c_60 => ?_) (fun c_60 => ?_)
              · refine A_iconst (v := nI 0) d_M_addedBy_67 (by decide) ?_
                first | refine A_iaddN d_M_addedBy_68 (by with_reducible rfl) (by with_reducible rfl) ?_ | refine A_iadd d_M_addedBy_68 ?_
                refine A_topN (k := aheadN i) (by unfold aheadN uB; simp only [c_13, c_22, c_31, c_45, c_60, reduceIte, Bool.false_eq_true]) ?_
                refine A_istore5 d_M_addedBy_69 trivial ?_
                refine A_iload_n3 d_M_addedBy_71 ?_
                refine A_iload5 d_M_addedBy_72 ?_
                refine A_iconst (v := nI 1) d_M_addedBy_74 (by decide) ?_
                first | refine A_icmp_neN (tgt := 82) d_M_addedBy_75 (by decide) (by with_reducible rfl) (by with_reducible rfl) (by omega) (by omega) (fun c_75 => ?_) (fun c_75 => ?_) | refine A_icmp_ne (tgt := 82) d_M_addedBy_75 (by decide) (fun c_75 => ?_) (fun c_75 => ?_)
                · refine A_iconst (v := nI 2) d_M_addedBy_82 (by decide) ?_
                  refine A_aload_n0 d_M_addedBy_83 ?_
                  refine A_iload4 d_M_addedBy_84 ?_
                  refine A_iload_n2 d_M_addedBy_86 ?_
                  refine A_ior d_M_addedBy_87 ?_
                  refine A_topN (k := i ||| 2 ^ cc) (or8 hi (or8_lt hi hcc).1) ?_
                  refine A_callVP d_M_addedBy_88 (c_M_worthIn hM hG _ (or8_lt hi hcc).2) hM.o rfl q_1677 q_1679 qs_97 mk_M_worthIn rfl (by decide) rfl (Nat.le_of_ble_eq_true rfl) ⟨Nat.le_of_ble_eq_true rfl, Nat.le_of_ble_eq_true rfl⟩ ⟨rfl, rfl⟩ ?_
                  refine A_aload_n0 d_M_addedBy_91 ?_
                  refine A_iload4 d_M_addedBy_92 ?_
                  refine A_callVP d_M_addedBy_94 (c_M_worthIn hM hG i hi) hM.o rfl q_1677 q_1679 qs_97 mk_M_worthIn rfl (by decide) rfl (Nat.le_of_ble_eq_true rfl) ⟨Nat.le_of_ble_eq_true rfl, Nat.le_of_ble_eq_true rfl⟩ ⟨rfl, rfl⟩ ?_
                  skip
                  refine A_isub d_M_addedBy_97 ?_
                  first | refine A_imulN d_M_addedBy_98 (by with_reducible rfl) (by with_reducible rfl) ?_ | refine A_imul d_M_addedBy_98 ?_
                  first | refine A_iaddN d_M_addedBy_99 (by with_reducible rfl) (by with_reducible rfl) ?_ | refine A_iadd d_M_addedBy_99 ?_
                  refine A_istore3 d_M_addedBy_100 trivial ?_
                  first | refine A_iinc4 d_M_addedBy_101 (nI_1 _) trivial ?_ | refine A_iinc4 d_M_addedBy_101 rfl trivial ?_
                  refine A_goto (tgt := 9) d_M_addedBy_104 (by decide) ?_
                  first | (refine A_drop5 ?_; exact A_loc (by simp only [foldN, addF, c_13, c_22, c_31, c_45, c_60, c_75, reduceIte, Bool.false_eq_true]) ih) | exact A_loc (by simp only [foldN, addF, c_13, c_22, c_31, c_45, c_60, c_75, reduceIte, Bool.false_eq_true]) ih
                · refine A_iconst (v := nI 1) d_M_addedBy_78 (by decide) ?_
                  refine A_goto (tgt := 83) d_M_addedBy_79 (by decide) ?_
                  refine A_aload_n0 d_M_addedBy_83 ?_
                  refine A_iload4 d_M_addedBy_84 ?_
                  refine A_iload_n2 d_M_addedBy_86 ?_
                  refine A_ior d_M_addedBy_87 ?_
                  refine A_topN (k := i ||| 2 ^ cc) (or8 hi (or8_lt hi hcc).1) ?_
                  refine A_callVP d_M_addedBy_88 (c_M_worthIn hM hG _ (or8_lt hi hcc).2) hM.o rfl q_1677 q_1679 qs_97 mk_M_worthIn rfl (by decide) rfl (Nat.le_of_ble_eq_true rfl) ⟨Nat.le_of_ble_eq_true rfl, Nat.le_of_ble_eq_true rfl⟩ ⟨rfl, rfl⟩ ?_
                  refine A_aload_n0 d_M_addedBy_91 ?_
                  refine A_iload4 d_M_addedBy_92 ?_
                  refine A_callVP d_M_addedBy_94 (c_M_worthIn hM hG i hi) hM.o rfl q_1677 q_1679 qs_97 mk_M_worthIn rfl (by decide) rfl (Nat.le_of_ble_eq_true rfl) ⟨Nat.le_of_ble_eq_true rfl, Nat.le_of_ble_eq_true rfl⟩ ⟨rfl, rfl⟩ ?_
                  skip
                  refine A_isub d_M_addedBy_97 ?_
                  first | refine A_imulN d_M_addedBy_98 (by with_reducible rfl) (by with_reducible rfl) ?_ | refine A_imul d_M_addedBy_98 ?_
                  first | refine A_iaddN d_M_addedBy_99 (by with_reducible rfl) (by with_reducible rfl) ?_ | refine A_iadd d_M_addedBy_99 ?_
                  refine A_istore3 d_M_addedBy_100 trivial ?_
                  first | refine A_iinc4 d_M_addedBy_101 (nI_1 _) trivial ?_ | refine A_iinc4 d_M_addedBy_101 rfl trivial ?_
                  refine A_goto (tgt := 9) d_M_addedBy_104 (by decide) ?_
                  first | (refine A_drop5 ?_; exact A_loc (by simp only [foldN, addF, c_13, c_22, c_31, c_45, c_60, c_75, reduceIte, Bool.false_eq_true]) ih) | exact A_loc (by simp only [foldN, addF, c_13, c_22, c_31, c_45, c_60, c_75, reduceIte, Bool.false_eq_true]) ih
              · refine A_iconst (v := nI 1) d_M_addedBy_63 (by decide) ?_
                refine A_goto (tgt := 68) d_M_addedBy_64 (by decide) ?_
                first | refine A_iaddN d_M_addedBy_68 (by with_reducible rfl) (by with_reducible rfl) ?_ | refine A_iadd d_M_addedBy_68 ?_
                refine A_topN (k := aheadN i) (by unfold aheadN uB; simp only [c_13, c_22, c_31, c_45, c_60, reduceIte, Bool.false_eq_true]) ?_
                refine A_istore5 d_M_addedBy_69 trivial ?_
                refine A_iload_n3 d_M_addedBy_71 ?_
                refine A_iload5 d_M_addedBy_72 ?_
                refine A_iconst (v := nI 1) d_M_addedBy_74 (by decide) ?_
                first | refine A_icmp_neN (tgt := 82) d_M_addedBy_75 (by decide) (by with_reducible rfl) (by with_reducible rfl) (by omega) (by omega) (fun c_75 => ?_) (fun c_75 => ?_) | refine A_icmp_ne (tgt := 82) d_M_addedBy_75 (by decide) (fun c_75 => ?_) (fun c_75 => ?_)
                · refine A_iconst (v := nI 2) d_M_addedBy_82 (by decide) ?_
                  refine A_aload_n0 d_M_addedBy_83 ?_
                  refine A_iload4 d_M_addedBy_84 ?_
                  refine A_iload_n2 d_M_addedBy_86 ?_
                  refine A_ior d_M_addedBy_87 ?_
                  refine A_topN (k := i ||| 2 ^ cc) (or8 hi (or8_lt hi hcc).1) ?_
                  refine A_callVP d_M_addedBy_88 (c_M_worthIn hM hG _ (or8_lt hi hcc).2) hM.o rfl q_1677 q_1679 qs_97 mk_M_worthIn rfl (by decide) rfl (Nat.le_of_ble_eq_true rfl) ⟨Nat.le_of_ble_eq_true rfl, Nat.le_of_ble_eq_true rfl⟩ ⟨rfl, rfl⟩ ?_
                  refine A_aload_n0 d_M_addedBy_91 ?_
                  refine A_iload4 d_M_addedBy_92 ?_
                  refine A_callVP d_M_addedBy_94 (c_M_worthIn hM hG i hi) hM.o rfl q_1677 q_1679 qs_97 mk_M_worthIn rfl (by decide) rfl (Nat.le_of_ble_eq_true rfl) ⟨Nat.le_of_ble_eq_true rfl, Nat.le_of_ble_eq_true rfl⟩ ⟨rfl, rfl⟩ ?_
                  skip
                  refine A_isub d_M_addedBy_97 ?_
                  first | refine A_imulN d_M_addedBy_98 (by with_reducible rfl) (by with_reducible rfl) ?_ | refine A_imul d_M_addedBy_98 ?_
                  first | refine A_iaddN d_M_addedBy_99 (by with_reducible rfl) (by with_reducible rfl) ?_ | refine A_iadd d_M_addedBy_99 ?_
                  refine A_istore3 d_M_addedBy_100 trivial ?_
                  first | refine A_iinc4 d_M_addedBy_101 (nI_1 _) trivial ?_ | refine A_iinc4 d_M_addedBy_101 rfl trivial ?_
                  refine A_goto (tgt := 9) d_M_addedBy_104 (by decide) ?_
                  first | (refine A_drop5 ?_; exact A_loc (by simp only [foldN, addF, c_13, c_22, c_31, c_45, c_60, c_75, reduceIte, Bool.false_eq_true]) ih) | exact A_loc (by simp only [foldN, addF, c_13, c_22, c_31, c_45, c_60, c_75, reduceIte, Bool.false_eq_true]) ih
                · refine A_iconst (v := nI 1) d_M_addedBy_78 (by decide) ?_
                  refine A_goto (tgt := 83) d_M_addedBy_79 (by decide) ?_
                  refine A_aload_n0 d_M_addedBy_83 ?_
                  refine A_iload4 d_M_addedBy_84 ?_
                  refine A_iload_n2 d_M_addedBy_86 ?_
                  refine A_ior d_M_addedBy_87 ?_
                  refine A_topN (k := i ||| 2 ^ cc) (or8 hi (or8_lt hi hcc).1) ?_
                  refine A_callVP d_M_addedBy_88 (c_M_worthIn hM hG _ (or8_lt hi hcc).2) hM.o rfl q_1677 q_1679 qs_97 mk_M_worthIn rfl (by decide) rfl (Nat.le_of_ble_eq_true rfl) ⟨Nat.le_of_ble_eq_true rfl, Nat.le_of_ble_eq_true rfl⟩ ⟨rfl, rfl⟩ ?_
                  refine A_aload_n0 d_M_addedBy_91 ?_
                  refine A_iload4 d_M_addedBy_92 ?_
                  refine A_callVP d_M_addedBy_94 (c_M_worthIn hM hG i hi) hM.o rfl q_1677 q_1679 qs_97 mk_M_worthIn rfl (by decide) rfl (Nat.le_of_ble_eq_true rfl) ⟨Nat.le_of_ble_eq_true rfl, Nat.le_of_ble_eq_true rfl⟩ ⟨rfl, rfl⟩ ?_
                  skip
                  refine A_isub d_M_addedBy_97 ?_
                  first | refine A_imulN d_M_addedBy_98 (by with_reducible rfl) (by with_reducible rfl) ?_ | refine A_imul d_M_addedBy_98 ?_
                  first | refine A_iaddN d_M_addedBy_99 (by with_reducible rfl) (by with_reducible rfl) ?_ | refine A_iadd d_M_addedBy_99 ?_
                  refine A_istore3 d_M_addedBy_100 trivial ?_
                  first | refine A_iinc4 d_M_addedBy_101 (nI_1 _) trivial ?_ | refine A_iinc4 d_M_addedBy_101 rfl trivial ?_
                  refine A_goto (tgt := 9) d_M_addedBy_104 (by decide) ?_
                  first | (refine A_drop5 ?_; exact A_loc (by simp only [foldN, addF, c_13, c_22, c_31, c_45, c_60, c_75, reduceIte, Bool.false_eq_true]) ih) | exact A_loc (by simp only [foldN, addF, c_13, c_22, c_31, c_45, c_60, c_75, reduceIte, Bool.false_eq_true]) ih
          · refine A_iconst (v := nI 1) d_M_addedBy_34 (by decide) ?_
            refine A_goto (tgt := 39) d_M_addedBy_35 (by decide) ?_
            refine A_iload4 d_M_addedBy_39 ?_
            refine A_iconst (v := nI 1) d_M_addedBy_41 (by decide) ?_
            refine A_callSP d_M_addedBy_42 (c_M_has _ _ _) q_1553 q_1554 mk_M_has rfl (by decide) rfl (Nat.le_of_ble_eq_true rfl) ⟨Nat.le_of_ble_eq_true rfl, Nat.le_of_ble_eq_true rfl⟩ ⟨rfl, rfl⟩ ?_
            refine A_if_eqB (tgt := 52) d_M_addedBy_45 (by decide) (fun c_45 => ?_) (fun c_45 => ?_)
            · refine A_iconst (v := nI 0) d_M_addedBy_52 (by decide) ?_
              first | refine A_iaddN d_M_addedBy_53 (by with_reducible rfl) (by with_reducible rfl) ?_ | refine A_iadd d_M_addedBy_53 ?_
              refine A_iload4 d_M_addedBy_54 ?_
              refine A_iconst (v := nI 2) d_M_addedBy_56 (by decide) ?_
              refine A_callSP d_M_addedBy_57 (c_M_has _ _ _) q_1553 q_1554 mk_M_has rfl (by decide) rfl (Nat.le_of_ble_eq_true rfl) ⟨Nat.le_of_ble_eq_true rfl, Nat.le_of_ble_eq_true rfl⟩ ⟨rfl, rfl⟩ ?_
              refine A_if_eqB (tgt := 67) d_M_addedBy_60 (by decide) (fun c_60 => ?_) (fun c_60 => ?_)
              · refine A_iconst (v := nI 0) d_M_addedBy_67 (by decide) ?_
                first | refine A_iaddN d_M_addedBy_68 (by with_reducible rfl) (by with_reducible rfl) ?_ | refine A_iadd d_M_addedBy_68 ?_
                refine A_topN (k := aheadN i) (by unfold aheadN uB; simp only [c_13, c_22, c_31, c_45, c_60, reduceIte, Bool.false_eq_true]) ?_
                refine A_istore5 d_M_addedBy_69 trivial ?_
                refine A_iload_n3 d_M_addedBy_71 ?_
                refine A_iload5 d_M_addedBy_72 ?_
                refine A_iconst (v := nI 1) d_M_addedBy_74 (by decide) ?_
                first | refine A_icmp_neN (tgt := 82) d_M_addedBy_75 (by decide) (by with_reducible rfl) (by with_reducible rfl) (by omega) (by omega) (fun c_75 => ?_) (fun c_75 => ?_) | refine A_icmp_ne (tgt := 82) d_M_addedBy_75 (by decide) (fun c_75 => ?_) (fun c_75 => ?_)
                · refine A_iconst (v := nI 2) d_M_addedBy_82 (by decide) ?_
                  refine A_aload_n0 d_M_addedBy_83 ?_
                  refine A_iload4 d_M_addedBy_84 ?_
                  refine A_iload_n2 d_M_addedBy_86 ?_
                  refine A_ior d_M_addedBy_87 ?_
                  refine A_topN (k := i ||| 2 ^ cc) (or8 hi (or8_lt hi hcc).1) ?_
                  refine A_callVP d_M_addedBy_88 (c_M_worthIn hM hG _ (or8_lt hi hcc).2) hM.o rfl q_1677 q_1679 qs_97 mk_M_worthIn rfl (by decide) rfl (Nat.le_of_ble_eq_true rfl) ⟨Nat.le_of_ble_eq_true rfl, Nat.le_of_ble_eq_true rfl⟩ ⟨rfl, rfl⟩ ?_
                  refine A_aload_n0 d_M_addedBy_91 ?_
                  refine A_iload4 d_M_addedBy_92 ?_
                  refine A_callVP d_M_addedBy_94 (c_M_worthIn hM hG i hi) hM.o rfl q_1677 q_1679 qs_97 mk_M_worthIn rfl (by decide) rfl (Nat.le_of_ble_eq_true rfl) ⟨Nat.le_of_ble_eq_true rfl, Nat.le_of_ble_eq_true rfl⟩ ⟨rfl, rfl⟩ ?_
                  skip
                  refine A_isub d_M_addedBy_97 ?_
                  first | refine A_imulN d_M_addedBy_98 (by with_reducible rfl) (by with_reducible rfl) ?_ | refine A_imul d_M_addedBy_98 ?_
                  first | refine A_iaddN d_M_addedBy_99 (by with_reducible rfl) (by with_reducible rfl) ?_ | refine A_iadd d_M_addedBy_99 ?_
                  refine A_istore3 d_M_addedBy_100 trivial ?_
                  first | refine A_iinc4 d_M_addedBy_101 (nI_1 _) trivial ?_ | refine A_iinc4 d_M_addedBy_101 rfl trivial ?_
                  refine A_goto (tgt := 9) d_M_addedBy_104 (by decide) ?_
                  first | (refine A_drop5 ?_; exact A_loc (by simp only [foldN, addF, c_13, c_22, c_31, c_45, c_60, c_75, reduceIte, Bool.false_eq_true]) ih) | exact A_loc (by simp only [foldN, addF, c_13, c_22, c_31, c_45, c_60, c_75, reduceIte, Bool.false_eq_true]) ih
                · refine A_iconst (v := nI 1) d_M_addedBy_78 (by decide) ?_
                  refine A_goto (tgt := 83) d_M_addedBy_79 (by decide) ?_
                  refine A_aload_n0 d_M_addedBy_83 ?_
                  refine A_iload4 d_M_addedBy_84 ?_
                  refine A_iload_n2 d_M_addedBy_86 ?_
                  refine A_ior d_M_addedBy_87 ?_
                  refine A_topN (k := i ||| 2 ^ cc) (or8 hi (or8_lt hi hcc).1) ?_
                  refine A_callVP d_M_addedBy_88 (c_M_worthIn hM hG _ (or8_lt hi hcc).2) hM.o rfl q_1677 q_1679 qs_97 mk_M_worthIn rfl (by decide) rfl (Nat.le_of_ble_eq_true rfl) ⟨Nat.le_of_ble_eq_true rfl, Nat.le_of_ble_eq_true rfl⟩ ⟨rfl, rfl⟩ ?_
                  refine A_aload_n0 d_M_addedBy_91 ?_
                  refine A_iload4 d_M_addedBy_92 ?_
                  refine A_callVP d_M_addedBy_94 (c_M_worthIn hM hG i hi) hM.o rfl q_1677 q_1679 qs_97 mk_M_worthIn rfl (by decide) rfl (Nat.le_of_ble_eq_true rfl) ⟨Nat.le_of_ble_eq_true rfl, Nat.le_of_ble_eq_true rfl⟩ ⟨rfl, rfl⟩ ?_
                  skip
                  refine A_isub d_M_addedBy_97 ?_
                  first | refine A_imulN d_M_addedBy_98 (by with_reducible rfl) (by with_reducible rfl) ?_ | refine A_imul d_M_addedBy_98 ?_
                  first | refine A_iaddN d_M_addedBy_99 (by with_reducible rfl) (by with_reducible rfl) ?_ | refine A_iadd d_M_addedBy_99 ?_
                  refine A_istore3 d_M_addedBy_100 trivial ?_
                  first | refine A_iinc4 d_M_addedBy_101 (nI_1 _) trivial ?_ | refine A_iinc4 d_M_addedBy_101 rfl trivial ?_
                  refine A_goto (tgt := 9) d_M_addedBy_104 (by decide) ?_
                  first | (refine A_drop5 ?_; exact A_loc (by simp only [foldN, addF, c_13, c_22, c_31, c_45, c_60, c_75, reduceIte, Bool.false_eq_true]) ih) | exact A_loc (by simp only [foldN, addF, c_13, c_22, c_31, c_45, c_60, c_75, reduceIte, Bool.false_eq_true]) ih
              · refine A_iconst (v := nI 1) d_M_addedBy_63 (by decide) ?_
                refine A_goto (tgt := 68) d_M_addedBy_64 (by decide) ?_
                first | refine A_iaddN d_M_addedBy_68 (by with_reducible rfl) (by with_reducible rfl) ?_ | refine A_iadd d_M_addedBy_68 ?_
                refine A_topN (k := aheadN i) (by unfold aheadN uB; simp only [c_13, c_22, c_31, c_45, c_60, reduceIte, Bool.false_eq_true]) ?_
                refine A_istore5 d_M_addedBy_69 trivial ?_
                refine A_iload_n3 d_M_addedBy_71 ?_
                refine A_iload5 d_M_addedBy_72 ?_
                refine A_iconst (v := nI 1) d_M_addedBy_74 (by decide) ?_
                first | refine A_icmp_neN (tgt := 82) d_M_addedBy_75 (by decide) (by with_reducible rfl) (by with_reducible rfl) (by omega) (by omega) (fun c_75 => ?_) (fun c_75 => ?_) | refine A_icmp_ne (tgt := 82) d_M_addedBy_75 (by decide) (fun c_75 => ?_) (fun c_75 => ?_)
                · refine A_iconst (v := nI 2) d_M_addedBy_82 (by decide) ?_
                  refine A_aload_n0 d_M_addedBy_83 ?_
                  refine A_iload4 d_M_addedBy_84 ?_
                  refine A_iload_n2 d_M_addedBy_86 ?_
                  refine A_ior d_M_addedBy_87 ?_
                  refine A_topN (k := i ||| 2 ^ cc) (or8 hi (or8_lt hi hcc).1) ?_
                  refine A_callVP d_M_addedBy_88 (c_M_worthIn hM hG _ (or8_lt hi hcc).2) hM.o rfl q_1677 q_1679 qs_97 mk_M_worthIn rfl (by decide) rfl (Nat.le_of_ble_eq_true rfl) ⟨Nat.le_of_ble_eq_true rfl, Nat.le_of_ble_eq_true rfl⟩ ⟨rfl, rfl⟩ ?_
                  refine A_aload_n0 d_M_addedBy_91 ?_
                  refine A_iload4 d_M_addedBy_92 ?_
                  refine A_callVP d_M_addedBy_94 (c_M_worthIn hM hG i hi) hM.o rfl q_1677 q_1679 qs_97 mk_M_worthIn rfl (by decide) rfl (Nat.le_of_ble_eq_true rfl) ⟨Nat.le_of_ble_eq_true rfl, Nat.le_of_ble_eq_true rfl⟩ ⟨rfl, rfl⟩ ?_
                  skip
                  refine A_isub d_M_addedBy_97 ?_
                  first | refine A_imulN d_M_addedBy_98 (by with_reducible rfl) (by with_reducible rfl) ?_ | refine A_imul d_M_addedBy_98 ?_
                  first | refine A_iaddN d_M_addedBy_99 (by with_reducible rfl) (by with_reducible rfl) ?_ | refine A_iadd d_M_addedBy_99 ?_
                  refine A_istore3 d_M_addedBy_100 trivial ?_
                  first | refine A_iinc4 d_M_addedBy_101 (nI_1 _) trivial ?_ | refine A_iinc4 d_M_addedBy_101 rfl trivial ?_
                  refine A_goto (tgt := 9) d_M_addedBy_104 (by decide) ?_
                  first | (refine A_drop5 ?_; exact A_loc (by simp only [foldN, addF, c_13, c_22, c_31, c_45, c_60, c_75, reduceIte, Bool.false_eq_true]) ih) | exact A_loc (by simp only [foldN, addF, c_13, c_22, c_31, c_45, c_60, c_75, reduceIte, Bool.false_eq_true]) ih
                · refine A_iconst (v := nI 1) d_M_addedBy_78 (by decide) ?_
                  refine A_goto (tgt := 83) d_M_addedBy_79 (by decide) ?_
                  refine A_aload_n0 d_M_addedBy_83 ?_
                  refine A_iload4 d_M_addedBy_84 ?_
                  refine A_iload_n2 d_M_addedBy_86 ?_
                  refine A_ior d_M_addedBy_87 ?_
                  refine A_topN (k := i ||| 2 ^ cc) (or8 hi (or8_lt hi hcc).1) ?_
                  refine A_callVP d_M_addedBy_88 (c_M_worthIn hM hG _ (or8_lt hi hcc).2) hM.o rfl q_1677 q_1679 qs_97 mk_M_worthIn rfl (by decide) rfl (Nat.le_of_ble_eq_true rfl) ⟨Nat.le_of_ble_eq_true rfl, Nat.le_of_ble_eq_true rfl⟩ ⟨rfl, rfl⟩ ?_
                  refine A_aload_n0 d_M_addedBy_91 ?_
                  refine A_iload4 d_M_addedBy_92 ?_
                  refine A_callVP d_M_addedBy_94 (c_M_worthIn hM hG i hi) hM.o rfl q_1677 q_1679 qs_97 mk_M_worthIn rfl (by decide) rfl (Nat.le_of_ble_eq_true rfl) ⟨Nat.le_of_ble_eq_true rfl, Nat.le_of_ble_eq_true rfl⟩ ⟨rfl, rfl⟩ ?_
                  skip
                  refine A_isub d_M_addedBy_97 ?_
                  first | refine A_imulN d_M_addedBy_98 (by with_reducible rfl) (by with_reducible rfl) ?_ | refine A_imul d_M_addedBy_98 ?_
                  first | refine A_iaddN d_M_addedBy_99 (by with_reducible rfl) (by with_reducible rfl) ?_ | refine A_iadd d_M_addedBy_99 ?_
                  refine A_istore3 d_M_addedBy_100 trivial ?_
                  first | refine A_iinc4 d_M_addedBy_101 (nI_1 _) trivial ?_ | refine A_iinc4 d_M_addedBy_101 rfl trivial ?_
                  refine A_goto (tgt := 9) d_M_addedBy_104 (by decide) ?_
                  first | (refine A_drop5 ?_; exact A_loc (by simp only [foldN, addF, c_13, c_22, c_31, c_45, c_60, c_75, reduceIte, Bool.false_eq_true]) ih) | exact A_loc (by simp only [foldN, addF, c_13, c_22, c_31, c_45, c_60, c_75, reduceIte, Bool.false_eq_true]) ih
            · refine A_iconst (v := nI 1) d_M_addedBy_48 (by decide) ?_
              refine A_goto (tgt := 53) d_M_addedBy_49 (by decide) ?_
              first | refine A_iaddN d_M_addedBy_53 (by with_reducible rfl) (by with_reducible rfl) ?_ | refine A_iadd d_M_addedBy_53 ?_
              refine A_iload4 d_M_addedBy_54 ?_
              refine A_iconst (v := nI 2) d_M_addedBy_56 (by decide) ?_
              refine A_callSP d_M_addedBy_57 (c_M_has _ _ _) q_1553 q_1554 mk_M_has rfl (by decide) rfl (Nat.le_of_ble_eq_true rfl) ⟨Nat.le_of_ble_eq_true rfl, Nat.le_of_ble_eq_true rfl⟩ ⟨rfl, rfl⟩ ?_
              refine A_if_eqB (tgt := 67) d_M_addedBy_60 (by decide) (fun c_60 => ?_) (fun c_60 => ?_)
              · refine A_iconst (v := nI 0) d_M_addedBy_67 (by decide) ?_
                first | refine A_iaddN d_M_addedBy_68 (by with_reducible rfl) (by with_reducible rfl) ?_ | refine A_iadd d_M_addedBy_68 ?_
                refine A_topN (k := aheadN i) (by unfold aheadN uB; simp only [c_13, c_22, c_31, c_45, c_60, reduceIte, Bool.false_eq_true]) ?_
                refine A_istore5 d_M_addedBy_69 trivial ?_
                refine A_iload_n3 d_M_addedBy_71 ?_
                refine A_iload5 d_M_addedBy_72 ?_
                refine A_iconst (v := nI 1) d_M_addedBy_74 (by decide) ?_
                first | refine A_icmp_neN (tgt := 82) d_M_addedBy_75 (by decide) (by with_reducible rfl) (by with_reducible rfl) (by omega) (by omega) (fun c_75 => ?_) (fun c_75 => ?_) | refine A_icmp_ne (tgt := 82) d_M_addedBy_75 (by decide) (fun c_75 => ?_) (fun c_75 => ?_)
                · refine A_iconst (v := nI 2) d_M_addedBy_82 (by decide) ?_
                  refine A_aload_n0 d_M_addedBy_83 ?_
                  refine A_iload4 d_M_addedBy_84 ?_
                  refine A_iload_n2 d_M_addedBy_86 ?_
                  refine A_ior d_M_addedBy_87 ?_
                  refine A_topN (k := i ||| 2 ^ cc) (or8 hi (or8_lt hi hcc).1) ?_
                  refine A_callVP d_M_addedBy_88 (c_M_worthIn hM hG _ (or8_lt hi hcc).2) hM.o rfl q_1677 q_1679 qs_97 mk_M_worthIn rfl (by decide) rfl (Nat.le_of_ble_eq_true rfl) ⟨Nat.le_of_ble_eq_true rfl, Nat.le_of_ble_eq_true rfl⟩ ⟨rfl, rfl⟩ ?_
                  refine A_aload_n0 d_M_addedBy_91 ?_
                  refine A_iload4 d_M_addedBy_92 ?_
                  refine A_callVP d_M_addedBy_94 (c_M_worthIn hM hG i hi) hM.o rfl q_1677 q_1679 qs_97 mk_M_worthIn rfl (by decide) rfl (Nat.le_of_ble_eq_true rfl) ⟨Nat.le_of_ble_eq_true rfl, Nat.le_of_ble_eq_true rfl⟩ ⟨rfl, rfl⟩ ?_
                  skip
                  refine A_isub d_M_addedBy_97 ?_
                  first | refine A_imulN d_M_addedBy_98 (by with_reducible rfl) (by with_reducible rfl) ?_ | refine A_imul d_M_addedBy_98 ?_
                  first | refine A_iaddN d_M_addedBy_99 (by with_reducible rfl) (by with_reducible rfl) ?_ | refine A_iadd d_M_addedBy_99 ?_
                  refine A_istore3 d_M_addedBy_100 trivial ?_
                  first | refine A_iinc4 d_M_addedBy_101 (nI_1 _) trivial ?_ | refine A_iinc4 d_M_addedBy_101 rfl trivial ?_
                  refine A_goto (tgt := 9) d_M_addedBy_104 (by decide) ?_
                  first | (refine A_drop5 ?_; exact A_loc (by simp only [foldN, addF, c_13, c_22, c_31, c_45, c_60, c_75, reduceIte, Bool.false_eq_true]) ih) | exact A_loc (by simp only [foldN, addF, c_13, c_22, c_31, c_45, c_60, c_75, reduceIte, Bool.false_eq_true]) ih
                · refine A_iconst (v := nI 1) d_M_addedBy_78 (by decide) ?_
                  refine A_goto (tgt := 83) d_M_addedBy_79 (by decide) ?_
                  refine A_aload_n0 d_M_addedBy_83 ?_
                  refine A_iload4 d_M_addedBy_84 ?_
                  refine A_iload_n2 d_M_addedBy_86 ?_
                  refine A_ior d_M_addedBy_87 ?_
                  refine A_topN (k := i ||| 2 ^ cc) (or8 hi (or8_lt hi hcc).1) ?_
                  refine A_callVP d_M_addedBy_88 (c_M_worthIn hM hG _ (or8_lt hi hcc).2) hM.o rfl q_1677 q_1679 qs_97 mk_M_worthIn rfl (by decide) rfl (Nat.le_of_ble_eq_true rfl) ⟨Nat.le_of_ble_eq_true rfl, Nat.le_of_ble_eq_true rfl⟩ ⟨rfl, rfl⟩ ?_
                  refine A_aload_n0 d_M_addedBy_91 ?_
                  refine A_iload4 d_M_addedBy_92 ?_
                  refine A_callVP d_M_addedBy_94 (c_M_worthIn hM hG i hi) hM.o rfl q_1677 q_1679 qs_97 mk_M_worthIn rfl (by decide) rfl (Nat.le_of_ble_eq_true rfl) ⟨Nat.le_of_ble_eq_true rfl, Nat.le_of_ble_eq_true rfl⟩ ⟨rfl, rfl⟩ ?_
                  skip
                  refine A_isub d_M_addedBy_97 ?_
                  first | refine A_imulN d_M_addedBy_98 (by with_reducible rfl) (by with_reducible rfl) ?_ | refine A_imul d_M_addedBy_98 ?_
                  first | refine A_iaddN d_M_addedBy_99 (by with_reducible rfl) (by with_reducible rfl) ?_ | refine A_iadd d_M_addedBy_99 ?_
                  refine A_istore3 d_M_addedBy_100 trivial ?_
                  first | refine A_iinc4 d_M_addedBy_101 (nI_1 _) trivial ?_ | refine A_iinc4 d_M_addedBy_101 rfl trivial ?_
                  refine A_goto (tgt := 9) d_M_addedBy_104 (by decide) ?_
                  first | (refine A_drop5 ?_; exact A_loc (by simp only [foldN, addF, c_13, c_22, c_31, c_45, c_60, c_75, reduceIte, Bool.false_eq_true]) ih) | exact A_loc (by simp only [foldN, addF, c_13, c_22, c_31, c_45, c_60, c_75, reduceIte, Bool.false_eq_true]) ih
              · refine A_iconst (v := nI 1) d_M_addedBy_63 (by decide) ?_
                refine A_goto (tgt := 68) d_M_addedBy_64 (by decide) ?_
                first | refine A_iaddN d_M_addedBy_68 (by with_reducible rfl) (by with_reducible rfl) ?_ | refine A_iadd d_M_addedBy_68 ?_
                refine A_topN (k := aheadN i) (by unfold aheadN uB; simp only [c_13, c_22, c_31, c_45, c_60, reduceIte, Bool.false_eq_true]) ?_
                refine A_istore5 d_M_addedBy_69 trivial ?_
                refine A_iload_n3 d_M_addedBy_71 ?_
                refine A_iload5 d_M_addedBy_72 ?_
                refine A_iconst (v := nI 1) d_M_addedBy_74 (by decide) ?_
                first | refine A_icmp_neN (tgt := 82) d_M_addedBy_75 (by decide) (by with_reducible rfl) (by with_reducible rfl) (by omega) (by omega) (fun c_75 => ?_) (fun c_75 => ?_) | refine A_icmp_ne (tgt := 82) d_M_addedBy_75 (by decide) (fun c_75 => ?_) (fun c_75 => ?_)
                · refine A_iconst (v := nI 2) d_M_addedBy_82 (by decide) ?_
                  refine A_aload_n0 d_M_addedBy_83 ?_
                  refine A_iload4 d_M_addedBy_84 ?_
                  refine A_iload_n2 d_M_addedBy_86 ?_
                  refine A_ior d_M_addedBy_87 ?_
                  refine A_topN (k := i ||| 2 ^ cc) (or8 hi (or8_lt hi hcc).1) ?_
                  refine A_callVP d_M_addedBy_88 (c_M_worthIn hM hG _ (or8_lt hi hcc).2) hM.o rfl q_1677 q_1679 qs_97 mk_M_worthIn rfl (by decide) rfl (Nat.le_of_ble_eq_true rfl) ⟨Nat.le_of_ble_eq_true rfl, Nat.le_of_ble_eq_true rfl⟩ ⟨rfl, rfl⟩ ?_
                  refine A_aload_n0 d_M_addedBy_91 ?_
                  refine A_iload4 d_M_addedBy_92 ?_
                  refine A_callVP d_M_addedBy_94 (c_M_worthIn hM hG i hi) hM.o rfl q_1677 q_1679 qs_97 mk_M_worthIn rfl (by decide) rfl (Nat.le_of_ble_eq_true rfl) ⟨Nat.le_of_ble_eq_true rfl, Nat.le_of_ble_eq_true rfl⟩ ⟨rfl, rfl⟩ ?_
                  skip
                  refine A_isub d_M_addedBy_97 ?_
                  first | refine A_imulN d_M_addedBy_98 (by with_reducible rfl) (by with_reducible rfl) ?_ | refine A_imul d_M_addedBy_98 ?_
                  first | refine A_iaddN d_M_addedBy_99 (by with_reducible rfl) (by with_reducible rfl) ?_ | refine A_iadd d_M_addedBy_99 ?_
                  refine A_istore3 d_M_addedBy_100 trivial ?_
                  first | refine A_iinc4 d_M_addedBy_101 (nI_1 _) trivial ?_ | refine A_iinc4 d_M_addedBy_101 rfl trivial ?_
                  refine A_goto (tgt := 9) d_M_addedBy_104 (by decide) ?_
                  first | (refine A_drop5 ?_; exact A_loc (by simp only [foldN, addF, c_13, c_22, c_31, c_45, c_60, c_75, reduceIte, Bool.false_eq_true]) ih) | exact A_loc (by simp only [foldN, addF, c_13, c_22, c_31, c_45, c_60, c_75, reduceIte, Bool.false_eq_true]) ih
                · refine A_iconst (v := nI 1) d_M_addedBy_78 (by decide) ?_
                  refine A_goto (tgt := 83) d_M_addedBy_79 (by decide) ?_
                  refine A_aload_n0 d_M_addedBy_83 ?_
                  refine A_iload4 d_M_addedBy_84 ?_
                  refine A_iload_n2 d_M_addedBy_86 ?_
                  refine A_ior d_M_addedBy_87 ?_
                  refine A_topN (k := i ||| 2 ^ cc) (or8 hi (or8_lt hi hcc).1) ?_
                  refine A_callVP d_M_addedBy_88 (c_M_worthIn hM hG _ (or8_lt hi hcc).2) hM.o rfl q_1677 q_1679 qs_97 mk_M_worthIn rfl (by decide) rfl (Nat.le_of_ble_eq_true rfl) ⟨Nat.le_of_ble_eq_true rfl, Nat.le_of_ble_eq_true rfl⟩ ⟨rfl, rfl⟩ ?_
                  refine A_aload_n0 d_M_addedBy_91 ?_
                  refine A_iload4 d_M_addedBy_92 ?_
                  refine A_callVP d_M_addedBy_94 (c_M_worthIn hM hG i hi) hM.o rfl q_1677 q_1679 qs_97 mk_M_worthIn rfl (by decide) rfl (Nat.le_of_ble_eq_true rfl) ⟨Nat.le_of_ble_eq_true rfl, Nat.le_of_ble_eq_true rfl⟩ ⟨rfl, rfl⟩ ?_
                  skip
                  refine A_isub d_M_addedBy_97 ?_
                  first | refine A_imulN d_M_addedBy_98 (by with_reducible rfl) (by with_reducible rfl) ?_ | refine A_imul d_M_addedBy_98 ?_
                  first | refine A_iaddN d_M_addedBy_99 (by with_reducible rfl) (by with_reducible rfl) ?_ | refine A_iadd d_M_addedBy_99 ?_
                  refine A_istore3 d_M_addedBy_100 trivial ?_
                  first | refine A_iinc4 d_M_addedBy_101 (nI_1 _) trivial ?_ | refine A_iinc4 d_M_addedBy_101 rfl trivial ?_
                  refine A_goto (tgt := 9) d_M_addedBy_104 (by decide) ?_
                  first | (refine A_drop5 ?_; exact A_loc (by simp only [foldN, addF, c_13, c_22, c_31, c_45, c_60, c_75, reduceIte, Bool.false_eq_true]) ih) | exact A_loc (by simp only [foldN, addF, c_13, c_22, c_31, c_45, c_60, c_75, reduceIte, Bool.false_eq_true]) ih
  refine Ctr.of (by decide +kernel) (by simp) (Nat.le_of_ble_eq_true rfl) (L0 := [some (.ref m), some (.int (nI cc)), none, none, none, none]) rfl ?_
  refine A_iconst (v := nI 1) d_M_addedBy_0 (by decide) ?_
  refine A_iload_n1 d_M_addedBy_1 ?_
  refine A_ishl d_M_addedBy_2 ?_
  refine A_topI (sh1 (by omega)) ?_
  refine A_istore2 d_M_addedBy_3 trivial ?_
  refine A_iconst (v := nI 0) d_M_addedBy_4 (by decide) ?_
  refine A_istore3 d_M_addedBy_5 trivial ?_
  refine A_iconst (v := nI 0) d_M_addedBy_6 (by decide) ?_
  refine A_istore4 d_M_addedBy_7 trivial ?_
  exact key 0 (Nat.zero_le _)
