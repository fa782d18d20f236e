def tirH (V : Nat → Nat) (x : Nat) : Nat → Nat := prodN (fun b => if hasB (nI x) (nI b) = true then V (30 + 2 * b + 1) else 1)
def allH (x : Nat) : Nat → Nat := prodN (fun b => if hasB (nI x) (nI b) = true then 10 else 1)
def cosH (V : Nat → Nat) (x : Nat) : Nat → Nat := sumN (fun b => if hasB (nI x) (nI b) = true then V (30 + 2 * b) else 0)
theorem allH_le (x : Nat) : ∀ n, allH x n ≤ 10 ^ n
  | 0 => Nat.le_refl _
  | n + 1 => by
    show allH x n * (if hasB (nI x) (nI n) = true then 10 else 1) ≤ 10 ^ (n + 1)
    rw [Nat.pow_succ]
    exact Nat.mul_le_mul (allH_le x n) (by split <;> omega)
theorem tirH_le {V : Nat → Nat} (ok : VOK V) (x : Nat) : ∀ n, n ≤ 6 → tirH V x n ≤ allH x n
  | 0, _ => Nat.le_refl _
  | n + 1, hn => by
    have hv := (ok.2.2.2.2.2.2.2.1 n (by omega)).2
    show tirH V x n * (if hasB (nI x) (nI n) = true then V (30 + 2 * n + 1) else 1) ≤ allH x n * (if hasB (nI x) (nI n) = true then 10 else 1)
    exact Nat.mul_le_mul (tirH_le ok x n (by omega)) (by split <;> omega)
theorem cosH_le {V : Nat → Nat} (ok : VOK V) (x : Nat) : ∀ n, n ≤ 6 → cosH V x n ≤ 99 * n
  | 0, _ => Nat.le_refl _
  | n + 1, hn => by
    have hv := (ok.2.2.2.2.2.2.2.1 n (by omega)).1
    have ih := cosH_le ok x n (by omega)
    show cosH V x n + (if hasB (nI x) (nI n) = true then V (30 + 2 * n) else 0) ≤ 99 * (n + 1)
    split <;> omega
def okH (V : Nat → Nat) (cc x : Nat) : Bool := decide (100 * tirH V x (V 5) ≤ cc * allH x (V 5))
/-- the cheapest of the first so many -/
def hiS (V : Nat → Nat) (cc : Nat) : Nat → Option Nat × Nat
  | 0 => (none, 1000000)
  | x + 1 => if okH V cc x = true ∧ cosH V x (V 5) < (hiS V cc x).2 then (some x, cosH V x (V 5)) else hiS V cc x
theorem hiS_le {V : Nat → Nat} (ok : VOK V) (cc : Nat) : ∀ n, (hiS V cc n).2 ≤ 1000000 ∧ ∀ x, (hiS V cc n).1 = some x → x < n
  | 0 => ⟨Nat.le_refl _, fun x h => by cases h⟩
  | n + 1 => by
    have ih := hiS_le ok cc n
    have h5 := ok.2.2.2.2.2.1
    have h6 := cosH_le ok n (V 5) h5
    show (if okH V cc n = true ∧ cosH V n (V 5) < (hiS V cc n).2 then (some n, cosH V n (V 5)) else hiS V cc n).2 ≤ 1000000 ∧ ∀ x, (if okH V cc n = true ∧ cosH V n (V 5) < (hiS V cc n).2 then (some n, cosH V n (V 5)) else hiS V cc n).1 = some x → x < n + 1
    split
    · exact ⟨by show cosH V n (V 5) ≤ _; omega, fun x h => by cases h; omega⟩
    · exact ⟨ih.1, fun x h => by have := ih.2 x h; omega⟩
def hireV (V : Nat → Nat) (cc : Nat) (w : Int32) : Int32 := match (hiS V cc (2 ^ V 5)).1 with
  | none => -1
  | some x => if w = 0 then nI (hiS V cc (2 ^ V 5)).2 else nI x
theorem shl6 : ∀ B, B < 7 → nI 1 <<< (nI B &&& 31) = nI (2 ^ B) := by decide +kernel
set_option maxHeartbeats 4000000 in
set_option maxRecDepth 100000 in
theorem c_M_hire3 {G : GE} {h0 h : AH} {m : Nat} {S : MS} (hM : MW h0 h m S) {l : Nat} {V : Nat → Nat} (hS : HS S l V) {K : Option Value → AH → Prop} {la w i4 i5 : Int32} {cc x : Nat} (hk : WA G y_M_hire b_M_hire 11 (some .int) r_M_hire 0 0 K 0 0 150 [some (.ref m), some (.int la), some (.int (nI cc)), some (.int w), some (.int i4), some (.int i5), some (.int (nI x)), some (.int (nI (tirH V x (V 5)))), some (.int (nI (allH x (V 5)))), some (.int (nI (cosH V x (V 5)))), none] [] h) : ∀ b, b ≤ V 5 → WA G y_M_hire b_M_hire 11 (some .int) r_M_hire 0 0 K 0 0 59 [some (.ref m), some (.int la), some (.int (nI cc)), some (.int w), some (.int i4), some (.int i5), some (.int (nI x)), some (.int (nI (tirH V x b))), some (.int (nI (allH x b))), some (.int (nI (cosH V x b))), some (.int (nI b))] [] h := by
  have ok := hS.ok
  have h5 := ok.2.2.2.2.2.1
  refine down ?_ (fun b hb ih => ?_)
  · refine A_iload10 d_M_hire_59 ?_
    refine A_aload_n0 d_M_hire_61 ?_
    refine A_getf (kf := 30) d_M_hire_62 hM.o ok_8 (by decide) q_1079 rfl ?_
    refine A_topI hS.bearers ?_
    first | refine A_icmp_geN (tgt := 150) d_M_hire_65 (by decide) (by with_reducible rfl) (by with_reducible rfl) (by omega) (by omega) (fun c_65 => ?_) (fun c_65 => ?_) | refine A_icmp_ge (tgt := 150) d_M_hire_65 (by decide) (fun c_65 => ?_) (fun c_65 => ?_)
    · exact A_drop10 hk
    · exact absurd c_65 (by omega)
  · refine A_iload10 d_M_hire_59 ?_
    refine A_aload_n0 d_M_hire_61 ?_
    refine A_getf (kf := 30) d_M_hire_62 hM.o ok_8 (by decide) q_1079 rfl ?_
    refine A_topI hS.bearers ?_
    first | refine A_icmp_geN (tgt := 150) d_M_hire_65 (by decide) (by with_reducible rfl) (by with_reducible rfl) (by omega) (by omega) (fun c_65 => ?_) (fun c_65 => ?_) | refine A_icmp_ge (tgt := 150) d_M_hire_65 (by decide) (fun c_65 => ?_) (fun c_65 => ?_)
    · exact absurd c_65 (by omega)
    · refine A_iload7 d_M_hire_68 ?_
      refine A_iload6 d_M_hire_70 ?_
      refine A_iload10 d_M_hire_72 ?_
      refine A_callSP d_M_hire_74 (c_M_has (nI x) (nI b) h) q_1553 q_1554 mk_M_has rfl (by decide) rfl (Nat.le_of_ble_eq_true rfl) ⟨Nat.le_of_ble_eq_true rfl, Nat.le_of_ble_eq_true rfl⟩ ⟨rfl, rfl⟩ ?_
      refine A_if_eqB (tgt := 89) d_M_hire_77 (by decide) (fun c_77 => ?_) (fun c_77 => ?_)
      · refine A_iconst (v := nI 1) d_M_hire_89 (by decide) ?_
        first | refine A_imulN d_M_hire_90 (by with_reducible rfl) (by with_reducible rfl) ?_ | refine A_imul d_M_hire_90 ?_
        refine A_istore7 d_M_hire_91 trivial ?_
        refine A_iload8 d_M_hire_93 ?_
        refine A_iload6 d_M_hire_95 ?_
        refine A_iload10 d_M_hire_97 ?_
        refine A_callSP d_M_hire_99 (c_M_has (nI x) (nI b) h) q_1553 q_1554 mk_M_has rfl (by decide) rfl (Nat.le_of_ble_eq_true rfl) ⟨Nat.le_of_ble_eq_true rfl, Nat.le_of_ble_eq_true rfl⟩ ⟨rfl, rfl⟩ ?_
        refine A_if_eqB (tgt := 110) d_M_hire_102 (by decide) (fun c_102 => ?_) (fun c => absurd (c_77.symm.trans c) (by decide))
        refine A_iconst (v := nI 1) d_M_hire_110 (by decide) ?_
        first | refine A_imulN d_M_hire_111 (by with_reducible rfl) (by with_reducible rfl) ?_ | refine A_imul d_M_hire_111 ?_
        refine A_istore8 d_M_hire_112 trivial ?_
        refine A_iload9 d_M_hire_114 ?_
        refine A_iload6 d_M_hire_116 ?_
        refine A_iload10 d_M_hire_118 ?_
        refine A_callSP d_M_hire_120 (c_M_has (nI x) (nI b) h) q_1553 q_1554 mk_M_has rfl (by decide) rfl (Nat.le_of_ble_eq_true rfl) ⟨Nat.le_of_ble_eq_true rfl, Nat.le_of_ble_eq_true rfl⟩ ⟨rfl, rfl⟩ ?_
        refine A_if_eqB (tgt := 140) d_M_hire_123 (by decide) (fun c_123 => ?_) (fun c => absurd (c_77.symm.trans c) (by decide))
        refine A_iconst (v := nI 0) d_M_hire_140 (by decide) ?_
        first | refine A_iaddN d_M_hire_141 (by with_reducible rfl) (by with_reducible rfl) ?_ | refine A_iadd d_M_hire_141 ?_
        refine A_istore9 d_M_hire_142 trivial ?_
        first | refine A_iinc10 d_M_hire_144 (nI_1 _) trivial ?_ | refine A_iinc10 d_M_hire_144 rfl trivial ?_
        refine A_goto (tgt := 59) d_M_hire_147 (by decide) ?_
        refine A_loc ?_ ih
        have e1 : tirH V x (b + 1) = tirH V x b * (if hasB (nI x) (nI b) = true then V (30 + 2 * b + 1) else 1) := rfl
        have e2 : allH x (b + 1) = allH x b * (if hasB (nI x) (nI b) = true then 10 else 1) := rfl
        have e3 : cosH V x (b + 1) = cosH V x b + (if hasB (nI x) (nI b) = true then V (30 + 2 * b) else 0) := rfl
        first | (rw [e1, e2, e3, if_pos c_77, if_pos c_77, if_pos c_77]; done) | (rw [e1, e2, e3, c_77, if_neg (by decide), if_neg (by decide), if_neg (by decide)]; done)
      · refine A_aload_n0 d_M_hire_80 ?_
        refine A_iload10 d_M_hire_81 ?_
        refine A_callVP d_M_hire_83 (c_M_tiredOf hM hS b (by omega)) hM.o rfl q_1623 q_1625 qs_89 mk_M_tiredOf rfl (by decide) rfl (Nat.le_of_ble_eq_true rfl) ⟨Nat.le_of_ble_eq_true rfl, Nat.le_of_ble_eq_true rfl⟩ ⟨rfl, rfl⟩ ?_
        refine A_goto (tgt := 90) d_M_hire_86 (by decide) ?_
        first | refine A_imulN d_M_hire_90 (by with_reducible rfl) (by with_reducible rfl) ?_ | refine A_imul d_M_hire_90 ?_
        refine A_istore7 d_M_hire_91 trivial ?_
        refine A_iload8 d_M_hire_93 ?_
        refine A_iload6 d_M_hire_95 ?_
        refine A_iload10 d_M_hire_97 ?_
        refine A_callSP d_M_hire_99 (c_M_has (nI x) (nI b) h) q_1553 q_1554 mk_M_has rfl (by decide) rfl (Nat.le_of_ble_eq_true rfl) ⟨Nat.le_of_ble_eq_true rfl, Nat.le_of_ble_eq_true rfl⟩ ⟨rfl, rfl⟩ ?_
        refine A_if_eqB (tgt := 110) d_M_hire_102 (by decide) (fun c => absurd (c_77.symm.trans c) (by decide)) (fun c_102 => ?_)
        refine A_bipush (v := nI 10) d_M_hire_105 (by decide) ?_
        refine A_goto (tgt := 111) d_M_hire_107 (by decide) ?_
        first | refine A_imulN d_M_hire_111 (by with_reducible rfl) (by with_reducible rfl) ?_ | refine A_imul d_M_hire_111 ?_
        refine A_istore8 d_M_hire_112 trivial ?_
        refine A_iload9 d_M_hire_114 ?_
        refine A_iload6 d_M_hire_116 ?_
        refine A_iload10 d_M_hire_118 ?_
        refine A_callSP d_M_hire_120 (c_M_has (nI x) (nI b) h) q_1553 q_1554 mk_M_has rfl (by decide) rfl (Nat.le_of_ble_eq_true rfl) ⟨Nat.le_of_ble_eq_true rfl, Nat.le_of_ble_eq_true rfl⟩ ⟨rfl, rfl⟩ ?_
        refine A_if_eqB (tgt := 140) d_M_hire_123 (by decide) (fun c => absurd (c_77.symm.trans c) (by decide)) (fun c_123 => ?_)
        refine A_aload_n0 d_M_hire_126 ?_
        refine A_bipush (v := nI 30) d_M_hire_127 (by decide) ?_
        refine A_iconst (v := nI 2) d_M_hire_129 (by decide) ?_
        refine A_iload10 d_M_hire_130 ?_
        first | refine A_imulN d_M_hire_132 (by with_reducible rfl) (by with_reducible rfl) ?_ | refine A_imul d_M_hire_132 ?_
        first | refine A_iaddN d_M_hire_133 (by with_reducible rfl) (by with_reducible rfl) ?_ | refine A_iadd d_M_hire_133 ?_
        refine A_callVP d_M_hire_134 (c_M_of hM hS (30 + 2 * b) (by omega)) hM.o rfl q_1343 q_1345 qs_36 mk_M_of rfl (by decide) rfl (Nat.le_of_ble_eq_true rfl) ⟨Nat.le_of_ble_eq_true rfl, Nat.le_of_ble_eq_true rfl⟩ ⟨rfl, rfl⟩ ?_
        refine A_goto (tgt := 141) d_M_hire_137 (by decide) ?_
        first | refine A_iaddN d_M_hire_141 (by with_reducible rfl) (by with_reducible rfl) ?_ | refine A_iadd d_M_hire_141 ?_
        refine A_istore9 d_M_hire_142 trivial ?_
        first | refine A_iinc10 d_M_hire_144 (nI_1 _) trivial ?_ | refine A_iinc10 d_M_hire_144 rfl trivial ?_
        refine A_goto (tgt := 59) d_M_hire_147 (by decide) ?_
        refine A_loc ?_ ih
        have e1 : tirH V x (b + 1) = tirH V x b * (if hasB (nI x) (nI b) = true then V (30 + 2 * b + 1) else 1) := rfl
        have e2 : allH x (b + 1) = allH x b * (if hasB (nI x) (nI b) = true then 10 else 1) := rfl
        have e3 : cosH V x (b + 1) = cosH V x b + (if hasB (nI x) (nI b) = true then V (30 + 2 * b) else 0) := rfl
        first | (rw [e1, e2, e3, if_pos c_77, if_pos c_77, if_pos c_77]; done) | (rw [e1, e2, e3, c_77, if_neg (by decide), if_neg (by decide), if_neg (by decide)]; done)
set_option maxHeartbeats 4000000 in
set_option maxRecDepth 100000 in
theorem c_M_hire2 {G : GE} {h0 h : AH} {m : Nat} {S0 S : MS} (hM : MW h0 h m S) (hk0 : Keep S0 S) {l : Nat} {V : Nat → Nat} (hS : HS S l V) (la w : Int32) {cc : Nat} (hcc : cc ≤ 100) : WA G y_M_hire b_M_hire 11 (some .int) r_M_hire 0 0 (TK h0 m S0 (.int (hireV V cc w))) 0 0 25 [some (.ref m), some (.int la), some (.int (nI cc)), some (.int w), none, none, none, none, none, none, none] [] h := by
  have ok := hS.ok
  have h5 := ok.2.2.2.2.2.1
  have hp2 : 2 ^ V 5 ≤ 2 ^ 6 := Nat.pow_le_pow_right (by decide) h5
  have key : ∀ x, x ≤ 2 ^ V 5 → WA G y_M_hire b_M_hire 11 (some .int) r_M_hire 0 0 (TK h0 m S0 (.int (hireV V cc w))) 0 0 36 [some (.ref m), some (.int la), some (.int (nI cc)), some (.int w), some (.int (encN (hiS V cc x).1)), some (.int (nI (hiS V cc x).2)), some (.int (nI x)), none, none, none, none] [] h := by
    refine down ?_ (fun x hx ih => ?_)
    · refine A_iload6 d_M_hire_36 ?_
      refine A_iconst (v := nI 1) d_M_hire_38 (by decide) ?_
      refine A_aload_n0 d_M_hire_39 ?_
      refine A_getf (kf := 30) d_M_hire_40 hM.o ok_8 (by decide) q_1079 rfl ?_
      refine A_topI hS.bearers ?_
      refine A_ishl d_M_hire_43 ?_
      refine A_topI (shl6 _ (by omega)) ?_
      first | refine A_icmp_geN (tgt := 210) d_M_hire_44 (by decide) (by with_reducible rfl) (by with_reducible rfl) (by omega) (by omega) (fun c_44 => ?_) (fun c_44 => ?_) | refine A_icmp_ge (tgt := 210) d_M_hire_44 (by decide) (fun c_44 => ?_) (fun c_44 => ?_)
      · cases hq : (hiS V cc (2 ^ V 5)).1
        · refine A_iload4 d_M_hire_210 ?_
          refine A_iconst (v := (-1)) d_M_hire_212 (by decide) ?_
          refine A_icmp_ne (tgt := 220) d_M_hire_213 (by decide) (fun c => absurd rfl c) (fun c_213 => ?_)
          refine A_iconst (v := (-1)) d_M_hire_216 (by decide) ?_
          refine A_goto (tgt := 231) d_M_hire_217 (by decide) ?_
          refine A_iret d_M_hire_231 rfl ⟨Nat.zero_le _, Nat.zero_le _⟩ ?_
          exact tk hM hk0 (by unfold hireV; rw [hq])
        · rename_i x0
          have hx0 := (hiS_le ok cc (2 ^ V 5)).2 x0 hq
          refine A_iload4 d_M_hire_210 ?_
          refine A_iconst (v := (-1)) d_M_hire_212 (by decide) ?_
          refine A_icmp_ne (tgt := 220) d_M_hire_213 (by decide) (fun c_213 => ?_) (fun c => absurd c (nI_neM1 (by omega)))
          refine A_iload_n3 d_M_hire_220 ?_
          first | refine A_if_eqN (tgt := 229) d_M_hire_221 (by decide) (by with_reducible rfl) (by omega) (fun c_221 => ?_) (fun c_221 => ?_) | refine A_if_eq (tgt := 229) d_M_hire_221 (by decide) (fun c_221 => ?_) (fun c_221 => ?_)
          · refine A_iload5 d_M_hire_229 ?_
            refine A_iret d_M_hire_231 rfl ⟨Nat.zero_le _, Nat.zero_le _⟩ ?_
            refine tk hM hk0 ?_
            unfold hireV
            rw [hq]
            first
              | (show _ = Value.int (if w = 0 then nI (hiS V cc (2 ^ V 5)).2 else nI x0)
                 rw [if_pos c_221]
                 done)
              | (show _ = Value.int (if w = 0 then nI (hiS V cc (2 ^ V 5)).2 else nI x0)
                 rw [if_neg c_221]
                 rfl)
          · refine A_iload4 d_M_hire_224 ?_
            refine A_goto (tgt := 231) d_M_hire_226 (by decide) ?_
            refine A_iret d_M_hire_231 rfl ⟨Nat.zero_le _, Nat.zero_le _⟩ ?_
            refine tk hM hk0 ?_
            unfold hireV
            rw [hq]
            first
              | (show _ = Value.int (if w = 0 then nI (hiS V cc (2 ^ V 5)).2 else nI x0)
                 rw [if_pos c_221]
                 done)
              | (show _ = Value.int (if w = 0 then nI (hiS V cc (2 ^ V 5)).2 else nI x0)
                 rw [if_neg c_221]
                 rfl)
      · exact absurd c_44 (by omega)
    · refine A_iload6 d_M_hire_36 ?_
      refine A_iconst (v := nI 1) d_M_hire_38 (by decide) ?_
      refine A_aload_n0 d_M_hire_39 ?_
      refine A_getf (kf := 30) d_M_hire_40 hM.o ok_8 (by decide) q_1079 rfl ?_
      refine A_topI hS.bearers ?_
      refine A_ishl d_M_hire_43 ?_
      refine A_topI (shl6 _ (by omega)) ?_
      first | refine A_icmp_geN (tgt := 210) d_M_hire_44 (by decide) (by with_reducible rfl) (by with_reducible rfl) (by omega) (by omega) (fun c_44 => ?_) (fun c_44 => ?_) | refine A_icmp_ge (tgt := 210) d_M_hire_44 (by decide) (fun c_44 => ?_) (fun c_44 => ?_)
      · exact absurd c_44 (by omega)
      · refine A_iconst (v := nI 1) d_M_hire_47 (by decide) ?_
        refine A_istore7 d_M_hire_48 trivial ?_
        refine A_iconst (v := nI 1) d_M_hire_50 (by decide) ?_
        refine A_istore8 d_M_hire_51 trivial ?_
        refine A_iconst (v := nI 0) d_M_hire_53 (by decide) ?_
        refine A_istore9 d_M_hire_54 trivial ?_
        refine A_iconst (v := nI 0) d_M_hire_56 (by decide) ?_
        refine A_istore10 d_M_hire_57 trivial ?_
        have hst : hiS V cc (x + 1) = if okH V cc x = true ∧ cosH V x (V 5) < (hiS V cc x).2 then (some x, cosH V x (V 5)) else hiS V cc x := rfl
        have hal := allH_le x (V 5)
        have hti := tirH_le ok x (V 5) h5
        have hco := cosH_le ok x (V 5) h5
        have hp6 : 10 ^ V 5 ≤ 10 ^ 6 := Nat.pow_le_pow_right (by decide) h5
        have hle := (hiS_le ok cc x).1
        have hca : cc * allH x (V 5) ≤ 100 * 10 ^ 6 := Nat.mul_le_mul hcc (by omega)
        refine c_M_hire3 hM hS ?_ 0 (Nat.zero_le _)
        refine A_bipush (v := nI 100) d_M_hire_150 (by decide) ?_
        refine A_iload7 d_M_hire_152 ?_
        first | refine A_imulN d_M_hire_154 (by with_reducible rfl) (by with_reducible rfl) ?_ | refine A_imul d_M_hire_154 ?_
        refine A_iload_n2 d_M_hire_155 ?_
        refine A_iload8 d_M_hire_156 ?_
        first | refine A_imulN d_M_hire_158 (by with_reducible rfl) (by with_reducible rfl) ?_ | refine A_imul d_M_hire_158 ?_
        first | refine A_icmp_gtN (tgt := 173) d_M_hire_159 (by decide) (by with_reducible rfl) (by with_reducible rfl) (by omega) (by omega) (fun c_159 => ?_) (fun c_159 => ?_) | refine A_icmp_gt (tgt := 173) d_M_hire_159 (by decide) (fun c_159 => ?_) (fun c_159 => ?_)
        · refine A_iconst (v := nI 0) d_M_hire_173 (by decide) ?_
          refine A_istore10 d_M_hire_174 trivial ?_
          refine A_iload10 d_M_hire_176 ?_
          refine A_if_eq (tgt := 186) d_M_hire_178 (by decide) (fun c_178 => ?_) (fun c => absurd (by decide) c)
          refine A_iload4 d_M_hire_186 ?_
          refine A_istore4 d_M_hire_188 trivial ?_
          refine A_iload10 d_M_hire_190 ?_
          refine A_if_eq (tgt := 200) d_M_hire_192 (by decide) (fun c_192 => ?_) (fun c => absurd (by decide) c)
          refine A_iload5 d_M_hire_200 ?_
          refine A_istore5 d_M_hire_202 trivial ?_
          first | refine A_iinc6 d_M_hire_204 (nI_1 _) trivial ?_ | refine A_iinc6 d_M_hire_204 rfl trivial ?_
          refine A_goto (tgt := 36) d_M_hire_207 (by decide) ?_
          refine A_drop7 (A_drop8 (A_drop9 (A_drop10 (A_loc ?_ ih))))
          rw [hst]
          first
            | (rw [if_pos ⟨decide_eq_true (by omega), by omega⟩]; rfl)
            | (rw [if_neg (fun q => by have q1 := of_decide_eq_true q.1; omega)]; done)
        · refine A_iload9 d_M_hire_162 ?_
          refine A_iload5 d_M_hire_164 ?_
          first | refine A_icmp_geN (tgt := 173) d_M_hire_166 (by decide) (by with_reducible rfl) (by with_reducible rfl) (by omega) (by omega) (fun c_166 => ?_) (fun c_166 => ?_) | refine A_icmp_ge (tgt := 173) d_M_hire_166 (by decide) (fun c_166 => ?_) (fun c_166 => ?_)
          · refine A_iconst (v := nI 0) d_M_hire_173 (by decide) ?_
            refine A_istore10 d_M_hire_174 trivial ?_
            refine A_iload10 d_M_hire_176 ?_
            refine A_if_eq (tgt := 186) d_M_hire_178 (by decide) (fun c_178 => ?_) (fun c => absurd (by decide) c)
            refine A_iload4 d_M_hire_186 ?_
            refine A_istore4 d_M_hire_188 trivial ?_
            refine A_iload10 d_M_hire_190 ?_
            refine A_if_eq (tgt := 200) d_M_hire_192 (by decide) (fun c_192 => ?_) (fun c => absurd (by decide) c)
            refine A_iload5 d_M_hire_200 ?_
            refine A_istore5 d_M_hire_202 trivial ?_
            first | refine A_iinc6 d_M_hire_204 (nI_1 _) trivial ?_ | refine A_iinc6 d_M_hire_204 rfl trivial ?_
            refine A_goto (tgt := 36) d_M_hire_207 (by decide) ?_
            refine A_drop7 (A_drop8 (A_drop9 (A_drop10 (A_loc ?_ ih))))
            rw [hst]
            first
              | (rw [if_pos ⟨decide_eq_true (by omega), by omega⟩]; rfl)
              | (rw [if_neg (fun q => by have q1 := of_decide_eq_true q.1; omega)]; done)
          · refine A_iconst (v := nI 1) d_M_hire_169 (by decide) ?_
            refine A_goto (tgt := 174) d_M_hire_170 (by decide) ?_
            refine A_istore10 d_M_hire_174 trivial ?_
            refine A_iload10 d_M_hire_176 ?_
            refine A_if_eq (tgt := 186) d_M_hire_178 (by decide) (fun c => absurd c (by decide)) (fun c_178 => ?_)
            refine A_iload6 d_M_hire_181 ?_
            refine A_goto (tgt := 188) d_M_hire_183 (by decide) ?_
            refine A_istore4 d_M_hire_188 trivial ?_
            refine A_iload10 d_M_hire_190 ?_
            refine A_if_eq (tgt := 200) d_M_hire_192 (by decide) (fun c => absurd c (by decide)) (fun c_192 => ?_)
            refine A_iload9 d_M_hire_195 ?_
            refine A_goto (tgt := 202) d_M_hire_197 (by decide) ?_
            refine A_istore5 d_M_hire_202 trivial ?_
            first | refine A_iinc6 d_M_hire_204 (nI_1 _) trivial ?_ | refine A_iinc6 d_M_hire_204 rfl trivial ?_
            refine A_goto (tgt := 36) d_M_hire_207 (by decide) ?_
            refine A_drop7 (A_drop8 (A_drop9 (A_drop10 (A_loc ?_ ih))))
            rw [hst]
            first
              | (rw [if_pos ⟨decide_eq_true (by omega), by omega⟩]; rfl)
              | (rw [if_neg (fun q => by have q1 := of_decide_eq_true q.1; omega)]; done)
  refine A_iconst (v := (-1)) d_M_hire_25 (by decide) ?_
  refine A_istore4 d_M_hire_26 trivial ?_
  refine A_ldcw d_M_hire_28 q_1395 ?_
  refine A_istore5 d_M_hire_31 trivial ?_
  refine A_iconst (v := nI 0) d_M_hire_33 (by decide) ?_
  refine A_istore6 d_M_hire_34 trivial ?_
  exact key 0 (Nat.zero_le _)
theorem hiO {n : Nat} {VL : Nat → Nat → Nat} {la ca w : Int32} (h : inB ca (nI 0) (nI 100) = false) : pick n la (fun l => rg ca 0 100 (fun cc => hireV (VL l) cc w) (-1)) (-1) = -1 := pick_const (fun l => rg_out h)
set_option maxHeartbeats 4000000 in
set_option maxRecDepth 100000 in
theorem c_M_hire {G : GE} {h0 h : AH} {m : Nat} {S : MS} (hM : MW h0 h m S) {c : Nat → Nat} {VL WT BK SG GM : Nat → Nat → Nat} (hp : MP S c VL WT BK SG GM) (la ca w : Int32) : Ctr G y_M_hire b_M_hire 11 (some .int) r_M_hire [.ref m, .int la, .int ca, .int w] h (TK h0 m S (.int (pick (c 0) la (fun l => rg ca 0 100 (fun cc => hireV (VL l) cc w) (-1)) (-1)))) := by
  have hc0 := (hp.1 0 (by decide)).2
  refine Ctr.of (by decide +kernel) (by simp) (Nat.le_of_ble_eq_true rfl) (L0 := [some (.ref m), some (.int la), some (.int ca), some (.int w), none, none, none, none, none, none, none]) rfl ?_
  refine A_aload_n0 d_M_hire_0 ?_
  refine A_iconst (v := nI 0) d_M_hire_1 (by decide) ?_
  refine A_putM hM (kf := 0) (ty := .int) d_M_hire_2 (by decide) q_1049 rfl (by decide +kernel) (by first | rfl | exact bI_nar _) rfl (Nat.le_of_ble_eq_true rfl) rfl (fun h hM => ?_)
  have hp := hp.keep (Keep.sf _ 0 (nI 0))
  refine A_iload_n2 d_M_hire_5 ?_
  refine A_iconst (v := nI 0) d_M_hire_6 (by decide) ?_
  refine A_bipush (v := nI 100) d_M_hire_7 (by decide) ?_
  refine A_callSP d_M_hire_9 (c_M_in _ _ _ _) q_1231 q_1232 mk_M_in rfl (by decide) rfl (Nat.le_of_ble_eq_true rfl) ⟨Nat.le_of_ble_eq_true rfl, Nat.le_of_ble_eq_true rfl⟩ ⟨rfl, rfl⟩ ?_
  refine A_if_eqB (tgt := 23) d_M_hire_12 (by decide) (fun c_12 => ?_) (fun c_12 => ?_)
  · refine A_iconst (v := (-1)) d_M_hire_23 (by decide) ?_
    refine A_iret d_M_hire_24 rfl ⟨Nat.zero_le _, Nat.zero_le _⟩ ?_
    first | exact tk hM (fun _ _ => rfl) (by rw [hiO c_12]) | exact tk hM (fun _ _ => rfl) (by rw [pick_out q])
  · obtain ⟨cc, rfl, hc1, hc2⟩ := inB_ex (by decide) c_12
    refine A_aload_n0 d_M_hire_15 ?_
    refine A_iload_n1 d_M_hire_16 ?_
    refine A_callV d_M_hire_17 (c_M_hand hM (hp.1 0 (by decide)).1 (hp.1 0 (by decide)).2 hp.2.1 la) hM.o rfl q_1339 q_1341 qs_35 mk_M_hand rfl (by decide) rfl (Nat.le_of_ble_eq_true rfl) ⟨Nat.le_of_ble_eq_true rfl, Nat.le_of_ble_eq_true rfl⟩ (fun v h1 hv => ?_)
    rcases hv with ⟨l', rfl, hl, rfl, hM⟩ | ⟨q, rfl, rfl⟩
    · have hVl := hp.2.1 l' hl
      have hS := HS_hand hVl
      obtain ⟨b0, b1, b2, b3, b4, b5, bp, bb, bt⟩ := hVl.2.1
      refine A_if_neB (tgt := 25) d_M_hire_20 (by decide) (fun c_20 => ?_) (fun c => absurd c (by decide))
      rw [pick_in hl (by omega), rg_in ⟨hc1, hc2⟩ (by decide)]
      exact c_M_hire2 hM (fun _ _ => rfl) hS _ _ hc2
    · refine A_if_neB (tgt := 25) d_M_hire_20 (by decide) (fun c => absurd c (by decide)) (fun c_20 => ?_)
      refine A_iconst (v := (-1)) d_M_hire_23 (by decide) ?_
      refine A_iret d_M_hire_24 rfl ⟨Nat.zero_le _, Nat.zero_le _⟩ ?_
      first | exact tk hM (fun _ _ => rfl) (by rw [hiO c_12]) | exact tk hM (fun _ _ => rfl) (by rw [pick_out q])
