section PLR2
variable {G : GE} {y : MethodName} {cc : ByteArray} {nL : Nat} {ret : Option FieldType} {R : Room} {mc ms : Nat} {K : Option Value → AH → Prop} {u n pc : Nat} {L : List (Option Value)} {st : List Value} {h0 h : AH} {r rx ry : Nat} {Z : PC}
theorem A_plBe {i : Nat} {x : Int64} (d : decode cc pc = .ok (.lastore, 1)) (M : PlW h0 h r rx ry Z) (hi : i < 1400)
    (k : ∀ h1, PlW h0 h1 r rx ry (Z.1, Z.2.1, fup Z.2.2.1 i x, Z.2.2.2.1, Z.2.2.2.2.1, Z.2.2.2.2.2.1, Z.2.2.2.2.2.2) → WA G y cc nL ret R mc ms K u n (pc + 1) L st h1) : WA G y cc nL ret R mc ms K u n pc L (.long x :: .int (nI i) :: .ref rx :: st) h :=
  A_lastN d M.1.be ⟨hi, by decide⟩ (by have := M.1.ge; have := M.1.xy; omega) (k _ (M.sbe _))
theorem A_plTh {i : Nat} {x : Int64} (d : decode cc pc = .ok (.lastore, 1)) (M : PlW h0 h r rx ry Z) (hi : i < 1400)
    (k : ∀ h1, PlW h0 h1 r rx ry (Z.1, Z.2.1, Z.2.2.1, fup Z.2.2.2.1 i x, Z.2.2.2.2.1, Z.2.2.2.2.2.1, Z.2.2.2.2.2.2) → WA G y cc nL ret R mc ms K u n (pc + 1) L st h1) : WA G y cc nL ret R mc ms K u n pc L (.long x :: .int (nI i) :: .ref ry :: st) h :=
  A_lastN d M.1.th ⟨hi, by decide⟩ (by have := M.1.ge; have := M.1.xy; omega) (k _ (M.sth _))
end PLR2
theorem carD_le {V : Nat → Nat} (ok : VOK V) : carD V ≤ 25 := by
  have := ok.1.2
  have hdv : V 0 / (V 1 + 1) ≤ V 0 := Nat.div_le_self _ _
  unfold carD
  split <;> omega
def clN (H Ca s d k : Nat) : Nat := (s * (H + 1) + d) * Ca + k
/-- the table after a state was entered: dk, ct what the state will be, v its score -/
def enT (L : Nat → Int64) (H Ca s dk ct : Nat) (v : Int64) : Nat → Int64 := if Ca ≤ ct ∨ H < dk then L else fup L (clN H Ca s dk ct) (if L (clN H Ca s dk ct) < v then v else L (clN H Ca s dk ct))
def enA (C fr s : Nat) : Nat := if carB fr s = true ∧ 0 < C then 1 else 0
def enV (Z : PC) (fr s hr : Nat) (sc : Int64) : Int64 := sc + scI Z s hr - (if carB fr s = true then (Z.2.2.2.2.2.2 hr).toInt64 * Z.2.1 else 0)
theorem cl_lt {V : Nat → Nat} (ok : VOK V) {s d k : Nat} (hs : s < 2 + 2 * V 1) (hd : d ≤ V 0) (hk : k < carD V) : clN (V 0) (carD V) s d k < 1400 := by
  have key : ∀ C, C < 4 → ∀ H, H < 25 → (2 + 2 * C) * (H + 1) * (if 0 < C then H / (C + 1) + 1 else 1) ≤ 1400 := by decide +kernel
  have h1 := key (V 1) (by have := ok.2.1; omega) (V 0) (by have := ok.1.2; omega)
  have h2 : s * (V 0 + 1) + (V 0 + 1) ≤ (2 + 2 * V 1) * (V 0 + 1) := by
    rw [← Nat.succ_mul]
    exact Nat.mul_le_mul_right _ hs
  have h3 : (s * (V 0 + 1) + d) * carD V + carD V ≤ (2 + 2 * V 1) * (V 0 + 1) * carD V := by
    rw [← Nat.succ_mul]
    exact Nat.mul_le_mul_right _ (by omega)
  have h4 : (2 + 2 * V 1) * (V 0 + 1) * carD V ≤ 1400 := h1
  unfold clN
  omega
set_option maxHeartbeats 4000000 in
set_option maxRecDepth 100000 in
theorem c_Pl_enter {G : GE} {h : AH} {r rx ry : Nat} {Z : PC} (hP : PlAt h r rx ry Z) {V : Nat → Nat} (ok : VOK V) (hI1 : PRI V Z.1) {s fr d k hr : Nat} (sc : Int64) (hs : s < 2 + 2 * V 1) (hfr : fr < 2 + 2 * V 1) (hd : d ≤ 24) (hk : k ≤ 24) (hhr : hr < 24)  : Ctr G y_Pl_enter b_Pl_enter 14 none r_Pl_enter [.ref r, .int (nI s), .int (nI fr), .int (nI d), .int (nI k), .long sc, .int (nI hr)] h (fun v' h1 => v' = none ∧ PlW h h1 r rx ry (Z.1, Z.2.1, Z.2.2.1, enT Z.2.2.2.1 (V 0) (carD V) s (d + moN s 0) (k + enA (V 1) fr s) (enV Z fr s hr sc), Z.2.2.2.2.1, Z.2.2.2.2.2.1, Z.2.2.2.2.2.2)) := by
  refine Ctr.of (by decide +kernel) (by simp) (Nat.le_of_ble_eq_true rfl) (L0 := [some (.ref r), some (.int (nI s)), some (.int (nI fr)), some (.int (nI d)), some (.int (nI k)), some (.long sc), none, some (.int (nI hr)), none, none, none, none, none, none]) rfl ?_
  have M := PlW.start hP
  have h4 := ok.1.1
  have hH := ok.1.2
  have hC3 := ok.2.1
  have hcd : carD V ≤ 25 := carD_le ok
  by_cases hz : s = 0
  · by_cases hc : carB fr s = true
    · by_cases hC : 0 < V 1
      · refine A_iload_n1 d_Pl_enter_0 ?_
        refine A_iconst (v := (-1)) d_Pl_enter_1 (by decide) ?_
        first | refine A_icmp_neN (tgt := 6) d_Pl_enter_2 (by decide) (by with_reducible rfl) (by with_reducible rfl) (by omega) (by omega) (fun c_2 => ?_) (fun c_2 => ?_) | refine A_icmp_ne (tgt := 6) d_Pl_enter_2 (by decide) (fun c_2 => ?_) (fun c_2 => ?_)
        · refine A_iload_n2 d_Pl_enter_6 ?_
          refine A_iload_n1 d_Pl_enter_7 ?_
          refine A_callSP d_Pl_enter_8 (c_Pl_isArrival fr s (by omega) (by omega)) q_837 q_838 mk_Pl_isArrival rfl (by decide) rfl (Nat.le_of_ble_eq_true rfl) ⟨Nat.le_of_ble_eq_true rfl, Nat.le_of_ble_eq_true rfl⟩ ⟨rfl, rfl⟩ ?_
          refine A_topI (congrArg bI (show carB fr s = true from hc)) ?_
          refine A_istore8 d_Pl_enter_11 trivial ?_
          refine A_iload_n3 d_Pl_enter_13 ?_
          refine A_iload_n1 d_Pl_enter_14 ?_
          first | refine A_if_neN (tgt := 22) d_Pl_enter_15 (by decide) (by with_reducible rfl) (by omega) (fun c_15 => ?_) (fun c_15 => ?_) | refine A_if_ne (tgt := 22) d_Pl_enter_15 (by decide) (fun c_15 => ?_) (fun c_15 => ?_)
          · exfalso
            omega
          · refine A_iconst (v := nI 1) d_Pl_enter_18 (by decide) ?_
            refine A_goto (tgt := 23) d_Pl_enter_19 (by decide) ?_
            refine A_callSNP d_Pl_enter_23 (c_N_one1 _) q_815 q_591 mk_N_oneIf rfl (by decide) rfl (Nat.le_of_ble_eq_true rfl) ⟨Nat.le_of_ble_eq_true rfl, Nat.le_of_ble_eq_true rfl⟩ ⟨rfl, rfl⟩ ?_
            first | refine A_iaddN d_Pl_enter_26 (by with_reducible rfl) (by with_reducible rfl) ?_ | refine A_iadd d_Pl_enter_26 ?_
            refine A_istore9 d_Pl_enter_27 trivial ?_
            refine A_iload4 d_Pl_enter_29 ?_
            refine A_iload8 d_Pl_enter_31 ?_
            refine A_if_eqB (tgt := 47) d_Pl_enter_33 (by decide) (fun c_33 => ?_) (fun c_33 => ?_)
            · first
                | (exfalso; omega)
                | (exfalso; exact absurd c_33 (by decide))
            · refine A_aload_n0 d_Pl_enter_36 ?_
              refine A_getf (kf := 6) d_Pl_enter_37 M.1.o ok_2 (by decide) q_339 rfl ?_
              refine A_topI hI1.2.1 ?_
              first | refine A_if_leN (tgt := 47) d_Pl_enter_40 (by decide) (by with_reducible rfl) (by omega) (fun c_40 => ?_) (fun c_40 => ?_) | refine A_if_le (tgt := 47) d_Pl_enter_40 (by decide) (fun c_40 => ?_) (fun c_40 => ?_)
              · first
                  | (exfalso; omega)
                  | (exfalso; exact absurd c_33 (by decide))
              · refine A_iconst (v := nI 1) d_Pl_enter_43 (by decide) ?_
                refine A_goto (tgt := 48) d_Pl_enter_44 (by decide) ?_
                refine A_callSNP d_Pl_enter_48 (c_N_one1 _) q_815 q_591 mk_N_oneIf rfl (by decide) rfl (Nat.le_of_ble_eq_true rfl) ⟨Nat.le_of_ble_eq_true rfl, Nat.le_of_ble_eq_true rfl⟩ ⟨rfl, rfl⟩ ?_
                first | refine A_iaddN d_Pl_enter_51 (by with_reducible rfl) (by with_reducible rfl) ?_ | refine A_iadd d_Pl_enter_51 ?_
                refine A_istore10 d_Pl_enter_52 trivial ?_
                refine A_iload10 d_Pl_enter_54 ?_
                refine A_aload_n0 d_Pl_enter_56 ?_
                refine A_getf (kf := 8) d_Pl_enter_57 M.1.o ok_2 (by decide) q_341 rfl ?_
                refine A_topI hI1.2.2.2.1 ?_
                first | refine A_icmp_geN (tgt := 72) d_Pl_enter_60 (by decide) (by with_reducible rfl) (by with_reducible rfl) (by omega) (by omega) (fun c_60 => ?_) (fun c_60 => ?_) | refine A_icmp_ge (tgt := 72) d_Pl_enter_60 (by decide) (fun c_60 => ?_) (fun c_60 => ?_)
                · refine A_vret d_Pl_enter_72 rfl ⟨Nat.zero_le _, Nat.zero_le _⟩ ?_
                  have e1 : moN s 0 = 1 := if_pos hz
                  have e2 : enA (V 1) fr s = 1 := if_pos ⟨hc, hC⟩
                  have e3 : enV Z fr s hr sc = sc + scI Z s hr - (Z.2.2.2.2.2.2 hr).toInt64 * Z.2.1 := by unfold enV; rw [if_pos hc]
                  have e4 : enT Z.2.2.2.1 (V 0) (carD V) s (d + moN s 0) (k + enA (V 1) fr s) (enV Z fr s hr sc) = Z.2.2.2.1 := if_pos (by rw [e1, e2]; omega)
                  rw [e4]
                  exact ⟨rfl, M⟩
                · refine A_iload9 d_Pl_enter_63 ?_
                  refine A_aload_n0 d_Pl_enter_65 ?_
                  refine A_getf (kf := 5) d_Pl_enter_66 M.1.o ok_2 (by decide) q_338 rfl ?_
                  refine A_topI hI1.1 ?_
                  first | refine A_icmp_leN (tgt := 73) d_Pl_enter_69 (by decide) (by with_reducible rfl) (by with_reducible rfl) (by omega) (by omega) (fun c_69 => ?_) (fun c_69 => ?_) | refine A_icmp_le (tgt := 73) d_Pl_enter_69 (by decide) (fun c_69 => ?_) (fun c_69 => ?_)
                  · refine A_aload_n0 d_Pl_enter_73 ?_
                    refine A_iload_n1 d_Pl_enter_74 ?_
                    refine A_iload9 d_Pl_enter_75 ?_
                    refine A_iload10 d_Pl_enter_77 ?_
                    refine A_callVP d_Pl_enter_79 (c_Pl_cell M.1 hI1.1 hI1.2.2.2.1 s (d + 1) (k + 1)) M.1.o rfl q_816 q_817 q_818 mk_Pl_cell rfl (by decide) rfl (Nat.le_of_ble_eq_true rfl) ⟨Nat.le_of_ble_eq_true rfl, Nat.le_of_ble_eq_true rfl⟩ ⟨rfl, rfl⟩ ?_
                    refine A_istore11 d_Pl_enter_82 trivial ?_
                    refine A_lload5 d_Pl_enter_84 ?_
                    refine A_aload_n0 d_Pl_enter_86 ?_
                    refine A_iload_n1 d_Pl_enter_87 ?_
                    refine A_iload7 d_Pl_enter_88 ?_
                    refine A_callVP d_Pl_enter_90 (c_Pl_scoreOf M.1 s hr (by omega) hhr) M.1.o rfl q_820 q_821 q_822 mk_Pl_scoreOf rfl (by decide) rfl (Nat.le_of_ble_eq_true rfl) ⟨Nat.le_of_ble_eq_true rfl, Nat.le_of_ble_eq_true rfl⟩ ⟨rfl, rfl⟩ ?_
                    refine A_ladd d_Pl_enter_93 ?_
                    refine A_iload8 d_Pl_enter_94 ?_
                    refine A_if_eqB (tgt := 115) d_Pl_enter_96 (by decide) (fun c_96 => ?_) (fun c_96 => ?_)
                    · exfalso
                      exact absurd c_96 (by decide)
                    · refine A_aload_n0 d_Pl_enter_99 ?_
                      refine A_getf (kf := 4) d_Pl_enter_100 M.1.o ok_2 (by decide) q_337 rfl ?_
                      refine A_iload7 d_Pl_enter_103 ?_
                      refine A_ialdN d_Pl_enter_105 M.1.fe ⟨by omega, by decide⟩ ?_
                      refine A_i2l d_Pl_enter_106 ?_
                      refine A_aload_n0 d_Pl_enter_107 ?_
                      refine A_getf (kf := 10) d_Pl_enter_108 M.1.o ok_2 (by decide) q_343 rfl ?_
                      refine A_lmul d_Pl_enter_111 ?_
                      refine A_goto (tgt := 116) d_Pl_enter_112 (by decide) ?_
                      refine A_lsub d_Pl_enter_116 ?_
                      refine A_lstore12 d_Pl_enter_117 trivial ?_
                      refine A_aload_n0 d_Pl_enter_119 ?_
                      refine A_getf (kf := 1) d_Pl_enter_120 M.1.o ok_2 (by decide) q_334 rfl ?_
                      refine A_iload11 d_Pl_enter_123 ?_
                      refine A_aload_n0 d_Pl_enter_125 ?_
                      refine A_getf (kf := 1) d_Pl_enter_126 M.1.o ok_2 (by decide) q_334 rfl ?_
                      refine A_iload11 d_Pl_enter_129 ?_
                      refine A_laldN d_Pl_enter_131 M.1.th ⟨cl_lt ok (by omega) (by omega) (by omega), by decide⟩ ?_
                      refine A_lload12 d_Pl_enter_132 ?_
                      refine A_callSP d_Pl_enter_134 (c_JM_max_1 _ _ _) q_840 q_841 mk_JM_max_1 rfl (by decide) rfl (Nat.le_of_ble_eq_true rfl) ⟨Nat.le_of_ble_eq_true rfl, Nat.le_of_ble_eq_true rfl⟩ ⟨rfl, rfl⟩ ?_
                      refine A_plTh d_Pl_enter_137 M (cl_lt ok (by omega) (by omega) (by omega)) (fun h' M' => ?_)
                      replace M := M'
                      clear M'
                      refine A_vret d_Pl_enter_138 rfl ⟨Nat.zero_le _, Nat.zero_le _⟩ ?_
                      have e1 : moN s 0 = 1 := if_pos hz
                      have e2 : enA (V 1) fr s = 1 := if_pos ⟨hc, hC⟩
                      have e3 : enV Z fr s hr sc = sc + scI Z s hr - (Z.2.2.2.2.2.2 hr).toInt64 * Z.2.1 := by unfold enV; rw [if_pos hc]
                      have e4 : enT Z.2.2.2.1 (V 0) (carD V) s (d + moN s 0) (k + enA (V 1) fr s) (enV Z fr s hr sc) = _ := if_neg (by rw [e1, e2]; omega)
                      rw [e4, e1, e2, e3]
                      exact ⟨rfl, M⟩
                  · refine A_vret d_Pl_enter_72 rfl ⟨Nat.zero_le _, Nat.zero_le _⟩ ?_
                    have e1 : moN s 0 = 1 := if_pos hz
                    have e2 : enA (V 1) fr s = 1 := if_pos ⟨hc, hC⟩
                    have e3 : enV Z fr s hr sc = sc + scI Z s hr - (Z.2.2.2.2.2.2 hr).toInt64 * Z.2.1 := by unfold enV; rw [if_pos hc]
                    have e4 : enT Z.2.2.2.1 (V 0) (carD V) s (d + moN s 0) (k + enA (V 1) fr s) (enV Z fr s hr sc) = Z.2.2.2.1 := if_pos (by rw [e1, e2]; omega)
                    rw [e4]
                    exact ⟨rfl, M⟩
        · exfalso
          exact nI_neM1 (by omega) c_2
      · refine A_iload_n1 d_Pl_enter_0 ?_
        refine A_iconst (v := (-1)) d_Pl_enter_1 (by decide) ?_
        first | refine A_icmp_neN (tgt := 6) d_Pl_enter_2 (by decide) (by with_reducible rfl) (by with_reducible rfl) (by omega) (by omega) (fun c_2 => ?_) (fun c_2 => ?_) | refine A_icmp_ne (tgt := 6) d_Pl_enter_2 (by decide) (fun c_2 => ?_) (fun c_2 => ?_)
        · refine A_iload_n2 d_Pl_enter_6 ?_
          refine A_iload_n1 d_Pl_enter_7 ?_
          refine A_callSP d_Pl_enter_8 (c_Pl_isArrival fr s (by omega) (by omega)) q_837 q_838 mk_Pl_isArrival rfl (by decide) rfl (Nat.le_of_ble_eq_true rfl) ⟨Nat.le_of_ble_eq_true rfl, Nat.le_of_ble_eq_true rfl⟩ ⟨rfl, rfl⟩ ?_
          refine A_topI (congrArg bI (show carB fr s = true from hc)) ?_
          refine A_istore8 d_Pl_enter_11 trivial ?_
          refine A_iload_n3 d_Pl_enter_13 ?_
          refine A_iload_n1 d_Pl_enter_14 ?_
          first | refine A_if_neN (tgt := 22) d_Pl_enter_15 (by decide) (by with_reducible rfl) (by omega) (fun c_15 => ?_) (fun c_15 => ?_) | refine A_if_ne (tgt := 22) d_Pl_enter_15 (by decide) (fun c_15 => ?_) (fun c_15 => ?_)
          · exfalso
            omega
          · refine A_iconst (v := nI 1) d_Pl_enter_18 (by decide) ?_
            refine A_goto (tgt := 23) d_Pl_enter_19 (by decide) ?_
            refine A_callSNP d_Pl_enter_23 (c_N_one1 _) q_815 q_591 mk_N_oneIf rfl (by decide) rfl (Nat.le_of_ble_eq_true rfl) ⟨Nat.le_of_ble_eq_true rfl, Nat.le_of_ble_eq_true rfl⟩ ⟨rfl, rfl⟩ ?_
            first | refine A_iaddN d_Pl_enter_26 (by with_reducible rfl) (by with_reducible rfl) ?_ | refine A_iadd d_Pl_enter_26 ?_
            refine A_istore9 d_Pl_enter_27 trivial ?_
            refine A_iload4 d_Pl_enter_29 ?_
            refine A_iload8 d_Pl_enter_31 ?_
            refine A_if_eqB (tgt := 47) d_Pl_enter_33 (by decide) (fun c_33 => ?_) (fun c_33 => ?_)
            · refine A_iconst (v := nI 0) d_Pl_enter_47 (by decide) ?_
              refine A_callSNP d_Pl_enter_48 (c_N_one0 _) q_815 q_591 mk_N_oneIf rfl (by decide) rfl (Nat.le_of_ble_eq_true rfl) ⟨Nat.le_of_ble_eq_true rfl, Nat.le_of_ble_eq_true rfl⟩ ⟨rfl, rfl⟩ ?_
              first | refine A_iaddN d_Pl_enter_51 (by with_reducible rfl) (by with_reducible rfl) ?_ | refine A_iadd d_Pl_enter_51 ?_
              refine A_istore10 d_Pl_enter_52 trivial ?_
              refine A_iload10 d_Pl_enter_54 ?_
              refine A_aload_n0 d_Pl_enter_56 ?_
              refine A_getf (kf := 8) d_Pl_enter_57 M.1.o ok_2 (by decide) q_341 rfl ?_
              refine A_topI hI1.2.2.2.1 ?_
              first | refine A_icmp_geN (tgt := 72) d_Pl_enter_60 (by decide) (by with_reducible rfl) (by with_reducible rfl) (by omega) (by omega) (fun c_60 => ?_) (fun c_60 => ?_) | refine A_icmp_ge (tgt := 72) d_Pl_enter_60 (by decide) (fun c_60 => ?_) (fun c_60 => ?_)
              · refine A_vret d_Pl_enter_72 rfl ⟨Nat.zero_le _, Nat.zero_le _⟩ ?_
                have e1 : moN s 0 = 1 := if_pos hz
                have e2 : enA (V 1) fr s = 0 := if_neg (fun w => hC w.2)
                have e3 : enV Z fr s hr sc = sc + scI Z s hr - (Z.2.2.2.2.2.2 hr).toInt64 * Z.2.1 := by unfold enV; rw [if_pos hc]
                have e4 : enT Z.2.2.2.1 (V 0) (carD V) s (d + moN s 0) (k + enA (V 1) fr s) (enV Z fr s hr sc) = Z.2.2.2.1 := if_pos (by rw [e1, e2]; omega)
                rw [e4]
                exact ⟨rfl, M⟩
              · refine A_iload9 d_Pl_enter_63 ?_
                refine A_aload_n0 d_Pl_enter_65 ?_
                refine A_getf (kf := 5) d_Pl_enter_66 M.1.o ok_2 (by decide) q_338 rfl ?_
                refine A_topI hI1.1 ?_
                first | refine A_icmp_leN (tgt := 73) d_Pl_enter_69 (by decide) (by with_reducible rfl) (by with_reducible rfl) (by omega) (by omega) (fun c_69 => ?_) (fun c_69 => ?_) | refine A_icmp_le (tgt := 73) d_Pl_enter_69 (by decide) (fun c_69 => ?_) (fun c_69 => ?_)
                · refine A_aload_n0 d_Pl_enter_73 ?_
                  refine A_iload_n1 d_Pl_enter_74 ?_
                  refine A_iload9 d_Pl_enter_75 ?_
                  refine A_iload10 d_Pl_enter_77 ?_
                  refine A_callVP d_Pl_enter_79 (c_Pl_cell M.1 hI1.1 hI1.2.2.2.1 s (d + 1) (k + 0)) M.1.o rfl q_816 q_817 q_818 mk_Pl_cell rfl (by decide) rfl (Nat.le_of_ble_eq_true rfl) ⟨Nat.le_of_ble_eq_true rfl, Nat.le_of_ble_eq_true rfl⟩ ⟨rfl, rfl⟩ ?_
                  refine A_istore11 d_Pl_enter_82 trivial ?_
                  refine A_lload5 d_Pl_enter_84 ?_
                  refine A_aload_n0 d_Pl_enter_86 ?_
                  refine A_iload_n1 d_Pl_enter_87 ?_
                  refine A_iload7 d_Pl_enter_88 ?_
                  refine A_callVP d_Pl_enter_90 (c_Pl_scoreOf M.1 s hr (by omega) hhr) M.1.o rfl q_820 q_821 q_822 mk_Pl_scoreOf rfl (by decide) rfl (Nat.le_of_ble_eq_true rfl) ⟨Nat.le_of_ble_eq_true rfl, Nat.le_of_ble_eq_true rfl⟩ ⟨rfl, rfl⟩ ?_
                  refine A_ladd d_Pl_enter_93 ?_
                  refine A_iload8 d_Pl_enter_94 ?_
                  refine A_if_eqB (tgt := 115) d_Pl_enter_96 (by decide) (fun c_96 => ?_) (fun c_96 => ?_)
                  · exfalso
                    exact absurd c_96 (by decide)
                  · refine A_aload_n0 d_Pl_enter_99 ?_
                    refine A_getf (kf := 4) d_Pl_enter_100 M.1.o ok_2 (by decide) q_337 rfl ?_
                    refine A_iload7 d_Pl_enter_103 ?_
                    refine A_ialdN d_Pl_enter_105 M.1.fe ⟨by omega, by decide⟩ ?_
                    refine A_i2l d_Pl_enter_106 ?_
                    refine A_aload_n0 d_Pl_enter_107 ?_
                    refine A_getf (kf := 10) d_Pl_enter_108 M.1.o ok_2 (by decide) q_343 rfl ?_
                    refine A_lmul d_Pl_enter_111 ?_
                    refine A_goto (tgt := 116) d_Pl_enter_112 (by decide) ?_
                    refine A_lsub d_Pl_enter_116 ?_
                    refine A_lstore12 d_Pl_enter_117 trivial ?_
                    refine A_aload_n0 d_Pl_enter_119 ?_
                    refine A_getf (kf := 1) d_Pl_enter_120 M.1.o ok_2 (by decide) q_334 rfl ?_
                    refine A_iload11 d_Pl_enter_123 ?_
                    refine A_aload_n0 d_Pl_enter_125 ?_
                    refine A_getf (kf := 1) d_Pl_enter_126 M.1.o ok_2 (by decide) q_334 rfl ?_
                    refine A_iload11 d_Pl_enter_129 ?_
                    refine A_laldN d_Pl_enter_131 M.1.th ⟨cl_lt ok (by omega) (by omega) (by omega), by decide⟩ ?_
                    refine A_lload12 d_Pl_enter_132 ?_
                    refine A_callSP d_Pl_enter_134 (c_JM_max_1 _ _ _) q_840 q_841 mk_JM_max_1 rfl (by decide) rfl (Nat.le_of_ble_eq_true rfl) ⟨Nat.le_of_ble_eq_true rfl, Nat.le_of_ble_eq_true rfl⟩ ⟨rfl, rfl⟩ ?_
                    refine A_plTh d_Pl_enter_137 M (cl_lt ok (by omega) (by omega) (by omega)) (fun h' M' => ?_)
                    replace M := M'
                    clear M'
                    refine A_vret d_Pl_enter_138 rfl ⟨Nat.zero_le _, Nat.zero_le _⟩ ?_
                    have e1 : moN s 0 = 1 := if_pos hz
                    have e2 : enA (V 1) fr s = 0 := if_neg (fun w => hC w.2)
                    have e3 : enV Z fr s hr sc = sc + scI Z s hr - (Z.2.2.2.2.2.2 hr).toInt64 * Z.2.1 := by unfold enV; rw [if_pos hc]
                    have e4 : enT Z.2.2.2.1 (V 0) (carD V) s (d + moN s 0) (k + enA (V 1) fr s) (enV Z fr s hr sc) = _ := if_neg (by rw [e1, e2]; omega)
                    rw [e4, e1, e2, e3]
                    exact ⟨rfl, M⟩
                · refine A_vret d_Pl_enter_72 rfl ⟨Nat.zero_le _, Nat.zero_le _⟩ ?_
                  have e1 : moN s 0 = 1 := if_pos hz
                  have e2 : enA (V 1) fr s = 0 := if_neg (fun w => hC w.2)
                  have e3 : enV Z fr s hr sc = sc + scI Z s hr - (Z.2.2.2.2.2.2 hr).toInt64 * Z.2.1 := by unfold enV; rw [if_pos hc]
                  have e4 : enT Z.2.2.2.1 (V 0) (carD V) s (d + moN s 0) (k + enA (V 1) fr s) (enV Z fr s hr sc) = Z.2.2.2.1 := if_pos (by rw [e1, e2]; omega)
                  rw [e4]
                  exact ⟨rfl, M⟩
            · refine A_aload_n0 d_Pl_enter_36 ?_
              refine A_getf (kf := 6) d_Pl_enter_37 M.1.o ok_2 (by decide) q_339 rfl ?_
              refine A_topI hI1.2.1 ?_
              first | refine A_if_leN (tgt := 47) d_Pl_enter_40 (by decide) (by with_reducible rfl) (by omega) (fun c_40 => ?_) (fun c_40 => ?_) | refine A_if_le (tgt := 47) d_Pl_enter_40 (by decide) (fun c_40 => ?_) (fun c_40 => ?_)
              · refine A_iconst (v := nI 0) d_Pl_enter_47 (by decide) ?_
                refine A_callSNP d_Pl_enter_48 (c_N_one0 _) q_815 q_591 mk_N_oneIf rfl (by decide) rfl (Nat.le_of_ble_eq_true rfl) ⟨Nat.le_of_ble_eq_true rfl, Nat.le_of_ble_eq_true rfl⟩ ⟨rfl, rfl⟩ ?_
                first | refine A_iaddN d_Pl_enter_51 (by with_reducible rfl) (by with_reducible rfl) ?_ | refine A_iadd d_Pl_enter_51 ?_
                refine A_istore10 d_Pl_enter_52 trivial ?_
                refine A_iload10 d_Pl_enter_54 ?_
                refine A_aload_n0 d_Pl_enter_56 ?_
                refine A_getf (kf := 8) d_Pl_enter_57 M.1.o ok_2 (by decide) q_341 rfl ?_
                refine A_topI hI1.2.2.2.1 ?_
                first | refine A_icmp_geN (tgt := 72) d_Pl_enter_60 (by decide) (by with_reducible rfl) (by with_reducible rfl) (by omega) (by omega) (fun c_60 => ?_) (fun c_60 => ?_) | refine A_icmp_ge (tgt := 72) d_Pl_enter_60 (by decide) (fun c_60 => ?_) (fun c_60 => ?_)
                · refine A_vret d_Pl_enter_72 rfl ⟨Nat.zero_le _, Nat.zero_le _⟩ ?_
                  have e1 : moN s 0 = 1 := if_pos hz
                  have e2 : enA (V 1) fr s = 0 := if_neg (fun w => hC w.2)
                  have e3 : enV Z fr s hr sc = sc + scI Z s hr - (Z.2.2.2.2.2.2 hr).toInt64 * Z.2.1 := by unfold enV; rw [if_pos hc]
                  have e4 : enT Z.2.2.2.1 (V 0) (carD V) s (d + moN s 0) (k + enA (V 1) fr s) (enV Z fr s hr sc) = Z.2.2.2.1 := if_pos (by rw [e1, e2]; omega)
                  rw [e4]
                  exact ⟨rfl, M⟩
                · refine A_iload9 d_Pl_enter_63 ?_
                  refine A_aload_n0 d_Pl_enter_65 ?_
                  refine A_getf (kf := 5) d_Pl_enter_66 M.1.o ok_2 (by decide) q_338 rfl ?_
                  refine A_topI hI1.1 ?_
                  first | refine A_icmp_leN (tgt := 73) d_Pl_enter_69 (by decide) (by with_reducible rfl) (by with_reducible rfl) (by omega) (by omega) (fun c_69 => ?_) (fun c_69 => ?_) | refine A_icmp_le (tgt := 73) d_Pl_enter_69 (by decide) (fun c_69 => ?_) (fun c_69 => ?_)
                  · refine A_aload_n0 d_Pl_enter_73 ?_
                    refine A_iload_n1 d_Pl_enter_74 ?_
                    refine A_iload9 d_Pl_enter_75 ?_
                    refine A_iload10 d_Pl_enter_77 ?_
                    refine A_callVP d_Pl_enter_79 (c_Pl_cell M.1 hI1.1 hI1.2.2.2.1 s (d + 1) (k + 0)) M.1.o rfl q_816 q_817 q_818 mk_Pl_cell rfl (by decide) rfl (Nat.le_of_ble_eq_true rfl) ⟨Nat.le_of_ble_eq_true rfl, Nat.le_of_ble_eq_true rfl⟩ ⟨rfl, rfl⟩ ?_
                    refine A_istore11 d_Pl_enter_82 trivial ?_
                    refine A_lload5 d_Pl_enter_84 ?_
                    refine A_aload_n0 d_Pl_enter_86 ?_
                    refine A_iload_n1 d_Pl_enter_87 ?_
                    refine A_iload7 d_Pl_enter_88 ?_
                    refine A_callVP d_Pl_enter_90 (c_Pl_scoreOf M.1 s hr (by omega) hhr) M.1.o rfl q_820 q_821 q_822 mk_Pl_scoreOf rfl (by decide) rfl (Nat.le_of_ble_eq_true rfl) ⟨Nat.le_of_ble_eq_true rfl, Nat.le_of_ble_eq_true rfl⟩ ⟨rfl, rfl⟩ ?_
                    refine A_ladd d_Pl_enter_93 ?_
                    refine A_iload8 d_Pl_enter_94 ?_
                    refine A_if_eqB (tgt := 115) d_Pl_enter_96 (by decide) (fun c_96 => ?_) (fun c_96 => ?_)
                    · exfalso
                      exact absurd c_96 (by decide)
                    · refine A_aload_n0 d_Pl_enter_99 ?_
                      refine A_getf (kf := 4) d_Pl_enter_100 M.1.o ok_2 (by decide) q_337 rfl ?_
                      refine A_iload7 d_Pl_enter_103 ?_
                      refine A_ialdN d_Pl_enter_105 M.1.fe ⟨by omega, by decide⟩ ?_
                      refine A_i2l d_Pl_enter_106 ?_
                      refine A_aload_n0 d_Pl_enter_107 ?_
                      refine A_getf (kf := 10) d_Pl_enter_108 M.1.o ok_2 (by decide) q_343 rfl ?_
                      refine A_lmul d_Pl_enter_111 ?_
                      refine A_goto (tgt := 116) d_Pl_enter_112 (by decide) ?_
                      refine A_lsub d_Pl_enter_116 ?_
                      refine A_lstore12 d_Pl_enter_117 trivial ?_
                      refine A_aload_n0 d_Pl_enter_119 ?_
                      refine A_getf (kf := 1) d_Pl_enter_120 M.1.o ok_2 (by decide) q_334 rfl ?_
                      refine A_iload11 d_Pl_enter_123 ?_
                      refine A_aload_n0 d_Pl_enter_125 ?_
                      refine A_getf (kf := 1) d_Pl_enter_126 M.1.o ok_2 (by decide) q_334 rfl ?_
                      refine A_iload11 d_Pl_enter_129 ?_
                      refine A_laldN d_Pl_enter_131 M.1.th ⟨cl_lt ok (by omega) (by omega) (by omega), by decide⟩ ?_
                      refine A_lload12 d_Pl_enter_132 ?_
                      refine A_callSP d_Pl_enter_134 (c_JM_max_1 _ _ _) q_840 q_841 mk_JM_max_1 rfl (by decide) rfl (Nat.le_of_ble_eq_true rfl) ⟨Nat.le_of_ble_eq_true rfl, Nat.le_of_ble_eq_true rfl⟩ ⟨rfl, rfl⟩ ?_
                      refine A_plTh d_Pl_enter_137 M (cl_lt ok (by omega) (by omega) (by omega)) (fun h' M' => ?_)
                      replace M := M'
                      clear M'
                      refine A_vret d_Pl_enter_138 rfl ⟨Nat.zero_le _, Nat.zero_le _⟩ ?_
                      have e1 : moN s 0 = 1 := if_pos hz
                      have e2 : enA (V 1) fr s = 0 := if_neg (fun w => hC w.2)
                      have e3 : enV Z fr s hr sc = sc + scI Z s hr - (Z.2.2.2.2.2.2 hr).toInt64 * Z.2.1 := by unfold enV; rw [if_pos hc]
                      have e4 : enT Z.2.2.2.1 (V 0) (carD V) s (d + moN s 0) (k + enA (V 1) fr s) (enV Z fr s hr sc) = _ := if_neg (by rw [e1, e2]; omega)
                      rw [e4, e1, e2, e3]
                      exact ⟨rfl, M⟩
                  · refine A_vret d_Pl_enter_72 rfl ⟨Nat.zero_le _, Nat.zero_le _⟩ ?_
                    have e1 : moN s 0 = 1 := if_pos hz
                    have e2 : enA (V 1) fr s = 0 := if_neg (fun w => hC w.2)
                    have e3 : enV Z fr s hr sc = sc + scI Z s hr - (Z.2.2.2.2.2.2 hr).toInt64 * Z.2.1 := by unfold enV; rw [if_pos hc]
                    have e4 : enT Z.2.2.2.1 (V 0) (carD V) s (d + moN s 0) (k + enA (V 1) fr s) (enV Z fr s hr sc) = Z.2.2.2.1 := if_pos (by rw [e1, e2]; omega)
                    rw [e4]
                    exact ⟨rfl, M⟩
              · exfalso
                omega
        · exfalso
          exact nI_neM1 (by omega) c_2
    · refine A_iload_n1 d_Pl_enter_0 ?_
      refine A_iconst (v := (-1)) d_Pl_enter_1 (by decide) ?_
      first | refine A_icmp_neN (tgt := 6) d_Pl_enter_2 (by decide) (by with_reducible rfl) (by with_reducible rfl) (by omega) (by omega) (fun c_2 => ?_) (fun c_2 => ?_) | refine A_icmp_ne (tgt := 6) d_Pl_enter_2 (by decide) (fun c_2 => ?_) (fun c_2 => ?_)
      · refine A_iload_n2 d_Pl_enter_6 ?_
        refine A_iload_n1 d_Pl_enter_7 ?_
        refine A_callSP d_Pl_enter_8 (c_Pl_isArrival fr s (by omega) (by omega)) q_837 q_838 mk_Pl_isArrival rfl (by decide) rfl (Nat.le_of_ble_eq_true rfl) ⟨Nat.le_of_ble_eq_true rfl, Nat.le_of_ble_eq_true rfl⟩ ⟨rfl, rfl⟩ ?_
        refine A_topI (congrArg bI (show carB fr s = false from Bool.eq_false_iff.mpr hc)) ?_
        refine A_istore8 d_Pl_enter_11 trivial ?_
        refine A_iload_n3 d_Pl_enter_13 ?_
        refine A_iload_n1 d_Pl_enter_14 ?_
        first | refine A_if_neN (tgt := 22) d_Pl_enter_15 (by decide) (by with_reducible rfl) (by omega) (fun c_15 => ?_) (fun c_15 => ?_) | refine A_if_ne (tgt := 22) d_Pl_enter_15 (by decide) (fun c_15 => ?_) (fun c_15 => ?_)
        · exfalso
          omega
        · refine A_iconst (v := nI 1) d_Pl_enter_18 (by decide) ?_
          refine A_goto (tgt := 23) d_Pl_enter_19 (by decide) ?_
          refine A_callSNP d_Pl_enter_23 (c_N_one1 _) q_815 q_591 mk_N_oneIf rfl (by decide) rfl (Nat.le_of_ble_eq_true rfl) ⟨Nat.le_of_ble_eq_true rfl, Nat.le_of_ble_eq_true rfl⟩ ⟨rfl, rfl⟩ ?_
          first | refine A_iaddN d_Pl_enter_26 (by with_reducible rfl) (by with_reducible rfl) ?_ | refine A_iadd d_Pl_enter_26 ?_
          refine A_istore9 d_Pl_enter_27 trivial ?_
          refine A_iload4 d_Pl_enter_29 ?_
          refine A_iload8 d_Pl_enter_31 ?_
          refine A_if_eqB (tgt := 47) d_Pl_enter_33 (by decide) (fun c_33 => ?_) (fun c_33 => ?_)
          · refine A_iconst (v := nI 0) d_Pl_enter_47 (by decide) ?_
            refine A_callSNP d_Pl_enter_48 (c_N_one0 _) q_815 q_591 mk_N_oneIf rfl (by decide) rfl (Nat.le_of_ble_eq_true rfl) ⟨Nat.le_of_ble_eq_true rfl, Nat.le_of_ble_eq_true rfl⟩ ⟨rfl, rfl⟩ ?_
            first | refine A_iaddN d_Pl_enter_51 (by with_reducible rfl) (by with_reducible rfl) ?_ | refine A_iadd d_Pl_enter_51 ?_
            refine A_istore10 d_Pl_enter_52 trivial ?_
            refine A_iload10 d_Pl_enter_54 ?_
            refine A_aload_n0 d_Pl_enter_56 ?_
            refine A_getf (kf := 8) d_Pl_enter_57 M.1.o ok_2 (by decide) q_341 rfl ?_
            refine A_topI hI1.2.2.2.1 ?_
            first | refine A_icmp_geN (tgt := 72) d_Pl_enter_60 (by decide) (by with_reducible rfl) (by with_reducible rfl) (by omega) (by omega) (fun c_60 => ?_) (fun c_60 => ?_) | refine A_icmp_ge (tgt := 72) d_Pl_enter_60 (by decide) (fun c_60 => ?_) (fun c_60 => ?_)
            · refine A_vret d_Pl_enter_72 rfl ⟨Nat.zero_le _, Nat.zero_le _⟩ ?_
              have e1 : moN s 0 = 1 := if_pos hz
              have e2 : enA (V 1) fr s = 0 := if_neg (fun w => hc w.1)
              have e3 : enV Z fr s hr sc = sc + scI Z s hr - 0 := by unfold enV; rw [if_neg hc]
              have e4 : enT Z.2.2.2.1 (V 0) (carD V) s (d + moN s 0) (k + enA (V 1) fr s) (enV Z fr s hr sc) = Z.2.2.2.1 := if_pos (by rw [e1, e2]; omega)
              rw [e4]
              exact ⟨rfl, M⟩
            · refine A_iload9 d_Pl_enter_63 ?_
              refine A_aload_n0 d_Pl_enter_65 ?_
              refine A_getf (kf := 5) d_Pl_enter_66 M.1.o ok_2 (by decide) q_338 rfl ?_
              refine A_topI hI1.1 ?_
              first | refine A_icmp_leN (tgt := 73) d_Pl_enter_69 (by decide) (by with_reducible rfl) (by with_reducible rfl) (by omega) (by omega) (fun c_69 => ?_) (fun c_69 => ?_) | refine A_icmp_le (tgt := 73) d_Pl_enter_69 (by decide) (fun c_69 => ?_) (fun c_69 => ?_)
              · refine A_aload_n0 d_Pl_enter_73 ?_
                refine A_iload_n1 d_Pl_enter_74 ?_
                refine A_iload9 d_Pl_enter_75 ?_
                refine A_iload10 d_Pl_enter_77 ?_
                refine A_callVP d_Pl_enter_79 (c_Pl_cell M.1 hI1.1 hI1.2.2.2.1 s (d + 1) (k + 0)) M.1.o rfl q_816 q_817 q_818 mk_Pl_cell rfl (by decide) rfl (Nat.le_of_ble_eq_true rfl) ⟨Nat.le_of_ble_eq_true rfl, Nat.le_of_ble_eq_true rfl⟩ ⟨rfl, rfl⟩ ?_
                refine A_istore11 d_Pl_enter_82 trivial ?_
                refine A_lload5 d_Pl_enter_84 ?_
                refine A_aload_n0 d_Pl_enter_86 ?_
                refine A_iload_n1 d_Pl_enter_87 ?_
                refine A_iload7 d_Pl_enter_88 ?_
                refine A_callVP d_Pl_enter_90 (c_Pl_scoreOf M.1 s hr (by omega) hhr) M.1.o rfl q_820 q_821 q_822 mk_Pl_scoreOf rfl (by decide) rfl (Nat.le_of_ble_eq_true rfl) ⟨Nat.le_of_ble_eq_true rfl, Nat.le_of_ble_eq_true rfl⟩ ⟨rfl, rfl⟩ ?_
                refine A_ladd d_Pl_enter_93 ?_
                refine A_iload8 d_Pl_enter_94 ?_
                refine A_if_eqB (tgt := 115) d_Pl_enter_96 (by decide) (fun c_96 => ?_) (fun c_96 => ?_)
                · refine A_lconst (v := 0) d_Pl_enter_115 (by decide) ?_
                  refine A_lsub d_Pl_enter_116 ?_
                  refine A_lstore12 d_Pl_enter_117 trivial ?_
                  refine A_aload_n0 d_Pl_enter_119 ?_
                  refine A_getf (kf := 1) d_Pl_enter_120 M.1.o ok_2 (by decide) q_334 rfl ?_
                  refine A_iload11 d_Pl_enter_123 ?_
                  refine A_aload_n0 d_Pl_enter_125 ?_
                  refine A_getf (kf := 1) d_Pl_enter_126 M.1.o ok_2 (by decide) q_334 rfl ?_
                  refine A_iload11 d_Pl_enter_129 ?_
                  refine A_laldN d_Pl_enter_131 M.1.th ⟨cl_lt ok (by omega) (by omega) (by omega), by decide⟩ ?_
                  refine A_lload12 d_Pl_enter_132 ?_
                  refine A_callSP d_Pl_enter_134 (c_JM_max_1 _ _ _) q_840 q_841 mk_JM_max_1 rfl (by decide) rfl (Nat.le_of_ble_eq_true rfl) ⟨Nat.le_of_ble_eq_true rfl, Nat.le_of_ble_eq_true rfl⟩ ⟨rfl, rfl⟩ ?_
                  refine A_plTh d_Pl_enter_137 M (cl_lt ok (by omega) (by omega) (by omega)) (fun h' M' => ?_)
                  replace M := M'
                  clear M'
                  refine A_vret d_Pl_enter_138 rfl ⟨Nat.zero_le _, Nat.zero_le _⟩ ?_
                  have e1 : moN s 0 = 1 := if_pos hz
                  have e2 : enA (V 1) fr s = 0 := if_neg (fun w => hc w.1)
                  have e3 : enV Z fr s hr sc = sc + scI Z s hr - 0 := by unfold enV; rw [if_neg hc]
                  have e4 : enT Z.2.2.2.1 (V 0) (carD V) s (d + moN s 0) (k + enA (V 1) fr s) (enV Z fr s hr sc) = _ := if_neg (by rw [e1, e2]; omega)
                  rw [e4, e1, e2, e3]
                  exact ⟨rfl, M⟩
                · exfalso
                  exact absurd c_96 (by decide)
              · refine A_vret d_Pl_enter_72 rfl ⟨Nat.zero_le _, Nat.zero_le _⟩ ?_
                have e1 : moN s 0 = 1 := if_pos hz
                have e2 : enA (V 1) fr s = 0 := if_neg (fun w => hc w.1)
                have e3 : enV Z fr s hr sc = sc + scI Z s hr - 0 := by unfold enV; rw [if_neg hc]
                have e4 : enT Z.2.2.2.1 (V 0) (carD V) s (d + moN s 0) (k + enA (V 1) fr s) (enV Z fr s hr sc) = Z.2.2.2.1 := if_pos (by rw [e1, e2]; omega)
                rw [e4]
                exact ⟨rfl, M⟩
          · exfalso
            exact absurd c_33 (by decide)
      · exfalso
        exact nI_neM1 (by omega) c_2
  · by_cases hc : carB fr s = true
    · by_cases hC : 0 < V 1
      · refine A_iload_n1 d_Pl_enter_0 ?_
        refine A_iconst (v := (-1)) d_Pl_enter_1 (by decide) ?_
        first | refine A_icmp_neN (tgt := 6) d_Pl_enter_2 (by decide) (by with_reducible rfl) (by with_reducible rfl) (by omega) (by omega) (fun c_2 => ?_) (fun c_2 => ?_) | refine A_icmp_ne (tgt := 6) d_Pl_enter_2 (by decide) (fun c_2 => ?_) (fun c_2 => ?_)
        · refine A_iload_n2 d_Pl_enter_6 ?_
          refine A_iload_n1 d_Pl_enter_7 ?_
          refine A_callSP d_Pl_enter_8 (c_Pl_isArrival fr s (by omega) (by omega)) q_837 q_838 mk_Pl_isArrival rfl (by decide) rfl (Nat.le_of_ble_eq_true rfl) ⟨Nat.le_of_ble_eq_true rfl, Nat.le_of_ble_eq_true rfl⟩ ⟨rfl, rfl⟩ ?_
          refine A_topI (congrArg bI (show carB fr s = true from hc)) ?_
          refine A_istore8 d_Pl_enter_11 trivial ?_
          refine A_iload_n3 d_Pl_enter_13 ?_
          refine A_iload_n1 d_Pl_enter_14 ?_
          first | refine A_if_neN (tgt := 22) d_Pl_enter_15 (by decide) (by with_reducible rfl) (by omega) (fun c_15 => ?_) (fun c_15 => ?_) | refine A_if_ne (tgt := 22) d_Pl_enter_15 (by decide) (fun c_15 => ?_) (fun c_15 => ?_)
          · refine A_iconst (v := nI 0) d_Pl_enter_22 (by decide) ?_
            refine A_callSNP d_Pl_enter_23 (c_N_one0 _) q_815 q_591 mk_N_oneIf rfl (by decide) rfl (Nat.le_of_ble_eq_true rfl) ⟨Nat.le_of_ble_eq_true rfl, Nat.le_of_ble_eq_true rfl⟩ ⟨rfl, rfl⟩ ?_
            first | refine A_iaddN d_Pl_enter_26 (by with_reducible rfl) (by with_reducible rfl) ?_ | refine A_iadd d_Pl_enter_26 ?_
            refine A_istore9 d_Pl_enter_27 trivial ?_
            refine A_iload4 d_Pl_enter_29 ?_
            refine A_iload8 d_Pl_enter_31 ?_
            refine A_if_eqB (tgt := 47) d_Pl_enter_33 (by decide) (fun c_33 => ?_) (fun c_33 => ?_)
            · first
                | (exfalso; omega)
                | (exfalso; exact absurd c_33 (by decide))
            · refine A_aload_n0 d_Pl_enter_36 ?_
              refine A_getf (kf := 6) d_Pl_enter_37 M.1.o ok_2 (by decide) q_339 rfl ?_
              refine A_topI hI1.2.1 ?_
              first | refine A_if_leN (tgt := 47) d_Pl_enter_40 (by decide) (by with_reducible rfl) (by omega) (fun c_40 => ?_) (fun c_40 => ?_) | refine A_if_le (tgt := 47) d_Pl_enter_40 (by decide) (fun c_40 => ?_) (fun c_40 => ?_)
              · first
                  | (exfalso; omega)
                  | (exfalso; exact absurd c_33 (by decide))
              · refine A_iconst (v := nI 1) d_Pl_enter_43 (by decide) ?_
                refine A_goto (tgt := 48) d_Pl_enter_44 (by decide) ?_
                refine A_callSNP d_Pl_enter_48 (c_N_one1 _) q_815 q_591 mk_N_oneIf rfl (by decide) rfl (Nat.le_of_ble_eq_true rfl) ⟨Nat.le_of_ble_eq_true rfl, Nat.le_of_ble_eq_true rfl⟩ ⟨rfl, rfl⟩ ?_
                first | refine A_iaddN d_Pl_enter_51 (by with_reducible rfl) (by with_reducible rfl) ?_ | refine A_iadd d_Pl_enter_51 ?_
                refine A_istore10 d_Pl_enter_52 trivial ?_
                refine A_iload10 d_Pl_enter_54 ?_
                refine A_aload_n0 d_Pl_enter_56 ?_
                refine A_getf (kf := 8) d_Pl_enter_57 M.1.o ok_2 (by decide) q_341 rfl ?_
                refine A_topI hI1.2.2.2.1 ?_
                first | refine A_icmp_geN (tgt := 72) d_Pl_enter_60 (by decide) (by with_reducible rfl) (by with_reducible rfl) (by omega) (by omega) (fun c_60 => ?_) (fun c_60 => ?_) | refine A_icmp_ge (tgt := 72) d_Pl_enter_60 (by decide) (fun c_60 => ?_) (fun c_60 => ?_)
                · refine A_vret d_Pl_enter_72 rfl ⟨Nat.zero_le _, Nat.zero_le _⟩ ?_
                  have e1 : moN s 0 = 0 := if_neg hz
                  have e2 : enA (V 1) fr s = 1 := if_pos ⟨hc, hC⟩
                  have e3 : enV Z fr s hr sc = sc + scI Z s hr - (Z.2.2.2.2.2.2 hr).toInt64 * Z.2.1 := by unfold enV; rw [if_pos hc]
                  have e4 : enT Z.2.2.2.1 (V 0) (carD V) s (d + moN s 0) (k + enA (V 1) fr s) (enV Z fr s hr sc) = Z.2.2.2.1 := if_pos (by rw [e1, e2]; omega)
                  rw [e4]
                  exact ⟨rfl, M⟩
                · refine A_iload9 d_Pl_enter_63 ?_
                  refine A_aload_n0 d_Pl_enter_65 ?_
                  refine A_getf (kf := 5) d_Pl_enter_66 M.1.o ok_2 (by decide) q_338 rfl ?_
                  refine A_topI hI1.1 ?_
                  first | refine A_icmp_leN (tgt := 73) d_Pl_enter_69 (by decide) (by with_reducible rfl) (by with_reducible rfl) (by omega) (by omega) (fun c_69 => ?_) (fun c_69 => ?_) | refine A_icmp_le (tgt := 73) d_Pl_enter_69 (by decide) (fun c_69 => ?_) (fun c_69 => ?_)
                  · refine A_aload_n0 d_Pl_enter_73 ?_
                    refine A_iload_n1 d_Pl_enter_74 ?_
                    refine A_iload9 d_Pl_enter_75 ?_
                    refine A_iload10 d_Pl_enter_77 ?_
                    refine A_callVP d_Pl_enter_79 (c_Pl_cell M.1 hI1.1 hI1.2.2.2.1 s (d + 0) (k + 1)) M.1.o rfl q_816 q_817 q_818 mk_Pl_cell rfl (by decide) rfl (Nat.le_of_ble_eq_true rfl) ⟨Nat.le_of_ble_eq_true rfl, Nat.le_of_ble_eq_true rfl⟩ ⟨rfl, rfl⟩ ?_
                    refine A_istore11 d_Pl_enter_82 trivial ?_
                    refine A_lload5 d_Pl_enter_84 ?_
                    refine A_aload_n0 d_Pl_enter_86 ?_
                    refine A_iload_n1 d_Pl_enter_87 ?_
                    refine A_iload7 d_Pl_enter_88 ?_
                    refine A_callVP d_Pl_enter_90 (c_Pl_scoreOf M.1 s hr (by omega) hhr) M.1.o rfl q_820 q_821 q_822 mk_Pl_scoreOf rfl (by decide) rfl (Nat.le_of_ble_eq_true rfl) ⟨Nat.le_of_ble_eq_true rfl, Nat.le_of_ble_eq_true rfl⟩ ⟨rfl, rfl⟩ ?_
                    refine A_ladd d_Pl_enter_93 ?_
                    refine A_iload8 d_Pl_enter_94 ?_
                    refine A_if_eqB (tgt := 115) d_Pl_enter_96 (by decide) (fun c_96 => ?_) (fun c_96 => ?_)
                    · exfalso
                      exact absurd c_96 (by decide)
                    · refine A_aload_n0 d_Pl_enter_99 ?_
                      refine A_getf (kf := 4) d_Pl_enter_100 M.1.o ok_2 (by decide) q_337 rfl ?_
                      refine A_iload7 d_Pl_enter_103 ?_
                      refine A_ialdN d_Pl_enter_105 M.1.fe ⟨by omega, by decide⟩ ?_
                      refine A_i2l d_Pl_enter_106 ?_
                      refine A_aload_n0 d_Pl_enter_107 ?_
                      refine A_getf (kf := 10) d_Pl_enter_108 M.1.o ok_2 (by decide) q_343 rfl ?_
                      refine A_lmul d_Pl_enter_111 ?_
                      refine A_goto (tgt := 116) d_Pl_enter_112 (by decide) ?_
                      refine A_lsub d_Pl_enter_116 ?_
                      refine A_lstore12 d_Pl_enter_117 trivial ?_
                      refine A_aload_n0 d_Pl_enter_119 ?_
                      refine A_getf (kf := 1) d_Pl_enter_120 M.1.o ok_2 (by decide) q_334 rfl ?_
                      refine A_iload11 d_Pl_enter_123 ?_
                      refine A_aload_n0 d_Pl_enter_125 ?_
                      refine A_getf (kf := 1) d_Pl_enter_126 M.1.o ok_2 (by decide) q_334 rfl ?_
                      refine A_iload11 d_Pl_enter_129 ?_
                      refine A_laldN d_Pl_enter_131 M.1.th ⟨cl_lt ok (by omega) (by omega) (by omega), by decide⟩ ?_
                      refine A_lload12 d_Pl_enter_132 ?_
                      refine A_callSP d_Pl_enter_134 (c_JM_max_1 _ _ _) q_840 q_841 mk_JM_max_1 rfl (by decide) rfl (Nat.le_of_ble_eq_true rfl) ⟨Nat.le_of_ble_eq_true rfl, Nat.le_of_ble_eq_true rfl⟩ ⟨rfl, rfl⟩ ?_
                      refine A_plTh d_Pl_enter_137 M (cl_lt ok (by omega) (by omega) (by omega)) (fun h' M' => ?_)
                      replace M := M'
                      clear M'
                      refine A_vret d_Pl_enter_138 rfl ⟨Nat.zero_le _, Nat.zero_le _⟩ ?_
                      have e1 : moN s 0 = 0 := if_neg hz
                      have e2 : enA (V 1) fr s = 1 := if_pos ⟨hc, hC⟩
                      have e3 : enV Z fr s hr sc = sc + scI Z s hr - (Z.2.2.2.2.2.2 hr).toInt64 * Z.2.1 := by unfold enV; rw [if_pos hc]
                      have e4 : enT Z.2.2.2.1 (V 0) (carD V) s (d + moN s 0) (k + enA (V 1) fr s) (enV Z fr s hr sc) = _ := if_neg (by rw [e1, e2]; omega)
                      rw [e4, e1, e2, e3]
                      exact ⟨rfl, M⟩
                  · refine A_vret d_Pl_enter_72 rfl ⟨Nat.zero_le _, Nat.zero_le _⟩ ?_
                    have e1 : moN s 0 = 0 := if_neg hz
                    have e2 : enA (V 1) fr s = 1 := if_pos ⟨hc, hC⟩
                    have e3 : enV Z fr s hr sc = sc + scI Z s hr - (Z.2.2.2.2.2.2 hr).toInt64 * Z.2.1 := by unfold enV; rw [if_pos hc]
                    have e4 : enT Z.2.2.2.1 (V 0) (carD V) s (d + moN s 0) (k + enA (V 1) fr s) (enV Z fr s hr sc) = Z.2.2.2.1 := if_pos (by rw [e1, e2]; omega)
                    rw [e4]
                    exact ⟨rfl, M⟩
          · exfalso
            omega
        · exfalso
          exact nI_neM1 (by omega) c_2
      · refine A_iload_n1 d_Pl_enter_0 ?_
        refine A_iconst (v := (-1)) d_Pl_enter_1 (by decide) ?_
        first | refine A_icmp_neN (tgt := 6) d_Pl_enter_2 (by decide) (by with_reducible rfl) (by with_reducible rfl) (by omega) (by omega) (fun c_2 => ?_) (fun c_2 => ?_) | refine A_icmp_ne (tgt := 6) d_Pl_enter_2 (by decide) (fun c_2 => ?_) (fun c_2 => ?_)
        · refine A_iload_n2 d_Pl_enter_6 ?_
          refine A_iload_n1 d_Pl_enter_7 ?_
          refine A_callSP d_Pl_enter_8 (c_Pl_isArrival fr s (by omega) (by omega)) q_837 q_838 mk_Pl_isArrival rfl (by decide) rfl (Nat.le_of_ble_eq_true rfl) ⟨Nat.le_of_ble_eq_true rfl, Nat.le_of_ble_eq_true rfl⟩ ⟨rfl, rfl⟩ ?_
          refine A_topI (congrArg bI (show carB fr s = true from hc)) ?_
          refine A_istore8 d_Pl_enter_11 trivial ?_
          refine A_iload_n3 d_Pl_enter_13 ?_
          refine A_iload_n1 d_Pl_enter_14 ?_
          first | refine A_if_neN (tgt := 22) d_Pl_enter_15 (by decide) (by with_reducible rfl) (by omega) (fun c_15 => ?_) (fun c_15 => ?_) | refine A_if_ne (tgt := 22) d_Pl_enter_15 (by decide) (fun c_15 => ?_) (fun c_15 => ?_)
          · refine A_iconst (v := nI 0) d_Pl_enter_22 (by decide) ?_
            refine A_callSNP d_Pl_enter_23 (c_N_one0 _) q_815 q_591 mk_N_oneIf rfl (by decide) rfl (Nat.le_of_ble_eq_true rfl) ⟨Nat.le_of_ble_eq_true rfl, Nat.le_of_ble_eq_true rfl⟩ ⟨rfl, rfl⟩ ?_
            first | refine A_iaddN d_Pl_enter_26 (by with_reducible rfl) (by with_reducible rfl) ?_ | refine A_iadd d_Pl_enter_26 ?_
            refine A_istore9 d_Pl_enter_27 trivial ?_
            refine A_iload4 d_Pl_enter_29 ?_
            refine A_iload8 d_Pl_enter_31 ?_
            refine A_if_eqB (tgt := 47) d_Pl_enter_33 (by decide) (fun c_33 => ?_) (fun c_33 => ?_)
            · refine A_iconst (v := nI 0) d_Pl_enter_47 (by decide) ?_
              refine A_callSNP d_Pl_enter_48 (c_N_one0 _) q_815 q_591 mk_N_oneIf rfl (by decide) rfl (Nat.le_of_ble_eq_true rfl) ⟨Nat.le_of_ble_eq_true rfl, Nat.le_of_ble_eq_true rfl⟩ ⟨rfl, rfl⟩ ?_
              first | refine A_iaddN d_Pl_enter_51 (by with_reducible rfl) (by with_reducible rfl) ?_ | refine A_iadd d_Pl_enter_51 ?_
              refine A_istore10 d_Pl_enter_52 trivial ?_
              refine A_iload10 d_Pl_enter_54 ?_
              refine A_aload_n0 d_Pl_enter_56 ?_
              refine A_getf (kf := 8) d_Pl_enter_57 M.1.o ok_2 (by decide) q_341 rfl ?_
              refine A_topI hI1.2.2.2.1 ?_
              first | refine A_icmp_geN (tgt := 72) d_Pl_enter_60 (by decide) (by with_reducible rfl) (by with_reducible rfl) (by omega) (by omega) (fun c_60 => ?_) (fun c_60 => ?_) | refine A_icmp_ge (tgt := 72) d_Pl_enter_60 (by decide) (fun c_60 => ?_) (fun c_60 => ?_)
              · refine A_vret d_Pl_enter_72 rfl ⟨Nat.zero_le _, Nat.zero_le _⟩ ?_
                have e1 : moN s 0 = 0 := if_neg hz
                have e2 : enA (V 1) fr s = 0 := if_neg (fun w => hC w.2)
                have e3 : enV Z fr s hr sc = sc + scI Z s hr - (Z.2.2.2.2.2.2 hr).toInt64 * Z.2.1 := by unfold enV; rw [if_pos hc]
                have e4 : enT Z.2.2.2.1 (V 0) (carD V) s (d + moN s 0) (k + enA (V 1) fr s) (enV Z fr s hr sc) = Z.2.2.2.1 := if_pos (by rw [e1, e2]; omega)
                rw [e4]
                exact ⟨rfl, M⟩
              · refine A_iload9 d_Pl_enter_63 ?_
                refine A_aload_n0 d_Pl_enter_65 ?_
                refine A_getf (kf := 5) d_Pl_enter_66 M.1.o ok_2 (by decide) q_338 rfl ?_
                refine A_topI hI1.1 ?_
                first | refine A_icmp_leN (tgt := 73) d_Pl_enter_69 (by decide) (by with_reducible rfl) (by with_reducible rfl) (by omega) (by omega) (fun c_69 => ?_) (fun c_69 => ?_) | refine A_icmp_le (tgt := 73) d_Pl_enter_69 (by decide) (fun c_69 => ?_) (fun c_69 => ?_)
                · refine A_aload_n0 d_Pl_enter_73 ?_
                  refine A_iload_n1 d_Pl_enter_74 ?_
                  refine A_iload9 d_Pl_enter_75 ?_
                  refine A_iload10 d_Pl_enter_77 ?_
                  refine A_callVP d_Pl_enter_79 (c_Pl_cell M.1 hI1.1 hI1.2.2.2.1 s (d + 0) (k + 0)) M.1.o rfl q_816 q_817 q_818 mk_Pl_cell rfl (by decide) rfl (Nat.le_of_ble_eq_true rfl) ⟨Nat.le_of_ble_eq_true rfl, Nat.le_of_ble_eq_true rfl⟩ ⟨rfl, rfl⟩ ?_
                  refine A_istore11 d_Pl_enter_82 trivial ?_
                  refine A_lload5 d_Pl_enter_84 ?_
                  refine A_aload_n0 d_Pl_enter_86 ?_
                  refine A_iload_n1 d_Pl_enter_87 ?_
                  refine A_iload7 d_Pl_enter_88 ?_
                  refine A_callVP d_Pl_enter_90 (c_Pl_scoreOf M.1 s hr (by omega) hhr) M.1.o rfl q_820 q_821 q_822 mk_Pl_scoreOf rfl (by decide) rfl (Nat.le_of_ble_eq_true rfl) ⟨Nat.le_of_ble_eq_true rfl, Nat.le_of_ble_eq_true rfl⟩ ⟨rfl, rfl⟩ ?_
                  refine A_ladd d_Pl_enter_93 ?_
                  refine A_iload8 d_Pl_enter_94 ?_
                  refine A_if_eqB (tgt := 115) d_Pl_enter_96 (by decide) (fun c_96 => ?_) (fun c_96 => ?_)
                  · exfalso
                    exact absurd c_96 (by decide)
                  · refine A_aload_n0 d_Pl_enter_99 ?_
                    refine A_getf (kf := 4) d_Pl_enter_100 M.1.o ok_2 (by decide) q_337 rfl ?_
                    refine A_iload7 d_Pl_enter_103 ?_
                    refine A_ialdN d_Pl_enter_105 M.1.fe ⟨by omega, by decide⟩ ?_
                    refine A_i2l d_Pl_enter_106 ?_
                    refine A_aload_n0 d_Pl_enter_107 ?_
                    refine A_getf (kf := 10) d_Pl_enter_108 M.1.o ok_2 (by decide) q_343 rfl ?_
                    refine A_lmul d_Pl_enter_111 ?_
                    refine A_goto (tgt := 116) d_Pl_enter_112 (by decide) ?_
                    refine A_lsub d_Pl_enter_116 ?_
                    refine A_lstore12 d_Pl_enter_117 trivial ?_
                    refine A_aload_n0 d_Pl_enter_119 ?_
                    refine A_getf (kf := 1) d_Pl_enter_120 M.1.o ok_2 (by decide) q_334 rfl ?_
                    refine A_iload11 d_Pl_enter_123 ?_
                    refine A_aload_n0 d_Pl_enter_125 ?_
                    refine A_getf (kf := 1) d_Pl_enter_126 M.1.o ok_2 (by decide) q_334 rfl ?_
                    refine A_iload11 d_Pl_enter_129 ?_
                    refine A_laldN d_Pl_enter_131 M.1.th ⟨cl_lt ok (by omega) (by omega) (by omega), by decide⟩ ?_
                    refine A_lload12 d_Pl_enter_132 ?_
                    refine A_callSP d_Pl_enter_134 (c_JM_max_1 _ _ _) q_840 q_841 mk_JM_max_1 rfl (by decide) rfl (Nat.le_of_ble_eq_true rfl) ⟨Nat.le_of_ble_eq_true rfl, Nat.le_of_ble_eq_true rfl⟩ ⟨rfl, rfl⟩ ?_
                    refine A_plTh d_Pl_enter_137 M (cl_lt ok (by omega) (by omega) (by omega)) (fun h' M' => ?_)
                    replace M := M'
                    clear M'
                    refine A_vret d_Pl_enter_138 rfl ⟨Nat.zero_le _, Nat.zero_le _⟩ ?_
                    have e1 : moN s 0 = 0 := if_neg hz
                    have e2 : enA (V 1) fr s = 0 := if_neg (fun w => hC w.2)
                    have e3 : enV Z fr s hr sc = sc + scI Z s hr - (Z.2.2.2.2.2.2 hr).toInt64 * Z.2.1 := by unfold enV; rw [if_pos hc]
                    have e4 : enT Z.2.2.2.1 (V 0) (carD V) s (d + moN s 0) (k + enA (V 1) fr s) (enV Z fr s hr sc) = _ := if_neg (by rw [e1, e2]; omega)
                    rw [e4, e1, e2, e3]
                    exact ⟨rfl, M⟩
                · refine A_vret d_Pl_enter_72 rfl ⟨Nat.zero_le _, Nat.zero_le _⟩ ?_
                  have e1 : moN s 0 = 0 := if_neg hz
                  have e2 : enA (V 1) fr s = 0 := if_neg (fun w => hC w.2)
                  have e3 : enV Z fr s hr sc = sc + scI Z s hr - (Z.2.2.2.2.2.2 hr).toInt64 * Z.2.1 := by unfold enV; rw [if_pos hc]
                  have e4 : enT Z.2.2.2.1 (V 0) (carD V) s (d + moN s 0) (k + enA (V 1) fr s) (enV Z fr s hr sc) = Z.2.2.2.1 := if_pos (by rw [e1, e2]; omega)
                  rw [e4]
                  exact ⟨rfl, M⟩
            · refine A_aload_n0 d_Pl_enter_36 ?_
              refine A_getf (kf := 6) d_Pl_enter_37 M.1.o ok_2 (by decide) q_339 rfl ?_
              refine A_topI hI1.2.1 ?_
              first | refine A_if_leN (tgt := 47) d_Pl_enter_40 (by decide) (by with_reducible rfl) (by omega) (fun c_40 => ?_) (fun c_40 => ?_) | refine A_if_le (tgt := 47) d_Pl_enter_40 (by decide) (fun c_40 => ?_) (fun c_40 => ?_)
              · refine A_iconst (v := nI 0) d_Pl_enter_47 (by decide) ?_
                refine A_callSNP d_Pl_enter_48 (c_N_one0 _) q_815 q_591 mk_N_oneIf rfl (by decide) rfl (Nat.le_of_ble_eq_true rfl) ⟨Nat.le_of_ble_eq_true rfl, Nat.le_of_ble_eq_true rfl⟩ ⟨rfl, rfl⟩ ?_
                first | refine A_iaddN d_Pl_enter_51 (by with_reducible rfl) (by with_reducible rfl) ?_ | refine A_iadd d_Pl_enter_51 ?_
                refine A_istore10 d_Pl_enter_52 trivial ?_
                refine A_iload10 d_Pl_enter_54 ?_
                refine A_aload_n0 d_Pl_enter_56 ?_
                refine A_getf (kf := 8) d_Pl_enter_57 M.1.o ok_2 (by decide) q_341 rfl ?_
                refine A_topI hI1.2.2.2.1 ?_
                first | refine A_icmp_geN (tgt := 72) d_Pl_enter_60 (by decide) (by with_reducible rfl) (by with_reducible rfl) (by omega) (by omega) (fun c_60 => ?_) (fun c_60 => ?_) | refine A_icmp_ge (tgt := 72) d_Pl_enter_60 (by decide) (fun c_60 => ?_) (fun c_60 => ?_)
                · refine A_vret d_Pl_enter_72 rfl ⟨Nat.zero_le _, Nat.zero_le _⟩ ?_
                  have e1 : moN s 0 = 0 := if_neg hz
                  have e2 : enA (V 1) fr s = 0 := if_neg (fun w => hC w.2)
                  have e3 : enV Z fr s hr sc = sc + scI Z s hr - (Z.2.2.2.2.2.2 hr).toInt64 * Z.2.1 := by unfold enV; rw [if_pos hc]
                  have e4 : enT Z.2.2.2.1 (V 0) (carD V) s (d + moN s 0) (k + enA (V 1) fr s) (enV Z fr s hr sc) = Z.2.2.2.1 := if_pos (by rw [e1, e2]; omega)
                  rw [e4]
                  exact ⟨rfl, M⟩
                · refine A_iload9 d_Pl_enter_63 ?_
                  refine A_aload_n0 d_Pl_enter_65 ?_
                  refine A_getf (kf := 5) d_Pl_enter_66 M.1.o ok_2 (by decide) q_338 rfl ?_
                  refine A_topI hI1.1 ?_
                  first | refine A_icmp_leN (tgt := 73) d_Pl_enter_69 (by decide) (by with_reducible rfl) (by with_reducible rfl) (by omega) (by omega) (fun c_69 => ?_) (fun c_69 => ?_) | refine A_icmp_le (tgt := 73) d_Pl_enter_69 (by decide) (fun c_69 => ?_) (fun c_69 => ?_)
                  · refine A_aload_n0 d_Pl_enter_73 ?_
                    refine A_iload_n1 d_Pl_enter_74 ?_
                    refine A_iload9 d_Pl_enter_75 ?_
                    refine A_iload10 d_Pl_enter_77 ?_
                    refine A_callVP d_Pl_enter_79 (c_Pl_cell M.1 hI1.1 hI1.2.2.2.1 s (d + 0) (k + 0)) M.1.o rfl q_816 q_817 q_818 mk_Pl_cell rfl (by decide) rfl (Nat.le_of_ble_eq_true rfl) ⟨Nat.le_of_ble_eq_true rfl, Nat.le_of_ble_eq_true rfl⟩ ⟨rfl, rfl⟩ ?_
                    refine A_istore11 d_Pl_enter_82 trivial ?_
                    refine A_lload5 d_Pl_enter_84 ?_
                    refine A_aload_n0 d_Pl_enter_86 ?_
                    refine A_iload_n1 d_Pl_enter_87 ?_
                    refine A_iload7 d_Pl_enter_88 ?_
                    refine A_callVP d_Pl_enter_90 (c_Pl_scoreOf M.1 s hr (by omega) hhr) M.1.o rfl q_820 q_821 q_822 mk_Pl_scoreOf rfl (by decide) rfl (Nat.le_of_ble_eq_true rfl) ⟨Nat.le_of_ble_eq_true rfl, Nat.le_of_ble_eq_true rfl⟩ ⟨rfl, rfl⟩ ?_
                    refine A_ladd d_Pl_enter_93 ?_
                    refine A_iload8 d_Pl_enter_94 ?_
                    refine A_if_eqB (tgt := 115) d_Pl_enter_96 (by decide) (fun c_96 => ?_) (fun c_96 => ?_)
                    · exfalso
                      exact absurd c_96 (by decide)
                    · refine A_aload_n0 d_Pl_enter_99 ?_
                      refine A_getf (kf := 4) d_Pl_enter_100 M.1.o ok_2 (by decide) q_337 rfl ?_
                      refine A_iload7 d_Pl_enter_103 ?_
                      refine A_ialdN d_Pl_enter_105 M.1.fe ⟨by omega, by decide⟩ ?_
                      refine A_i2l d_Pl_enter_106 ?_
                      refine A_aload_n0 d_Pl_enter_107 ?_
                      refine A_getf (kf := 10) d_Pl_enter_108 M.1.o ok_2 (by decide) q_343 rfl ?_
                      refine A_lmul d_Pl_enter_111 ?_
                      refine A_goto (tgt := 116) d_Pl_enter_112 (by decide) ?_
                      refine A_lsub d_Pl_enter_116 ?_
                      refine A_lstore12 d_Pl_enter_117 trivial ?_
                      refine A_aload_n0 d_Pl_enter_119 ?_
                      refine A_getf (kf := 1) d_Pl_enter_120 M.1.o ok_2 (by decide) q_334 rfl ?_
                      refine A_iload11 d_Pl_enter_123 ?_
                      refine A_aload_n0 d_Pl_enter_125 ?_
                      refine A_getf (kf := 1) d_Pl_enter_126 M.1.o ok_2 (by decide) q_334 rfl ?_
                      refine A_iload11 d_Pl_enter_129 ?_
                      refine A_laldN d_Pl_enter_131 M.1.th ⟨cl_lt ok (by omega) (by omega) (by omega), by decide⟩ ?_
                      refine A_lload12 d_Pl_enter_132 ?_
                      refine A_callSP d_Pl_enter_134 (c_JM_max_1 _ _ _) q_840 q_841 mk_JM_max_1 rfl (by decide) rfl (Nat.le_of_ble_eq_true rfl) ⟨Nat.le_of_ble_eq_true rfl, Nat.le_of_ble_eq_true rfl⟩ ⟨rfl, rfl⟩ ?_
                      refine A_plTh d_Pl_enter_137 M (cl_lt ok (by omega) (by omega) (by omega)) (fun h' M' => ?_)
                      replace M := M'
                      clear M'
                      refine A_vret d_Pl_enter_138 rfl ⟨Nat.zero_le _, Nat.zero_le _⟩ ?_
                      have e1 : moN s 0 = 0 := if_neg hz
                      have e2 : enA (V 1) fr s = 0 := if_neg (fun w => hC w.2)
                      have e3 : enV Z fr s hr sc = sc + scI Z s hr - (Z.2.2.2.2.2.2 hr).toInt64 * Z.2.1 := by unfold enV; rw [if_pos hc]
                      have e4 : enT Z.2.2.2.1 (V 0) (carD V) s (d + moN s 0) (k + enA (V 1) fr s) (enV Z fr s hr sc) = _ := if_neg (by rw [e1, e2]; omega)
                      rw [e4, e1, e2, e3]
                      exact ⟨rfl, M⟩
                  · refine A_vret d_Pl_enter_72 rfl ⟨Nat.zero_le _, Nat.zero_le _⟩ ?_
                    have e1 : moN s 0 = 0 := if_neg hz
                    have e2 : enA (V 1) fr s = 0 := if_neg (fun w => hC w.2)
                    have e3 : enV Z fr s hr sc = sc + scI Z s hr - (Z.2.2.2.2.2.2 hr).toInt64 * Z.2.1 := by unfold enV; rw [if_pos hc]
                    have e4 : enT Z.2.2.2.1 (V 0) (carD V) s (d + moN s 0) (k + enA (V 1) fr s) (enV Z fr s hr sc) = Z.2.2.2.1 := if_pos (by rw [e1, e2]; omega)
                    rw [e4]
                    exact ⟨rfl, M⟩
              · exfalso
                omega
          · exfalso
            omega
        · exfalso
          exact nI_neM1 (by omega) c_2
    · refine A_iload_n1 d_Pl_enter_0 ?_
      refine A_iconst (v := (-1)) d_Pl_enter_1 (by decide) ?_
      first | refine A_icmp_neN (tgt := 6) d_Pl_enter_2 (by decide) (by with_reducible rfl) (by with_reducible rfl) (by omega) (by omega) (fun c_2 => ?_) (fun c_2 => ?_) | refine A_icmp_ne (tgt := 6) d_Pl_enter_2 (by decide) (fun c_2 => ?_) (fun c_2 => ?_)
      · refine A_iload_n2 d_Pl_enter_6 ?_
        refine A_iload_n1 d_Pl_enter_7 ?_
        refine A_callSP d_Pl_enter_8 (c_Pl_isArrival fr s (by omega) (by omega)) q_837 q_838 mk_Pl_isArrival rfl (by decide) rfl (Nat.le_of_ble_eq_true rfl) ⟨Nat.le_of_ble_eq_true rfl, Nat.le_of_ble_eq_true rfl⟩ ⟨rfl, rfl⟩ ?_
        refine A_topI (congrArg bI (show carB fr s = false from Bool.eq_false_iff.mpr hc)) ?_
        refine A_istore8 d_Pl_enter_11 trivial ?_
        refine A_iload_n3 d_Pl_enter_13 ?_
        refine A_iload_n1 d_Pl_enter_14 ?_
        first | refine A_if_neN (tgt := 22) d_Pl_enter_15 (by decide) (by with_reducible rfl) (by omega) (fun c_15 => ?_) (fun c_15 => ?_) | refine A_if_ne (tgt := 22) d_Pl_enter_15 (by decide) (fun c_15 => ?_) (fun c_15 => ?_)
        · refine A_iconst (v := nI 0) d_Pl_enter_22 (by decide) ?_
          refine A_callSNP d_Pl_enter_23 (c_N_one0 _) q_815 q_591 mk_N_oneIf rfl (by decide) rfl (Nat.le_of_ble_eq_true rfl) ⟨Nat.le_of_ble_eq_true rfl, Nat.le_of_ble_eq_true rfl⟩ ⟨rfl, rfl⟩ ?_
          first | refine A_iaddN d_Pl_enter_26 (by with_reducible rfl) (by with_reducible rfl) ?_ | refine A_iadd d_Pl_enter_26 ?_
          refine A_istore9 d_Pl_enter_27 trivial ?_
          refine A_iload4 d_Pl_enter_29 ?_
          refine A_iload8 d_Pl_enter_31 ?_
          refine A_if_eqB (tgt := 47) d_Pl_enter_33 (by decide) (fun c_33 => ?_) (fun c_33 => ?_)
          · refine A_iconst (v := nI 0) d_Pl_enter_47 (by decide) ?_
            refine A_callSNP d_Pl_enter_48 (c_N_one0 _) q_815 q_591 mk_N_oneIf rfl (by decide) rfl (Nat.le_of_ble_eq_true rfl) ⟨Nat.le_of_ble_eq_true rfl, Nat.le_of_ble_eq_true rfl⟩ ⟨rfl, rfl⟩ ?_
            first | refine A_iaddN d_Pl_enter_51 (by with_reducible rfl) (by with_reducible rfl) ?_ | refine A_iadd d_Pl_enter_51 ?_
            refine A_istore10 d_Pl_enter_52 trivial ?_
            refine A_iload10 d_Pl_enter_54 ?_
            refine A_aload_n0 d_Pl_enter_56 ?_
            refine A_getf (kf := 8) d_Pl_enter_57 M.1.o ok_2 (by decide) q_341 rfl ?_
            refine A_topI hI1.2.2.2.1 ?_
            first | refine A_icmp_geN (tgt := 72) d_Pl_enter_60 (by decide) (by with_reducible rfl) (by with_reducible rfl) (by omega) (by omega) (fun c_60 => ?_) (fun c_60 => ?_) | refine A_icmp_ge (tgt := 72) d_Pl_enter_60 (by decide) (fun c_60 => ?_) (fun c_60 => ?_)
            · refine A_vret d_Pl_enter_72 rfl ⟨Nat.zero_le _, Nat.zero_le _⟩ ?_
              have e1 : moN s 0 = 0 := if_neg hz
              have e2 : enA (V 1) fr s = 0 := if_neg (fun w => hc w.1)
              have e3 : enV Z fr s hr sc = sc + scI Z s hr - 0 := by unfold enV; rw [if_neg hc]
              have e4 : enT Z.2.2.2.1 (V 0) (carD V) s (d + moN s 0) (k + enA (V 1) fr s) (enV Z fr s hr sc) = Z.2.2.2.1 := if_pos (by rw [e1, e2]; omega)
              rw [e4]
              exact ⟨rfl, M⟩
            · refine A_iload9 d_Pl_enter_63 ?_
              refine A_aload_n0 d_Pl_enter_65 ?_
              refine A_getf (kf := 5) d_Pl_enter_66 M.1.o ok_2 (by decide) q_338 rfl ?_
              refine A_topI hI1.1 ?_
              first | refine A_icmp_leN (tgt := 73) d_Pl_enter_69 (by decide) (by with_reducible rfl) (by with_reducible rfl) (by omega) (by omega) (fun c_69 => ?_) (fun c_69 => ?_) | refine A_icmp_le (tgt := 73) d_Pl_enter_69 (by decide) (fun c_69 => ?_) (fun c_69 => ?_)
              · refine A_aload_n0 d_Pl_enter_73 ?_
                refine A_iload_n1 d_Pl_enter_74 ?_
                refine A_iload9 d_Pl_enter_75 ?_
                refine A_iload10 d_Pl_enter_77 ?_
                refine A_callVP d_Pl_enter_79 (c_Pl_cell M.1 hI1.1 hI1.2.2.2.1 s (d + 0) (k + 0)) M.1.o rfl q_816 q_817 q_818 mk_Pl_cell rfl (by decide) rfl (Nat.le_of_ble_eq_true rfl) ⟨Nat.le_of_ble_eq_true rfl, Nat.le_of_ble_eq_true rfl⟩ ⟨rfl, rfl⟩ ?_
                refine A_istore11 d_Pl_enter_82 trivial ?_
                refine A_lload5 d_Pl_enter_84 ?_
                refine A_aload_n0 d_Pl_enter_86 ?_
                refine A_iload_n1 d_Pl_enter_87 ?_
                refine A_iload7 d_Pl_enter_88 ?_
                refine A_callVP d_Pl_enter_90 (c_Pl_scoreOf M.1 s hr (by omega) hhr) M.1.o rfl q_820 q_821 q_822 mk_Pl_scoreOf rfl (by decide) rfl (Nat.le_of_ble_eq_true rfl) ⟨Nat.le_of_ble_eq_true rfl, Nat.le_of_ble_eq_true rfl⟩ ⟨rfl, rfl⟩ ?_
                refine A_ladd d_Pl_enter_93 ?_
                refine A_iload8 d_Pl_enter_94 ?_
                refine A_if_eqB (tgt := 115) d_Pl_enter_96 (by decide) (fun c_96 => ?_) (fun c_96 => ?_)
                · refine A_lconst (v := 0) d_Pl_enter_115 (by decide) ?_
                  refine A_lsub d_Pl_enter_116 ?_
                  refine A_lstore12 d_Pl_enter_117 trivial ?_
                  refine A_aload_n0 d_Pl_enter_119 ?_
                  refine A_getf (kf := 1) d_Pl_enter_120 M.1.o ok_2 (by decide) q_334 rfl ?_
                  refine A_iload11 d_Pl_enter_123 ?_
                  refine A_aload_n0 d_Pl_enter_125 ?_
                  refine A_getf (kf := 1) d_Pl_enter_126 M.1.o ok_2 (by decide) q_334 rfl ?_
                  refine A_iload11 d_Pl_enter_129 ?_
                  refine A_laldN d_Pl_enter_131 M.1.th ⟨cl_lt ok (by omega) (by omega) (by omega), by decide⟩ ?_
                  refine A_lload12 d_Pl_enter_132 ?_
                  refine A_callSP d_Pl_enter_134 (c_JM_max_1 _ _ _) q_840 q_841 mk_JM_max_1 rfl (by decide) rfl (Nat.le_of_ble_eq_true rfl) ⟨Nat.le_of_ble_eq_true rfl, Nat.le_of_ble_eq_true rfl⟩ ⟨rfl, rfl⟩ ?_
                  refine A_plTh d_Pl_enter_137 M (cl_lt ok (by omega) (by omega) (by omega)) (fun h' M' => ?_)
                  replace M := M'
                  clear M'
                  refine A_vret d_Pl_enter_138 rfl ⟨Nat.zero_le _, Nat.zero_le _⟩ ?_
                  have e1 : moN s 0 = 0 := if_neg hz
                  have e2 : enA (V 1) fr s = 0 := if_neg (fun w => hc w.1)
                  have e3 : enV Z fr s hr sc = sc + scI Z s hr - 0 := by unfold enV; rw [if_neg hc]
                  have e4 : enT Z.2.2.2.1 (V 0) (carD V) s (d + moN s 0) (k + enA (V 1) fr s) (enV Z fr s hr sc) = _ := if_neg (by rw [e1, e2]; omega)
                  rw [e4, e1, e2, e3]
                  exact ⟨rfl, M⟩
                · exfalso
                  exact absurd c_96 (by decide)
              · refine A_vret d_Pl_enter_72 rfl ⟨Nat.zero_le _, Nat.zero_le _⟩ ?_
                have e1 : moN s 0 = 0 := if_neg hz
                have e2 : enA (V 1) fr s = 0 := if_neg (fun w => hc w.1)
                have e3 : enV Z fr s hr sc = sc + scI Z s hr - 0 := by unfold enV; rw [if_neg hc]
                have e4 : enT Z.2.2.2.1 (V 0) (carD V) s (d + moN s 0) (k + enA (V 1) fr s) (enV Z fr s hr sc) = Z.2.2.2.1 := if_pos (by rw [e1, e2]; omega)
                rw [e4]
                exact ⟨rfl, M⟩
          · exfalso
            exact absurd c_33 (by decide)
        · exfalso
          omega
      · exfalso
        exact nI_neM1 (by omega) c_2
set_option maxHeartbeats 4000000 in
set_option maxRecDepth 100000 in
theorem c_Pl_enterN {G : GE} {h : AH} (r : Nat) (fr d k : Nat) (sc : Int64) (hr : Nat)  : Ctr G y_Pl_enter b_Pl_enter 14 none r_Pl_enter [.ref r, .int (-1), .int (nI fr), .int (nI d), .int (nI k), .long sc, .int (nI hr)] h (fun v' h1 => v' = none ∧ h1 = h) := by
  refine Ctr.of (by decide +kernel) (by simp) (Nat.le_of_ble_eq_true rfl) (L0 := [some (.ref r), some (.int (-1)), some (.int (nI fr)), some (.int (nI d)), some (.int (nI k)), some (.long sc), none, some (.int (nI hr)), none, none, none, none, none, none]) rfl ?_
  refine A_iload_n1 d_Pl_enter_0 ?_
  refine A_iconst (v := (-1)) d_Pl_enter_1 (by decide) ?_
  refine A_icmp_ne (tgt := 6) d_Pl_enter_2 (by decide) (fun c => absurd rfl c) (fun c_2 => ?_)
  refine A_vret d_Pl_enter_5 rfl ⟨Nat.zero_le _, Nat.zero_le _⟩ ?_
  exact ⟨rfl, rfl⟩
