theorem hiS_none {V : Nat → Nat} {cc : Nat} : ∀ n, (hiS V cc n).1 = none → (hiS V cc n).2 = 1000000
  | 0, _ => rfl
  | n + 1, h => by
    have ih := hiS_none (V := V) (cc := cc) n
    unfold hiS at h ⊢
    split at h
    · cases h
    · rename_i z
      rw [if_neg z]
      exact ih h
def lsE (q : Option Nat × Nat) : Int32 := match q.1 with
  | none => -1
  | some _ => nI q.2
theorem lsE_n {q : Option Nat × Nat} (h : q.1 = none) : lsE q = -1 := by unfold lsE; rw [h]
theorem lsE_s {q : Option Nat × Nat} {x : Nat} (h : q.1 = some x) : lsE q = nI q.2 := by unfold lsE; rw [h]
theorem hiS_y {V : Nat → Nat} {cc n : Nat} (a : okH V cc n = true) (b : cosH V n (V 5) < (hiS V cc n).2) : hiS V cc (n + 1) = (some n, cosH V n (V 5)) := if_pos ⟨a, b⟩
theorem hiS_n1 {V : Nat → Nat} {cc n : Nat} (a : okH V cc n = false) : hiS V cc (n + 1) = hiS V cc n := if_neg (fun z => by rw [a] at z; exact absurd z.1 (by decide))
theorem hiS_n2 {V : Nat → Nat} {cc n : Nat} (b : (hiS V cc n).2 ≤ cosH V n (V 5)) : hiS V cc (n + 1) = hiS V cc n := if_neg (fun z => by omega)
theorem cosH_bd {V : Nat → Nat} (ok : VOK V) (x : Nat) : cosH V x (V 5) ≤ 594 := by
  have h5 := ok.2.2.2.2.2.1
  have := sumN_le (f := fun b => if hasB (nI x) (nI b) = true then V (30 + 2 * b) else 0) (c := 99) (V 5) (fun i hi => by
    have := (ok.2.2.2.2.2.2.2.1 i (by omega)).1
    show (if _ then _ else _) ≤ _
    split <;> omega)
  unfold cosH
  omega
set_option maxHeartbeats 4000000 in
set_option maxRecDepth 100000 in
theorem c_N_hire {G : GE} {h : AH} {n : Nat} {W : TD} {c : Nat → Nat} {VL WT BK SG GM : Nat → Nat → Nat} (hN : NT h n W c VL WT BK SG GM) (la ca w : Int32) : Ctr G y_N_hire b_N_hire 9 (some .int) r_N_hire [.ref n, .int la, .int ca, .int w] h (Pu (.int (pick (c 0) la (fun l => rg ca 0 100 (fun cc => hireV (VL l) cc w) (-1)) (-1))) h) := by
  refine Ctr.of (by decide +kernel) (by simp) (Nat.le_of_ble_eq_true rfl) (L0 := [some (.ref n), some (.int la), some (.int ca), some (.int w), none, none, none, none, none]) rfl ?_
  have hc0 := (hN.r.n 0 (by decide)).2
  rcases told_c (n := c 0) (by omega) la with ⟨l, hl, rfl⟩ | hno
  · rw [pick_in hl (by omega)]
    have hA := hN.a.l l (by omega)
    have hV := hN.r.l l hl
    have hV0 := hV
    obtain ⟨ok, ⟨f0, f1, f2, f3, f4, f9⟩, hP, hBe, hTo⟩ := hV
    have hH := ok.1
    have h4 := ok.2.2.2.2.1
    have h5 := ok.2.2.2.2.2.1
    rcases rg_c (lo := 0) (hi := 100) (by decide) (by decide) ca with ⟨cc, -, hcc, rfl⟩ | hro
    · rw [rg_in ⟨by omega, hcc⟩ (by decide)]
      have h2p : 2 ^ VL l 5 ≤ 2 ^ 6 := Nat.pow_le_pow_right (by decide) h5
      have key : ∀ i, i ≤ 2 ^ VL l 5 → WA G y_N_hire b_N_hire 9 (some .int) r_N_hire 0 0 (Pu (.int (hireV (VL l) cc w)) h) 0 0 41 [some (.ref n), some (.int (nI l)), some (.int (nI cc)), some (.int w), some (.ref (n + 1 + 12 + 17 * l)), some (.int (encN (hiS (VL l) cc i).1)), some (.int (lsE (hiS (VL l) cc i))), some (.int (nI i)), none] [] h := by
        refine down ?_ (fun i hi ih => ?_)
        · by_cases hw : w = 0
          · refine A_iload7 d_N_hire_41 ?_
            refine A_iconst (v := nI 1) d_N_hire_43 (by decide) ?_
            refine A_aload4 d_N_hire_44 ?_
            refine A_getf (kf := 9) d_N_hire_46 hA.o ok_1 (by decide) q_78 rfl ?_
            refine A_topI f9 ?_
            refine A_ishl d_N_hire_49 ?_
            refine A_topI (shl6 _ (by omega)) ?_
            first | refine A_icmp_geN (tgt := 100) d_N_hire_50 (by decide) (by with_reducible rfl) (by with_reducible rfl) (by omega) (by omega) (fun c_50 => ?_) (fun c_50 => ?_) | refine A_icmp_ge (tgt := 100) d_N_hire_50 (by decide) (fun c_50 => ?_) (fun c_50 => ?_)
            · refine A_iload_n3 d_N_hire_100 ?_
              refine A_if_eq (tgt := 109) d_N_hire_101 (by decide) (fun c_101 => ?_) (fun c => absurd hw c)
              refine A_iload6 d_N_hire_109 ?_
              refine A_iret d_N_hire_111 rfl ⟨Nat.zero_le _, Nat.zero_le _⟩ ?_
              refine pu ?_
              unfold hireV
              cases hq : (hiS (VL l) cc (2 ^ VL l 5)).1 with
              | none => first | rfl | (rw [lsE_n hq]; done)
              | some q => first | (rw [lsE_s hq]; simp [hw]; done) | (simp [hw, encN]; done)
            · exact absurd c_50 (by omega)
          · refine A_iload7 d_N_hire_41 ?_
            refine A_iconst (v := nI 1) d_N_hire_43 (by decide) ?_
            refine A_aload4 d_N_hire_44 ?_
            refine A_getf (kf := 9) d_N_hire_46 hA.o ok_1 (by decide) q_78 rfl ?_
            refine A_topI f9 ?_
            refine A_ishl d_N_hire_49 ?_
            refine A_topI (shl6 _ (by omega)) ?_
            first | refine A_icmp_geN (tgt := 100) d_N_hire_50 (by decide) (by with_reducible rfl) (by with_reducible rfl) (by omega) (by omega) (fun c_50 => ?_) (fun c_50 => ?_) | refine A_icmp_ge (tgt := 100) d_N_hire_50 (by decide) (fun c_50 => ?_) (fun c_50 => ?_)
            · refine A_iload_n3 d_N_hire_100 ?_
              refine A_if_eq (tgt := 109) d_N_hire_101 (by decide) (fun c => absurd c hw) (fun c_101 => ?_)
              refine A_iload5 d_N_hire_104 ?_
              refine A_goto (tgt := 111) d_N_hire_106 (by decide) ?_
              refine A_iret d_N_hire_111 rfl ⟨Nat.zero_le _, Nat.zero_le _⟩ ?_
              refine pu ?_
              unfold hireV
              cases hq : (hiS (VL l) cc (2 ^ VL l 5)).1 with
              | none => first | rfl | (rw [lsE_n hq]; done)
              | some q => first | (rw [lsE_s hq]; simp [hw]; done) | (simp [hw, encN]; done)
            · exact absurd c_50 (by omega)
        · have hco := cosH_bd ok i
          have hle := hiS_le ok cc i
          rcases hq : (hiS (VL l) cc i).1 with _ | q
          · rw [lsE_n hq]
            have hnn := hiS_none i hq
            refine A_iload7 d_N_hire_41 ?_
            refine A_iconst (v := nI 1) d_N_hire_43 (by decide) ?_
            refine A_aload4 d_N_hire_44 ?_
            refine A_getf (kf := 9) d_N_hire_46 hA.o ok_1 (by decide) q_78 rfl ?_
            refine A_topI f9 ?_
            refine A_ishl d_N_hire_49 ?_
            refine A_topI (shl6 _ (by omega)) ?_
            first | refine A_icmp_geN (tgt := 100) d_N_hire_50 (by decide) (by with_reducible rfl) (by with_reducible rfl) (by omega) (by omega) (fun c_50 => ?_) (fun c_50 => ?_) | refine A_icmp_ge (tgt := 100) d_N_hire_50 (by decide) (fun c_50 => ?_) (fun c_50 => ?_)
            · exact absurd c_50 (by omega)
            · refine A_aload4 d_N_hire_53 ?_
              refine A_iload7 d_N_hire_55 ?_
              refine A_callVP d_N_hire_57 (c_Ld_costOf hA hV0 i) hA.o rfl q_975 q_976 q_977 mk_Ld_costOf rfl (by decide) rfl (Nat.le_of_ble_eq_true rfl) ⟨Nat.le_of_ble_eq_true rfl, Nat.le_of_ble_eq_true rfl⟩ ⟨rfl, rfl⟩ ?_
              refine A_istore8 d_N_hire_60 trivial ?_
              refine A_aload4 d_N_hire_62 ?_
              refine A_iload7 d_N_hire_64 ?_
              refine A_iload_n2 d_N_hire_66 ?_
              refine A_callVP d_N_hire_67 (c_Ld_putsDownWithin hA hV0 i cc hcc) hA.o rfl q_979 q_980 q_981 mk_Ld_putsDownWithin rfl (by decide) rfl (Nat.le_of_ble_eq_true rfl) ⟨Nat.le_of_ble_eq_true rfl, Nat.le_of_ble_eq_true rfl⟩ ⟨rfl, rfl⟩ ?_
              refine A_if_eqB (tgt := 94) d_N_hire_70 (by decide) (fun c_70 => ?_) (fun c_70 => ?_)
              · first | refine A_iinc7 d_N_hire_94 (nI_1 _) trivial ?_ | refine A_iinc7 d_N_hire_94 rfl trivial ?_
                refine A_goto (tgt := 41) d_N_hire_97 (by decide) ?_
                first
                  | (rw [hiS_y c_70 (by omega)] at ih
                     refine A_drop8 (A_loc ?_ ih)
                     rfl)
                  | (rw [hiS_n1 c_70, hq, lsE_n hq] at ih
                     refine A_drop8 (A_loc ?_ ih)
                     rfl)
                  | (rw [hiS_n2 (by omega), hq, lsE_n hq] at ih
                     refine A_drop8 (A_loc ?_ ih)
                     rfl)
              · refine A_iload5 d_N_hire_73 ?_
                refine A_iconst (v := (-1)) d_N_hire_75 (by decide) ?_
                refine A_icmp_eq (tgt := 86) d_N_hire_76 (by decide) (fun c_76 => ?_) (fun c => absurd rfl c)
                refine A_iload7 d_N_hire_86 ?_
                refine A_istore5 d_N_hire_88 trivial ?_
                refine A_iload8 d_N_hire_90 ?_
                refine A_istore6 d_N_hire_92 trivial ?_
                first | refine A_iinc7 d_N_hire_94 (nI_1 _) trivial ?_ | refine A_iinc7 d_N_hire_94 rfl trivial ?_
                refine A_goto (tgt := 41) d_N_hire_97 (by decide) ?_
                first
                  | (rw [hiS_y c_70 (by omega)] at ih
                     refine A_drop8 (A_loc ?_ ih)
                     rfl)
                  | (rw [hiS_n1 c_70, hq, lsE_n hq] at ih
                     refine A_drop8 (A_loc ?_ ih)
                     rfl)
                  | (rw [hiS_n2 (by omega), hq, lsE_n hq] at ih
                     refine A_drop8 (A_loc ?_ ih)
                     rfl)
          · rw [lsE_s hq]
            refine A_iload7 d_N_hire_41 ?_
            refine A_iconst (v := nI 1) d_N_hire_43 (by decide) ?_
            refine A_aload4 d_N_hire_44 ?_
            refine A_getf (kf := 9) d_N_hire_46 hA.o ok_1 (by decide) q_78 rfl ?_
            refine A_topI f9 ?_
            refine A_ishl d_N_hire_49 ?_
            refine A_topI (shl6 _ (by omega)) ?_
            first | refine A_icmp_geN (tgt := 100) d_N_hire_50 (by decide) (by with_reducible rfl) (by with_reducible rfl) (by omega) (by omega) (fun c_50 => ?_) (fun c_50 => ?_) | refine A_icmp_ge (tgt := 100) d_N_hire_50 (by decide) (fun c_50 => ?_) (fun c_50 => ?_)
            · exact absurd c_50 (by omega)
            · refine A_aload4 d_N_hire_53 ?_
              refine A_iload7 d_N_hire_55 ?_
              refine A_callVP d_N_hire_57 (c_Ld_costOf hA hV0 i) hA.o rfl q_975 q_976 q_977 mk_Ld_costOf rfl (by decide) rfl (Nat.le_of_ble_eq_true rfl) ⟨Nat.le_of_ble_eq_true rfl, Nat.le_of_ble_eq_true rfl⟩ ⟨rfl, rfl⟩ ?_
              refine A_istore8 d_N_hire_60 trivial ?_
              refine A_aload4 d_N_hire_62 ?_
              refine A_iload7 d_N_hire_64 ?_
              refine A_iload_n2 d_N_hire_66 ?_
              refine A_callVP d_N_hire_67 (c_Ld_putsDownWithin hA hV0 i cc hcc) hA.o rfl q_979 q_980 q_981 mk_Ld_putsDownWithin rfl (by decide) rfl (Nat.le_of_ble_eq_true rfl) ⟨Nat.le_of_ble_eq_true rfl, Nat.le_of_ble_eq_true rfl⟩ ⟨rfl, rfl⟩ ?_
              refine A_if_eqB (tgt := 94) d_N_hire_70 (by decide) (fun c_70 => ?_) (fun c_70 => ?_)
              · first | refine A_iinc7 d_N_hire_94 (nI_1 _) trivial ?_ | refine A_iinc7 d_N_hire_94 rfl trivial ?_
                refine A_goto (tgt := 41) d_N_hire_97 (by decide) ?_
                first
                  | (rw [hiS_y c_70 (by omega)] at ih
                     refine A_drop8 (A_loc ?_ ih)
                     rfl)
                  | (rw [hiS_n1 c_70, hq, lsE_s hq] at ih
                     refine A_drop8 (A_loc ?_ ih)
                     rfl)
                  | (rw [hiS_n2 (by omega), hq, lsE_s hq] at ih
                     refine A_drop8 (A_loc ?_ ih)
                     rfl)
              · refine A_iload5 d_N_hire_73 ?_
                refine A_iconst (v := (-1)) d_N_hire_75 (by decide) ?_
                refine A_icmp_eq (tgt := 86) d_N_hire_76 (by decide) (fun c => absurd c (nI_nm1 (by have := hle.2 q hq; omega))) (fun c_76 => ?_)
                refine A_iload8 d_N_hire_79 ?_
                refine A_iload6 d_N_hire_81 ?_
                first | refine A_icmp_geN (tgt := 94) d_N_hire_83 (by decide) (by with_reducible rfl) (by with_reducible rfl) (by omega) (by omega) (fun c_83 => ?_) (fun c_83 => ?_) | refine A_icmp_ge (tgt := 94) d_N_hire_83 (by decide) (fun c_83 => ?_) (fun c_83 => ?_)
                · first | refine A_iinc7 d_N_hire_94 (nI_1 _) trivial ?_ | refine A_iinc7 d_N_hire_94 rfl trivial ?_
                  refine A_goto (tgt := 41) d_N_hire_97 (by decide) ?_
                  first
                    | (rw [hiS_y c_70 (by omega)] at ih
                       refine A_drop8 (A_loc ?_ ih)
                       rfl)
                    | (rw [hiS_n1 c_70, hq, lsE_s hq] at ih
                       refine A_drop8 (A_loc ?_ ih)
                       rfl)
                    | (rw [hiS_n2 (by omega), hq, lsE_s hq] at ih
                       refine A_drop8 (A_loc ?_ ih)
                       rfl)
                · refine A_iload7 d_N_hire_86 ?_
                  refine A_istore5 d_N_hire_88 trivial ?_
                  refine A_iload8 d_N_hire_90 ?_
                  refine A_istore6 d_N_hire_92 trivial ?_
                  first | refine A_iinc7 d_N_hire_94 (nI_1 _) trivial ?_ | refine A_iinc7 d_N_hire_94 rfl trivial ?_
                  refine A_goto (tgt := 41) d_N_hire_97 (by decide) ?_
                  first
                    | (rw [hiS_y c_70 (by omega)] at ih
                       refine A_drop8 (A_loc ?_ ih)
                       rfl)
                    | (rw [hiS_n1 c_70, hq, lsE_s hq] at ih
                       refine A_drop8 (A_loc ?_ ih)
                       rfl)
                    | (rw [hiS_n2 (by omega), hq, lsE_s hq] at ih
                       refine A_drop8 (A_loc ?_ ih)
                       rfl)
      refine A_aload_n0 d_N_hire_0 ?_
      refine A_iconst (v := nI 0) d_N_hire_1 (by decide) ?_
      refine A_iload_n1 d_N_hire_2 ?_
      refine A_callVP d_N_hire_3 (c_N_isToldT hN (by decide) hl) hN.o rfl q_644 q_646 qs_2 mk_N_isTold rfl (by decide) rfl (Nat.le_of_ble_eq_true rfl) ⟨Nat.le_of_ble_eq_true rfl, Nat.le_of_ble_eq_true rfl⟩ ⟨rfl, rfl⟩ ?_
      refine A_if_eqB (tgt := 19) d_N_hire_6 (by decide) (fun c => absurd c (by decide)) (fun c_6 => ?_)
      refine A_iload_n2 d_N_hire_9 ?_
      refine A_if_lt (tgt := 19) d_N_hire_10 (by decide) (fun c => absurd c (nI_pos (by omega))) (fun c_10 => ?_)
      refine A_iload_n2 d_N_hire_13 ?_
      refine A_bipush (v := nI 100) d_N_hire_14 (by decide) ?_
      first | refine A_icmp_leN (tgt := 21) d_N_hire_16 (by decide) (by with_reducible rfl) (by with_reducible rfl) (by omega) (by omega) (fun c_16 => ?_) (fun c_16 => ?_) | refine A_icmp_le (tgt := 21) d_N_hire_16 (by decide) (fun c_16 => ?_) (fun c_16 => ?_)
      · refine A_aload_n0 d_N_hire_21 ?_
        refine A_getf (kf := 0) d_N_hire_22 hN.o ok_7 (by decide) q_368 rfl ?_
        refine A_getf (kf := 5) d_N_hire_25 hN.a.o ok_6 (by decide) q_203 rfl ?_
        refine A_iload_n1 d_N_hire_28 ?_
        refine A_aaldN d_N_hire_29 hN.a.lands rfl rfl ⟨by omega, by decide⟩ (show va_rf (two (n + 1 + 12) (n + 1 + 29) l) = .ref (n + 1 + 12 + 17 * l) by rw [two_at rfl (by omega)]; rfl) ?_
        refine A_astore4 d_N_hire_30 trivial ?_
        refine A_iconst (v := (-1)) d_N_hire_32 (by decide) ?_
        refine A_istore5 d_N_hire_33 trivial ?_
        refine A_iconst (v := (-1)) d_N_hire_35 (by decide) ?_
        refine A_istore6 d_N_hire_36 trivial ?_
        refine A_iconst (v := nI 0) d_N_hire_38 (by decide) ?_
        refine A_istore7 d_N_hire_39 trivial ?_
        exact key 0 (Nat.zero_le _)
      · exact absurd c_16 (by omega)
    · rw [rg_out hro]
      by_cases hx : ca < 0
      · refine A_aload_n0 d_N_hire_0 ?_
        refine A_iconst (v := nI 0) d_N_hire_1 (by decide) ?_
        refine A_iload_n1 d_N_hire_2 ?_
        refine A_callVP d_N_hire_3 (c_N_isToldT hN (by decide) hl) hN.o rfl q_644 q_646 qs_2 mk_N_isTold rfl (by decide) rfl (Nat.le_of_ble_eq_true rfl) ⟨Nat.le_of_ble_eq_true rfl, Nat.le_of_ble_eq_true rfl⟩ ⟨rfl, rfl⟩ ?_
        refine A_if_eqB (tgt := 19) d_N_hire_6 (by decide) (fun c => absurd c (by decide)) (fun c_6 => ?_)
        refine A_iload_n2 d_N_hire_9 ?_
        refine A_if_lt (tgt := 19) d_N_hire_10 (by decide) (fun c_10 => ?_) (fun c => absurd hx c)
        refine A_iconst (v := (-1)) d_N_hire_19 (by decide) ?_
        refine A_iret d_N_hire_20 rfl ⟨Nat.zero_le _, Nat.zero_le _⟩ ?_
        exact pu rfl
      · obtain ⟨j, hj, rfl⟩ := nI_of hx
        rw [inB_N hj (by decide) (by decide)] at hro
        refine A_aload_n0 d_N_hire_0 ?_
        refine A_iconst (v := nI 0) d_N_hire_1 (by decide) ?_
        refine A_iload_n1 d_N_hire_2 ?_
        refine A_callVP d_N_hire_3 (c_N_isToldT hN (by decide) hl) hN.o rfl q_644 q_646 qs_2 mk_N_isTold rfl (by decide) rfl (Nat.le_of_ble_eq_true rfl) ⟨Nat.le_of_ble_eq_true rfl, Nat.le_of_ble_eq_true rfl⟩ ⟨rfl, rfl⟩ ?_
        refine A_if_eqB (tgt := 19) d_N_hire_6 (by decide) (fun c => absurd c (by decide)) (fun c_6 => ?_)
        refine A_iload_n2 d_N_hire_9 ?_
        refine A_if_lt (tgt := 19) d_N_hire_10 (by decide) (fun c => absurd c hx) (fun c_10 => ?_)
        refine A_iload_n2 d_N_hire_13 ?_
        refine A_bipush (v := nI 100) d_N_hire_14 (by decide) ?_
        first | refine A_icmp_leN (tgt := 21) d_N_hire_16 (by decide) (by with_reducible rfl) (by with_reducible rfl) (by omega) (by omega) (fun c_16 => ?_) (fun c_16 => ?_) | refine A_icmp_le (tgt := 21) d_N_hire_16 (by decide) (fun c_16 => ?_) (fun c_16 => ?_)
        · exact absurd hro (by rw [decide_eq_true (p := 0 ≤ j) (by omega), decide_eq_true (p := j ≤ 100) (by omega)]; decide)
        · refine A_iconst (v := (-1)) d_N_hire_19 (by decide) ?_
          refine A_iret d_N_hire_20 rfl ⟨Nat.zero_le _, Nat.zero_le _⟩ ?_
          exact pu rfl
  · rw [pick_out hno]
    refine A_aload_n0 d_N_hire_0 ?_
    refine A_iconst (v := nI 0) d_N_hire_1 (by decide) ?_
    refine A_iload_n1 d_N_hire_2 ?_
    refine A_callVP d_N_hire_3 (c_N_isToldF hN (by decide) hno) hN.o rfl q_644 q_646 qs_2 mk_N_isTold rfl (by decide) rfl (Nat.le_of_ble_eq_true rfl) ⟨Nat.le_of_ble_eq_true rfl, Nat.le_of_ble_eq_true rfl⟩ ⟨rfl, rfl⟩ ?_
    refine A_if_eqB (tgt := 19) d_N_hire_6 (by decide) (fun c_6 => ?_) (fun c => absurd c (by decide))
    refine A_iconst (v := (-1)) d_N_hire_19 (by decide) ?_
    refine A_iret d_N_hire_20 rfl ⟨Nat.zero_le _, Nat.zero_le _⟩ ?_
    exact pu rfl
