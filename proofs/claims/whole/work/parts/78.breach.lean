theorem and_f {a b : Bool} (h : (a && b) = false) : a = false ∨ b = false := by cases a <;> simp_all
set_option maxHeartbeats 4000000 in
set_option maxRecDepth 100000 in
theorem c_N_breach {G : GE} {h : AH} {n : Nat} {W : TD} {c : Nat → Nat} {VL WT BK SG GM : Nat → Nat → Nat} (hN : NT h n W c VL WT BK SG GM) (la ba ta x : Int32) : Ctr G y_N_breach b_N_breach 7 (some .int) r_N_breach [.ref n, .int la, .int ba, .int ta, .int x] h (Pu (.int (pick (c 2) ba (fun b => pick (c 0) la (fun l => pick (c 1) ta (fun t => breachV (VL l) (WT t) (BK b) x) (-1000)) (-1000)) (-1000))) h) := by
  refine Ctr.of (by decide +kernel) (by simp) (Nat.le_of_ble_eq_true rfl) (L0 := [some (.ref n), some (.int la), some (.int ba), some (.int ta), some (.int x), none, none]) rfl ?_
  have hc0 := (hN.r.n 0 (by decide)).2
  have hc1 := (hN.r.n 1 (by decide)).2
  have hc2 := (hN.r.n 2 (by decide)).2
  rcases told_c (n := c 2) (by omega) ba with ⟨b, hb, rfl⟩ | hnb
  · rw [pick_in hb (by omega)]
    rcases told_c (n := c 0) (by omega) la with ⟨l, hl, rfl⟩ | hnl
    · rw [pick_in hl (by omega)]
      rcases told_c (n := c 1) (by omega) ta with ⟨t, ht, rfl⟩ | hnt
      · rw [pick_in ht (by omega)]
        rcases tsw (x := x) (lo := 0) (hi := 2) (by decide) with ⟨kk, rfl, -, hkb⟩ | ⟨hro, swo⟩
        · rcases (show kk = 0 ∨ kk = 1 ∨ kk = 2 by omega) with rfl | rfl | rfl
          · refine A_aload_n0 d_N_breach_0 ?_
            refine A_iload_n1 d_N_breach_1 ?_
            refine A_iload_n3 d_N_breach_2 ?_
            refine A_callVP d_N_breach_3 (c_N_hasRowT hN hl ht) hN.o rfl q_672 q_674 qs_3 mk_N_hasRow rfl (by decide) rfl (Nat.le_of_ble_eq_true rfl) ⟨Nat.le_of_ble_eq_true rfl, Nat.le_of_ble_eq_true rfl⟩ ⟨rfl, rfl⟩ ?_
            refine A_if_eqB (tgt := 18) d_N_breach_6 (by decide) (fun c => absurd c (by decide)) (fun c_6 => ?_)
            refine A_aload_n0 d_N_breach_9 ?_
            refine A_iconst (v := nI 2) d_N_breach_10 (by decide) ?_
            refine A_iload_n2 d_N_breach_11 ?_
            refine A_callVP d_N_breach_12 (c_N_isToldT hN (by decide) hb) hN.o rfl q_644 q_646 qs_2 mk_N_isTold rfl (by decide) rfl (Nat.le_of_ble_eq_true rfl) ⟨Nat.le_of_ble_eq_true rfl, Nat.le_of_ble_eq_true rfl⟩ ⟨rfl, rfl⟩ ?_
            refine A_if_neB (tgt := 22) d_N_breach_15 (by decide) (fun c_15 => ?_) (fun c => absurd c (by decide))
            refine A_aload_n0 d_N_breach_22 ?_
            refine A_getf (kf := 0) d_N_breach_23 hN.o ok_7 (by decide) q_368 rfl ?_
            refine A_getf (kf := 5) d_N_breach_26 hN.a.o ok_6 (by decide) q_203 rfl ?_
            refine A_iload_n1 d_N_breach_29 ?_
            refine A_aaldN d_N_breach_30 hN.a.lands rfl rfl ⟨by omega, by decide⟩ (show va_rf (two (n + 1 + 12) (n + 1 + 29) l) = .ref (n + 1 + 12 + 17 * l) by rw [two_at rfl (by omega)]; rfl) ?_
            refine A_astore5 d_N_breach_31 trivial ?_
            refine A_aload_n0 d_N_breach_33 ?_
            refine A_getf (kf := 0) d_N_breach_34 hN.o ok_7 (by decide) q_368 rfl ?_
            refine A_getf (kf := 6) d_N_breach_37 hN.a.o ok_6 (by decide) q_205 rfl ?_
            refine A_iload_n3 d_N_breach_40 ?_
            refine A_aaldN d_N_breach_41 hN.a.treaties rfl rfl ⟨by omega, by decide⟩ (show va_rf (if t < 2 then some (n + 1 + 5 + t) else none) = .ref (n + 1 + 5 + t) by rw [if_pos (by omega)]; rfl) ?_
            refine A_astore6 d_N_breach_42 trivial ?_
            refine A_iload4 d_N_breach_44 ?_
            refine A_tableIn (tgt := 72) d_N_breach_46 (by decide) (by decide) rfl (by decide) ?_
            refine A_aload5 d_N_breach_72 ?_
            refine A_aload_n0 d_N_breach_74 ?_
            refine A_getf (kf := 0) d_N_breach_75 hN.o ok_7 (by decide) q_368 rfl ?_
            refine A_getf (kf := 7) d_N_breach_78 hN.a.o ok_6 (by decide) q_207 rfl ?_
            refine A_iload_n2 d_N_breach_81 ?_
            refine A_aaldN d_N_breach_82 hN.a.books rfl rfl ⟨by omega, by decide⟩ (show va_rf (two (n + 1 + 21) (n + 1 + 38) b) = .ref (n + 1 + 21 + 17 * b) by rw [two_at rfl (by omega)]; rfl) ?_
            refine A_aload6 d_N_breach_83 ?_
            refine A_callSP d_N_breach_85 (c_N_firstBreach (hN.a.l l (by omega)) (hN.r.l l hl) (hN.a.b b (by omega)) (hN.r.b b hb) (hN.r.row hN.a ht) (nI 0)) q_757 q_758 mk_N_firstBreach rfl (by decide) rfl (Nat.le_of_ble_eq_true rfl) ⟨Nat.le_of_ble_eq_true rfl, Nat.le_of_ble_eq_true rfl⟩ ⟨rfl, rfl⟩ ?_
            refine A_iret d_N_breach_88 rfl ⟨Nat.zero_le _, Nat.zero_le _⟩ ?_
            exact pu (by unfold breachV; rw [rg_in ⟨by decide, by decide⟩ (by decide)]; first | rfl | (rw [if_pos rfl]; done) | (rw [if_neg (by decide)]; done))
          · refine A_aload_n0 d_N_breach_0 ?_
            refine A_iload_n1 d_N_breach_1 ?_
            refine A_iload_n3 d_N_breach_2 ?_
            refine A_callVP d_N_breach_3 (c_N_hasRowT hN hl ht) hN.o rfl q_672 q_674 qs_3 mk_N_hasRow rfl (by decide) rfl (Nat.le_of_ble_eq_true rfl) ⟨Nat.le_of_ble_eq_true rfl, Nat.le_of_ble_eq_true rfl⟩ ⟨rfl, rfl⟩ ?_
            refine A_if_eqB (tgt := 18) d_N_breach_6 (by decide) (fun c => absurd c (by decide)) (fun c_6 => ?_)
            refine A_aload_n0 d_N_breach_9 ?_
            refine A_iconst (v := nI 2) d_N_breach_10 (by decide) ?_
            refine A_iload_n2 d_N_breach_11 ?_
            refine A_callVP d_N_breach_12 (c_N_isToldT hN (by decide) hb) hN.o rfl q_644 q_646 qs_2 mk_N_isTold rfl (by decide) rfl (Nat.le_of_ble_eq_true rfl) ⟨Nat.le_of_ble_eq_true rfl, Nat.le_of_ble_eq_true rfl⟩ ⟨rfl, rfl⟩ ?_
            refine A_if_neB (tgt := 22) d_N_breach_15 (by decide) (fun c_15 => ?_) (fun c => absurd c (by decide))
            refine A_aload_n0 d_N_breach_22 ?_
            refine A_getf (kf := 0) d_N_breach_23 hN.o ok_7 (by decide) q_368 rfl ?_
            refine A_getf (kf := 5) d_N_breach_26 hN.a.o ok_6 (by decide) q_203 rfl ?_
            refine A_iload_n1 d_N_breach_29 ?_
            refine A_aaldN d_N_breach_30 hN.a.lands rfl rfl ⟨by omega, by decide⟩ (show va_rf (two (n + 1 + 12) (n + 1 + 29) l) = .ref (n + 1 + 12 + 17 * l) by rw [two_at rfl (by omega)]; rfl) ?_
            refine A_astore5 d_N_breach_31 trivial ?_
            refine A_aload_n0 d_N_breach_33 ?_
            refine A_getf (kf := 0) d_N_breach_34 hN.o ok_7 (by decide) q_368 rfl ?_
            refine A_getf (kf := 6) d_N_breach_37 hN.a.o ok_6 (by decide) q_205 rfl ?_
            refine A_iload_n3 d_N_breach_40 ?_
            refine A_aaldN d_N_breach_41 hN.a.treaties rfl rfl ⟨by omega, by decide⟩ (show va_rf (if t < 2 then some (n + 1 + 5 + t) else none) = .ref (n + 1 + 5 + t) by rw [if_pos (by omega)]; rfl) ?_
            refine A_astore6 d_N_breach_42 trivial ?_
            refine A_iload4 d_N_breach_44 ?_
            refine A_tableIn (tgt := 89) d_N_breach_46 (by decide) (by decide) rfl (by decide) ?_
            refine A_aload5 d_N_breach_89 ?_
            refine A_aload_n0 d_N_breach_91 ?_
            refine A_getf (kf := 0) d_N_breach_92 hN.o ok_7 (by decide) q_368 rfl ?_
            refine A_getf (kf := 7) d_N_breach_95 hN.a.o ok_6 (by decide) q_207 rfl ?_
            refine A_iload_n2 d_N_breach_98 ?_
            refine A_aaldN d_N_breach_99 hN.a.books rfl rfl ⟨by omega, by decide⟩ (show va_rf (two (n + 1 + 21) (n + 1 + 38) b) = .ref (n + 1 + 21 + 17 * b) by rw [two_at rfl (by omega)]; rfl) ?_
            refine A_aload6 d_N_breach_100 ?_
            refine A_iconst (v := nI 0) d_N_breach_102 (by decide) ?_
            refine A_callSP d_N_breach_103 (c_N_owed (hN.a.l l (by omega)) (hN.r.l l hl) (hN.a.b b (by omega)) (hN.r.b b hb) (hN.r.row hN.a ht) 0 (by decide) (nI 1) (by decide)) q_762 q_763 mk_N_owed rfl (by decide) rfl (Nat.le_of_ble_eq_true rfl) ⟨Nat.le_of_ble_eq_true rfl, Nat.le_of_ble_eq_true rfl⟩ ⟨rfl, rfl⟩ ?_
            refine A_iret d_N_breach_106 rfl ⟨Nat.zero_le _, Nat.zero_le _⟩ ?_
            exact pu (by unfold breachV; rw [rg_in ⟨by decide, by decide⟩ (by decide)]; first | rfl | (rw [if_pos rfl]; done) | (rw [if_neg (by decide)]; done))
          · refine A_aload_n0 d_N_breach_0 ?_
            refine A_iload_n1 d_N_breach_1 ?_
            refine A_iload_n3 d_N_breach_2 ?_
            refine A_callVP d_N_breach_3 (c_N_hasRowT hN hl ht) hN.o rfl q_672 q_674 qs_3 mk_N_hasRow rfl (by decide) rfl (Nat.le_of_ble_eq_true rfl) ⟨Nat.le_of_ble_eq_true rfl, Nat.le_of_ble_eq_true rfl⟩ ⟨rfl, rfl⟩ ?_
            refine A_if_eqB (tgt := 18) d_N_breach_6 (by decide) (fun c => absurd c (by decide)) (fun c_6 => ?_)
            refine A_aload_n0 d_N_breach_9 ?_
            refine A_iconst (v := nI 2) d_N_breach_10 (by decide) ?_
            refine A_iload_n2 d_N_breach_11 ?_
            refine A_callVP d_N_breach_12 (c_N_isToldT hN (by decide) hb) hN.o rfl q_644 q_646 qs_2 mk_N_isTold rfl (by decide) rfl (Nat.le_of_ble_eq_true rfl) ⟨Nat.le_of_ble_eq_true rfl, Nat.le_of_ble_eq_true rfl⟩ ⟨rfl, rfl⟩ ?_
            refine A_if_neB (tgt := 22) d_N_breach_15 (by decide) (fun c_15 => ?_) (fun c => absurd c (by decide))
            refine A_aload_n0 d_N_breach_22 ?_
            refine A_getf (kf := 0) d_N_breach_23 hN.o ok_7 (by decide) q_368 rfl ?_
            refine A_getf (kf := 5) d_N_breach_26 hN.a.o ok_6 (by decide) q_203 rfl ?_
            refine A_iload_n1 d_N_breach_29 ?_
            refine A_aaldN d_N_breach_30 hN.a.lands rfl rfl ⟨by omega, by decide⟩ (show va_rf (two (n + 1 + 12) (n + 1 + 29) l) = .ref (n + 1 + 12 + 17 * l) by rw [two_at rfl (by omega)]; rfl) ?_
            refine A_astore5 d_N_breach_31 trivial ?_
            refine A_aload_n0 d_N_breach_33 ?_
            refine A_getf (kf := 0) d_N_breach_34 hN.o ok_7 (by decide) q_368 rfl ?_
            refine A_getf (kf := 6) d_N_breach_37 hN.a.o ok_6 (by decide) q_205 rfl ?_
            refine A_iload_n3 d_N_breach_40 ?_
            refine A_aaldN d_N_breach_41 hN.a.treaties rfl rfl ⟨by omega, by decide⟩ (show va_rf (if t < 2 then some (n + 1 + 5 + t) else none) = .ref (n + 1 + 5 + t) by rw [if_pos (by omega)]; rfl) ?_
            refine A_astore6 d_N_breach_42 trivial ?_
            refine A_iload4 d_N_breach_44 ?_
            refine A_tableIn (tgt := 107) d_N_breach_46 (by decide) (by decide) rfl (by decide) ?_
            refine A_aload5 d_N_breach_107 ?_
            refine A_aload_n0 d_N_breach_109 ?_
            refine A_getf (kf := 0) d_N_breach_110 hN.o ok_7 (by decide) q_368 rfl ?_
            refine A_getf (kf := 7) d_N_breach_113 hN.a.o ok_6 (by decide) q_207 rfl ?_
            refine A_iload_n2 d_N_breach_116 ?_
            refine A_aaldN d_N_breach_117 hN.a.books rfl rfl ⟨by omega, by decide⟩ (show va_rf (two (n + 1 + 21) (n + 1 + 38) b) = .ref (n + 1 + 21 + 17 * b) by rw [two_at rfl (by omega)]; rfl) ?_
            refine A_aload6 d_N_breach_118 ?_
            refine A_iconst (v := nI 1) d_N_breach_120 (by decide) ?_
            refine A_callSP d_N_breach_121 (c_N_owed (hN.a.l l (by omega)) (hN.r.l l hl) (hN.a.b b (by omega)) (hN.r.b b hb) (hN.r.row hN.a ht) 1 (by decide) (nI 2) (by decide)) q_762 q_763 mk_N_owed rfl (by decide) rfl (Nat.le_of_ble_eq_true rfl) ⟨Nat.le_of_ble_eq_true rfl, Nat.le_of_ble_eq_true rfl⟩ ⟨rfl, rfl⟩ ?_
            refine A_iret d_N_breach_124 rfl ⟨Nat.zero_le _, Nat.zero_le _⟩ ?_
            exact pu (by unfold breachV; rw [rg_in ⟨by decide, by decide⟩ (by decide)]; first | rfl | (rw [if_pos rfl]; done) | (rw [if_neg (by decide)]; done))
        · refine A_aload_n0 d_N_breach_0 ?_
          refine A_iload_n1 d_N_breach_1 ?_
          refine A_iload_n3 d_N_breach_2 ?_
          refine A_callVP d_N_breach_3 (c_N_hasRowT hN hl ht) hN.o rfl q_672 q_674 qs_3 mk_N_hasRow rfl (by decide) rfl (Nat.le_of_ble_eq_true rfl) ⟨Nat.le_of_ble_eq_true rfl, Nat.le_of_ble_eq_true rfl⟩ ⟨rfl, rfl⟩ ?_
          refine A_if_eqB (tgt := 18) d_N_breach_6 (by decide) (fun c => absurd c (by decide)) (fun c_6 => ?_)
          refine A_aload_n0 d_N_breach_9 ?_
          refine A_iconst (v := nI 2) d_N_breach_10 (by decide) ?_
          refine A_iload_n2 d_N_breach_11 ?_
          refine A_callVP d_N_breach_12 (c_N_isToldT hN (by decide) hb) hN.o rfl q_644 q_646 qs_2 mk_N_isTold rfl (by decide) rfl (Nat.le_of_ble_eq_true rfl) ⟨Nat.le_of_ble_eq_true rfl, Nat.le_of_ble_eq_true rfl⟩ ⟨rfl, rfl⟩ ?_
          refine A_if_neB (tgt := 22) d_N_breach_15 (by decide) (fun c_15 => ?_) (fun c => absurd c (by decide))
          refine A_aload_n0 d_N_breach_22 ?_
          refine A_getf (kf := 0) d_N_breach_23 hN.o ok_7 (by decide) q_368 rfl ?_
          refine A_getf (kf := 5) d_N_breach_26 hN.a.o ok_6 (by decide) q_203 rfl ?_
          refine A_iload_n1 d_N_breach_29 ?_
          refine A_aaldN d_N_breach_30 hN.a.lands rfl rfl ⟨by omega, by decide⟩ (show va_rf (two (n + 1 + 12) (n + 1 + 29) l) = .ref (n + 1 + 12 + 17 * l) by rw [two_at rfl (by omega)]; rfl) ?_
          refine A_astore5 d_N_breach_31 trivial ?_
          refine A_aload_n0 d_N_breach_33 ?_
          refine A_getf (kf := 0) d_N_breach_34 hN.o ok_7 (by decide) q_368 rfl ?_
          refine A_getf (kf := 6) d_N_breach_37 hN.a.o ok_6 (by decide) q_205 rfl ?_
          refine A_iload_n3 d_N_breach_40 ?_
          refine A_aaldN d_N_breach_41 hN.a.treaties rfl rfl ⟨by omega, by decide⟩ (show va_rf (if t < 2 then some (n + 1 + 5 + t) else none) = .ref (n + 1 + 5 + t) by rw [if_pos (by omega)]; rfl) ?_
          refine A_astore6 d_N_breach_42 trivial ?_
          refine A_iload4 d_N_breach_44 ?_
          refine A_tableOut (tgt := 125) d_N_breach_46 swo (by decide) ?_
          refine A_sipush (v := (-1000)) d_N_breach_125 (by decide) ?_
          refine A_iret d_N_breach_128 rfl ⟨Nat.zero_le _, Nat.zero_le _⟩ ?_
          exact pu (by unfold breachV; rw [rg_out hro])
      · rw [pick_out hnt]
        refine A_aload_n0 d_N_breach_0 ?_
        refine A_iload_n1 d_N_breach_1 ?_
        refine A_iload_n3 d_N_breach_2 ?_
        refine A_callVP d_N_breach_3 (c_N_hasRowF hN (.inr hnt)) hN.o rfl q_672 q_674 qs_3 mk_N_hasRow rfl (by decide) rfl (Nat.le_of_ble_eq_true rfl) ⟨Nat.le_of_ble_eq_true rfl, Nat.le_of_ble_eq_true rfl⟩ ⟨rfl, rfl⟩ ?_
        refine A_if_eqB (tgt := 18) d_N_breach_6 (by decide) (fun c_6 => ?_) (fun c => absurd c (by decide))
        refine A_sipush (v := (-1000)) d_N_breach_18 (by decide) ?_
        refine A_iret d_N_breach_21 rfl ⟨Nat.zero_le _, Nat.zero_le _⟩ ?_
        exact pu rfl
    · rw [pick_out hnl]
      refine A_aload_n0 d_N_breach_0 ?_
      refine A_iload_n1 d_N_breach_1 ?_
      refine A_iload_n3 d_N_breach_2 ?_
      refine A_callVP d_N_breach_3 (c_N_hasRowF hN (.inl hnl)) hN.o rfl q_672 q_674 qs_3 mk_N_hasRow rfl (by decide) rfl (Nat.le_of_ble_eq_true rfl) ⟨Nat.le_of_ble_eq_true rfl, Nat.le_of_ble_eq_true rfl⟩ ⟨rfl, rfl⟩ ?_
      refine A_if_eqB (tgt := 18) d_N_breach_6 (by decide) (fun c_6 => ?_) (fun c => absurd c (by decide))
      refine A_sipush (v := (-1000)) d_N_breach_18 (by decide) ?_
      refine A_iret d_N_breach_21 rfl ⟨Nat.zero_le _, Nat.zero_le _⟩ ?_
      exact pu rfl
  · rw [pick_out hnb]
    rcases hr : (inB la (nI 0) (nI (c 0) - nI 1) && inB ta (nI 0) (nI (c 1) - nI 1)) with _ | _
    · refine A_aload_n0 d_N_breach_0 ?_
      refine A_iload_n1 d_N_breach_1 ?_
      refine A_iload_n3 d_N_breach_2 ?_
      refine A_callVP d_N_breach_3 (c_N_hasRowF hN (and_f hr)) hN.o rfl q_672 q_674 qs_3 mk_N_hasRow rfl (by decide) rfl (Nat.le_of_ble_eq_true rfl) ⟨Nat.le_of_ble_eq_true rfl, Nat.le_of_ble_eq_true rfl⟩ ⟨rfl, rfl⟩ ?_
      refine A_if_eqB (tgt := 18) d_N_breach_6 (by decide) (fun c_6 => ?_) (fun c => absurd c (by decide))
      refine A_sipush (v := (-1000)) d_N_breach_18 (by decide) ?_
      refine A_iret d_N_breach_21 rfl ⟨Nat.zero_le _, Nat.zero_le _⟩ ?_
      exact pu rfl
    · have e := c_N_hasRow (G := G) hN la ta
      rw [hr] at e
      refine A_aload_n0 d_N_breach_0 ?_
      refine A_iload_n1 d_N_breach_1 ?_
      refine A_iload_n3 d_N_breach_2 ?_
      refine A_callVP d_N_breach_3 (e) hN.o rfl q_672 q_674 qs_3 mk_N_hasRow rfl (by decide) rfl (Nat.le_of_ble_eq_true rfl) ⟨Nat.le_of_ble_eq_true rfl, Nat.le_of_ble_eq_true rfl⟩ ⟨rfl, rfl⟩ ?_
      refine A_if_eqB (tgt := 18) d_N_breach_6 (by decide) (fun c => absurd c (by decide)) (fun c_6 => ?_)
      refine A_aload_n0 d_N_breach_9 ?_
      refine A_iconst (v := nI 2) d_N_breach_10 (by decide) ?_
      refine A_iload_n2 d_N_breach_11 ?_
      refine A_callVP d_N_breach_12 (c_N_isToldF hN (by decide) hnb) hN.o rfl q_644 q_646 qs_2 mk_N_isTold rfl (by decide) rfl (Nat.le_of_ble_eq_true rfl) ⟨Nat.le_of_ble_eq_true rfl, Nat.le_of_ble_eq_true rfl⟩ ⟨rfl, rfl⟩ ?_
      refine A_if_neB (tgt := 22) d_N_breach_15 (by decide) (fun c => absurd c (by decide)) (fun c_15 => ?_)
      refine A_sipush (v := (-1000)) d_N_breach_18 (by decide) ?_
      refine A_iret d_N_breach_21 rfl ⟨Nat.zero_le _, Nat.zero_le _⟩ ?_
      exact pu rfl
