theorem out3 {x : Int32} (h : inB x (nI 0) (nI 3) = false) {k : Nat} (hk : k ≤ 3) : ¬ x = nI k := fun e => by
  rw [e, inB_N (by omega) (by decide) (by decide), decide_eq_true (p := 0 ≤ k) (by omega), decide_eq_true (p := k ≤ 3) hk] at h
  exact absurd h (by decide)
set_option maxHeartbeats 4000000 in
set_option maxRecDepth 100000 in
theorem c_N_days {G : GE} {h : AH} {n : Nat} {W : TD} {c : Nat → Nat} {VL WT BK SG GM : Nat → Nat → Nat} (hN : NT h n W c VL WT BK SG GM) (la ba x : Int32) : Ctr G y_N_days b_N_days 7 (some .int) r_N_days [.ref n, .int la, .int ba, .int x] h (Pu (.int (pick (c 2) ba (fun b => pick (c 0) la (fun l => daysV (VL l) (BK b) x) (-2)) (-2))) h) := by
  refine Ctr.of (by decide +kernel) (by simp) (Nat.le_of_ble_eq_true rfl) (L0 := [some (.ref n), some (.int la), some (.int ba), some (.int x), none, none, none]) rfl ?_
  have hc0 := (hN.r.n 0 (by decide)).2
  have hc2 := (hN.r.n 2 (by decide)).2
  rcases told_c (n := c 0) (by omega) la with ⟨l, hl, rfl⟩ | hno
  · rcases told_c (n := c 2) (by omega) ba with ⟨b, hb, rfl⟩ | hnb
    · rw [pick_in hb (by omega), pick_in hl (by omega)]
      have hA := hN.a.l l (by omega)
      have hV := hN.r.l l hl
      have hV0 := hV
      obtain ⟨ok, ⟨f0, f1, f2, f3, f4, f9⟩, hP, hBe, hTo⟩ := hV
      have hH := ok.1
      have h4 := ok.2.2.2.2.1
      have h5 := ok.2.2.2.2.2.1
      have h1c := ok.2.1
      have hB := hN.a.b b (by omega)
      have hK0 := hN.r.b b hb
      obtain ⟨okb, b0, b1, bS, bW⟩ := hN.r.b b hb
      have htot := okb.tot
      have hdv : totB (BK b) / VL l 0 ≤ totB (BK b) := Nat.div_le_self _ _
      rcases tsw (x := x) (lo := 0) (hi := 3) (by decide) with ⟨kk, rfl, -, hkb⟩ | ⟨hro, swo⟩
      · rcases (show kk = 0 ∨ kk = 1 ∨ kk = 2 ∨ kk = 3 by omega) with rfl | rfl | rfl | rfl
        · refine A_aload_n0 d_N_days_0 ?_
          refine A_iconst (v := nI 0) d_N_days_1 (by decide) ?_
          refine A_iload_n1 d_N_days_2 ?_
          refine A_callVP d_N_days_3 (c_N_isToldT hN (by decide) hl) hN.o rfl q_644 q_646 qs_2 mk_N_isTold rfl (by decide) rfl (Nat.le_of_ble_eq_true rfl) ⟨Nat.le_of_ble_eq_true rfl, Nat.le_of_ble_eq_true rfl⟩ ⟨rfl, rfl⟩ ?_
          refine A_if_eqB (tgt := 18) d_N_days_6 (by decide) (fun c => absurd c (by decide)) (fun c_6 => ?_)
          refine A_aload_n0 d_N_days_9 ?_
          refine A_iconst (v := nI 2) d_N_days_10 (by decide) ?_
          refine A_iload_n2 d_N_days_11 ?_
          refine A_callVP d_N_days_12 (c_N_isToldT hN (by decide) hb) hN.o rfl q_644 q_646 qs_2 mk_N_isTold rfl (by decide) rfl (Nat.le_of_ble_eq_true rfl) ⟨Nat.le_of_ble_eq_true rfl, Nat.le_of_ble_eq_true rfl⟩ ⟨rfl, rfl⟩ ?_
          refine A_if_neB (tgt := 21) d_N_days_15 (by decide) (fun c_15 => ?_) (fun c => absurd c (by decide))
          refine A_aload_n0 d_N_days_21 ?_
          refine A_getf (kf := 0) d_N_days_22 hN.o ok_7 (by decide) q_368 rfl ?_
          refine A_getf (kf := 5) d_N_days_25 hN.a.o ok_6 (by decide) q_203 rfl ?_
          refine A_iload_n1 d_N_days_28 ?_
          refine A_aaldN d_N_days_29 hN.a.lands rfl rfl ⟨by omega, by decide⟩ (show va_rf (two (n + 1 + 12) (n + 1 + 29) l) = .ref (n + 1 + 12 + 17 * l) by rw [two_at rfl (by omega)]; rfl) ?_
          refine A_astore4 d_N_days_30 trivial ?_
          refine A_aload_n0 d_N_days_32 ?_
          refine A_getf (kf := 0) d_N_days_33 hN.o ok_7 (by decide) q_368 rfl ?_
          refine A_getf (kf := 7) d_N_days_36 hN.a.o ok_6 (by decide) q_207 rfl ?_
          refine A_iload_n2 d_N_days_39 ?_
          refine A_aaldN d_N_days_40 hN.a.books rfl rfl ⟨by omega, by decide⟩ (show va_rf (two (n + 1 + 21) (n + 1 + 38) b) = .ref (n + 1 + 21 + 17 * b) by rw [two_at rfl (by omega)]; rfl) ?_
          refine A_astore5 d_N_days_41 trivial ?_
          refine A_aload4 d_N_days_43 ?_
          refine A_getf (kf := 0) d_N_days_45 hA.o ok_1 (by decide) q_49 rfl ?_
          refine A_topI f0 ?_
          first | refine A_if_leN (tgt := 65) d_N_days_48 (by decide) (by with_reducible rfl) (by omega) (fun c_48 => ?_) (fun c_48 => ?_) | refine A_if_le (tgt := 65) d_N_days_48 (by decide) (fun c_48 => ?_) (fun c_48 => ?_)
          · exact absurd hH.1 (by omega)
          · refine A_aload5 d_N_days_51 ?_
            refine A_getf (kf := 1) d_N_days_53 hB.o ok_0 (by decide) q_151 rfl ?_
            refine A_topI b1 ?_
            refine A_aload4 d_N_days_56 ?_
            refine A_getf (kf := 0) d_N_days_58 hA.o ok_1 (by decide) q_49 rfl ?_
            refine A_topI f0 ?_
            refine A_idivN d_N_days_61 (by with_reducible rfl) (by with_reducible rfl) (by omega) ?_
            refine A_goto (tgt := 66) d_N_days_62 (by decide) ?_
            refine A_istore6 d_N_days_66 trivial ?_
            refine A_iload_n3 d_N_days_68 ?_
            refine A_bipush (v := nI 100) d_N_days_69 (by decide) ?_
            first | refine A_icmp_ltN (tgt := 95) d_N_days_71 (by decide) (by with_reducible rfl) (by with_reducible rfl) (by omega) (by omega) (fun c_71 => ?_) (fun c_71 => ?_) | refine A_icmp_lt (tgt := 95) d_N_days_71 (by decide) (fun c_71 => ?_) (fun c_71 => ?_)
            · refine A_iload_n3 d_N_days_95 ?_
              refine A_tableIn (tgt := 128) d_N_days_96 (by decide) (by decide) rfl (by decide) ?_
              refine A_iload6 d_N_days_128 ?_
              refine A_iret d_N_days_130 rfl ⟨Nat.zero_le _, Nat.zero_le _⟩ ?_
              exact pu (by unfold daysV; rw [rgN (by decide) (by decide) (by omega), if_neg (by omega), if_pos (show nI 0 = 0 from rfl)])
            · exact absurd c_71 (by decide)
        · refine A_aload_n0 d_N_days_0 ?_
          refine A_iconst (v := nI 0) d_N_days_1 (by decide) ?_
          refine A_iload_n1 d_N_days_2 ?_
          refine A_callVP d_N_days_3 (c_N_isToldT hN (by decide) hl) hN.o rfl q_644 q_646 qs_2 mk_N_isTold rfl (by decide) rfl (Nat.le_of_ble_eq_true rfl) ⟨Nat.le_of_ble_eq_true rfl, Nat.le_of_ble_eq_true rfl⟩ ⟨rfl, rfl⟩ ?_
          refine A_if_eqB (tgt := 18) d_N_days_6 (by decide) (fun c => absurd c (by decide)) (fun c_6 => ?_)
          refine A_aload_n0 d_N_days_9 ?_
          refine A_iconst (v := nI 2) d_N_days_10 (by decide) ?_
          refine A_iload_n2 d_N_days_11 ?_
          refine A_callVP d_N_days_12 (c_N_isToldT hN (by decide) hb) hN.o rfl q_644 q_646 qs_2 mk_N_isTold rfl (by decide) rfl (Nat.le_of_ble_eq_true rfl) ⟨Nat.le_of_ble_eq_true rfl, Nat.le_of_ble_eq_true rfl⟩ ⟨rfl, rfl⟩ ?_
          refine A_if_neB (tgt := 21) d_N_days_15 (by decide) (fun c_15 => ?_) (fun c => absurd c (by decide))
          refine A_aload_n0 d_N_days_21 ?_
          refine A_getf (kf := 0) d_N_days_22 hN.o ok_7 (by decide) q_368 rfl ?_
          refine A_getf (kf := 5) d_N_days_25 hN.a.o ok_6 (by decide) q_203 rfl ?_
          refine A_iload_n1 d_N_days_28 ?_
          refine A_aaldN d_N_days_29 hN.a.lands rfl rfl ⟨by omega, by decide⟩ (show va_rf (two (n + 1 + 12) (n + 1 + 29) l) = .ref (n + 1 + 12 + 17 * l) by rw [two_at rfl (by omega)]; rfl) ?_
          refine A_astore4 d_N_days_30 trivial ?_
          refine A_aload_n0 d_N_days_32 ?_
          refine A_getf (kf := 0) d_N_days_33 hN.o ok_7 (by decide) q_368 rfl ?_
          refine A_getf (kf := 7) d_N_days_36 hN.a.o ok_6 (by decide) q_207 rfl ?_
          refine A_iload_n2 d_N_days_39 ?_
          refine A_aaldN d_N_days_40 hN.a.books rfl rfl ⟨by omega, by decide⟩ (show va_rf (two (n + 1 + 21) (n + 1 + 38) b) = .ref (n + 1 + 21 + 17 * b) by rw [two_at rfl (by omega)]; rfl) ?_
          refine A_astore5 d_N_days_41 trivial ?_
          refine A_aload4 d_N_days_43 ?_
          refine A_getf (kf := 0) d_N_days_45 hA.o ok_1 (by decide) q_49 rfl ?_
          refine A_topI f0 ?_
          first | refine A_if_leN (tgt := 65) d_N_days_48 (by decide) (by with_reducible rfl) (by omega) (fun c_48 => ?_) (fun c_48 => ?_) | refine A_if_le (tgt := 65) d_N_days_48 (by decide) (fun c_48 => ?_) (fun c_48 => ?_)
          · exact absurd hH.1 (by omega)
          · refine A_aload5 d_N_days_51 ?_
            refine A_getf (kf := 1) d_N_days_53 hB.o ok_0 (by decide) q_151 rfl ?_
            refine A_topI b1 ?_
            refine A_aload4 d_N_days_56 ?_
            refine A_getf (kf := 0) d_N_days_58 hA.o ok_1 (by decide) q_49 rfl ?_
            refine A_topI f0 ?_
            refine A_idivN d_N_days_61 (by with_reducible rfl) (by with_reducible rfl) (by omega) ?_
            refine A_goto (tgt := 66) d_N_days_62 (by decide) ?_
            refine A_istore6 d_N_days_66 trivial ?_
            refine A_iload_n3 d_N_days_68 ?_
            refine A_bipush (v := nI 100) d_N_days_69 (by decide) ?_
            first | refine A_icmp_ltN (tgt := 95) d_N_days_71 (by decide) (by with_reducible rfl) (by with_reducible rfl) (by omega) (by omega) (fun c_71 => ?_) (fun c_71 => ?_) | refine A_icmp_lt (tgt := 95) d_N_days_71 (by decide) (fun c_71 => ?_) (fun c_71 => ?_)
            · refine A_iload_n3 d_N_days_95 ?_
              refine A_tableIn (tgt := 131) d_N_days_96 (by decide) (by decide) rfl (by decide) ?_
              refine A_aload5 d_N_days_131 ?_
              refine A_aload4 d_N_days_133 ?_
              refine A_getf (kf := 1) d_N_days_135 hA.o ok_1 (by decide) q_53 rfl ?_
              refine A_topI f1 ?_
              refine A_callVP d_N_days_138 (c_Bk_villages hB hK0 (VL l 1) (by omega)) hB.o rfl q_749 q_750 q_751 mk_Bk_villages rfl (by decide) rfl (Nat.le_of_ble_eq_true rfl) ⟨Nat.le_of_ble_eq_true rfl, Nat.le_of_ble_eq_true rfl⟩ ⟨rfl, rfl⟩ ?_
              refine A_iret d_N_days_141 rfl ⟨Nat.zero_le _, Nat.zero_le _⟩ ?_
              exact pu (by unfold daysV; rw [rgN (by decide) (by decide) (by omega), if_neg (by omega), if_neg (by decide), if_pos rfl])
            · exact absurd c_71 (by decide)
        · refine A_aload_n0 d_N_days_0 ?_
          refine A_iconst (v := nI 0) d_N_days_1 (by decide) ?_
          refine A_iload_n1 d_N_days_2 ?_
          refine A_callVP d_N_days_3 (c_N_isToldT hN (by decide) hl) hN.o rfl q_644 q_646 qs_2 mk_N_isTold rfl (by decide) rfl (Nat.le_of_ble_eq_true rfl) ⟨Nat.le_of_ble_eq_true rfl, Nat.le_of_ble_eq_true rfl⟩ ⟨rfl, rfl⟩ ?_
          refine A_if_eqB (tgt := 18) d_N_days_6 (by decide) (fun c => absurd c (by decide)) (fun c_6 => ?_)
          refine A_aload_n0 d_N_days_9 ?_
          refine A_iconst (v := nI 2) d_N_days_10 (by decide) ?_
          refine A_iload_n2 d_N_days_11 ?_
          refine A_callVP d_N_days_12 (c_N_isToldT hN (by decide) hb) hN.o rfl q_644 q_646 qs_2 mk_N_isTold rfl (by decide) rfl (Nat.le_of_ble_eq_true rfl) ⟨Nat.le_of_ble_eq_true rfl, Nat.le_of_ble_eq_true rfl⟩ ⟨rfl, rfl⟩ ?_
          refine A_if_neB (tgt := 21) d_N_days_15 (by decide) (fun c_15 => ?_) (fun c => absurd c (by decide))
          refine A_aload_n0 d_N_days_21 ?_
          refine A_getf (kf := 0) d_N_days_22 hN.o ok_7 (by decide) q_368 rfl ?_
          refine A_getf (kf := 5) d_N_days_25 hN.a.o ok_6 (by decide) q_203 rfl ?_
          refine A_iload_n1 d_N_days_28 ?_
          refine A_aaldN d_N_days_29 hN.a.lands rfl rfl ⟨by omega, by decide⟩ (show va_rf (two (n + 1 + 12) (n + 1 + 29) l) = .ref (n + 1 + 12 + 17 * l) by rw [two_at rfl (by omega)]; rfl) ?_
          refine A_astore4 d_N_days_30 trivial ?_
          refine A_aload_n0 d_N_days_32 ?_
          refine A_getf (kf := 0) d_N_days_33 hN.o ok_7 (by decide) q_368 rfl ?_
          refine A_getf (kf := 7) d_N_days_36 hN.a.o ok_6 (by decide) q_207 rfl ?_
          refine A_iload_n2 d_N_days_39 ?_
          refine A_aaldN d_N_days_40 hN.a.books rfl rfl ⟨by omega, by decide⟩ (show va_rf (two (n + 1 + 21) (n + 1 + 38) b) = .ref (n + 1 + 21 + 17 * b) by rw [two_at rfl (by omega)]; rfl) ?_
          refine A_astore5 d_N_days_41 trivial ?_
          refine A_aload4 d_N_days_43 ?_
          refine A_getf (kf := 0) d_N_days_45 hA.o ok_1 (by decide) q_49 rfl ?_
          refine A_topI f0 ?_
          first | refine A_if_leN (tgt := 65) d_N_days_48 (by decide) (by with_reducible rfl) (by omega) (fun c_48 => ?_) (fun c_48 => ?_) | refine A_if_le (tgt := 65) d_N_days_48 (by decide) (fun c_48 => ?_) (fun c_48 => ?_)
          · exact absurd hH.1 (by omega)
          · refine A_aload5 d_N_days_51 ?_
            refine A_getf (kf := 1) d_N_days_53 hB.o ok_0 (by decide) q_151 rfl ?_
            refine A_topI b1 ?_
            refine A_aload4 d_N_days_56 ?_
            refine A_getf (kf := 0) d_N_days_58 hA.o ok_1 (by decide) q_49 rfl ?_
            refine A_topI f0 ?_
            refine A_idivN d_N_days_61 (by with_reducible rfl) (by with_reducible rfl) (by omega) ?_
            refine A_goto (tgt := 66) d_N_days_62 (by decide) ?_
            refine A_istore6 d_N_days_66 trivial ?_
            refine A_iload_n3 d_N_days_68 ?_
            refine A_bipush (v := nI 100) d_N_days_69 (by decide) ?_
            first | refine A_icmp_ltN (tgt := 95) d_N_days_71 (by decide) (by with_reducible rfl) (by with_reducible rfl) (by omega) (by omega) (fun c_71 => ?_) (fun c_71 => ?_) | refine A_icmp_lt (tgt := 95) d_N_days_71 (by decide) (fun c_71 => ?_) (fun c_71 => ?_)
            · refine A_iload_n3 d_N_days_95 ?_
              refine A_tableIn (tgt := 142) d_N_days_96 (by decide) (by decide) rfl (by decide) ?_
              refine A_aload5 d_N_days_142 ?_
              refine A_iconst (v := nI 0) d_N_days_144 (by decide) ?_
              refine A_iconst (v := nI 0) d_N_days_145 (by decide) ?_
              refine A_aload5 d_N_days_146 ?_
              refine A_getf (kf := 1) d_N_days_148 hB.o ok_0 (by decide) q_151 rfl ?_
              refine A_topI b1 ?_
              refine A_callVP d_N_days_151 (c_Bk_hoursAt hB hK0 0 0 (totB (BK b)) (by decide) (by omega) (by omega)) hB.o rfl q_734 q_735 q_736 mk_Bk_hoursAt rfl (by decide) rfl (Nat.le_of_ble_eq_true rfl) ⟨Nat.le_of_ble_eq_true rfl, Nat.le_of_ble_eq_true rfl⟩ ⟨rfl, rfl⟩ ?_
              refine A_iret d_N_days_154 rfl ⟨Nat.zero_le _, Nat.zero_le _⟩ ?_
              exact pu (by unfold daysV; rw [rgN (by decide) (by decide) (by omega), if_neg (by omega), if_neg (by decide), if_neg (by decide), if_pos rfl])
            · exact absurd c_71 (by decide)
        · refine A_aload_n0 d_N_days_0 ?_
          refine A_iconst (v := nI 0) d_N_days_1 (by decide) ?_
          refine A_iload_n1 d_N_days_2 ?_
          refine A_callVP d_N_days_3 (c_N_isToldT hN (by decide) hl) hN.o rfl q_644 q_646 qs_2 mk_N_isTold rfl (by decide) rfl (Nat.le_of_ble_eq_true rfl) ⟨Nat.le_of_ble_eq_true rfl, Nat.le_of_ble_eq_true rfl⟩ ⟨rfl, rfl⟩ ?_
          refine A_if_eqB (tgt := 18) d_N_days_6 (by decide) (fun c => absurd c (by decide)) (fun c_6 => ?_)
          refine A_aload_n0 d_N_days_9 ?_
          refine A_iconst (v := nI 2) d_N_days_10 (by decide) ?_
          refine A_iload_n2 d_N_days_11 ?_
          refine A_callVP d_N_days_12 (c_N_isToldT hN (by decide) hb) hN.o rfl q_644 q_646 qs_2 mk_N_isTold rfl (by decide) rfl (Nat.le_of_ble_eq_true rfl) ⟨Nat.le_of_ble_eq_true rfl, Nat.le_of_ble_eq_true rfl⟩ ⟨rfl, rfl⟩ ?_
          refine A_if_neB (tgt := 21) d_N_days_15 (by decide) (fun c_15 => ?_) (fun c => absurd c (by decide))
          refine A_aload_n0 d_N_days_21 ?_
          refine A_getf (kf := 0) d_N_days_22 hN.o ok_7 (by decide) q_368 rfl ?_
          refine A_getf (kf := 5) d_N_days_25 hN.a.o ok_6 (by decide) q_203 rfl ?_
          refine A_iload_n1 d_N_days_28 ?_
          refine A_aaldN d_N_days_29 hN.a.lands rfl rfl ⟨by omega, by decide⟩ (show va_rf (two (n + 1 + 12) (n + 1 + 29) l) = .ref (n + 1 + 12 + 17 * l) by rw [two_at rfl (by omega)]; rfl) ?_
          refine A_astore4 d_N_days_30 trivial ?_
          refine A_aload_n0 d_N_days_32 ?_
          refine A_getf (kf := 0) d_N_days_33 hN.o ok_7 (by decide) q_368 rfl ?_
          refine A_getf (kf := 7) d_N_days_36 hN.a.o ok_6 (by decide) q_207 rfl ?_
          refine A_iload_n2 d_N_days_39 ?_
          refine A_aaldN d_N_days_40 hN.a.books rfl rfl ⟨by omega, by decide⟩ (show va_rf (two (n + 1 + 21) (n + 1 + 38) b) = .ref (n + 1 + 21 + 17 * b) by rw [two_at rfl (by omega)]; rfl) ?_
          refine A_astore5 d_N_days_41 trivial ?_
          refine A_aload4 d_N_days_43 ?_
          refine A_getf (kf := 0) d_N_days_45 hA.o ok_1 (by decide) q_49 rfl ?_
          refine A_topI f0 ?_
          first | refine A_if_leN (tgt := 65) d_N_days_48 (by decide) (by with_reducible rfl) (by omega) (fun c_48 => ?_) (fun c_48 => ?_) | refine A_if_le (tgt := 65) d_N_days_48 (by decide) (fun c_48 => ?_) (fun c_48 => ?_)
          · exact absurd hH.1 (by omega)
          · refine A_aload5 d_N_days_51 ?_
            refine A_getf (kf := 1) d_N_days_53 hB.o ok_0 (by decide) q_151 rfl ?_
            refine A_topI b1 ?_
            refine A_aload4 d_N_days_56 ?_
            refine A_getf (kf := 0) d_N_days_58 hA.o ok_1 (by decide) q_49 rfl ?_
            refine A_topI f0 ?_
            refine A_idivN d_N_days_61 (by with_reducible rfl) (by with_reducible rfl) (by omega) ?_
            refine A_goto (tgt := 66) d_N_days_62 (by decide) ?_
            refine A_istore6 d_N_days_66 trivial ?_
            refine A_iload_n3 d_N_days_68 ?_
            refine A_bipush (v := nI 100) d_N_days_69 (by decide) ?_
            first | refine A_icmp_ltN (tgt := 95) d_N_days_71 (by decide) (by with_reducible rfl) (by with_reducible rfl) (by omega) (by omega) (fun c_71 => ?_) (fun c_71 => ?_) | refine A_icmp_lt (tgt := 95) d_N_days_71 (by decide) (fun c_71 => ?_) (fun c_71 => ?_)
            · refine A_iload_n3 d_N_days_95 ?_
              refine A_tableIn (tgt := 155) d_N_days_96 (by decide) (by decide) rfl (by decide) ?_
              refine A_aload5 d_N_days_155 ?_
              refine A_iconst (v := nI 1) d_N_days_157 (by decide) ?_
              refine A_iconst (v := nI 0) d_N_days_158 (by decide) ?_
              refine A_aload5 d_N_days_159 ?_
              refine A_getf (kf := 1) d_N_days_161 hB.o ok_0 (by decide) q_151 rfl ?_
              refine A_topI b1 ?_
              refine A_callVP d_N_days_164 (c_Bk_hoursAt hB hK0 1 0 (totB (BK b)) (by decide) (by omega) (by omega)) hB.o rfl q_734 q_735 q_736 mk_Bk_hoursAt rfl (by decide) rfl (Nat.le_of_ble_eq_true rfl) ⟨Nat.le_of_ble_eq_true rfl, Nat.le_of_ble_eq_true rfl⟩ ⟨rfl, rfl⟩ ?_
              refine A_iret d_N_days_167 rfl ⟨Nat.zero_le _, Nat.zero_le _⟩ ?_
              exact pu (by unfold daysV; rw [rgN (by decide) (by decide) (by omega), if_neg (by omega), if_neg (by decide), if_neg (by decide), if_neg (by decide), if_pos rfl])
            · exact absurd c_71 (by decide)
      · by_cases hx : x < 0
        · refine A_aload_n0 d_N_days_0 ?_
          refine A_iconst (v := nI 0) d_N_days_1 (by decide) ?_
          refine A_iload_n1 d_N_days_2 ?_
          refine A_callVP d_N_days_3 (c_N_isToldT hN (by decide) hl) hN.o rfl q_644 q_646 qs_2 mk_N_isTold rfl (by decide) rfl (Nat.le_of_ble_eq_true rfl) ⟨Nat.le_of_ble_eq_true rfl, Nat.le_of_ble_eq_true rfl⟩ ⟨rfl, rfl⟩ ?_
          refine A_if_eqB (tgt := 18) d_N_days_6 (by decide) (fun c => absurd c (by decide)) (fun c_6 => ?_)
          refine A_aload_n0 d_N_days_9 ?_
          refine A_iconst (v := nI 2) d_N_days_10 (by decide) ?_
          refine A_iload_n2 d_N_days_11 ?_
          refine A_callVP d_N_days_12 (c_N_isToldT hN (by decide) hb) hN.o rfl q_644 q_646 qs_2 mk_N_isTold rfl (by decide) rfl (Nat.le_of_ble_eq_true rfl) ⟨Nat.le_of_ble_eq_true rfl, Nat.le_of_ble_eq_true rfl⟩ ⟨rfl, rfl⟩ ?_
          refine A_if_neB (tgt := 21) d_N_days_15 (by decide) (fun c_15 => ?_) (fun c => absurd c (by decide))
          refine A_aload_n0 d_N_days_21 ?_
          refine A_getf (kf := 0) d_N_days_22 hN.o ok_7 (by decide) q_368 rfl ?_
          refine A_getf (kf := 5) d_N_days_25 hN.a.o ok_6 (by decide) q_203 rfl ?_
          refine A_iload_n1 d_N_days_28 ?_
          refine A_aaldN d_N_days_29 hN.a.lands rfl rfl ⟨by omega, by decide⟩ (show va_rf (two (n + 1 + 12) (n + 1 + 29) l) = .ref (n + 1 + 12 + 17 * l) by rw [two_at rfl (by omega)]; rfl) ?_
          refine A_astore4 d_N_days_30 trivial ?_
          refine A_aload_n0 d_N_days_32 ?_
          refine A_getf (kf := 0) d_N_days_33 hN.o ok_7 (by decide) q_368 rfl ?_
          refine A_getf (kf := 7) d_N_days_36 hN.a.o ok_6 (by decide) q_207 rfl ?_
          refine A_iload_n2 d_N_days_39 ?_
          refine A_aaldN d_N_days_40 hN.a.books rfl rfl ⟨by omega, by decide⟩ (show va_rf (two (n + 1 + 21) (n + 1 + 38) b) = .ref (n + 1 + 21 + 17 * b) by rw [two_at rfl (by omega)]; rfl) ?_
          refine A_astore5 d_N_days_41 trivial ?_
          refine A_aload4 d_N_days_43 ?_
          refine A_getf (kf := 0) d_N_days_45 hA.o ok_1 (by decide) q_49 rfl ?_
          refine A_topI f0 ?_
          first | refine A_if_leN (tgt := 65) d_N_days_48 (by decide) (by with_reducible rfl) (by omega) (fun c_48 => ?_) (fun c_48 => ?_) | refine A_if_le (tgt := 65) d_N_days_48 (by decide) (fun c_48 => ?_) (fun c_48 => ?_)
          · exact absurd hH.1 (by omega)
          · refine A_aload5 d_N_days_51 ?_
            refine A_getf (kf := 1) d_N_days_53 hB.o ok_0 (by decide) q_151 rfl ?_
            refine A_topI b1 ?_
            refine A_aload4 d_N_days_56 ?_
            refine A_getf (kf := 0) d_N_days_58 hA.o ok_1 (by decide) q_49 rfl ?_
            refine A_topI f0 ?_
            refine A_idivN d_N_days_61 (by with_reducible rfl) (by with_reducible rfl) (by omega) ?_
            refine A_goto (tgt := 66) d_N_days_62 (by decide) ?_
            refine A_istore6 d_N_days_66 trivial ?_
            refine A_iload_n3 d_N_days_68 ?_
            refine A_bipush (v := nI 100) d_N_days_69 (by decide) ?_
            first | refine A_icmp_ltN (tgt := 95) d_N_days_71 (by decide) (by with_reducible rfl) (by with_reducible rfl) (by omega) (by omega) (fun c_71 => ?_) (fun c_71 => ?_) | refine A_icmp_lt (tgt := 95) d_N_days_71 (by decide) (fun c_71 => ?_) (fun c_71 => ?_)
            · refine A_iload_n3 d_N_days_95 ?_
              refine A_tableOut (tgt := 168) d_N_days_96 swo (by decide) ?_
              refine A_bipush (v := (-2)) d_N_days_168 (by decide) ?_
              refine A_iret d_N_days_170 rfl ⟨Nat.zero_le _, Nat.zero_le _⟩ ?_
              exact pu (by unfold daysV; rw [rg_neg hx (by decide), if_neg (show ¬ x = 0 from out3 hro (k := 0) (by decide)), if_neg (out3 hro (k := 1) (by decide)), if_neg (out3 hro (k := 2) (by decide)), if_neg (out3 hro (k := 3) (by decide))])
            · exact absurd (neg_lt hx (by decide)) c_71
        · obtain ⟨j, hj, rfl⟩ := nI_of hx
          refine A_aload_n0 d_N_days_0 ?_
          refine A_iconst (v := nI 0) d_N_days_1 (by decide) ?_
          refine A_iload_n1 d_N_days_2 ?_
          refine A_callVP d_N_days_3 (c_N_isToldT hN (by decide) hl) hN.o rfl q_644 q_646 qs_2 mk_N_isTold rfl (by decide) rfl (Nat.le_of_ble_eq_true rfl) ⟨Nat.le_of_ble_eq_true rfl, Nat.le_of_ble_eq_true rfl⟩ ⟨rfl, rfl⟩ ?_
          refine A_if_eqB (tgt := 18) d_N_days_6 (by decide) (fun c => absurd c (by decide)) (fun c_6 => ?_)
          refine A_aload_n0 d_N_days_9 ?_
          refine A_iconst (v := nI 2) d_N_days_10 (by decide) ?_
          refine A_iload_n2 d_N_days_11 ?_
          refine A_callVP d_N_days_12 (c_N_isToldT hN (by decide) hb) hN.o rfl q_644 q_646 qs_2 mk_N_isTold rfl (by decide) rfl (Nat.le_of_ble_eq_true rfl) ⟨Nat.le_of_ble_eq_true rfl, Nat.le_of_ble_eq_true rfl⟩ ⟨rfl, rfl⟩ ?_
          refine A_if_neB (tgt := 21) d_N_days_15 (by decide) (fun c_15 => ?_) (fun c => absurd c (by decide))
          refine A_aload_n0 d_N_days_21 ?_
          refine A_getf (kf := 0) d_N_days_22 hN.o ok_7 (by decide) q_368 rfl ?_
          refine A_getf (kf := 5) d_N_days_25 hN.a.o ok_6 (by decide) q_203 rfl ?_
          refine A_iload_n1 d_N_days_28 ?_
          refine A_aaldN d_N_days_29 hN.a.lands rfl rfl ⟨by omega, by decide⟩ (show va_rf (two (n + 1 + 12) (n + 1 + 29) l) = .ref (n + 1 + 12 + 17 * l) by rw [two_at rfl (by omega)]; rfl) ?_
          refine A_astore4 d_N_days_30 trivial ?_
          refine A_aload_n0 d_N_days_32 ?_
          refine A_getf (kf := 0) d_N_days_33 hN.o ok_7 (by decide) q_368 rfl ?_
          refine A_getf (kf := 7) d_N_days_36 hN.a.o ok_6 (by decide) q_207 rfl ?_
          refine A_iload_n2 d_N_days_39 ?_
          refine A_aaldN d_N_days_40 hN.a.books rfl rfl ⟨by omega, by decide⟩ (show va_rf (two (n + 1 + 21) (n + 1 + 38) b) = .ref (n + 1 + 21 + 17 * b) by rw [two_at rfl (by omega)]; rfl) ?_
          refine A_astore5 d_N_days_41 trivial ?_
          refine A_aload4 d_N_days_43 ?_
          refine A_getf (kf := 0) d_N_days_45 hA.o ok_1 (by decide) q_49 rfl ?_
          refine A_topI f0 ?_
          first | refine A_if_leN (tgt := 65) d_N_days_48 (by decide) (by with_reducible rfl) (by omega) (fun c_48 => ?_) (fun c_48 => ?_) | refine A_if_le (tgt := 65) d_N_days_48 (by decide) (fun c_48 => ?_) (fun c_48 => ?_)
          · exact absurd hH.1 (by omega)
          · refine A_aload5 d_N_days_51 ?_
            refine A_getf (kf := 1) d_N_days_53 hB.o ok_0 (by decide) q_151 rfl ?_
            refine A_topI b1 ?_
            refine A_aload4 d_N_days_56 ?_
            refine A_getf (kf := 0) d_N_days_58 hA.o ok_1 (by decide) q_49 rfl ?_
            refine A_topI f0 ?_
            refine A_idivN d_N_days_61 (by with_reducible rfl) (by with_reducible rfl) (by omega) ?_
            refine A_goto (tgt := 66) d_N_days_62 (by decide) ?_
            refine A_istore6 d_N_days_66 trivial ?_
            refine A_iload_n3 d_N_days_68 ?_
            refine A_bipush (v := nI 100) d_N_days_69 (by decide) ?_
            first | refine A_icmp_ltN (tgt := 95) d_N_days_71 (by decide) (by with_reducible rfl) (by with_reducible rfl) (by omega) (by omega) (fun c_71 => ?_) (fun c_71 => ?_) | refine A_icmp_lt (tgt := 95) d_N_days_71 (by decide) (fun c_71 => ?_) (fun c_71 => ?_)
            · refine A_iload_n3 d_N_days_95 ?_
              refine A_tableOut (tgt := 168) d_N_days_96 swo (by decide) ?_
              refine A_bipush (v := (-2)) d_N_days_168 (by decide) ?_
              refine A_iret d_N_days_170 rfl ⟨Nat.zero_le _, Nat.zero_le _⟩ ?_
              first | (exfalso; omega) | exact pu (by
                unfold daysV
                rw [rgN hj (by decide) (by omega)]
                first
                  | (rw [if_pos (by omega)]; done)
                  | (rw [if_neg (by omega), if_neg (show ¬ nI j = 0 from out3 hro (k := 0) (by decide)), if_neg (out3 hro (k := 1) (by decide)), if_neg (out3 hro (k := 2) (by decide)), if_neg (out3 hro (k := 3) (by decide))]; done))
            · refine A_iload_n3 d_N_days_74 ?_
              refine A_bipush (v := nI 100) d_N_days_75 (by decide) ?_
              first | refine A_isubN d_N_days_77 (by with_reducible rfl) (by with_reducible rfl) (by omega) ?_ | refine A_isub d_N_days_77 ?_
              refine A_iload6 d_N_days_78 ?_
              first | refine A_icmp_geN (tgt := 95) d_N_days_80 (by decide) (by with_reducible rfl) (by with_reducible rfl) (by omega) (by omega) (fun c_80 => ?_) (fun c_80 => ?_) | refine A_icmp_ge (tgt := 95) d_N_days_80 (by decide) (fun c_80 => ?_) (fun c_80 => ?_)
              · refine A_iload_n3 d_N_days_95 ?_
                refine A_tableOut (tgt := 168) d_N_days_96 swo (by decide) ?_
                refine A_bipush (v := (-2)) d_N_days_168 (by decide) ?_
                refine A_iret d_N_days_170 rfl ⟨Nat.zero_le _, Nat.zero_le _⟩ ?_
                first | (exfalso; omega) | exact pu (by
                  unfold daysV
                  rw [rgN hj (by decide) (by omega)]
                  first
                    | (rw [if_pos (by omega)]; done)
                    | (rw [if_neg (by omega), if_neg (show ¬ nI j = 0 from out3 hro (k := 0) (by decide)), if_neg (out3 hro (k := 1) (by decide)), if_neg (out3 hro (k := 2) (by decide)), if_neg (out3 hro (k := 3) (by decide))]; done))
              · have hd : VL l 0 * (j - 100 + 1) ≤ totB (BK b) := Nat.le_trans (Nat.mul_le_mul_left _ (show j - 100 + 1 ≤ totB (BK b) / VL l 0 by omega)) (Nat.mul_div_le _ _)
                refine A_aload4 d_N_days_83 ?_
                refine A_aload5 d_N_days_85 ?_
                refine A_iload_n3 d_N_days_87 ?_
                refine A_bipush (v := nI 100) d_N_days_88 (by decide) ?_
                first | refine A_isubN d_N_days_90 (by with_reducible rfl) (by with_reducible rfl) (by omega) ?_ | refine A_isub d_N_days_90 ?_
                refine A_callSP d_N_days_91 (c_N_sleptOn hA hV0 hB hK0 (j - 100) hd) q_731 q_732 mk_N_sleptOn rfl (by decide) rfl (Nat.le_of_ble_eq_true rfl) ⟨Nat.le_of_ble_eq_true rfl, Nat.le_of_ble_eq_true rfl⟩ ⟨rfl, rfl⟩ ?_
                refine A_iret d_N_days_94 rfl ⟨Nat.zero_le _, Nat.zero_le _⟩ ?_
                first | (exfalso; omega) | exact pu (by
                  unfold daysV
                  rw [rgN hj (by decide) (by omega)]
                  first
                    | (rw [if_pos (by omega)]; done)
                    | (rw [if_neg (by omega), if_neg (show ¬ nI j = 0 from out3 hro (k := 0) (by decide)), if_neg (out3 hro (k := 1) (by decide)), if_neg (out3 hro (k := 2) (by decide)), if_neg (out3 hro (k := 3) (by decide))]; done))
    · rw [pick_out hnb]
      refine A_aload_n0 d_N_days_0 ?_
      refine A_iconst (v := nI 0) d_N_days_1 (by decide) ?_
      refine A_iload_n1 d_N_days_2 ?_
      refine A_callVP d_N_days_3 (c_N_isToldT hN (by decide) hl) hN.o rfl q_644 q_646 qs_2 mk_N_isTold rfl (by decide) rfl (Nat.le_of_ble_eq_true rfl) ⟨Nat.le_of_ble_eq_true rfl, Nat.le_of_ble_eq_true rfl⟩ ⟨rfl, rfl⟩ ?_
      refine A_if_eqB (tgt := 18) d_N_days_6 (by decide) (fun c => absurd c (by decide)) (fun c_6 => ?_)
      refine A_aload_n0 d_N_days_9 ?_
      refine A_iconst (v := nI 2) d_N_days_10 (by decide) ?_
      refine A_iload_n2 d_N_days_11 ?_
      refine A_callVP d_N_days_12 (c_N_isToldF hN (by decide) hnb) hN.o rfl q_644 q_646 qs_2 mk_N_isTold rfl (by decide) rfl (Nat.le_of_ble_eq_true rfl) ⟨Nat.le_of_ble_eq_true rfl, Nat.le_of_ble_eq_true rfl⟩ ⟨rfl, rfl⟩ ?_
      refine A_if_neB (tgt := 21) d_N_days_15 (by decide) (fun c => absurd c (by decide)) (fun c_15 => ?_)
      refine A_bipush (v := (-2)) d_N_days_18 (by decide) ?_
      refine A_iret d_N_days_20 rfl ⟨Nat.zero_le _, Nat.zero_le _⟩ ?_
      exact pu rfl
  · rw [pick_const (fun b => pick_out hno)]
    refine A_aload_n0 d_N_days_0 ?_
    refine A_iconst (v := nI 0) d_N_days_1 (by decide) ?_
    refine A_iload_n1 d_N_days_2 ?_
    refine A_callVP d_N_days_3 (c_N_isToldF hN (by decide) hno) hN.o rfl q_644 q_646 qs_2 mk_N_isTold rfl (by decide) rfl (Nat.le_of_ble_eq_true rfl) ⟨Nat.le_of_ble_eq_true rfl, Nat.le_of_ble_eq_true rfl⟩ ⟨rfl, rfl⟩ ?_
    refine A_if_eqB (tgt := 18) d_N_days_6 (by decide) (fun c_6 => ?_) (fun c => absurd c (by decide))
    refine A_bipush (v := (-2)) d_N_days_18 (by decide) ?_
    refine A_iret d_N_days_20 rfl ⟨Nat.zero_le _, Nat.zero_le _⟩ ?_
    exact pu rfl
