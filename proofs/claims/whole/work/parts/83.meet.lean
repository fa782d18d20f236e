set_option maxHeartbeats 4000000 in
set_option maxRecDepth 100000 in
theorem c_N_game {G : GE} {h : AH} {n : Nat} {W : TD} {c : Nat → Nat} {VL WT BK SG GM : Nat → Nat → Nat} (hN : NT h n W c VL WT BK SG GM) (ga sa x : Int32) : Ctr G y_N_game b_N_game 5 (some .int) r_N_game [.ref n, .int ga, .int sa, .int x] h (Pu (.int (pick (c 4) ga (fun b => rg sa 0 7 (fun s => gameV (GM b) s x) (-1000)) (-1000))) h) := by
  refine Ctr.of (by decide +kernel) (by simp) (Nat.le_of_ble_eq_true rfl) (L0 := [some (.ref n), some (.int ga), some (.int sa), some (.int x), none]) rfl ?_
  have hc4 := (hN.r.n 4 (by decide)).2
  rcases told_c (n := c 4) (by omega) ga with ⟨b, hb, rfl⟩ | hno
  · rw [pick_in hb (by omega)]
    rcases rg_c (lo := 0) (hi := 7) (by decide) (by decide) sa with ⟨s, -, hs7, rfl⟩ | hro
    · rw [rg_in ⟨by omega, hs7⟩ (by decide)]
      unfold gameV
      by_cases hs0 : 0 < s
      · rw [if_pos hs0]
        rcases rg_c (lo := 0) (hi := 0) (by decide) (by decide) x with ⟨kx, hk0, hk1, rfl⟩ | hrx
        · obtain rfl : kx = 0 := by omega
          rw [rg_in ⟨by omega, by omega⟩ (by decide)]
          refine A_aload_n0 d_N_game_0 ?_
          refine A_iconst (v := nI 4) d_N_game_1 (by decide) ?_
          refine A_iload_n1 d_N_game_2 ?_
          refine A_callVP d_N_game_3 (c_N_isToldT hN (by decide) hb) hN.o rfl q_644 q_646 qs_2 mk_N_isTold rfl (by decide) rfl (Nat.le_of_ble_eq_true rfl) ⟨Nat.le_of_ble_eq_true rfl, Nat.le_of_ble_eq_true rfl⟩ ⟨rfl, rfl⟩ ?_
          refine A_if_eqB (tgt := 19) d_N_game_6 (by decide) (fun c => absurd c (by decide)) (fun c_6 => ?_)
          refine A_iload_n2 d_N_game_9 ?_
          refine A_if_lt (tgt := 19) d_N_game_10 (by decide) (fun c => absurd c (nI_pos (by omega))) (fun c_10 => ?_)
          refine A_iload_n2 d_N_game_13 ?_
          refine A_bipush (v := nI 8) d_N_game_14 (by decide) ?_
          first | refine A_icmp_ltN (tgt := 23) d_N_game_16 (by decide) (by with_reducible rfl) (by with_reducible rfl) (by omega) (by omega) (fun c_16 => ?_) (fun c_16 => ?_) | refine A_icmp_lt (tgt := 23) d_N_game_16 (by decide) (fun c_16 => ?_) (fun c_16 => ?_)
          · refine A_aload_n0 d_N_game_23 ?_
            refine A_getf (kf := 0) d_N_game_24 hN.o ok_7 (by decide) q_368 rfl ?_
            refine A_getf (kf := 9) d_N_game_27 hN.a.o ok_6 (by decide) q_211 rfl ?_
            refine A_iload_n1 d_N_game_30 ?_
            refine A_aaldN d_N_game_31 hN.a.games rfl rfl ⟨by omega, by decide⟩ (show va_rf (if b < 2 then some (n + 1 + 10 + b) else none) = .ref (n + 1 + 10 + b) by rw [if_pos (by omega)]; rfl) ?_
            refine A_astore4 d_N_game_32 trivial ?_
            refine A_iload_n2 d_N_game_34 ?_
            refine A_if_le (tgt := 53) d_N_game_35 (by decide) (fun c => absurd c (nI_nle (by omega) (by omega))) (fun c_35 => ?_)
            refine A_iload_n3 d_N_game_38 ?_
            refine A_if_ne (tgt := 49) d_N_game_39 (by decide) (fun c => absurd rfl c) (fun c_39 => ?_)
            refine A_aload4 d_N_game_42 ?_
            refine A_iload_n2 d_N_game_44 ?_
            refine A_ialdN d_N_game_45 (hN.a.gm (by omega)) ⟨by omega, by decide⟩ ?_
            refine A_topI (hN.r.g b hb s (by omega)).1 ?_
            refine A_goto (tgt := 52) d_N_game_46 (by decide) ?_
            refine A_iret d_N_game_52 rfl ⟨Nat.zero_le _, Nat.zero_le _⟩ ?_
            exact pu (by unfold wI; rw [if_neg (by omega)])
          · exact absurd c_16 (by omega)
        · rw [rg_out hrx]
          refine A_aload_n0 d_N_game_0 ?_
          refine A_iconst (v := nI 4) d_N_game_1 (by decide) ?_
          refine A_iload_n1 d_N_game_2 ?_
          refine A_callVP d_N_game_3 (c_N_isToldT hN (by decide) hb) hN.o rfl q_644 q_646 qs_2 mk_N_isTold rfl (by decide) rfl (Nat.le_of_ble_eq_true rfl) ⟨Nat.le_of_ble_eq_true rfl, Nat.le_of_ble_eq_true rfl⟩ ⟨rfl, rfl⟩ ?_
          refine A_if_eqB (tgt := 19) d_N_game_6 (by decide) (fun c => absurd c (by decide)) (fun c_6 => ?_)
          refine A_iload_n2 d_N_game_9 ?_
          refine A_if_lt (tgt := 19) d_N_game_10 (by decide) (fun c => absurd c (nI_pos (by omega))) (fun c_10 => ?_)
          refine A_iload_n2 d_N_game_13 ?_
          refine A_bipush (v := nI 8) d_N_game_14 (by decide) ?_
          first | refine A_icmp_ltN (tgt := 23) d_N_game_16 (by decide) (by with_reducible rfl) (by with_reducible rfl) (by omega) (by omega) (fun c_16 => ?_) (fun c_16 => ?_) | refine A_icmp_lt (tgt := 23) d_N_game_16 (by decide) (fun c_16 => ?_) (fun c_16 => ?_)
          · refine A_aload_n0 d_N_game_23 ?_
            refine A_getf (kf := 0) d_N_game_24 hN.o ok_7 (by decide) q_368 rfl ?_
            refine A_getf (kf := 9) d_N_game_27 hN.a.o ok_6 (by decide) q_211 rfl ?_
            refine A_iload_n1 d_N_game_30 ?_
            refine A_aaldN d_N_game_31 hN.a.games rfl rfl ⟨by omega, by decide⟩ (show va_rf (if b < 2 then some (n + 1 + 10 + b) else none) = .ref (n + 1 + 10 + b) by rw [if_pos (by omega)]; rfl) ?_
            refine A_astore4 d_N_game_32 trivial ?_
            refine A_iload_n2 d_N_game_34 ?_
            refine A_if_le (tgt := 53) d_N_game_35 (by decide) (fun c => absurd c (nI_nle (by omega) (by omega))) (fun c_35 => ?_)
            refine A_iload_n3 d_N_game_38 ?_
            refine A_if_ne (tgt := 49) d_N_game_39 (by decide) (fun c_39 => ?_) (fun c => absurd c (rg_o (by decide) (by decide) hrx (k := 0) (by decide) (by decide)))
            refine A_sipush (v := (-1000)) d_N_game_49 (by decide) ?_
            refine A_iret d_N_game_52 rfl ⟨Nat.zero_le _, Nat.zero_le _⟩ ?_
            exact pu rfl
          · exact absurd c_16 (by omega)
      · obtain rfl : s = 0 := by omega
        rw [if_neg hs0]
        rcases rg_c (lo := 0) (hi := 6) (by decide) (by decide) x with ⟨kx, hk0, hk1, rfl⟩ | hrx
        · rw [rg_in ⟨hk0, hk1⟩ (by decide)]
          refine A_aload_n0 d_N_game_0 ?_
          refine A_iconst (v := nI 4) d_N_game_1 (by decide) ?_
          refine A_iload_n1 d_N_game_2 ?_
          refine A_callVP d_N_game_3 (c_N_isToldT hN (by decide) hb) hN.o rfl q_644 q_646 qs_2 mk_N_isTold rfl (by decide) rfl (Nat.le_of_ble_eq_true rfl) ⟨Nat.le_of_ble_eq_true rfl, Nat.le_of_ble_eq_true rfl⟩ ⟨rfl, rfl⟩ ?_
          refine A_if_eqB (tgt := 19) d_N_game_6 (by decide) (fun c => absurd c (by decide)) (fun c_6 => ?_)
          refine A_iload_n2 d_N_game_9 ?_
          refine A_if_lt (tgt := 19) d_N_game_10 (by decide) (fun c => absurd c (nI_pos (by omega))) (fun c_10 => ?_)
          refine A_iload_n2 d_N_game_13 ?_
          refine A_bipush (v := nI 8) d_N_game_14 (by decide) ?_
          first | refine A_icmp_ltN (tgt := 23) d_N_game_16 (by decide) (by with_reducible rfl) (by with_reducible rfl) (by omega) (by omega) (fun c_16 => ?_) (fun c_16 => ?_) | refine A_icmp_lt (tgt := 23) d_N_game_16 (by decide) (fun c_16 => ?_) (fun c_16 => ?_)
          · refine A_aload_n0 d_N_game_23 ?_
            refine A_getf (kf := 0) d_N_game_24 hN.o ok_7 (by decide) q_368 rfl ?_
            refine A_getf (kf := 9) d_N_game_27 hN.a.o ok_6 (by decide) q_211 rfl ?_
            refine A_iload_n1 d_N_game_30 ?_
            refine A_aaldN d_N_game_31 hN.a.games rfl rfl ⟨by omega, by decide⟩ (show va_rf (if b < 2 then some (n + 1 + 10 + b) else none) = .ref (n + 1 + 10 + b) by rw [if_pos (by omega)]; rfl) ?_
            refine A_astore4 d_N_game_32 trivial ?_
            refine A_iload_n2 d_N_game_34 ?_
            refine A_if_le (tgt := 53) d_N_game_35 (by decide) (fun c_35 => ?_) (fun c => absurd (by decide) c)
            refine A_iload_n3 d_N_game_53 ?_
            refine A_if_lt (tgt := 69) d_N_game_54 (by decide) (fun c => absurd c (nI_pos (by omega))) (fun c_54 => ?_)
            refine A_iload_n3 d_N_game_57 ?_
            refine A_iconst (v := nI 3) d_N_game_58 (by decide) ?_
            first | refine A_icmp_gtN (tgt := 69) d_N_game_59 (by decide) (by with_reducible rfl) (by with_reducible rfl) (by omega) (by omega) (fun c_59 => ?_) (fun c_59 => ?_) | refine A_icmp_gt (tgt := 69) d_N_game_59 (by decide) (fun c_59 => ?_) (fun c_59 => ?_)
            · refine A_iload_n3 d_N_game_69 ?_
              refine A_iconst (v := nI 4) d_N_game_70 (by decide) ?_
              first | refine A_icmp_ltN (tgt := 91) d_N_game_71 (by decide) (by with_reducible rfl) (by with_reducible rfl) (by omega) (by omega) (fun c_71 => ?_) (fun c_71 => ?_) | refine A_icmp_lt (tgt := 91) d_N_game_71 (by decide) (fun c_71 => ?_) (fun c_71 => ?_)
              · refine A_sipush (v := (-1000)) d_N_game_91 (by decide) ?_
                refine A_iret d_N_game_94 rfl ⟨Nat.zero_le _, Nat.zero_le _⟩ ?_
                first | (exfalso; omega) | exact pu (by first | (rw [if_pos c_59]; done) | (rw [if_neg (by omega)]; done))
              · refine A_iload_n3 d_N_game_74 ?_
                refine A_bipush (v := nI 6) d_N_game_75 (by decide) ?_
                first | refine A_icmp_gtN (tgt := 91) d_N_game_77 (by decide) (by with_reducible rfl) (by with_reducible rfl) (by omega) (by omega) (fun c_77 => ?_) (fun c_77 => ?_) | refine A_icmp_gt (tgt := 91) d_N_game_77 (by decide) (fun c_77 => ?_) (fun c_77 => ?_)
                · refine A_sipush (v := (-1000)) d_N_game_91 (by decide) ?_
                  refine A_iret d_N_game_94 rfl ⟨Nat.zero_le _, Nat.zero_le _⟩ ?_
                  first | (exfalso; omega) | exact pu (by first | (rw [if_pos c_59]; done) | (rw [if_neg (by omega)]; done))
                · refine A_aload4 d_N_game_80 ?_
                  refine A_iload_n3 d_N_game_82 ?_
                  refine A_iconst (v := nI 4) d_N_game_83 (by decide) ?_
                  first | refine A_isubN d_N_game_84 (by with_reducible rfl) (by with_reducible rfl) (by omega) ?_ | refine A_isub d_N_game_84 ?_
                  refine A_callSP d_N_game_85 (c_N_power (hN.a.gm (by omega)) (hN.r.g b hb) (kx - 4) (by omega)) q_1010 q_1011 mk_N_power rfl (by decide) rfl (Nat.le_of_ble_eq_true rfl) ⟨Nat.le_of_ble_eq_true rfl, Nat.le_of_ble_eq_true rfl⟩ ⟨rfl, rfl⟩ ?_
                  refine A_goto (tgt := 94) d_N_game_88 (by decide) ?_
                  refine A_iret d_N_game_94 rfl ⟨Nat.zero_le _, Nat.zero_le _⟩ ?_
                  first | (exfalso; omega) | exact pu (by first | (rw [if_pos c_59]; done) | (rw [if_neg (by omega)]; done))
            · refine A_aload4 d_N_game_62 ?_
              refine A_iload_n3 d_N_game_64 ?_
              refine A_callSP d_N_game_65 (c_N_core (hN.a.gm (by omega)) (hN.r.g b hb) kx c_59) q_1004 q_1005 mk_N_core rfl (by decide) rfl (Nat.le_of_ble_eq_true rfl) ⟨Nat.le_of_ble_eq_true rfl, Nat.le_of_ble_eq_true rfl⟩ ⟨rfl, rfl⟩ ?_
              refine A_iret d_N_game_68 rfl ⟨Nat.zero_le _, Nat.zero_le _⟩ ?_
              first | (exfalso; omega) | exact pu (by first | (rw [if_pos c_59]; done) | (rw [if_neg (by omega)]; done))
          · exact absurd c_16 (by omega)
        · rw [rg_out hrx]
          by_cases hx : x < 0
          · refine A_aload_n0 d_N_game_0 ?_
            refine A_iconst (v := nI 4) d_N_game_1 (by decide) ?_
            refine A_iload_n1 d_N_game_2 ?_
            refine A_callVP d_N_game_3 (c_N_isToldT hN (by decide) hb) hN.o rfl q_644 q_646 qs_2 mk_N_isTold rfl (by decide) rfl (Nat.le_of_ble_eq_true rfl) ⟨Nat.le_of_ble_eq_true rfl, Nat.le_of_ble_eq_true rfl⟩ ⟨rfl, rfl⟩ ?_
            refine A_if_eqB (tgt := 19) d_N_game_6 (by decide) (fun c => absurd c (by decide)) (fun c_6 => ?_)
            refine A_iload_n2 d_N_game_9 ?_
            refine A_if_lt (tgt := 19) d_N_game_10 (by decide) (fun c => absurd c (nI_pos (by omega))) (fun c_10 => ?_)
            refine A_iload_n2 d_N_game_13 ?_
            refine A_bipush (v := nI 8) d_N_game_14 (by decide) ?_
            first | refine A_icmp_ltN (tgt := 23) d_N_game_16 (by decide) (by with_reducible rfl) (by with_reducible rfl) (by omega) (by omega) (fun c_16 => ?_) (fun c_16 => ?_) | refine A_icmp_lt (tgt := 23) d_N_game_16 (by decide) (fun c_16 => ?_) (fun c_16 => ?_)
            · refine A_aload_n0 d_N_game_23 ?_
              refine A_getf (kf := 0) d_N_game_24 hN.o ok_7 (by decide) q_368 rfl ?_
              refine A_getf (kf := 9) d_N_game_27 hN.a.o ok_6 (by decide) q_211 rfl ?_
              refine A_iload_n1 d_N_game_30 ?_
              refine A_aaldN d_N_game_31 hN.a.games rfl rfl ⟨by omega, by decide⟩ (show va_rf (if b < 2 then some (n + 1 + 10 + b) else none) = .ref (n + 1 + 10 + b) by rw [if_pos (by omega)]; rfl) ?_
              refine A_astore4 d_N_game_32 trivial ?_
              refine A_iload_n2 d_N_game_34 ?_
              refine A_if_le (tgt := 53) d_N_game_35 (by decide) (fun c_35 => ?_) (fun c => absurd (by decide) c)
              refine A_iload_n3 d_N_game_53 ?_
              refine A_if_lt (tgt := 69) d_N_game_54 (by decide) (fun c_54 => ?_) (fun c => absurd hx c)
              refine A_iload_n3 d_N_game_69 ?_
              refine A_iconst (v := nI 4) d_N_game_70 (by decide) ?_
              refine A_icmp_lt (tgt := 91) d_N_game_71 (by decide) (fun c_71 => ?_) (fun c => absurd (neg_lt hx (k := 4) (by decide)) c)
              refine A_sipush (v := (-1000)) d_N_game_91 (by decide) ?_
              refine A_iret d_N_game_94 rfl ⟨Nat.zero_le _, Nat.zero_le _⟩ ?_
              exact pu rfl
            · exact absurd c_16 (by omega)
          · obtain ⟨j, hj, rfl⟩ := nI_of hx
            rw [inB_N hj (by decide) (by decide)] at hrx
            have hj6 : 6 < j := by
              rcases Nat.lt_or_ge 6 j with q | q
              · exact q
              · rw [decide_eq_true (p := 0 ≤ j) (by omega), decide_eq_true (p := j ≤ 6) q] at hrx
                exact absurd hrx (by decide)
            refine A_aload_n0 d_N_game_0 ?_
            refine A_iconst (v := nI 4) d_N_game_1 (by decide) ?_
            refine A_iload_n1 d_N_game_2 ?_
            refine A_callVP d_N_game_3 (c_N_isToldT hN (by decide) hb) hN.o rfl q_644 q_646 qs_2 mk_N_isTold rfl (by decide) rfl (Nat.le_of_ble_eq_true rfl) ⟨Nat.le_of_ble_eq_true rfl, Nat.le_of_ble_eq_true rfl⟩ ⟨rfl, rfl⟩ ?_
            refine A_if_eqB (tgt := 19) d_N_game_6 (by decide) (fun c => absurd c (by decide)) (fun c_6 => ?_)
            refine A_iload_n2 d_N_game_9 ?_
            refine A_if_lt (tgt := 19) d_N_game_10 (by decide) (fun c => absurd c (nI_pos (by omega))) (fun c_10 => ?_)
            refine A_iload_n2 d_N_game_13 ?_
            refine A_bipush (v := nI 8) d_N_game_14 (by decide) ?_
            first | refine A_icmp_ltN (tgt := 23) d_N_game_16 (by decide) (by with_reducible rfl) (by with_reducible rfl) (by omega) (by omega) (fun c_16 => ?_) (fun c_16 => ?_) | refine A_icmp_lt (tgt := 23) d_N_game_16 (by decide) (fun c_16 => ?_) (fun c_16 => ?_)
            · refine A_aload_n0 d_N_game_23 ?_
              refine A_getf (kf := 0) d_N_game_24 hN.o ok_7 (by decide) q_368 rfl ?_
              refine A_getf (kf := 9) d_N_game_27 hN.a.o ok_6 (by decide) q_211 rfl ?_
              refine A_iload_n1 d_N_game_30 ?_
              refine A_aaldN d_N_game_31 hN.a.games rfl rfl ⟨by omega, by decide⟩ (show va_rf (if b < 2 then some (n + 1 + 10 + b) else none) = .ref (n + 1 + 10 + b) by rw [if_pos (by omega)]; rfl) ?_
              refine A_astore4 d_N_game_32 trivial ?_
              refine A_iload_n2 d_N_game_34 ?_
              refine A_if_le (tgt := 53) d_N_game_35 (by decide) (fun c_35 => ?_) (fun c => absurd (by decide) c)
              refine A_iload_n3 d_N_game_53 ?_
              refine A_if_lt (tgt := 69) d_N_game_54 (by decide) (fun c => absurd c hx) (fun c_54 => ?_)
              refine A_iload_n3 d_N_game_57 ?_
              refine A_iconst (v := nI 3) d_N_game_58 (by decide) ?_
              first | refine A_icmp_gtN (tgt := 69) d_N_game_59 (by decide) (by with_reducible rfl) (by with_reducible rfl) (by omega) (by omega) (fun c_59 => ?_) (fun c_59 => ?_) | refine A_icmp_gt (tgt := 69) d_N_game_59 (by decide) (fun c_59 => ?_) (fun c_59 => ?_)
              · refine A_iload_n3 d_N_game_69 ?_
                refine A_iconst (v := nI 4) d_N_game_70 (by decide) ?_
                first | refine A_icmp_ltN (tgt := 91) d_N_game_71 (by decide) (by with_reducible rfl) (by with_reducible rfl) (by omega) (by omega) (fun c_71 => ?_) (fun c_71 => ?_) | refine A_icmp_lt (tgt := 91) d_N_game_71 (by decide) (fun c_71 => ?_) (fun c_71 => ?_)
                · refine A_sipush (v := (-1000)) d_N_game_91 (by decide) ?_
                  refine A_iret d_N_game_94 rfl ⟨Nat.zero_le _, Nat.zero_le _⟩ ?_
                  exact pu rfl
                · refine A_iload_n3 d_N_game_74 ?_
                  refine A_bipush (v := nI 6) d_N_game_75 (by decide) ?_
                  first | refine A_icmp_gtN (tgt := 91) d_N_game_77 (by decide) (by with_reducible rfl) (by with_reducible rfl) (by omega) (by omega) (fun c_77 => ?_) (fun c_77 => ?_) | refine A_icmp_gt (tgt := 91) d_N_game_77 (by decide) (fun c_77 => ?_) (fun c_77 => ?_)
                  · refine A_sipush (v := (-1000)) d_N_game_91 (by decide) ?_
                    refine A_iret d_N_game_94 rfl ⟨Nat.zero_le _, Nat.zero_le _⟩ ?_
                    exact pu rfl
                  · exact absurd c_77 (by omega)
              · exact absurd c_59 (by omega)
            · exact absurd c_16 (by omega)
    · rw [rg_out hro]
      by_cases hx : sa < 0
      · refine A_aload_n0 d_N_game_0 ?_
        refine A_iconst (v := nI 4) d_N_game_1 (by decide) ?_
        refine A_iload_n1 d_N_game_2 ?_
        refine A_callVP d_N_game_3 (c_N_isToldT hN (by decide) hb) hN.o rfl q_644 q_646 qs_2 mk_N_isTold rfl (by decide) rfl (Nat.le_of_ble_eq_true rfl) ⟨Nat.le_of_ble_eq_true rfl, Nat.le_of_ble_eq_true rfl⟩ ⟨rfl, rfl⟩ ?_
        refine A_if_eqB (tgt := 19) d_N_game_6 (by decide) (fun c => absurd c (by decide)) (fun c_6 => ?_)
        refine A_iload_n2 d_N_game_9 ?_
        refine A_if_lt (tgt := 19) d_N_game_10 (by decide) (fun c_10 => ?_) (fun c => absurd hx c)
        refine A_sipush (v := (-1000)) d_N_game_19 (by decide) ?_
        refine A_iret d_N_game_22 rfl ⟨Nat.zero_le _, Nat.zero_le _⟩ ?_
        exact pu rfl
      · obtain ⟨j, hj, rfl⟩ := nI_of hx
        rw [inB_N hj (by decide) (by decide)] at hro
        refine A_aload_n0 d_N_game_0 ?_
        refine A_iconst (v := nI 4) d_N_game_1 (by decide) ?_
        refine A_iload_n1 d_N_game_2 ?_
        refine A_callVP d_N_game_3 (c_N_isToldT hN (by decide) hb) hN.o rfl q_644 q_646 qs_2 mk_N_isTold rfl (by decide) rfl (Nat.le_of_ble_eq_true rfl) ⟨Nat.le_of_ble_eq_true rfl, Nat.le_of_ble_eq_true rfl⟩ ⟨rfl, rfl⟩ ?_
        refine A_if_eqB (tgt := 19) d_N_game_6 (by decide) (fun c => absurd c (by decide)) (fun c_6 => ?_)
        refine A_iload_n2 d_N_game_9 ?_
        refine A_if_lt (tgt := 19) d_N_game_10 (by decide) (fun c => absurd c hx) (fun c_10 => ?_)
        refine A_iload_n2 d_N_game_13 ?_
        refine A_bipush (v := nI 8) d_N_game_14 (by decide) ?_
        first | refine A_icmp_ltN (tgt := 23) d_N_game_16 (by decide) (by with_reducible rfl) (by with_reducible rfl) (by omega) (by omega) (fun c_16 => ?_) (fun c_16 => ?_) | refine A_icmp_lt (tgt := 23) d_N_game_16 (by decide) (fun c_16 => ?_) (fun c_16 => ?_)
        · exact absurd hro (by rw [decide_eq_true (p := 0 ≤ j) (by omega), decide_eq_true (p := j ≤ 7) (by omega)]; decide)
        · refine A_sipush (v := (-1000)) d_N_game_19 (by decide) ?_
          refine A_iret d_N_game_22 rfl ⟨Nat.zero_le _, Nat.zero_le _⟩ ?_
          exact pu rfl
  · rw [pick_out hno]
    refine A_aload_n0 d_N_game_0 ?_
    refine A_iconst (v := nI 4) d_N_game_1 (by decide) ?_
    refine A_iload_n1 d_N_game_2 ?_
    refine A_callVP d_N_game_3 (c_N_isToldF hN (by decide) hno) hN.o rfl q_644 q_646 qs_2 mk_N_isTold rfl (by decide) rfl (Nat.le_of_ble_eq_true rfl) ⟨Nat.le_of_ble_eq_true rfl, Nat.le_of_ble_eq_true rfl⟩ ⟨rfl, rfl⟩ ?_
    refine A_if_eqB (tgt := 19) d_N_game_6 (by decide) (fun c_6 => ?_) (fun c => absurd c (by decide))
    refine A_sipush (v := (-1000)) d_N_game_19 (by decide) ?_
    refine A_iret d_N_game_22 rfl ⟨Nat.zero_le _, Nat.zero_le _⟩ ?_
    exact pu rfl
theorem TAt.le {h : AH} {w : Nat} {t : Nat → Nat} (hT : TAt h w t) {i : Nat} (hi : i < 24) : t i ≤ 2 := by
  obtain ⟨g, -, ht⟩ := hT
  exact (ht i hi).2
theorem md24 {V : Nat → Nat} (ok : VOK V) (x : Nat) : x % V 0 < 24 := Nat.lt_of_lt_of_le (Nat.mod_lt _ (by have := ok.1; omega)) (by have := ok.1; omega)
theorem foldN_and (p : Nat → Bool) (b : Bool) : ∀ n, foldN (fun k b => b && p k) b n = (b && firstU (fun k => !p k) (fun _ => false) true n 0)
  | n => by
    have key : ∀ i, foldN (fun k b => b && p k) b i = true ↔ (b = true ∧ ∀ k, k < i → p k = true) := by
      intro i
      induction i with
      | zero => exact ⟨fun h => ⟨h, fun k hk => absurd hk (Nat.not_lt_zero k)⟩, fun h => h.1⟩
      | succ i ih =>
        show (foldN (fun k b => b && p k) b i && p i) = true ↔ _
        rw [Bool.and_eq_true, ih]
        constructor
        · rintro ⟨⟨h1, h2⟩, h3⟩
          refine ⟨h1, fun k hk => ?_⟩
          rcases Nat.lt_or_ge k i with q | q
          · exact h2 k q
          · obtain rfl : k = i := by omega
            exact h3
        · rintro ⟨h1, h2⟩
          exact ⟨⟨h1, fun k hk => h2 k (by omega)⟩, h2 i (by omega)⟩
    have key2 : ∀ j k, k + j = n → (firstU (fun k => !p k) (fun _ => false) true n k = true ↔ ∀ q, k ≤ q → q < n → p q = true) := by
      intro j
      induction j with
      | zero =>
        intro k hk
        obtain rfl : k = n := by omega
        rw [firstU_end]
        exact ⟨fun _ q h1 h2 => by omega, fun _ => rfl⟩
      | succ j ih =>
        intro k hk
        rw [firstU_step _ _ _ (by omega)]
        cases hp : p k
        · rw [Bool.not_false, if_pos rfl]
          exact ⟨fun h => Bool.noConfusion h, fun h => absurd ((h k (Nat.le_refl _) (by omega)).symm.trans hp) (by decide)⟩
        · rw [Bool.not_true, if_neg (by decide), ih (k + 1) (by omega)]
          refine ⟨fun h q h1 h2 => ?_, fun h q h1 h2 => h q (by omega) h2⟩
          rcases Nat.lt_or_ge k q with z | z
          · exact h q z h2
          · obtain rfl : q = k := by omega
            exact hp
    apply Bool.eq_iff_iff.mpr
    rw [key n, Bool.and_eq_true, key2 n 0 (by omega)]
    exact ⟨fun h => ⟨h.1, fun q _ h2 => h.2 q h2⟩, fun h => ⟨h.1, fun q h2 => h.2 q (Nat.zero_le _) h2⟩⟩
def cgB (V t : Nat → Nat) (cc x n : Nat) : Bool := (ltB t (V 0) cc x && ltB t (V 0) cc (x + 2 * V 3 + n)) && firstU (fun k => !ltB t (V 0) (1 - cc) (x + V 3 + k)) (fun _ => false) true n 0
theorem cgB_eq (V t : Nat → Nat) (cc x n : Nat) : goB V t cc x n = cgB V t cc x n := foldN_and _ _ _
set_option maxHeartbeats 4000000 in
set_option maxRecDepth 100000 in
theorem c_N_canGo {G : GE} {h : AH} {a : Nat} {D : LD} (hA : LAt h a D) {V : Nat → Nat} (hV : LVr D V) {w : Nat} {t : Nat → Nat} (hT : TAt h w t) (cc x z : Nat) (hcc : cc ≤ 1) (hx : x < 2 ^ 20) (hz : z ≤ 12) : Ctr G y_N_canGo b_N_canGo 8 (some .boolean) r_N_canGo [.ref a, .ref w, .int (nI cc), .int (nI x), .int (nI z)] h (Pu (.int (bI (goB V t cc x z))) h) := by
  refine Ctr.of (by decide +kernel) (by simp) (Nat.le_of_ble_eq_true rfl) (L0 := [some (.ref a), some (.ref w), some (.int (nI cc)), some (.int (nI x)), some (.int (nI z)), none, none, none]) rfl ?_
  have hV0 := hV
  obtain ⟨ok, ⟨f0, f1, f2, f3, f4, f9⟩, hP, hBe, hTo⟩ := hV
  have hH := ok.1
  have hw4 := ok.2.2.2.1
  rw [cgB_eq]
  have key : ∀ i, i ≤ z → WA G y_N_canGo b_N_canGo 8 (some .boolean) r_N_canGo 0 0 (Pu (.int (bI (firstU (fun k => !ltB t (V 0) (1 - cc) (x + V 3 + k)) (fun _ => false) true z i))) h) 0 0 46 [some (.ref a), some (.ref w), some (.int (nI cc)), some (.int (nI x)), some (.int (nI z)), some (.int (nI (x + V 3))), some (.int (nI (x + V 3 + z + V 3))), some (.int (nI i))] [] h := by
    refine down ?_ (fun i hi ih => ?_)
    · refine A_iload7 d_N_canGo_46 ?_
      refine A_iload4 d_N_canGo_48 ?_
      first | refine A_icmp_geN (tgt := 77) d_N_canGo_50 (by decide) (by with_reducible rfl) (by with_reducible rfl) (by omega) (by omega) (fun c_50 => ?_) (fun c_50 => ?_) | refine A_icmp_ge (tgt := 77) d_N_canGo_50 (by decide) (fun c_50 => ?_) (fun c_50 => ?_)
      · refine A_iconst (v := nI 1) d_N_canGo_77 (by decide) ?_
        refine A_zret d_N_canGo_78 rfl (by first | rfl | exact bI_nar _ | decide) ⟨Nat.zero_le _, Nat.zero_le _⟩ ?_
        exact pu (by rw [firstU_end]; rfl)
      · exact absurd c_50 (by omega)
    · refine A_iload7 d_N_canGo_46 ?_
      refine A_iload4 d_N_canGo_48 ?_
      first | refine A_icmp_geN (tgt := 77) d_N_canGo_50 (by decide) (by with_reducible rfl) (by with_reducible rfl) (by omega) (by omega) (fun c_50 => ?_) (fun c_50 => ?_) | refine A_icmp_ge (tgt := 77) d_N_canGo_50 (by decide) (fun c_50 => ?_) (fun c_50 => ?_)
      · exact absurd c_50 (by omega)
      · refine A_aload_n0 d_N_canGo_53 ?_
        refine A_aload_n1 d_N_canGo_54 ?_
        refine A_iload5 d_N_canGo_55 ?_
        refine A_iload7 d_N_canGo_57 ?_
        first | refine A_iaddN d_N_canGo_59 (by with_reducible rfl) (by with_reducible rfl) ?_ | refine A_iadd d_N_canGo_59 ?_
        refine A_callVP d_N_canGo_60 (c_Ld_at hA hV0 hT (x + V 3 + i) (by omega)) hA.o rfl q_761 q_685 q_686 mk_Ld_at rfl (by decide) rfl (Nat.le_of_ble_eq_true rfl) ⟨Nat.le_of_ble_eq_true rfl, Nat.le_of_ble_eq_true rfl⟩ ⟨rfl, rfl⟩ ?_
        refine A_iconst (v := nI 1) d_N_canGo_63 (by decide) ?_
        refine A_iload_n2 d_N_canGo_64 ?_
        first | refine A_isubN d_N_canGo_65 (by with_reducible rfl) (by with_reducible rfl) (by omega) ?_ | refine A_isub d_N_canGo_65 ?_
        have hb := hT.le (md24 ok (x + V 3 + i))
        first | refine A_icmp_neN (tgt := 71) d_N_canGo_66 (by decide) (by with_reducible rfl) (by with_reducible rfl) (by omega) (by omega) (fun c_66 => ?_) (fun c_66 => ?_) | refine A_icmp_ne (tgt := 71) d_N_canGo_66 (by decide) (fun c_66 => ?_) (fun c_66 => ?_)
        · first | refine A_iinc7 d_N_canGo_71 (nI_1 _) trivial ?_ | refine A_iinc7 d_N_canGo_71 rfl trivial ?_
          refine A_goto (tgt := 46) d_N_canGo_74 (by decide) ?_
          rw [firstU_step _ _ _ hi, if_neg (by unfold ltB; rw [decide_eq_false c_66]; decide)]
          exact ih
        · refine A_iconst (v := nI 0) d_N_canGo_69 (by decide) ?_
          refine A_zret d_N_canGo_70 rfl (by first | rfl | exact bI_nar _ | decide) ⟨Nat.zero_le _, Nat.zero_le _⟩ ?_
          exact pu (by rw [firstU_step _ _ _ hi, if_pos (by unfold ltB; rw [decide_eq_true c_66]; rfl)]; rfl)
  refine A_iload_n3 d_N_canGo_0 ?_
  refine A_aload_n0 d_N_canGo_1 ?_
  refine A_getf (kf := 3) d_N_canGo_2 hA.o ok_1 (by decide) q_59 rfl ?_
  refine A_topI f3 ?_
  first | refine A_iaddN d_N_canGo_5 (by with_reducible rfl) (by with_reducible rfl) ?_ | refine A_iadd d_N_canGo_5 ?_
  refine A_istore5 d_N_canGo_6 trivial ?_
  refine A_iload5 d_N_canGo_8 ?_
  refine A_iload4 d_N_canGo_10 ?_
  first | refine A_iaddN d_N_canGo_12 (by with_reducible rfl) (by with_reducible rfl) ?_ | refine A_iadd d_N_canGo_12 ?_
  refine A_aload_n0 d_N_canGo_13 ?_
  refine A_getf (kf := 3) d_N_canGo_14 hA.o ok_1 (by decide) q_59 rfl ?_
  refine A_topI f3 ?_
  first | refine A_iaddN d_N_canGo_17 (by with_reducible rfl) (by with_reducible rfl) ?_ | refine A_iadd d_N_canGo_17 ?_
  refine A_istore6 d_N_canGo_18 trivial ?_
  refine A_aload_n0 d_N_canGo_20 ?_
  refine A_aload_n1 d_N_canGo_21 ?_
  refine A_iload_n3 d_N_canGo_22 ?_
  refine A_callVP d_N_canGo_23 (c_Ld_at hA hV0 hT x (by omega)) hA.o rfl q_761 q_685 q_686 mk_Ld_at rfl (by decide) rfl (Nat.le_of_ble_eq_true rfl) ⟨Nat.le_of_ble_eq_true rfl, Nat.le_of_ble_eq_true rfl⟩ ⟨rfl, rfl⟩ ?_
  refine A_iload_n2 d_N_canGo_26 ?_
  have hb1 := hT.le (md24 ok x)
  first | refine A_icmp_eqN (tgt := 41) d_N_canGo_27 (by decide) (by with_reducible rfl) (by with_reducible rfl) (by omega) (by omega) (fun c_27 => ?_) (fun c_27 => ?_) | refine A_icmp_eq (tgt := 41) d_N_canGo_27 (by decide) (fun c_27 => ?_) (fun c_27 => ?_)
  · refine A_iconst (v := nI 0) d_N_canGo_41 (by decide) ?_
    refine A_zret d_N_canGo_42 rfl (by first | rfl | exact bI_nar _ | decide) ⟨Nat.zero_le _, Nat.zero_le _⟩ ?_
    exact pu (by
      unfold cgB ltB
      first
        | (rw [decide_eq_true c_27]; rfl)
        | (rw [decide_eq_false c_27, e2, decide_eq_true c_38]; rfl))
  · refine A_aload_n0 d_N_canGo_30 ?_
    refine A_aload_n1 d_N_canGo_31 ?_
    refine A_iload6 d_N_canGo_32 ?_
    refine A_callVP d_N_canGo_34 (c_Ld_at hA hV0 hT (x + V 3 + z + V 3) (by omega)) hA.o rfl q_761 q_685 q_686 mk_Ld_at rfl (by decide) rfl (Nat.le_of_ble_eq_true rfl) ⟨Nat.le_of_ble_eq_true rfl, Nat.le_of_ble_eq_true rfl⟩ ⟨rfl, rfl⟩ ?_
    refine A_iload_n2 d_N_canGo_37 ?_
    have hb2 := hT.le (md24 ok (x + V 3 + z + V 3))
    have e2 : x + 2 * V 3 + z = x + V 3 + z + V 3 := by omega
    first | refine A_icmp_neN (tgt := 43) d_N_canGo_38 (by decide) (by with_reducible rfl) (by with_reducible rfl) (by omega) (by omega) (fun c_38 => ?_) (fun c_38 => ?_) | refine A_icmp_ne (tgt := 43) d_N_canGo_38 (by decide) (fun c_38 => ?_) (fun c_38 => ?_)
    · refine A_iconst (v := nI 0) d_N_canGo_43 (by decide) ?_
      refine A_istore7 d_N_canGo_44 trivial ?_
      rw [show cgB V t cc x z = firstU (fun k => !ltB t (V 0) (1 - cc) (x + V 3 + k)) (fun _ => false) true z 0 by unfold cgB; rw [show ltB t (V 0) cc x = true by unfold ltB; rw [decide_eq_false c_27]; rfl, show ltB t (V 0) cc (x + 2 * V 3 + z) = true by unfold ltB; rw [e2, decide_eq_false c_38]; rfl]; rfl]
      exact key 0 (Nat.zero_le _)
    · refine A_iconst (v := nI 0) d_N_canGo_41 (by decide) ?_
      refine A_zret d_N_canGo_42 rfl (by first | rfl | exact bI_nar _ | decide) ⟨Nat.zero_le _, Nat.zero_le _⟩ ?_
      exact pu (by
        unfold cgB ltB
        first
          | (rw [decide_eq_true c_27]; rfl)
          | (rw [decide_eq_false c_27, e2, decide_eq_true c_38]; rfl))
