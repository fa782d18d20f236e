set_option maxHeartbeats 4000000 in
set_option maxRecDepth 100000 in
theorem c_N_seen {G : GE} {h : AH} {n : Nat} {W : TD} {c : Nat → Nat} {VL WT BK SG GM : Nat → Nat → Nat} (hN : NT h n W c VL WT BK SG GM) (ba k x : Int32) : Ctr G y_N_seen b_N_seen 5 (some .int) r_N_seen [.ref n, .int ba, .int k, .int x] h (Pu (.int (pick (c 3) ba (fun b => seenV (SG b) k x) (-2))) h) := by
  refine Ctr.of (by decide +kernel) (by simp) (Nat.le_of_ble_eq_true rfl) (L0 := [some (.ref n), some (.int ba), some (.int k), some (.int x), none]) rfl ?_
  have hc3 := (hN.r.n 3 (by decide)).2
  rcases told_c (n := c 3) (by omega) ba with ⟨l, hl, rfl⟩ | hno
  · rw [pick_in hl (by omega)]
    have hS := hN.a.s l (by omega)
    obtain ⟨sok, s0, sK⟩ := hN.r.s l hl
    have hs20 := sok.1
    unfold seenV
    by_cases hk1 : k = -1
    · subst hk1
      rw [if_pos rfl]
      by_cases hx0 : x = 0
      · subst hx0
        rw [if_pos rfl]
        refine A_aload_n0 d_N_seen_0 ?_
        refine A_iconst (v := nI 3) d_N_seen_1 (by decide) ?_
        refine A_iload_n1 d_N_seen_2 ?_
        refine A_callVP d_N_seen_3 (c_N_isToldT hN (by decide) hl) hN.o rfl q_644 q_646 qs_2 mk_N_isTold rfl (by decide) rfl (Nat.le_of_ble_eq_true rfl) ⟨Nat.le_of_ble_eq_true rfl, Nat.le_of_ble_eq_true rfl⟩ ⟨rfl, rfl⟩ ?_
        refine A_if_neB (tgt := 12) d_N_seen_6 (by decide) (fun c_6 => ?_) (fun c => absurd c (by decide))
        refine A_aload_n0 d_N_seen_12 ?_
        refine A_getf (kf := 0) d_N_seen_13 hN.o ok_7 (by decide) q_368 rfl ?_
        refine A_getf (kf := 8) d_N_seen_16 hN.a.o ok_6 (by decide) q_209 rfl ?_
        refine A_iload_n1 d_N_seen_19 ?_
        refine A_aaldN d_N_seen_20 hN.a.sights rfl rfl ⟨by omega, by decide⟩ (show va_rf (two (n + 1 + 25) (n + 1 + 42) l) = .ref (n + 1 + 25 + 17 * l) by rw [two_at rfl (by omega)]; rfl) ?_
        refine A_astore4 d_N_seen_21 trivial ?_
        refine A_iload_n2 d_N_seen_23 ?_
        refine A_iconst (v := (-1)) d_N_seen_24 (by decide) ?_
        refine A_icmp_ne (tgt := 38) d_N_seen_25 (by decide) (fun c => absurd rfl c) (fun c_25 => ?_)
        refine A_iload_n3 d_N_seen_28 ?_
        refine A_if_ne (tgt := 38) d_N_seen_29 (by decide) (fun c => absurd rfl c) (fun c_29 => ?_)
        refine A_aload4 d_N_seen_32 ?_
        refine A_getf (kf := 0) d_N_seen_34 hS.o ok_4 (by decide) q_176 rfl ?_
        refine A_topI s0 ?_
        refine A_iret d_N_seen_37 rfl ⟨Nat.zero_le _, Nat.zero_le _⟩ ?_
        exact pu rfl
      · rw [if_neg hx0]
        refine A_aload_n0 d_N_seen_0 ?_
        refine A_iconst (v := nI 3) d_N_seen_1 (by decide) ?_
        refine A_iload_n1 d_N_seen_2 ?_
        refine A_callVP d_N_seen_3 (c_N_isToldT hN (by decide) hl) hN.o rfl q_644 q_646 qs_2 mk_N_isTold rfl (by decide) rfl (Nat.le_of_ble_eq_true rfl) ⟨Nat.le_of_ble_eq_true rfl, Nat.le_of_ble_eq_true rfl⟩ ⟨rfl, rfl⟩ ?_
        refine A_if_neB (tgt := 12) d_N_seen_6 (by decide) (fun c_6 => ?_) (fun c => absurd c (by decide))
        refine A_aload_n0 d_N_seen_12 ?_
        refine A_getf (kf := 0) d_N_seen_13 hN.o ok_7 (by decide) q_368 rfl ?_
        refine A_getf (kf := 8) d_N_seen_16 hN.a.o ok_6 (by decide) q_209 rfl ?_
        refine A_iload_n1 d_N_seen_19 ?_
        refine A_aaldN d_N_seen_20 hN.a.sights rfl rfl ⟨by omega, by decide⟩ (show va_rf (two (n + 1 + 25) (n + 1 + 42) l) = .ref (n + 1 + 25 + 17 * l) by rw [two_at rfl (by omega)]; rfl) ?_
        refine A_astore4 d_N_seen_21 trivial ?_
        refine A_iload_n2 d_N_seen_23 ?_
        refine A_iconst (v := (-1)) d_N_seen_24 (by decide) ?_
        refine A_icmp_ne (tgt := 38) d_N_seen_25 (by decide) (fun c => absurd rfl c) (fun c_25 => ?_)
        refine A_iload_n3 d_N_seen_28 ?_
        refine A_if_ne (tgt := 38) d_N_seen_29 (by decide) (fun c_29 => ?_) (fun c => absurd c hx0)
        refine A_iload_n2 d_N_seen_38 ?_
        refine A_if_lt (tgt := 51) d_N_seen_39 (by decide) (fun c_39 => ?_) (fun c => absurd (by decide) c)
        refine A_bipush (v := (-2)) d_N_seen_51 (by decide) ?_
        refine A_iret d_N_seen_53 rfl ⟨Nat.zero_le _, Nat.zero_le _⟩ ?_
        exact pu rfl
    · rw [if_neg hk1]
      rcases told_c (n := SG l 0) (by omega) k with ⟨i, hi, rfl⟩ | hnk
      · rw [pick_in hi (by omega)]
        rcases tsw (x := x) (lo := 0) (hi := 2) (by decide) with ⟨kk, rfl, -, hkb⟩ | ⟨hro, swo⟩
        · rcases (show kk = 0 ∨ kk = 1 ∨ kk = 2 by omega) with rfl | rfl | rfl
          · refine A_aload_n0 d_N_seen_0 ?_
            refine A_iconst (v := nI 3) d_N_seen_1 (by decide) ?_
            refine A_iload_n1 d_N_seen_2 ?_
            refine A_callVP d_N_seen_3 (c_N_isToldT hN (by decide) hl) hN.o rfl q_644 q_646 qs_2 mk_N_isTold rfl (by decide) rfl (Nat.le_of_ble_eq_true rfl) ⟨Nat.le_of_ble_eq_true rfl, Nat.le_of_ble_eq_true rfl⟩ ⟨rfl, rfl⟩ ?_
            refine A_if_neB (tgt := 12) d_N_seen_6 (by decide) (fun c_6 => ?_) (fun c => absurd c (by decide))
            refine A_aload_n0 d_N_seen_12 ?_
            refine A_getf (kf := 0) d_N_seen_13 hN.o ok_7 (by decide) q_368 rfl ?_
            refine A_getf (kf := 8) d_N_seen_16 hN.a.o ok_6 (by decide) q_209 rfl ?_
            refine A_iload_n1 d_N_seen_19 ?_
            refine A_aaldN d_N_seen_20 hN.a.sights rfl rfl ⟨by omega, by decide⟩ (show va_rf (two (n + 1 + 25) (n + 1 + 42) l) = .ref (n + 1 + 25 + 17 * l) by rw [two_at rfl (by omega)]; rfl) ?_
            refine A_astore4 d_N_seen_21 trivial ?_
            refine A_iload_n2 d_N_seen_23 ?_
            refine A_iconst (v := (-1)) d_N_seen_24 (by decide) ?_
            refine A_icmp_ne (tgt := 38) d_N_seen_25 (by decide) (fun c_25 => ?_) (fun c => absurd c hk1)
            refine A_iload_n2 d_N_seen_38 ?_
            refine A_if_lt (tgt := 51) d_N_seen_39 (by decide) (fun c => absurd c (nI_pos (by omega))) (fun c_39 => ?_)
            refine A_iload_n2 d_N_seen_42 ?_
            refine A_aload4 d_N_seen_43 ?_
            refine A_getf (kf := 0) d_N_seen_45 hS.o ok_4 (by decide) q_176 rfl ?_
            refine A_topI s0 ?_
            first | refine A_icmp_ltN (tgt := 54) d_N_seen_48 (by decide) (by with_reducible rfl) (by with_reducible rfl) (by omega) (by omega) (fun c_48 => ?_) (fun c_48 => ?_) | refine A_icmp_lt (tgt := 54) d_N_seen_48 (by decide) (fun c_48 => ?_) (fun c_48 => ?_)
            · refine A_iload_n3 d_N_seen_54 ?_
              refine A_tableIn (tgt := 80) d_N_seen_55 (by decide) (by decide) rfl (by decide) ?_
              refine A_aload4 d_N_seen_80 ?_
              refine A_getf (kf := 1) d_N_seen_82 hS.o ok_4 (by decide) q_178 rfl ?_
              refine A_iload_n2 d_N_seen_85 ?_
              refine A_ialdN d_N_seen_86 hS.a1 ⟨by omega, by decide⟩ ?_
              refine A_topI (sK i hi).1 ?_
              refine A_iret d_N_seen_87 rfl ⟨Nat.zero_le _, Nat.zero_le _⟩ ?_
              exact pu (by rw [rg_in ⟨by decide, by decide⟩ (by decide)])
            · exact absurd hi (by omega)
          · refine A_aload_n0 d_N_seen_0 ?_
            refine A_iconst (v := nI 3) d_N_seen_1 (by decide) ?_
            refine A_iload_n1 d_N_seen_2 ?_
            refine A_callVP d_N_seen_3 (c_N_isToldT hN (by decide) hl) hN.o rfl q_644 q_646 qs_2 mk_N_isTold rfl (by decide) rfl (Nat.le_of_ble_eq_true rfl) ⟨Nat.le_of_ble_eq_true rfl, Nat.le_of_ble_eq_true rfl⟩ ⟨rfl, rfl⟩ ?_
            refine A_if_neB (tgt := 12) d_N_seen_6 (by decide) (fun c_6 => ?_) (fun c => absurd c (by decide))
            refine A_aload_n0 d_N_seen_12 ?_
            refine A_getf (kf := 0) d_N_seen_13 hN.o ok_7 (by decide) q_368 rfl ?_
            refine A_getf (kf := 8) d_N_seen_16 hN.a.o ok_6 (by decide) q_209 rfl ?_
            refine A_iload_n1 d_N_seen_19 ?_
            refine A_aaldN d_N_seen_20 hN.a.sights rfl rfl ⟨by omega, by decide⟩ (show va_rf (two (n + 1 + 25) (n + 1 + 42) l) = .ref (n + 1 + 25 + 17 * l) by rw [two_at rfl (by omega)]; rfl) ?_
            refine A_astore4 d_N_seen_21 trivial ?_
            refine A_iload_n2 d_N_seen_23 ?_
            refine A_iconst (v := (-1)) d_N_seen_24 (by decide) ?_
            refine A_icmp_ne (tgt := 38) d_N_seen_25 (by decide) (fun c_25 => ?_) (fun c => absurd c hk1)
            refine A_iload_n2 d_N_seen_38 ?_
            refine A_if_lt (tgt := 51) d_N_seen_39 (by decide) (fun c => absurd c (nI_pos (by omega))) (fun c_39 => ?_)
            refine A_iload_n2 d_N_seen_42 ?_
            refine A_aload4 d_N_seen_43 ?_
            refine A_getf (kf := 0) d_N_seen_45 hS.o ok_4 (by decide) q_176 rfl ?_
            refine A_topI s0 ?_
            first | refine A_icmp_ltN (tgt := 54) d_N_seen_48 (by decide) (by with_reducible rfl) (by with_reducible rfl) (by omega) (by omega) (fun c_48 => ?_) (fun c_48 => ?_) | refine A_icmp_lt (tgt := 54) d_N_seen_48 (by decide) (fun c_48 => ?_) (fun c_48 => ?_)
            · refine A_iload_n3 d_N_seen_54 ?_
              refine A_tableIn (tgt := 88) d_N_seen_55 (by decide) (by decide) rfl (by decide) ?_
              refine A_aload4 d_N_seen_88 ?_
              refine A_getf (kf := 2) d_N_seen_90 hS.o ok_4 (by decide) q_180 rfl ?_
              refine A_iload_n2 d_N_seen_93 ?_
              refine A_ialdN d_N_seen_94 hS.a2 ⟨by omega, by decide⟩ ?_
              refine A_topI (sK i hi).2.1 ?_
              refine A_iret d_N_seen_95 rfl ⟨Nat.zero_le _, Nat.zero_le _⟩ ?_
              exact pu (by rw [rg_in ⟨by decide, by decide⟩ (by decide)])
            · exact absurd hi (by omega)
          · refine A_aload_n0 d_N_seen_0 ?_
            refine A_iconst (v := nI 3) d_N_seen_1 (by decide) ?_
            refine A_iload_n1 d_N_seen_2 ?_
            refine A_callVP d_N_seen_3 (c_N_isToldT hN (by decide) hl) hN.o rfl q_644 q_646 qs_2 mk_N_isTold rfl (by decide) rfl (Nat.le_of_ble_eq_true rfl) ⟨Nat.le_of_ble_eq_true rfl, Nat.le_of_ble_eq_true rfl⟩ ⟨rfl, rfl⟩ ?_
            refine A_if_neB (tgt := 12) d_N_seen_6 (by decide) (fun c_6 => ?_) (fun c => absurd c (by decide))
            refine A_aload_n0 d_N_seen_12 ?_
            refine A_getf (kf := 0) d_N_seen_13 hN.o ok_7 (by decide) q_368 rfl ?_
            refine A_getf (kf := 8) d_N_seen_16 hN.a.o ok_6 (by decide) q_209 rfl ?_
            refine A_iload_n1 d_N_seen_19 ?_
            refine A_aaldN d_N_seen_20 hN.a.sights rfl rfl ⟨by omega, by decide⟩ (show va_rf (two (n + 1 + 25) (n + 1 + 42) l) = .ref (n + 1 + 25 + 17 * l) by rw [two_at rfl (by omega)]; rfl) ?_
            refine A_astore4 d_N_seen_21 trivial ?_
            refine A_iload_n2 d_N_seen_23 ?_
            refine A_iconst (v := (-1)) d_N_seen_24 (by decide) ?_
            refine A_icmp_ne (tgt := 38) d_N_seen_25 (by decide) (fun c_25 => ?_) (fun c => absurd c hk1)
            refine A_iload_n2 d_N_seen_38 ?_
            refine A_if_lt (tgt := 51) d_N_seen_39 (by decide) (fun c => absurd c (nI_pos (by omega))) (fun c_39 => ?_)
            refine A_iload_n2 d_N_seen_42 ?_
            refine A_aload4 d_N_seen_43 ?_
            refine A_getf (kf := 0) d_N_seen_45 hS.o ok_4 (by decide) q_176 rfl ?_
            refine A_topI s0 ?_
            first | refine A_icmp_ltN (tgt := 54) d_N_seen_48 (by decide) (by with_reducible rfl) (by with_reducible rfl) (by omega) (by omega) (fun c_48 => ?_) (fun c_48 => ?_) | refine A_icmp_lt (tgt := 54) d_N_seen_48 (by decide) (fun c_48 => ?_) (fun c_48 => ?_)
            · refine A_iload_n3 d_N_seen_54 ?_
              refine A_tableIn (tgt := 96) d_N_seen_55 (by decide) (by decide) rfl (by decide) ?_
              refine A_aload4 d_N_seen_96 ?_
              refine A_getf (kf := 3) d_N_seen_98 hS.o ok_4 (by decide) q_182 rfl ?_
              refine A_iload_n2 d_N_seen_101 ?_
              refine A_ialdN d_N_seen_102 hS.a3 ⟨by omega, by decide⟩ ?_
              refine A_topI (sK i hi).2.2 ?_
              refine A_iret d_N_seen_103 rfl ⟨Nat.zero_le _, Nat.zero_le _⟩ ?_
              exact pu (by rw [rg_in ⟨by decide, by decide⟩ (by decide)])
            · exact absurd hi (by omega)
        · refine A_aload_n0 d_N_seen_0 ?_
          refine A_iconst (v := nI 3) d_N_seen_1 (by decide) ?_
          refine A_iload_n1 d_N_seen_2 ?_
          refine A_callVP d_N_seen_3 (c_N_isToldT hN (by decide) hl) hN.o rfl q_644 q_646 qs_2 mk_N_isTold rfl (by decide) rfl (Nat.le_of_ble_eq_true rfl) ⟨Nat.le_of_ble_eq_true rfl, Nat.le_of_ble_eq_true rfl⟩ ⟨rfl, rfl⟩ ?_
          refine A_if_neB (tgt := 12) d_N_seen_6 (by decide) (fun c_6 => ?_) (fun c => absurd c (by decide))
          refine A_aload_n0 d_N_seen_12 ?_
          refine A_getf (kf := 0) d_N_seen_13 hN.o ok_7 (by decide) q_368 rfl ?_
          refine A_getf (kf := 8) d_N_seen_16 hN.a.o ok_6 (by decide) q_209 rfl ?_
          refine A_iload_n1 d_N_seen_19 ?_
          refine A_aaldN d_N_seen_20 hN.a.sights rfl rfl ⟨by omega, by decide⟩ (show va_rf (two (n + 1 + 25) (n + 1 + 42) l) = .ref (n + 1 + 25 + 17 * l) by rw [two_at rfl (by omega)]; rfl) ?_
          refine A_astore4 d_N_seen_21 trivial ?_
          refine A_iload_n2 d_N_seen_23 ?_
          refine A_iconst (v := (-1)) d_N_seen_24 (by decide) ?_
          refine A_icmp_ne (tgt := 38) d_N_seen_25 (by decide) (fun c_25 => ?_) (fun c => absurd c hk1)
          refine A_iload_n2 d_N_seen_38 ?_
          refine A_if_lt (tgt := 51) d_N_seen_39 (by decide) (fun c => absurd c (nI_pos (by omega))) (fun c_39 => ?_)
          refine A_iload_n2 d_N_seen_42 ?_
          refine A_aload4 d_N_seen_43 ?_
          refine A_getf (kf := 0) d_N_seen_45 hS.o ok_4 (by decide) q_176 rfl ?_
          refine A_topI s0 ?_
          first | refine A_icmp_ltN (tgt := 54) d_N_seen_48 (by decide) (by with_reducible rfl) (by with_reducible rfl) (by omega) (by omega) (fun c_48 => ?_) (fun c_48 => ?_) | refine A_icmp_lt (tgt := 54) d_N_seen_48 (by decide) (fun c_48 => ?_) (fun c_48 => ?_)
          · refine A_iload_n3 d_N_seen_54 ?_
            refine A_tableOut (tgt := 104) d_N_seen_55 swo (by decide) ?_
            refine A_bipush (v := (-2)) d_N_seen_104 (by decide) ?_
            refine A_iret d_N_seen_106 rfl ⟨Nat.zero_le _, Nat.zero_le _⟩ ?_
            exact pu (by rw [rg_out hro])
          · exact absurd hi (by omega)
      · rw [pick_out hnk]
        by_cases hkn : k < 0
        · refine A_aload_n0 d_N_seen_0 ?_
          refine A_iconst (v := nI 3) d_N_seen_1 (by decide) ?_
          refine A_iload_n1 d_N_seen_2 ?_
          refine A_callVP d_N_seen_3 (c_N_isToldT hN (by decide) hl) hN.o rfl q_644 q_646 qs_2 mk_N_isTold rfl (by decide) rfl (Nat.le_of_ble_eq_true rfl) ⟨Nat.le_of_ble_eq_true rfl, Nat.le_of_ble_eq_true rfl⟩ ⟨rfl, rfl⟩ ?_
          refine A_if_neB (tgt := 12) d_N_seen_6 (by decide) (fun c_6 => ?_) (fun c => absurd c (by decide))
          refine A_aload_n0 d_N_seen_12 ?_
          refine A_getf (kf := 0) d_N_seen_13 hN.o ok_7 (by decide) q_368 rfl ?_
          refine A_getf (kf := 8) d_N_seen_16 hN.a.o ok_6 (by decide) q_209 rfl ?_
          refine A_iload_n1 d_N_seen_19 ?_
          refine A_aaldN d_N_seen_20 hN.a.sights rfl rfl ⟨by omega, by decide⟩ (show va_rf (two (n + 1 + 25) (n + 1 + 42) l) = .ref (n + 1 + 25 + 17 * l) by rw [two_at rfl (by omega)]; rfl) ?_
          refine A_astore4 d_N_seen_21 trivial ?_
          refine A_iload_n2 d_N_seen_23 ?_
          refine A_iconst (v := (-1)) d_N_seen_24 (by decide) ?_
          refine A_icmp_ne (tgt := 38) d_N_seen_25 (by decide) (fun c_25 => ?_) (fun c => absurd c hk1)
          refine A_iload_n2 d_N_seen_38 ?_
          refine A_if_lt (tgt := 51) d_N_seen_39 (by decide) (fun c_39 => ?_) (fun c => absurd hkn c)
          refine A_bipush (v := (-2)) d_N_seen_51 (by decide) ?_
          refine A_iret d_N_seen_53 rfl ⟨Nat.zero_le _, Nat.zero_le _⟩ ?_
          exact pu rfl
        · obtain ⟨j, hj, rfl, hle⟩ := inB_tdF (by omega) hnk hkn
          refine A_aload_n0 d_N_seen_0 ?_
          refine A_iconst (v := nI 3) d_N_seen_1 (by decide) ?_
          refine A_iload_n1 d_N_seen_2 ?_
          refine A_callVP d_N_seen_3 (c_N_isToldT hN (by decide) hl) hN.o rfl q_644 q_646 qs_2 mk_N_isTold rfl (by decide) rfl (Nat.le_of_ble_eq_true rfl) ⟨Nat.le_of_ble_eq_true rfl, Nat.le_of_ble_eq_true rfl⟩ ⟨rfl, rfl⟩ ?_
          refine A_if_neB (tgt := 12) d_N_seen_6 (by decide) (fun c_6 => ?_) (fun c => absurd c (by decide))
          refine A_aload_n0 d_N_seen_12 ?_
          refine A_getf (kf := 0) d_N_seen_13 hN.o ok_7 (by decide) q_368 rfl ?_
          refine A_getf (kf := 8) d_N_seen_16 hN.a.o ok_6 (by decide) q_209 rfl ?_
          refine A_iload_n1 d_N_seen_19 ?_
          refine A_aaldN d_N_seen_20 hN.a.sights rfl rfl ⟨by omega, by decide⟩ (show va_rf (two (n + 1 + 25) (n + 1 + 42) l) = .ref (n + 1 + 25 + 17 * l) by rw [two_at rfl (by omega)]; rfl) ?_
          refine A_astore4 d_N_seen_21 trivial ?_
          refine A_iload_n2 d_N_seen_23 ?_
          refine A_iconst (v := (-1)) d_N_seen_24 (by decide) ?_
          refine A_icmp_ne (tgt := 38) d_N_seen_25 (by decide) (fun c_25 => ?_) (fun c => absurd c hk1)
          refine A_iload_n2 d_N_seen_38 ?_
          refine A_if_lt (tgt := 51) d_N_seen_39 (by decide) (fun c => absurd c (nI_pos (by omega))) (fun c_39 => ?_)
          refine A_iload_n2 d_N_seen_42 ?_
          refine A_aload4 d_N_seen_43 ?_
          refine A_getf (kf := 0) d_N_seen_45 hS.o ok_4 (by decide) q_176 rfl ?_
          refine A_topI s0 ?_
          first | refine A_icmp_ltN (tgt := 54) d_N_seen_48 (by decide) (by with_reducible rfl) (by with_reducible rfl) (by omega) (by omega) (fun c_48 => ?_) (fun c_48 => ?_) | refine A_icmp_lt (tgt := 54) d_N_seen_48 (by decide) (fun c_48 => ?_) (fun c_48 => ?_)
          · exact absurd hle (by omega)
          · refine A_bipush (v := (-2)) d_N_seen_51 (by decide) ?_
            refine A_iret d_N_seen_53 rfl ⟨Nat.zero_le _, Nat.zero_le _⟩ ?_
            exact pu rfl
  · rw [pick_out hno]
    refine A_aload_n0 d_N_seen_0 ?_
    refine A_iconst (v := nI 3) d_N_seen_1 (by decide) ?_
    refine A_iload_n1 d_N_seen_2 ?_
    refine A_callVP d_N_seen_3 (c_N_isToldF hN (by decide) hno) hN.o rfl q_644 q_646 qs_2 mk_N_isTold rfl (by decide) rfl (Nat.le_of_ble_eq_true rfl) ⟨Nat.le_of_ble_eq_true rfl, Nat.le_of_ble_eq_true rfl⟩ ⟨rfl, rfl⟩ ?_
    refine A_if_neB (tgt := 12) d_N_seen_6 (by decide) (fun c => absurd c (by decide)) (fun c_6 => ?_)
    refine A_bipush (v := (-2)) d_N_seen_9 (by decide) ?_
    refine A_iret d_N_seen_11 rfl ⟨Nat.zero_le _, Nat.zero_le _⟩ ?_
    exact pu rfl
set_option maxHeartbeats 4000000 in
set_option maxRecDepth 100000 in
theorem c_N_spell {G : GE} {h : AH} {n : Nat} {W : TD} {c : Nat → Nat} {VL WT BK SG GM : Nat → Nat → Nat} (hN : NT h n W c VL WT BK SG GM) (ba k x : Int32) : Ctr G y_N_spell b_N_spell 5 (some .int) r_N_spell [.ref n, .int ba, .int k, .int x] h (Pu (.int (pick (c 2) ba (fun b => spellV (BK b) k x) (-2))) h) := by
  refine Ctr.of (by decide +kernel) (by simp) (Nat.le_of_ble_eq_true rfl) (L0 := [some (.ref n), some (.int ba), some (.int k), some (.int x), none]) rfl ?_
  have hc2 := (hN.r.n 2 (by decide)).2
  rcases told_c (n := c 2) (by omega) ba with ⟨l, hl, rfl⟩ | hno
  · rw [pick_in hl (by omega)]
    have hB := hN.a.b l (by omega)
    obtain ⟨ok, b0, b1, bS, bW⟩ := hN.r.b l hl
    have htot := ok.tot
    have hb30 := ok.1
    unfold spellV
    rcases tsw (x := x) (lo := 0) (hi := 1) (by decide) with ⟨kk, rfl, -, hkb⟩ | ⟨hro, swo⟩
    · rcases (show kk = 0 ∨ kk = 1 by omega) with rfl | rfl
      · by_cases hk1 : k = -1
        · subst hk1
          rw [if_pos rfl, if_pos rfl]
          refine A_aload_n0 d_N_spell_0 ?_
          refine A_iconst (v := nI 2) d_N_spell_1 (by decide) ?_
          refine A_iload_n1 d_N_spell_2 ?_
          refine A_callVP d_N_spell_3 (c_N_isToldT hN (by decide) hl) hN.o rfl q_644 q_646 qs_2 mk_N_isTold rfl (by decide) rfl (Nat.le_of_ble_eq_true rfl) ⟨Nat.le_of_ble_eq_true rfl, Nat.le_of_ble_eq_true rfl⟩ ⟨rfl, rfl⟩ ?_
          refine A_if_eqB (tgt := 18) d_N_spell_6 (by decide) (fun c => absurd c (by decide)) (fun c_6 => ?_)
          refine A_iload_n3 d_N_spell_9 ?_
          refine A_if_lt (tgt := 18) d_N_spell_10 (by decide) (fun c => absurd c (by decide)) (fun c_10 => ?_)
          refine A_iload_n3 d_N_spell_13 ?_
          refine A_iconst (v := nI 1) d_N_spell_14 (by decide) ?_
          first | refine A_icmp_leN (tgt := 21) d_N_spell_15 (by decide) (by with_reducible rfl) (by with_reducible rfl) (by omega) (by omega) (fun c_15 => ?_) (fun c_15 => ?_) | refine A_icmp_le (tgt := 21) d_N_spell_15 (by decide) (fun c_15 => ?_) (fun c_15 => ?_)
          · refine A_aload_n0 d_N_spell_21 ?_
            refine A_getf (kf := 0) d_N_spell_22 hN.o ok_7 (by decide) q_368 rfl ?_
            refine A_getf (kf := 7) d_N_spell_25 hN.a.o ok_6 (by decide) q_207 rfl ?_
            refine A_iload_n1 d_N_spell_28 ?_
            refine A_aaldN d_N_spell_29 hN.a.books rfl rfl ⟨by omega, by decide⟩ (show va_rf (two (n + 1 + 21) (n + 1 + 38) l) = .ref (n + 1 + 21 + 17 * l) by rw [two_at rfl (by omega)]; rfl) ?_
            refine A_astore4 d_N_spell_30 trivial ?_
            refine A_iload_n2 d_N_spell_32 ?_
            refine A_iconst (v := (-1)) d_N_spell_33 (by decide) ?_
            refine A_icmp_ne (tgt := 55) d_N_spell_34 (by decide) (fun c => absurd rfl c) (fun c_34 => ?_)
            refine A_iload_n3 d_N_spell_37 ?_
            refine A_if_ne (tgt := 49) d_N_spell_38 (by decide) (fun c => absurd rfl c) (fun c_38 => ?_)
            refine A_aload4 d_N_spell_41 ?_
            refine A_getf (kf := 0) d_N_spell_43 hB.o ok_0 (by decide) q_148 rfl ?_
            refine A_topI b0 ?_
            refine A_goto (tgt := 54) d_N_spell_46 (by decide) ?_
            refine A_iret d_N_spell_54 rfl ⟨Nat.zero_le _, Nat.zero_le _⟩ ?_
            exact pu rfl
          · exact absurd c_15 (by decide)
        · rw [if_neg hk1]
          rcases told_c (n := BK l 0) (by omega) k with ⟨i, hi, rfl⟩ | hnk
          · rw [pick_in hi (by omega), rg_in ⟨by decide, by decide⟩ (by decide)]
            refine A_aload_n0 d_N_spell_0 ?_
            refine A_iconst (v := nI 2) d_N_spell_1 (by decide) ?_
            refine A_iload_n1 d_N_spell_2 ?_
            refine A_callVP d_N_spell_3 (c_N_isToldT hN (by decide) hl) hN.o rfl q_644 q_646 qs_2 mk_N_isTold rfl (by decide) rfl (Nat.le_of_ble_eq_true rfl) ⟨Nat.le_of_ble_eq_true rfl, Nat.le_of_ble_eq_true rfl⟩ ⟨rfl, rfl⟩ ?_
            refine A_if_eqB (tgt := 18) d_N_spell_6 (by decide) (fun c => absurd c (by decide)) (fun c_6 => ?_)
            refine A_iload_n3 d_N_spell_9 ?_
            refine A_if_lt (tgt := 18) d_N_spell_10 (by decide) (fun c => absurd c (by decide)) (fun c_10 => ?_)
            refine A_iload_n3 d_N_spell_13 ?_
            refine A_iconst (v := nI 1) d_N_spell_14 (by decide) ?_
            first | refine A_icmp_leN (tgt := 21) d_N_spell_15 (by decide) (by with_reducible rfl) (by with_reducible rfl) (by omega) (by omega) (fun c_15 => ?_) (fun c_15 => ?_) | refine A_icmp_le (tgt := 21) d_N_spell_15 (by decide) (fun c_15 => ?_) (fun c_15 => ?_)
            · refine A_aload_n0 d_N_spell_21 ?_
              refine A_getf (kf := 0) d_N_spell_22 hN.o ok_7 (by decide) q_368 rfl ?_
              refine A_getf (kf := 7) d_N_spell_25 hN.a.o ok_6 (by decide) q_207 rfl ?_
              refine A_iload_n1 d_N_spell_28 ?_
              refine A_aaldN d_N_spell_29 hN.a.books rfl rfl ⟨by omega, by decide⟩ (show va_rf (two (n + 1 + 21) (n + 1 + 38) l) = .ref (n + 1 + 21 + 17 * l) by rw [two_at rfl (by omega)]; rfl) ?_
              refine A_astore4 d_N_spell_30 trivial ?_
              refine A_iload_n2 d_N_spell_32 ?_
              refine A_iconst (v := (-1)) d_N_spell_33 (by decide) ?_
              refine A_icmp_ne (tgt := 55) d_N_spell_34 (by decide) (fun c_34 => ?_) (fun c => absurd c hk1)
              refine A_iload_n2 d_N_spell_55 ?_
              refine A_if_lt (tgt := 68) d_N_spell_56 (by decide) (fun c => absurd c (nI_pos (by omega))) (fun c_56 => ?_)
              refine A_iload_n2 d_N_spell_59 ?_
              refine A_aload4 d_N_spell_60 ?_
              refine A_getf (kf := 0) d_N_spell_62 hB.o ok_0 (by decide) q_148 rfl ?_
              refine A_topI b0 ?_
              first | refine A_icmp_ltN (tgt := 71) d_N_spell_65 (by decide) (by with_reducible rfl) (by with_reducible rfl) (by omega) (by omega) (fun c_65 => ?_) (fun c_65 => ?_) | refine A_icmp_lt (tgt := 71) d_N_spell_65 (by decide) (fun c_65 => ?_) (fun c_65 => ?_)
              · refine A_iload_n3 d_N_spell_71 ?_
                refine A_if_ne (tgt := 85) d_N_spell_72 (by decide) (fun c => absurd rfl c) (fun c_72 => ?_)
                refine A_aload4 d_N_spell_75 ?_
                refine A_getf (kf := 2) d_N_spell_77 hB.o ok_0 (by decide) q_153 rfl ?_
                refine A_iload_n2 d_N_spell_80 ?_
                refine A_ialdN d_N_spell_81 hB.a2 ⟨by omega, by decide⟩ ?_
                refine A_topI (bS i hi).1 ?_
                refine A_goto (tgt := 92) d_N_spell_82 (by decide) ?_
                refine A_iret d_N_spell_92 rfl ⟨Nat.zero_le _, Nat.zero_le _⟩ ?_
                exact pu rfl
              · exact absurd hi (by omega)
            · exact absurd c_15 (by decide)
          · rw [pick_out hnk]
            by_cases hkn : k < 0
            · refine A_aload_n0 d_N_spell_0 ?_
              refine A_iconst (v := nI 2) d_N_spell_1 (by decide) ?_
              refine A_iload_n1 d_N_spell_2 ?_
              refine A_callVP d_N_spell_3 (c_N_isToldT hN (by decide) hl) hN.o rfl q_644 q_646 qs_2 mk_N_isTold rfl (by decide) rfl (Nat.le_of_ble_eq_true rfl) ⟨Nat.le_of_ble_eq_true rfl, Nat.le_of_ble_eq_true rfl⟩ ⟨rfl, rfl⟩ ?_
              refine A_if_eqB (tgt := 18) d_N_spell_6 (by decide) (fun c => absurd c (by decide)) (fun c_6 => ?_)
              refine A_iload_n3 d_N_spell_9 ?_
              refine A_if_lt (tgt := 18) d_N_spell_10 (by decide) (fun c => absurd c (by decide)) (fun c_10 => ?_)
              refine A_iload_n3 d_N_spell_13 ?_
              refine A_iconst (v := nI 1) d_N_spell_14 (by decide) ?_
              first | refine A_icmp_leN (tgt := 21) d_N_spell_15 (by decide) (by with_reducible rfl) (by with_reducible rfl) (by omega) (by omega) (fun c_15 => ?_) (fun c_15 => ?_) | refine A_icmp_le (tgt := 21) d_N_spell_15 (by decide) (fun c_15 => ?_) (fun c_15 => ?_)
              · refine A_aload_n0 d_N_spell_21 ?_
                refine A_getf (kf := 0) d_N_spell_22 hN.o ok_7 (by decide) q_368 rfl ?_
                refine A_getf (kf := 7) d_N_spell_25 hN.a.o ok_6 (by decide) q_207 rfl ?_
                refine A_iload_n1 d_N_spell_28 ?_
                refine A_aaldN d_N_spell_29 hN.a.books rfl rfl ⟨by omega, by decide⟩ (show va_rf (two (n + 1 + 21) (n + 1 + 38) l) = .ref (n + 1 + 21 + 17 * l) by rw [two_at rfl (by omega)]; rfl) ?_
                refine A_astore4 d_N_spell_30 trivial ?_
                refine A_iload_n2 d_N_spell_32 ?_
                refine A_iconst (v := (-1)) d_N_spell_33 (by decide) ?_
                refine A_icmp_ne (tgt := 55) d_N_spell_34 (by decide) (fun c_34 => ?_) (fun c => absurd c hk1)
                refine A_iload_n2 d_N_spell_55 ?_
                refine A_if_lt (tgt := 68) d_N_spell_56 (by decide) (fun c_56 => ?_) (fun c => absurd hkn c)
                refine A_bipush (v := (-2)) d_N_spell_68 (by decide) ?_
                refine A_iret d_N_spell_70 rfl ⟨Nat.zero_le _, Nat.zero_le _⟩ ?_
                exact pu rfl
              · exact absurd c_15 (by decide)
            · obtain ⟨j, hj, rfl, hle⟩ := inB_tdF (by omega) hnk hkn
              refine A_aload_n0 d_N_spell_0 ?_
              refine A_iconst (v := nI 2) d_N_spell_1 (by decide) ?_
              refine A_iload_n1 d_N_spell_2 ?_
              refine A_callVP d_N_spell_3 (c_N_isToldT hN (by decide) hl) hN.o rfl q_644 q_646 qs_2 mk_N_isTold rfl (by decide) rfl (Nat.le_of_ble_eq_true rfl) ⟨Nat.le_of_ble_eq_true rfl, Nat.le_of_ble_eq_true rfl⟩ ⟨rfl, rfl⟩ ?_
              refine A_if_eqB (tgt := 18) d_N_spell_6 (by decide) (fun c => absurd c (by decide)) (fun c_6 => ?_)
              refine A_iload_n3 d_N_spell_9 ?_
              refine A_if_lt (tgt := 18) d_N_spell_10 (by decide) (fun c => absurd c (by decide)) (fun c_10 => ?_)
              refine A_iload_n3 d_N_spell_13 ?_
              refine A_iconst (v := nI 1) d_N_spell_14 (by decide) ?_
              first | refine A_icmp_leN (tgt := 21) d_N_spell_15 (by decide) (by with_reducible rfl) (by with_reducible rfl) (by omega) (by omega) (fun c_15 => ?_) (fun c_15 => ?_) | refine A_icmp_le (tgt := 21) d_N_spell_15 (by decide) (fun c_15 => ?_) (fun c_15 => ?_)
              · refine A_aload_n0 d_N_spell_21 ?_
                refine A_getf (kf := 0) d_N_spell_22 hN.o ok_7 (by decide) q_368 rfl ?_
                refine A_getf (kf := 7) d_N_spell_25 hN.a.o ok_6 (by decide) q_207 rfl ?_
                refine A_iload_n1 d_N_spell_28 ?_
                refine A_aaldN d_N_spell_29 hN.a.books rfl rfl ⟨by omega, by decide⟩ (show va_rf (two (n + 1 + 21) (n + 1 + 38) l) = .ref (n + 1 + 21 + 17 * l) by rw [two_at rfl (by omega)]; rfl) ?_
                refine A_astore4 d_N_spell_30 trivial ?_
                refine A_iload_n2 d_N_spell_32 ?_
                refine A_iconst (v := (-1)) d_N_spell_33 (by decide) ?_
                refine A_icmp_ne (tgt := 55) d_N_spell_34 (by decide) (fun c_34 => ?_) (fun c => absurd c hk1)
                refine A_iload_n2 d_N_spell_55 ?_
                refine A_if_lt (tgt := 68) d_N_spell_56 (by decide) (fun c => absurd c (nI_pos (by omega))) (fun c_56 => ?_)
                refine A_iload_n2 d_N_spell_59 ?_
                refine A_aload4 d_N_spell_60 ?_
                refine A_getf (kf := 0) d_N_spell_62 hB.o ok_0 (by decide) q_148 rfl ?_
                refine A_topI b0 ?_
                first | refine A_icmp_ltN (tgt := 71) d_N_spell_65 (by decide) (by with_reducible rfl) (by with_reducible rfl) (by omega) (by omega) (fun c_65 => ?_) (fun c_65 => ?_) | refine A_icmp_lt (tgt := 71) d_N_spell_65 (by decide) (fun c_65 => ?_) (fun c_65 => ?_)
                · exact absurd hle (by omega)
                · refine A_bipush (v := (-2)) d_N_spell_68 (by decide) ?_
                  refine A_iret d_N_spell_70 rfl ⟨Nat.zero_le _, Nat.zero_le _⟩ ?_
                  exact pu rfl
              · exact absurd c_15 (by decide)
      · by_cases hk1 : k = -1
        · subst hk1
          rw [if_pos rfl, if_neg (by decide), if_pos rfl]
          refine A_aload_n0 d_N_spell_0 ?_
          refine A_iconst (v := nI 2) d_N_spell_1 (by decide) ?_
          refine A_iload_n1 d_N_spell_2 ?_
          refine A_callVP d_N_spell_3 (c_N_isToldT hN (by decide) hl) hN.o rfl q_644 q_646 qs_2 mk_N_isTold rfl (by decide) rfl (Nat.le_of_ble_eq_true rfl) ⟨Nat.le_of_ble_eq_true rfl, Nat.le_of_ble_eq_true rfl⟩ ⟨rfl, rfl⟩ ?_
          refine A_if_eqB (tgt := 18) d_N_spell_6 (by decide) (fun c => absurd c (by decide)) (fun c_6 => ?_)
          refine A_iload_n3 d_N_spell_9 ?_
          refine A_if_lt (tgt := 18) d_N_spell_10 (by decide) (fun c => absurd c (by decide)) (fun c_10 => ?_)
          refine A_iload_n3 d_N_spell_13 ?_
          refine A_iconst (v := nI 1) d_N_spell_14 (by decide) ?_
          first | refine A_icmp_leN (tgt := 21) d_N_spell_15 (by decide) (by with_reducible rfl) (by with_reducible rfl) (by omega) (by omega) (fun c_15 => ?_) (fun c_15 => ?_) | refine A_icmp_le (tgt := 21) d_N_spell_15 (by decide) (fun c_15 => ?_) (fun c_15 => ?_)
          · refine A_aload_n0 d_N_spell_21 ?_
            refine A_getf (kf := 0) d_N_spell_22 hN.o ok_7 (by decide) q_368 rfl ?_
            refine A_getf (kf := 7) d_N_spell_25 hN.a.o ok_6 (by decide) q_207 rfl ?_
            refine A_iload_n1 d_N_spell_28 ?_
            refine A_aaldN d_N_spell_29 hN.a.books rfl rfl ⟨by omega, by decide⟩ (show va_rf (two (n + 1 + 21) (n + 1 + 38) l) = .ref (n + 1 + 21 + 17 * l) by rw [two_at rfl (by omega)]; rfl) ?_
            refine A_astore4 d_N_spell_30 trivial ?_
            refine A_iload_n2 d_N_spell_32 ?_
            refine A_iconst (v := (-1)) d_N_spell_33 (by decide) ?_
            refine A_icmp_ne (tgt := 55) d_N_spell_34 (by decide) (fun c => absurd rfl c) (fun c_34 => ?_)
            refine A_iload_n3 d_N_spell_37 ?_
            refine A_if_ne (tgt := 49) d_N_spell_38 (by decide) (fun c_38 => ?_) (fun c => absurd c (by decide))
            refine A_aload4 d_N_spell_49 ?_
            refine A_getf (kf := 1) d_N_spell_51 hB.o ok_0 (by decide) q_151 rfl ?_
            refine A_topI b1 ?_
            refine A_iret d_N_spell_54 rfl ⟨Nat.zero_le _, Nat.zero_le _⟩ ?_
            exact pu rfl
          · exact absurd c_15 (by decide)
        · rw [if_neg hk1]
          rcases told_c (n := BK l 0) (by omega) k with ⟨i, hi, rfl⟩ | hnk
          · rw [pick_in hi (by omega), rg_in ⟨by decide, by decide⟩ (by decide)]
            refine A_aload_n0 d_N_spell_0 ?_
            refine A_iconst (v := nI 2) d_N_spell_1 (by decide) ?_
            refine A_iload_n1 d_N_spell_2 ?_
            refine A_callVP d_N_spell_3 (c_N_isToldT hN (by decide) hl) hN.o rfl q_644 q_646 qs_2 mk_N_isTold rfl (by decide) rfl (Nat.le_of_ble_eq_true rfl) ⟨Nat.le_of_ble_eq_true rfl, Nat.le_of_ble_eq_true rfl⟩ ⟨rfl, rfl⟩ ?_
            refine A_if_eqB (tgt := 18) d_N_spell_6 (by decide) (fun c => absurd c (by decide)) (fun c_6 => ?_)
            refine A_iload_n3 d_N_spell_9 ?_
            refine A_if_lt (tgt := 18) d_N_spell_10 (by decide) (fun c => absurd c (by decide)) (fun c_10 => ?_)
            refine A_iload_n3 d_N_spell_13 ?_
            refine A_iconst (v := nI 1) d_N_spell_14 (by decide) ?_
            first | refine A_icmp_leN (tgt := 21) d_N_spell_15 (by decide) (by with_reducible rfl) (by with_reducible rfl) (by omega) (by omega) (fun c_15 => ?_) (fun c_15 => ?_) | refine A_icmp_le (tgt := 21) d_N_spell_15 (by decide) (fun c_15 => ?_) (fun c_15 => ?_)
            · refine A_aload_n0 d_N_spell_21 ?_
              refine A_getf (kf := 0) d_N_spell_22 hN.o ok_7 (by decide) q_368 rfl ?_
              refine A_getf (kf := 7) d_N_spell_25 hN.a.o ok_6 (by decide) q_207 rfl ?_
              refine A_iload_n1 d_N_spell_28 ?_
              refine A_aaldN d_N_spell_29 hN.a.books rfl rfl ⟨by omega, by decide⟩ (show va_rf (two (n + 1 + 21) (n + 1 + 38) l) = .ref (n + 1 + 21 + 17 * l) by rw [two_at rfl (by omega)]; rfl) ?_
              refine A_astore4 d_N_spell_30 trivial ?_
              refine A_iload_n2 d_N_spell_32 ?_
              refine A_iconst (v := (-1)) d_N_spell_33 (by decide) ?_
              refine A_icmp_ne (tgt := 55) d_N_spell_34 (by decide) (fun c_34 => ?_) (fun c => absurd c hk1)
              refine A_iload_n2 d_N_spell_55 ?_
              refine A_if_lt (tgt := 68) d_N_spell_56 (by decide) (fun c => absurd c (nI_pos (by omega))) (fun c_56 => ?_)
              refine A_iload_n2 d_N_spell_59 ?_
              refine A_aload4 d_N_spell_60 ?_
              refine A_getf (kf := 0) d_N_spell_62 hB.o ok_0 (by decide) q_148 rfl ?_
              refine A_topI b0 ?_
              first | refine A_icmp_ltN (tgt := 71) d_N_spell_65 (by decide) (by with_reducible rfl) (by with_reducible rfl) (by omega) (by omega) (fun c_65 => ?_) (fun c_65 => ?_) | refine A_icmp_lt (tgt := 71) d_N_spell_65 (by decide) (fun c_65 => ?_) (fun c_65 => ?_)
              · refine A_iload_n3 d_N_spell_71 ?_
                refine A_if_ne (tgt := 85) d_N_spell_72 (by decide) (fun c_72 => ?_) (fun c => absurd c (by decide))
                refine A_aload4 d_N_spell_85 ?_
                refine A_getf (kf := 3) d_N_spell_87 hB.o ok_0 (by decide) q_155 rfl ?_
                refine A_iload_n2 d_N_spell_90 ?_
                refine A_ialdN d_N_spell_91 hB.a3 ⟨by omega, by decide⟩ ?_
                refine A_topI (bS i hi).2 ?_
                refine A_iret d_N_spell_92 rfl ⟨Nat.zero_le _, Nat.zero_le _⟩ ?_
                exact pu rfl
              · exact absurd hi (by omega)
            · exact absurd c_15 (by decide)
          · rw [pick_out hnk]
            by_cases hkn : k < 0
            · refine A_aload_n0 d_N_spell_0 ?_
              refine A_iconst (v := nI 2) d_N_spell_1 (by decide) ?_
              refine A_iload_n1 d_N_spell_2 ?_
              refine A_callVP d_N_spell_3 (c_N_isToldT hN (by decide) hl) hN.o rfl q_644 q_646 qs_2 mk_N_isTold rfl (by decide) rfl (Nat.le_of_ble_eq_true rfl) ⟨Nat.le_of_ble_eq_true rfl, Nat.le_of_ble_eq_true rfl⟩ ⟨rfl, rfl⟩ ?_
              refine A_if_eqB (tgt := 18) d_N_spell_6 (by decide) (fun c => absurd c (by decide)) (fun c_6 => ?_)
              refine A_iload_n3 d_N_spell_9 ?_
              refine A_if_lt (tgt := 18) d_N_spell_10 (by decide) (fun c => absurd c (by decide)) (fun c_10 => ?_)
              refine A_iload_n3 d_N_spell_13 ?_
              refine A_iconst (v := nI 1) d_N_spell_14 (by decide) ?_
              first | refine A_icmp_leN (tgt := 21) d_N_spell_15 (by decide) (by with_reducible rfl) (by with_reducible rfl) (by omega) (by omega) (fun c_15 => ?_) (fun c_15 => ?_) | refine A_icmp_le (tgt := 21) d_N_spell_15 (by decide) (fun c_15 => ?_) (fun c_15 => ?_)
              · refine A_aload_n0 d_N_spell_21 ?_
                refine A_getf (kf := 0) d_N_spell_22 hN.o ok_7 (by decide) q_368 rfl ?_
                refine A_getf (kf := 7) d_N_spell_25 hN.a.o ok_6 (by decide) q_207 rfl ?_
                refine A_iload_n1 d_N_spell_28 ?_
                refine A_aaldN d_N_spell_29 hN.a.books rfl rfl ⟨by omega, by decide⟩ (show va_rf (two (n + 1 + 21) (n + 1 + 38) l) = .ref (n + 1 + 21 + 17 * l) by rw [two_at rfl (by omega)]; rfl) ?_
                refine A_astore4 d_N_spell_30 trivial ?_
                refine A_iload_n2 d_N_spell_32 ?_
                refine A_iconst (v := (-1)) d_N_spell_33 (by decide) ?_
                refine A_icmp_ne (tgt := 55) d_N_spell_34 (by decide) (fun c_34 => ?_) (fun c => absurd c hk1)
                refine A_iload_n2 d_N_spell_55 ?_
                refine A_if_lt (tgt := 68) d_N_spell_56 (by decide) (fun c_56 => ?_) (fun c => absurd hkn c)
                refine A_bipush (v := (-2)) d_N_spell_68 (by decide) ?_
                refine A_iret d_N_spell_70 rfl ⟨Nat.zero_le _, Nat.zero_le _⟩ ?_
                exact pu rfl
              · exact absurd c_15 (by decide)
            · obtain ⟨j, hj, rfl, hle⟩ := inB_tdF (by omega) hnk hkn
              refine A_aload_n0 d_N_spell_0 ?_
              refine A_iconst (v := nI 2) d_N_spell_1 (by decide) ?_
              refine A_iload_n1 d_N_spell_2 ?_
              refine A_callVP d_N_spell_3 (c_N_isToldT hN (by decide) hl) hN.o rfl q_644 q_646 qs_2 mk_N_isTold rfl (by decide) rfl (Nat.le_of_ble_eq_true rfl) ⟨Nat.le_of_ble_eq_true rfl, Nat.le_of_ble_eq_true rfl⟩ ⟨rfl, rfl⟩ ?_
              refine A_if_eqB (tgt := 18) d_N_spell_6 (by decide) (fun c => absurd c (by decide)) (fun c_6 => ?_)
              refine A_iload_n3 d_N_spell_9 ?_
              refine A_if_lt (tgt := 18) d_N_spell_10 (by decide) (fun c => absurd c (by decide)) (fun c_10 => ?_)
              refine A_iload_n3 d_N_spell_13 ?_
              refine A_iconst (v := nI 1) d_N_spell_14 (by decide) ?_
              first | refine A_icmp_leN (tgt := 21) d_N_spell_15 (by decide) (by with_reducible rfl) (by with_reducible rfl) (by omega) (by omega) (fun c_15 => ?_) (fun c_15 => ?_) | refine A_icmp_le (tgt := 21) d_N_spell_15 (by decide) (fun c_15 => ?_) (fun c_15 => ?_)
              · refine A_aload_n0 d_N_spell_21 ?_
                refine A_getf (kf := 0) d_N_spell_22 hN.o ok_7 (by decide) q_368 rfl ?_
                refine A_getf (kf := 7) d_N_spell_25 hN.a.o ok_6 (by decide) q_207 rfl ?_
                refine A_iload_n1 d_N_spell_28 ?_
                refine A_aaldN d_N_spell_29 hN.a.books rfl rfl ⟨by omega, by decide⟩ (show va_rf (two (n + 1 + 21) (n + 1 + 38) l) = .ref (n + 1 + 21 + 17 * l) by rw [two_at rfl (by omega)]; rfl) ?_
                refine A_astore4 d_N_spell_30 trivial ?_
                refine A_iload_n2 d_N_spell_32 ?_
                refine A_iconst (v := (-1)) d_N_spell_33 (by decide) ?_
                refine A_icmp_ne (tgt := 55) d_N_spell_34 (by decide) (fun c_34 => ?_) (fun c => absurd c hk1)
                refine A_iload_n2 d_N_spell_55 ?_
                refine A_if_lt (tgt := 68) d_N_spell_56 (by decide) (fun c => absurd c (nI_pos (by omega))) (fun c_56 => ?_)
                refine A_iload_n2 d_N_spell_59 ?_
                refine A_aload4 d_N_spell_60 ?_
                refine A_getf (kf := 0) d_N_spell_62 hB.o ok_0 (by decide) q_148 rfl ?_
                refine A_topI b0 ?_
                first | refine A_icmp_ltN (tgt := 71) d_N_spell_65 (by decide) (by with_reducible rfl) (by with_reducible rfl) (by omega) (by omega) (fun c_65 => ?_) (fun c_65 => ?_) | refine A_icmp_lt (tgt := 71) d_N_spell_65 (by decide) (fun c_65 => ?_) (fun c_65 => ?_)
                · exact absurd hle (by omega)
                · refine A_bipush (v := (-2)) d_N_spell_68 (by decide) ?_
                  refine A_iret d_N_spell_70 rfl ⟨Nat.zero_le _, Nat.zero_le _⟩ ?_
                  exact pu rfl
              · exact absurd c_15 (by decide)
    · have e : (if k = -1 then (if x = nI 0 then nI (BK l 0) else if x = nI 1 then nI (totB (BK l)) else -2) else pick (BK l 0) k (fun i => rg x 0 1 (fun j => nI (BK l (1 + 2 * i + j))) (-2)) (-2)) = -2 := by
        have z0 : ¬ x = nI 0 := fun z => by rw [z] at hro; exact absurd hro (by decide)
        have z1 : ¬ x = nI 1 := fun z => by rw [z] at hro; exact absurd hro (by decide)
        rw [if_neg z0, if_neg z1, pick_const (fun _ => rg_out hro)]
        exact ite_self _
      rw [e]
      by_cases hkn : x < 0
      · refine A_aload_n0 d_N_spell_0 ?_
        refine A_iconst (v := nI 2) d_N_spell_1 (by decide) ?_
        refine A_iload_n1 d_N_spell_2 ?_
        refine A_callVP d_N_spell_3 (c_N_isToldT hN (by decide) hl) hN.o rfl q_644 q_646 qs_2 mk_N_isTold rfl (by decide) rfl (Nat.le_of_ble_eq_true rfl) ⟨Nat.le_of_ble_eq_true rfl, Nat.le_of_ble_eq_true rfl⟩ ⟨rfl, rfl⟩ ?_
        refine A_if_eqB (tgt := 18) d_N_spell_6 (by decide) (fun c => absurd c (by decide)) (fun c_6 => ?_)
        refine A_iload_n3 d_N_spell_9 ?_
        refine A_if_lt (tgt := 18) d_N_spell_10 (by decide) (fun c_10 => ?_) (fun c => absurd hkn c)
        refine A_bipush (v := (-2)) d_N_spell_18 (by decide) ?_
        refine A_iret d_N_spell_20 rfl ⟨Nat.zero_le _, Nat.zero_le _⟩ ?_
        exact pu rfl
      · obtain ⟨j, hj, rfl⟩ := nI_of hkn
        refine A_aload_n0 d_N_spell_0 ?_
        refine A_iconst (v := nI 2) d_N_spell_1 (by decide) ?_
        refine A_iload_n1 d_N_spell_2 ?_
        refine A_callVP d_N_spell_3 (c_N_isToldT hN (by decide) hl) hN.o rfl q_644 q_646 qs_2 mk_N_isTold rfl (by decide) rfl (Nat.le_of_ble_eq_true rfl) ⟨Nat.le_of_ble_eq_true rfl, Nat.le_of_ble_eq_true rfl⟩ ⟨rfl, rfl⟩ ?_
        refine A_if_eqB (tgt := 18) d_N_spell_6 (by decide) (fun c => absurd c (by decide)) (fun c_6 => ?_)
        refine A_iload_n3 d_N_spell_9 ?_
        refine A_if_lt (tgt := 18) d_N_spell_10 (by decide) (fun c => absurd c hkn) (fun c_10 => ?_)
        refine A_iload_n3 d_N_spell_13 ?_
        refine A_iconst (v := nI 1) d_N_spell_14 (by decide) ?_
        first | refine A_icmp_leN (tgt := 21) d_N_spell_15 (by decide) (by with_reducible rfl) (by with_reducible rfl) (by omega) (by omega) (fun c_15 => ?_) (fun c_15 => ?_) | refine A_icmp_le (tgt := 21) d_N_spell_15 (by decide) (fun c_15 => ?_) (fun c_15 => ?_)
        · exact absurd hro (by rw [inB_N hj (by decide) (by decide), decide_eq_true (p := 0 ≤ j) (by omega), decide_eq_true (p := j ≤ 1) (by omega)]; decide)
        · refine A_bipush (v := (-2)) d_N_spell_18 (by decide) ?_
          refine A_iret d_N_spell_20 rfl ⟨Nat.zero_le _, Nat.zero_le _⟩ ?_
          exact pu rfl
  · rw [pick_out hno]
    refine A_aload_n0 d_N_spell_0 ?_
    refine A_iconst (v := nI 2) d_N_spell_1 (by decide) ?_
    refine A_iload_n1 d_N_spell_2 ?_
    refine A_callVP d_N_spell_3 (c_N_isToldF hN (by decide) hno) hN.o rfl q_644 q_646 qs_2 mk_N_isTold rfl (by decide) rfl (Nat.le_of_ble_eq_true rfl) ⟨Nat.le_of_ble_eq_true rfl, Nat.le_of_ble_eq_true rfl⟩ ⟨rfl, rfl⟩ ?_
    refine A_if_eqB (tgt := 18) d_N_spell_6 (by decide) (fun c_6 => ?_) (fun c => absurd c (by decide))
    refine A_bipush (v := (-2)) d_N_spell_18 (by decide) ?_
    refine A_iret d_N_spell_20 rfl ⟨Nat.zero_le _, Nat.zero_le _⟩ ?_
    exact pu rfl
