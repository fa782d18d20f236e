set_option maxHeartbeats 4000000 in
set_option maxRecDepth 100000 in
theorem c_N_land {G : GE} {h : AH} {n : Nat} {W : TD} {c : Nat → Nat} {VL WT BK SG GM : Nat → Nat → Nat} (hN : NT h n W c VL WT BK SG GM) (la x : Int32) : Ctr G y_N_land b_N_land 4 (some .int) r_N_land [.ref n, .int la, .int x] h (Pu (.int (pick (c 0) la (fun k => landV (VL k) x) (-1))) h) := by
  refine Ctr.of (by decide +kernel) (by simp) (Nat.le_of_ble_eq_true rfl) (L0 := [some (.ref n), some (.int la), some (.int x), none]) rfl ?_
  have hc0 := (hN.r.n 0 (by decide)).2
  rcases told_c (n := c 0) (by omega) la with ⟨l, hl, rfl⟩ | hno
  · rw [pick_in hl (by omega)]
    have hA := hN.a.l l (by omega)
    have hV := hN.r.l l hl
    have hV0 := hV
    obtain ⟨ok, ⟨f0, f1, f2, f3, f4, f9⟩, hP, hBe, hTo⟩ := hV
    have hH := ok.1
    have h4 := ok.2.2.2.2.1
    have h5 := ok.2.2.2.2.2.1
    rcases tsw (x := x) (lo := 0) (hi := 5) (by decide) with ⟨kk, rfl, -, hkb⟩ | ⟨hro, swo⟩
    · rcases (show kk = 0 ∨ kk = 1 ∨ kk = 2 ∨ kk = 3 ∨ kk = 4 ∨ kk = 5 by omega) with rfl | rfl | rfl | rfl | rfl | rfl
      · refine A_aload_n0 d_N_land_0 ?_
        refine A_iconst (v := nI 0) d_N_land_1 (by decide) ?_
        refine A_iload_n1 d_N_land_2 ?_
        refine A_callVP d_N_land_3 (c_N_isToldT hN (by decide) hl) hN.o rfl q_644 q_646 qs_2 mk_N_isTold rfl (by decide) rfl (Nat.le_of_ble_eq_true rfl) ⟨Nat.le_of_ble_eq_true rfl, Nat.le_of_ble_eq_true rfl⟩ ⟨rfl, rfl⟩ ?_
        refine A_if_neB (tgt := 11) d_N_land_6 (by decide) (fun c_6 => ?_) (fun c => absurd c (by decide))
        refine A_aload_n0 d_N_land_11 ?_
        refine A_getf (kf := 0) d_N_land_12 hN.o ok_7 (by decide) q_368 rfl ?_
        refine A_getf (kf := 5) d_N_land_15 hN.a.o ok_6 (by decide) q_203 rfl ?_
        refine A_iload_n1 d_N_land_18 ?_
        refine A_aaldN d_N_land_19 hN.a.lands rfl rfl ⟨by omega, by decide⟩ (show va_rf (two (n + 1 + 12) (n + 1 + 29) l) = .ref (n + 1 + 12 + 17 * l) by rw [two_at rfl (by omega)]; rfl) ?_
        refine A_astore3 d_N_land_20 trivial ?_
        refine A_iload_n2 d_N_land_21 ?_
        refine A_bipush (v := nI 10) d_N_land_22 (by decide) ?_
        first | refine A_icmp_ltN (tgt := 48) d_N_land_24 (by decide) (by with_reducible rfl) (by with_reducible rfl) (by omega) (by omega) (fun c_24 => ?_) (fun c_24 => ?_) | refine A_icmp_lt (tgt := 48) d_N_land_24 (by decide) (fun c_24 => ?_) (fun c_24 => ?_)
        · refine A_iload_n2 d_N_land_48 ?_
          refine A_bipush (v := nI 50) d_N_land_49 (by decide) ?_
          first | refine A_icmp_ltN (tgt := 75) d_N_land_51 (by decide) (by with_reducible rfl) (by with_reducible rfl) (by omega) (by omega) (fun c_51 => ?_) (fun c_51 => ?_) | refine A_icmp_lt (tgt := 75) d_N_land_51 (by decide) (fun c_51 => ?_) (fun c_51 => ?_)
          · refine A_iload_n2 d_N_land_75 ?_
            refine A_bipush (v := nI 60) d_N_land_76 (by decide) ?_
            first | refine A_icmp_ltN (tgt := 102) d_N_land_78 (by decide) (by with_reducible rfl) (by with_reducible rfl) (by omega) (by omega) (fun c_78 => ?_) (fun c_78 => ?_) | refine A_icmp_lt (tgt := 102) d_N_land_78 (by decide) (fun c_78 => ?_) (fun c_78 => ?_)
            · refine A_iload_n2 d_N_land_102 ?_
              refine A_tableIn (tgt := 140) d_N_land_103 (by decide) (by decide) rfl (by decide) ?_
              refine A_aload_n3 d_N_land_140 ?_
              refine A_getf (kf := 0) d_N_land_141 hA.o ok_1 (by decide) q_49 rfl ?_
              refine A_topI f0 ?_
              refine A_iret d_N_land_144 rfl ⟨Nat.zero_le _, Nat.zero_le _⟩ ?_
              exact pu (by unfold landV; rw [rg_in ⟨by decide, by decide⟩ (by decide)])
            · exact absurd c_78 (by decide)
          · exact absurd c_51 (by decide)
        · exact absurd c_24 (by decide)
      · refine A_aload_n0 d_N_land_0 ?_
        refine A_iconst (v := nI 0) d_N_land_1 (by decide) ?_
        refine A_iload_n1 d_N_land_2 ?_
        refine A_callVP d_N_land_3 (c_N_isToldT hN (by decide) hl) hN.o rfl q_644 q_646 qs_2 mk_N_isTold rfl (by decide) rfl (Nat.le_of_ble_eq_true rfl) ⟨Nat.le_of_ble_eq_true rfl, Nat.le_of_ble_eq_true rfl⟩ ⟨rfl, rfl⟩ ?_
        refine A_if_neB (tgt := 11) d_N_land_6 (by decide) (fun c_6 => ?_) (fun c => absurd c (by decide))
        refine A_aload_n0 d_N_land_11 ?_
        refine A_getf (kf := 0) d_N_land_12 hN.o ok_7 (by decide) q_368 rfl ?_
        refine A_getf (kf := 5) d_N_land_15 hN.a.o ok_6 (by decide) q_203 rfl ?_
        refine A_iload_n1 d_N_land_18 ?_
        refine A_aaldN d_N_land_19 hN.a.lands rfl rfl ⟨by omega, by decide⟩ (show va_rf (two (n + 1 + 12) (n + 1 + 29) l) = .ref (n + 1 + 12 + 17 * l) by rw [two_at rfl (by omega)]; rfl) ?_
        refine A_astore3 d_N_land_20 trivial ?_
        refine A_iload_n2 d_N_land_21 ?_
        refine A_bipush (v := nI 10) d_N_land_22 (by decide) ?_
        first | refine A_icmp_ltN (tgt := 48) d_N_land_24 (by decide) (by with_reducible rfl) (by with_reducible rfl) (by omega) (by omega) (fun c_24 => ?_) (fun c_24 => ?_) | refine A_icmp_lt (tgt := 48) d_N_land_24 (by decide) (fun c_24 => ?_) (fun c_24 => ?_)
        · refine A_iload_n2 d_N_land_48 ?_
          refine A_bipush (v := nI 50) d_N_land_49 (by decide) ?_
          first | refine A_icmp_ltN (tgt := 75) d_N_land_51 (by decide) (by with_reducible rfl) (by with_reducible rfl) (by omega) (by omega) (fun c_51 => ?_) (fun c_51 => ?_) | refine A_icmp_lt (tgt := 75) d_N_land_51 (by decide) (fun c_51 => ?_) (fun c_51 => ?_)
          · refine A_iload_n2 d_N_land_75 ?_
            refine A_bipush (v := nI 60) d_N_land_76 (by decide) ?_
            first | refine A_icmp_ltN (tgt := 102) d_N_land_78 (by decide) (by with_reducible rfl) (by with_reducible rfl) (by omega) (by omega) (fun c_78 => ?_) (fun c_78 => ?_) | refine A_icmp_lt (tgt := 102) d_N_land_78 (by decide) (fun c_78 => ?_) (fun c_78 => ?_)
            · refine A_iload_n2 d_N_land_102 ?_
              refine A_tableIn (tgt := 145) d_N_land_103 (by decide) (by decide) rfl (by decide) ?_
              refine A_aload_n3 d_N_land_145 ?_
              refine A_getf (kf := 1) d_N_land_146 hA.o ok_1 (by decide) q_53 rfl ?_
              refine A_topI f1 ?_
              refine A_iret d_N_land_149 rfl ⟨Nat.zero_le _, Nat.zero_le _⟩ ?_
              exact pu (by unfold landV; rw [rg_in ⟨by decide, by decide⟩ (by decide)])
            · exact absurd c_78 (by decide)
          · exact absurd c_51 (by decide)
        · exact absurd c_24 (by decide)
      · refine A_aload_n0 d_N_land_0 ?_
        refine A_iconst (v := nI 0) d_N_land_1 (by decide) ?_
        refine A_iload_n1 d_N_land_2 ?_
        refine A_callVP d_N_land_3 (c_N_isToldT hN (by decide) hl) hN.o rfl q_644 q_646 qs_2 mk_N_isTold rfl (by decide) rfl (Nat.le_of_ble_eq_true rfl) ⟨Nat.le_of_ble_eq_true rfl, Nat.le_of_ble_eq_true rfl⟩ ⟨rfl, rfl⟩ ?_
        refine A_if_neB (tgt := 11) d_N_land_6 (by decide) (fun c_6 => ?_) (fun c => absurd c (by decide))
        refine A_aload_n0 d_N_land_11 ?_
        refine A_getf (kf := 0) d_N_land_12 hN.o ok_7 (by decide) q_368 rfl ?_
        refine A_getf (kf := 5) d_N_land_15 hN.a.o ok_6 (by decide) q_203 rfl ?_
        refine A_iload_n1 d_N_land_18 ?_
        refine A_aaldN d_N_land_19 hN.a.lands rfl rfl ⟨by omega, by decide⟩ (show va_rf (two (n + 1 + 12) (n + 1 + 29) l) = .ref (n + 1 + 12 + 17 * l) by rw [two_at rfl (by omega)]; rfl) ?_
        refine A_astore3 d_N_land_20 trivial ?_
        refine A_iload_n2 d_N_land_21 ?_
        refine A_bipush (v := nI 10) d_N_land_22 (by decide) ?_
        first | refine A_icmp_ltN (tgt := 48) d_N_land_24 (by decide) (by with_reducible rfl) (by with_reducible rfl) (by omega) (by omega) (fun c_24 => ?_) (fun c_24 => ?_) | refine A_icmp_lt (tgt := 48) d_N_land_24 (by decide) (fun c_24 => ?_) (fun c_24 => ?_)
        · refine A_iload_n2 d_N_land_48 ?_
          refine A_bipush (v := nI 50) d_N_land_49 (by decide) ?_
          first | refine A_icmp_ltN (tgt := 75) d_N_land_51 (by decide) (by with_reducible rfl) (by with_reducible rfl) (by omega) (by omega) (fun c_51 => ?_) (fun c_51 => ?_) | refine A_icmp_lt (tgt := 75) d_N_land_51 (by decide) (fun c_51 => ?_) (fun c_51 => ?_)
          · refine A_iload_n2 d_N_land_75 ?_
            refine A_bipush (v := nI 60) d_N_land_76 (by decide) ?_
            first | refine A_icmp_ltN (tgt := 102) d_N_land_78 (by decide) (by with_reducible rfl) (by with_reducible rfl) (by omega) (by omega) (fun c_78 => ?_) (fun c_78 => ?_) | refine A_icmp_lt (tgt := 102) d_N_land_78 (by decide) (fun c_78 => ?_) (fun c_78 => ?_)
            · refine A_iload_n2 d_N_land_102 ?_
              refine A_tableIn (tgt := 150) d_N_land_103 (by decide) (by decide) rfl (by decide) ?_
              refine A_aload_n3 d_N_land_150 ?_
              refine A_getf (kf := 2) d_N_land_151 hA.o ok_1 (by decide) q_56 rfl ?_
              refine A_topI f2 ?_
              refine A_iret d_N_land_154 rfl ⟨Nat.zero_le _, Nat.zero_le _⟩ ?_
              exact pu (by unfold landV; rw [rg_in ⟨by decide, by decide⟩ (by decide)])
            · exact absurd c_78 (by decide)
          · exact absurd c_51 (by decide)
        · exact absurd c_24 (by decide)
      · refine A_aload_n0 d_N_land_0 ?_
        refine A_iconst (v := nI 0) d_N_land_1 (by decide) ?_
        refine A_iload_n1 d_N_land_2 ?_
        refine A_callVP d_N_land_3 (c_N_isToldT hN (by decide) hl) hN.o rfl q_644 q_646 qs_2 mk_N_isTold rfl (by decide) rfl (Nat.le_of_ble_eq_true rfl) ⟨Nat.le_of_ble_eq_true rfl, Nat.le_of_ble_eq_true rfl⟩ ⟨rfl, rfl⟩ ?_
        refine A_if_neB (tgt := 11) d_N_land_6 (by decide) (fun c_6 => ?_) (fun c => absurd c (by decide))
        refine A_aload_n0 d_N_land_11 ?_
        refine A_getf (kf := 0) d_N_land_12 hN.o ok_7 (by decide) q_368 rfl ?_
        refine A_getf (kf := 5) d_N_land_15 hN.a.o ok_6 (by decide) q_203 rfl ?_
        refine A_iload_n1 d_N_land_18 ?_
        refine A_aaldN d_N_land_19 hN.a.lands rfl rfl ⟨by omega, by decide⟩ (show va_rf (two (n + 1 + 12) (n + 1 + 29) l) = .ref (n + 1 + 12 + 17 * l) by rw [two_at rfl (by omega)]; rfl) ?_
        refine A_astore3 d_N_land_20 trivial ?_
        refine A_iload_n2 d_N_land_21 ?_
        refine A_bipush (v := nI 10) d_N_land_22 (by decide) ?_
        first | refine A_icmp_ltN (tgt := 48) d_N_land_24 (by decide) (by with_reducible rfl) (by with_reducible rfl) (by omega) (by omega) (fun c_24 => ?_) (fun c_24 => ?_) | refine A_icmp_lt (tgt := 48) d_N_land_24 (by decide) (fun c_24 => ?_) (fun c_24 => ?_)
        · refine A_iload_n2 d_N_land_48 ?_
          refine A_bipush (v := nI 50) d_N_land_49 (by decide) ?_
          first | refine A_icmp_ltN (tgt := 75) d_N_land_51 (by decide) (by with_reducible rfl) (by with_reducible rfl) (by omega) (by omega) (fun c_51 => ?_) (fun c_51 => ?_) | refine A_icmp_lt (tgt := 75) d_N_land_51 (by decide) (fun c_51 => ?_) (fun c_51 => ?_)
          · refine A_iload_n2 d_N_land_75 ?_
            refine A_bipush (v := nI 60) d_N_land_76 (by decide) ?_
            first | refine A_icmp_ltN (tgt := 102) d_N_land_78 (by decide) (by with_reducible rfl) (by with_reducible rfl) (by omega) (by omega) (fun c_78 => ?_) (fun c_78 => ?_) | refine A_icmp_lt (tgt := 102) d_N_land_78 (by decide) (fun c_78 => ?_) (fun c_78 => ?_)
            · refine A_iload_n2 d_N_land_102 ?_
              refine A_tableIn (tgt := 155) d_N_land_103 (by decide) (by decide) rfl (by decide) ?_
              refine A_aload_n3 d_N_land_155 ?_
              refine A_getf (kf := 3) d_N_land_156 hA.o ok_1 (by decide) q_59 rfl ?_
              refine A_topI f3 ?_
              refine A_iret d_N_land_159 rfl ⟨Nat.zero_le _, Nat.zero_le _⟩ ?_
              exact pu (by unfold landV; rw [rg_in ⟨by decide, by decide⟩ (by decide)])
            · exact absurd c_78 (by decide)
          · exact absurd c_51 (by decide)
        · exact absurd c_24 (by decide)
      · refine A_aload_n0 d_N_land_0 ?_
        refine A_iconst (v := nI 0) d_N_land_1 (by decide) ?_
        refine A_iload_n1 d_N_land_2 ?_
        refine A_callVP d_N_land_3 (c_N_isToldT hN (by decide) hl) hN.o rfl q_644 q_646 qs_2 mk_N_isTold rfl (by decide) rfl (Nat.le_of_ble_eq_true rfl) ⟨Nat.le_of_ble_eq_true rfl, Nat.le_of_ble_eq_true rfl⟩ ⟨rfl, rfl⟩ ?_
        refine A_if_neB (tgt := 11) d_N_land_6 (by decide) (fun c_6 => ?_) (fun c => absurd c (by decide))
        refine A_aload_n0 d_N_land_11 ?_
        refine A_getf (kf := 0) d_N_land_12 hN.o ok_7 (by decide) q_368 rfl ?_
        refine A_getf (kf := 5) d_N_land_15 hN.a.o ok_6 (by decide) q_203 rfl ?_
        refine A_iload_n1 d_N_land_18 ?_
        refine A_aaldN d_N_land_19 hN.a.lands rfl rfl ⟨by omega, by decide⟩ (show va_rf (two (n + 1 + 12) (n + 1 + 29) l) = .ref (n + 1 + 12 + 17 * l) by rw [two_at rfl (by omega)]; rfl) ?_
        refine A_astore3 d_N_land_20 trivial ?_
        refine A_iload_n2 d_N_land_21 ?_
        refine A_bipush (v := nI 10) d_N_land_22 (by decide) ?_
        first | refine A_icmp_ltN (tgt := 48) d_N_land_24 (by decide) (by with_reducible rfl) (by with_reducible rfl) (by omega) (by omega) (fun c_24 => ?_) (fun c_24 => ?_) | refine A_icmp_lt (tgt := 48) d_N_land_24 (by decide) (fun c_24 => ?_) (fun c_24 => ?_)
        · refine A_iload_n2 d_N_land_48 ?_
          refine A_bipush (v := nI 50) d_N_land_49 (by decide) ?_
          first | refine A_icmp_ltN (tgt := 75) d_N_land_51 (by decide) (by with_reducible rfl) (by with_reducible rfl) (by omega) (by omega) (fun c_51 => ?_) (fun c_51 => ?_) | refine A_icmp_lt (tgt := 75) d_N_land_51 (by decide) (fun c_51 => ?_) (fun c_51 => ?_)
          · refine A_iload_n2 d_N_land_75 ?_
            refine A_bipush (v := nI 60) d_N_land_76 (by decide) ?_
            first | refine A_icmp_ltN (tgt := 102) d_N_land_78 (by decide) (by with_reducible rfl) (by with_reducible rfl) (by omega) (by omega) (fun c_78 => ?_) (fun c_78 => ?_) | refine A_icmp_lt (tgt := 102) d_N_land_78 (by decide) (fun c_78 => ?_) (fun c_78 => ?_)
            · refine A_iload_n2 d_N_land_102 ?_
              refine A_tableIn (tgt := 160) d_N_land_103 (by decide) (by decide) rfl (by decide) ?_
              refine A_aload_n3 d_N_land_160 ?_
              refine A_getf (kf := 4) d_N_land_161 hA.o ok_1 (by decide) q_62 rfl ?_
              refine A_topI f4 ?_
              refine A_iret d_N_land_164 rfl ⟨Nat.zero_le _, Nat.zero_le _⟩ ?_
              exact pu (by unfold landV; rw [rg_in ⟨by decide, by decide⟩ (by decide)])
            · exact absurd c_78 (by decide)
          · exact absurd c_51 (by decide)
        · exact absurd c_24 (by decide)
      · refine A_aload_n0 d_N_land_0 ?_
        refine A_iconst (v := nI 0) d_N_land_1 (by decide) ?_
        refine A_iload_n1 d_N_land_2 ?_
        refine A_callVP d_N_land_3 (c_N_isToldT hN (by decide) hl) hN.o rfl q_644 q_646 qs_2 mk_N_isTold rfl (by decide) rfl (Nat.le_of_ble_eq_true rfl) ⟨Nat.le_of_ble_eq_true rfl, Nat.le_of_ble_eq_true rfl⟩ ⟨rfl, rfl⟩ ?_
        refine A_if_neB (tgt := 11) d_N_land_6 (by decide) (fun c_6 => ?_) (fun c => absurd c (by decide))
        refine A_aload_n0 d_N_land_11 ?_
        refine A_getf (kf := 0) d_N_land_12 hN.o ok_7 (by decide) q_368 rfl ?_
        refine A_getf (kf := 5) d_N_land_15 hN.a.o ok_6 (by decide) q_203 rfl ?_
        refine A_iload_n1 d_N_land_18 ?_
        refine A_aaldN d_N_land_19 hN.a.lands rfl rfl ⟨by omega, by decide⟩ (show va_rf (two (n + 1 + 12) (n + 1 + 29) l) = .ref (n + 1 + 12 + 17 * l) by rw [two_at rfl (by omega)]; rfl) ?_
        refine A_astore3 d_N_land_20 trivial ?_
        refine A_iload_n2 d_N_land_21 ?_
        refine A_bipush (v := nI 10) d_N_land_22 (by decide) ?_
        first | refine A_icmp_ltN (tgt := 48) d_N_land_24 (by decide) (by with_reducible rfl) (by with_reducible rfl) (by omega) (by omega) (fun c_24 => ?_) (fun c_24 => ?_) | refine A_icmp_lt (tgt := 48) d_N_land_24 (by decide) (fun c_24 => ?_) (fun c_24 => ?_)
        · refine A_iload_n2 d_N_land_48 ?_
          refine A_bipush (v := nI 50) d_N_land_49 (by decide) ?_
          first | refine A_icmp_ltN (tgt := 75) d_N_land_51 (by decide) (by with_reducible rfl) (by with_reducible rfl) (by omega) (by omega) (fun c_51 => ?_) (fun c_51 => ?_) | refine A_icmp_lt (tgt := 75) d_N_land_51 (by decide) (fun c_51 => ?_) (fun c_51 => ?_)
          · refine A_iload_n2 d_N_land_75 ?_
            refine A_bipush (v := nI 60) d_N_land_76 (by decide) ?_
            first | refine A_icmp_ltN (tgt := 102) d_N_land_78 (by decide) (by with_reducible rfl) (by with_reducible rfl) (by omega) (by omega) (fun c_78 => ?_) (fun c_78 => ?_) | refine A_icmp_lt (tgt := 102) d_N_land_78 (by decide) (fun c_78 => ?_) (fun c_78 => ?_)
            · refine A_iload_n2 d_N_land_102 ?_
              refine A_tableIn (tgt := 165) d_N_land_103 (by decide) (by decide) rfl (by decide) ?_
              refine A_aload_n3 d_N_land_165 ?_
              refine A_getf (kf := 9) d_N_land_166 hA.o ok_1 (by decide) q_78 rfl ?_
              refine A_topI f9 ?_
              refine A_iret d_N_land_169 rfl ⟨Nat.zero_le _, Nat.zero_le _⟩ ?_
              exact pu (by unfold landV; rw [rg_in ⟨by decide, by decide⟩ (by decide)])
            · exact absurd c_78 (by decide)
          · exact absurd c_51 (by decide)
        · exact absurd c_24 (by decide)
    · by_cases hx : x < 0
      · refine A_aload_n0 d_N_land_0 ?_
        refine A_iconst (v := nI 0) d_N_land_1 (by decide) ?_
        refine A_iload_n1 d_N_land_2 ?_
        refine A_callVP d_N_land_3 (c_N_isToldT hN (by decide) hl) hN.o rfl q_644 q_646 qs_2 mk_N_isTold rfl (by decide) rfl (Nat.le_of_ble_eq_true rfl) ⟨Nat.le_of_ble_eq_true rfl, Nat.le_of_ble_eq_true rfl⟩ ⟨rfl, rfl⟩ ?_
        refine A_if_neB (tgt := 11) d_N_land_6 (by decide) (fun c_6 => ?_) (fun c => absurd c (by decide))
        refine A_aload_n0 d_N_land_11 ?_
        refine A_getf (kf := 0) d_N_land_12 hN.o ok_7 (by decide) q_368 rfl ?_
        refine A_getf (kf := 5) d_N_land_15 hN.a.o ok_6 (by decide) q_203 rfl ?_
        refine A_iload_n1 d_N_land_18 ?_
        refine A_aaldN d_N_land_19 hN.a.lands rfl rfl ⟨by omega, by decide⟩ (show va_rf (two (n + 1 + 12) (n + 1 + 29) l) = .ref (n + 1 + 12 + 17 * l) by rw [two_at rfl (by omega)]; rfl) ?_
        refine A_astore3 d_N_land_20 trivial ?_
        refine A_iload_n2 d_N_land_21 ?_
        refine A_bipush (v := nI 10) d_N_land_22 (by decide) ?_
        first | refine A_icmp_ltN (tgt := 48) d_N_land_24 (by decide) (by with_reducible rfl) (by with_reducible rfl) (by omega) (by omega) (fun c_24 => ?_) (fun c_24 => ?_) | refine A_icmp_lt (tgt := 48) d_N_land_24 (by decide) (fun c_24 => ?_) (fun c_24 => ?_)
        · refine A_iload_n2 d_N_land_48 ?_
          refine A_bipush (v := nI 50) d_N_land_49 (by decide) ?_
          first | refine A_icmp_ltN (tgt := 75) d_N_land_51 (by decide) (by with_reducible rfl) (by with_reducible rfl) (by omega) (by omega) (fun c_51 => ?_) (fun c_51 => ?_) | refine A_icmp_lt (tgt := 75) d_N_land_51 (by decide) (fun c_51 => ?_) (fun c_51 => ?_)
          · refine A_iload_n2 d_N_land_75 ?_
            refine A_bipush (v := nI 60) d_N_land_76 (by decide) ?_
            first | refine A_icmp_ltN (tgt := 102) d_N_land_78 (by decide) (by with_reducible rfl) (by with_reducible rfl) (by omega) (by omega) (fun c_78 => ?_) (fun c_78 => ?_) | refine A_icmp_lt (tgt := 102) d_N_land_78 (by decide) (fun c_78 => ?_) (fun c_78 => ?_)
            · refine A_iload_n2 d_N_land_102 ?_
              refine A_tableOut (tgt := 170) d_N_land_103 swo (by decide) ?_
              refine A_iconst (v := (-1)) d_N_land_170 (by decide) ?_
              refine A_iret d_N_land_171 rfl ⟨Nat.zero_le _, Nat.zero_le _⟩ ?_
              exact pu (by unfold landV; rw [rg_neg hx (by decide), rg_neg hx (by decide), rg_neg hx (by decide), rg_neg hx (by decide)])
            · exact absurd (neg_lt hx (by decide)) c_78
          · exact absurd (neg_lt hx (by decide)) c_51
        · exact absurd (neg_lt hx (by decide)) c_24
      · obtain ⟨j, hj, rfl⟩ := nI_of hx
        refine A_aload_n0 d_N_land_0 ?_
        refine A_iconst (v := nI 0) d_N_land_1 (by decide) ?_
        refine A_iload_n1 d_N_land_2 ?_
        refine A_callVP d_N_land_3 (c_N_isToldT hN (by decide) hl) hN.o rfl q_644 q_646 qs_2 mk_N_isTold rfl (by decide) rfl (Nat.le_of_ble_eq_true rfl) ⟨Nat.le_of_ble_eq_true rfl, Nat.le_of_ble_eq_true rfl⟩ ⟨rfl, rfl⟩ ?_
        refine A_if_neB (tgt := 11) d_N_land_6 (by decide) (fun c_6 => ?_) (fun c => absurd c (by decide))
        refine A_aload_n0 d_N_land_11 ?_
        refine A_getf (kf := 0) d_N_land_12 hN.o ok_7 (by decide) q_368 rfl ?_
        refine A_getf (kf := 5) d_N_land_15 hN.a.o ok_6 (by decide) q_203 rfl ?_
        refine A_iload_n1 d_N_land_18 ?_
        refine A_aaldN d_N_land_19 hN.a.lands rfl rfl ⟨by omega, by decide⟩ (show va_rf (two (n + 1 + 12) (n + 1 + 29) l) = .ref (n + 1 + 12 + 17 * l) by rw [two_at rfl (by omega)]; rfl) ?_
        refine A_astore3 d_N_land_20 trivial ?_
        refine A_iload_n2 d_N_land_21 ?_
        refine A_bipush (v := nI 10) d_N_land_22 (by decide) ?_
        first | refine A_icmp_ltN (tgt := 48) d_N_land_24 (by decide) (by with_reducible rfl) (by with_reducible rfl) (by omega) (by omega) (fun c_24 => ?_) (fun c_24 => ?_) | refine A_icmp_lt (tgt := 48) d_N_land_24 (by decide) (fun c_24 => ?_) (fun c_24 => ?_)
        · refine A_iload_n2 d_N_land_48 ?_
          refine A_bipush (v := nI 50) d_N_land_49 (by decide) ?_
          first | refine A_icmp_ltN (tgt := 75) d_N_land_51 (by decide) (by with_reducible rfl) (by with_reducible rfl) (by omega) (by omega) (fun c_51 => ?_) (fun c_51 => ?_) | refine A_icmp_lt (tgt := 75) d_N_land_51 (by decide) (fun c_51 => ?_) (fun c_51 => ?_)
          · refine A_iload_n2 d_N_land_75 ?_
            refine A_bipush (v := nI 60) d_N_land_76 (by decide) ?_
            first | refine A_icmp_ltN (tgt := 102) d_N_land_78 (by decide) (by with_reducible rfl) (by with_reducible rfl) (by omega) (by omega) (fun c_78 => ?_) (fun c_78 => ?_) | refine A_icmp_lt (tgt := 102) d_N_land_78 (by decide) (fun c_78 => ?_) (fun c_78 => ?_)
            · refine A_iload_n2 d_N_land_102 ?_
              refine A_tableOut (tgt := 170) d_N_land_103 swo (by decide) ?_
              refine A_iconst (v := (-1)) d_N_land_170 (by decide) ?_
              refine A_iret d_N_land_171 rfl ⟨Nat.zero_le _, Nat.zero_le _⟩ ?_
              first | (exfalso; omega) | exact pu (by
                unfold landV
                rw [rg_out hro, rgN hj (by decide) (by omega), rgN hj (by decide) (by omega), rgN hj (by decide) (by omega)]
                repeat (first | rw [if_pos (by omega)] | rw [if_neg (by omega)]))
            · refine A_iload_n2 d_N_land_81 ?_
              refine A_bipush (v := nI 60) d_N_land_82 (by decide) ?_
              refine A_aload_n3 d_N_land_84 ?_
              refine A_getf (kf := 9) d_N_land_85 hA.o ok_1 (by decide) q_78 rfl ?_
              refine A_topI f9 ?_
              first | refine A_iaddN d_N_land_88 (by with_reducible rfl) (by with_reducible rfl) ?_ | refine A_iadd d_N_land_88 ?_
              first | refine A_icmp_geN (tgt := 102) d_N_land_89 (by decide) (by with_reducible rfl) (by with_reducible rfl) (by omega) (by omega) (fun c_89 => ?_) (fun c_89 => ?_) | refine A_icmp_ge (tgt := 102) d_N_land_89 (by decide) (fun c_89 => ?_) (fun c_89 => ?_)
              · refine A_iload_n2 d_N_land_102 ?_
                refine A_tableOut (tgt := 170) d_N_land_103 swo (by decide) ?_
                refine A_iconst (v := (-1)) d_N_land_170 (by decide) ?_
                refine A_iret d_N_land_171 rfl ⟨Nat.zero_le _, Nat.zero_le _⟩ ?_
                first | (exfalso; omega) | exact pu (by
                  unfold landV
                  rw [rg_out hro, rgN hj (by decide) (by omega), rgN hj (by decide) (by omega), rgN hj (by decide) (by omega)]
                  repeat (first | rw [if_pos (by omega)] | rw [if_neg (by omega)]))
              · refine A_aload_n3 d_N_land_92 ?_
                refine A_getf (kf := 11) d_N_land_93 hA.o ok_1 (by decide) q_84 rfl ?_
                refine A_iload_n2 d_N_land_96 ?_
                refine A_bipush (v := nI 60) d_N_land_97 (by decide) ?_
                first | refine A_isubN d_N_land_99 (by with_reducible rfl) (by with_reducible rfl) (by omega) ?_ | refine A_isub d_N_land_99 ?_
                refine A_ialdN d_N_land_100 hA.a11 ⟨by omega, by decide⟩ ?_
                refine A_topI (hBe (j - 60) (by omega)).2 ?_
                refine A_iret d_N_land_101 rfl ⟨Nat.zero_le _, Nat.zero_le _⟩ ?_
                first | (exfalso; omega) | exact pu (by
                  unfold landV
                  rw [rg_out hro, rgN hj (by decide) (by omega), rgN hj (by decide) (by omega), rgN hj (by decide) (by omega)]
                  repeat (first | rw [if_pos (by omega)] | rw [if_neg (by omega)]))
          · refine A_iload_n2 d_N_land_54 ?_
            refine A_bipush (v := nI 50) d_N_land_55 (by decide) ?_
            refine A_aload_n3 d_N_land_57 ?_
            refine A_getf (kf := 9) d_N_land_58 hA.o ok_1 (by decide) q_78 rfl ?_
            refine A_topI f9 ?_
            first | refine A_iaddN d_N_land_61 (by with_reducible rfl) (by with_reducible rfl) ?_ | refine A_iadd d_N_land_61 ?_
            first | refine A_icmp_geN (tgt := 75) d_N_land_62 (by decide) (by with_reducible rfl) (by with_reducible rfl) (by omega) (by omega) (fun c_62 => ?_) (fun c_62 => ?_) | refine A_icmp_ge (tgt := 75) d_N_land_62 (by decide) (fun c_62 => ?_) (fun c_62 => ?_)
            · refine A_iload_n2 d_N_land_75 ?_
              refine A_bipush (v := nI 60) d_N_land_76 (by decide) ?_
              first | refine A_icmp_ltN (tgt := 102) d_N_land_78 (by decide) (by with_reducible rfl) (by with_reducible rfl) (by omega) (by omega) (fun c_78 => ?_) (fun c_78 => ?_) | refine A_icmp_lt (tgt := 102) d_N_land_78 (by decide) (fun c_78 => ?_) (fun c_78 => ?_)
              · refine A_iload_n2 d_N_land_102 ?_
                refine A_tableOut (tgt := 170) d_N_land_103 swo (by decide) ?_
                refine A_iconst (v := (-1)) d_N_land_170 (by decide) ?_
                refine A_iret d_N_land_171 rfl ⟨Nat.zero_le _, Nat.zero_le _⟩ ?_
                first | (exfalso; omega) | exact pu (by
                  unfold landV
                  rw [rg_out hro, rgN hj (by decide) (by omega), rgN hj (by decide) (by omega), rgN hj (by decide) (by omega)]
                  repeat (first | rw [if_pos (by omega)] | rw [if_neg (by omega)]))
              · refine A_iload_n2 d_N_land_81 ?_
                refine A_bipush (v := nI 60) d_N_land_82 (by decide) ?_
                refine A_aload_n3 d_N_land_84 ?_
                refine A_getf (kf := 9) d_N_land_85 hA.o ok_1 (by decide) q_78 rfl ?_
                refine A_topI f9 ?_
                first | refine A_iaddN d_N_land_88 (by with_reducible rfl) (by with_reducible rfl) ?_ | refine A_iadd d_N_land_88 ?_
                first | refine A_icmp_geN (tgt := 102) d_N_land_89 (by decide) (by with_reducible rfl) (by with_reducible rfl) (by omega) (by omega) (fun c_89 => ?_) (fun c_89 => ?_) | refine A_icmp_ge (tgt := 102) d_N_land_89 (by decide) (fun c_89 => ?_) (fun c_89 => ?_)
                · refine A_iload_n2 d_N_land_102 ?_
                  refine A_tableOut (tgt := 170) d_N_land_103 swo (by decide) ?_
                  refine A_iconst (v := (-1)) d_N_land_170 (by decide) ?_
                  refine A_iret d_N_land_171 rfl ⟨Nat.zero_le _, Nat.zero_le _⟩ ?_
                  first | (exfalso; omega) | exact pu (by
                    unfold landV
                    rw [rg_out hro, rgN hj (by decide) (by omega), rgN hj (by decide) (by omega), rgN hj (by decide) (by omega)]
                    repeat (first | rw [if_pos (by omega)] | rw [if_neg (by omega)]))
                · refine A_aload_n3 d_N_land_92 ?_
                  refine A_getf (kf := 11) d_N_land_93 hA.o ok_1 (by decide) q_84 rfl ?_
                  refine A_iload_n2 d_N_land_96 ?_
                  refine A_bipush (v := nI 60) d_N_land_97 (by decide) ?_
                  first | refine A_isubN d_N_land_99 (by with_reducible rfl) (by with_reducible rfl) (by omega) ?_ | refine A_isub d_N_land_99 ?_
                  refine A_ialdN d_N_land_100 hA.a11 ⟨by omega, by decide⟩ ?_
                  refine A_topI (hBe (j - 60) (by omega)).2 ?_
                  refine A_iret d_N_land_101 rfl ⟨Nat.zero_le _, Nat.zero_le _⟩ ?_
                  first | (exfalso; omega) | exact pu (by
                    unfold landV
                    rw [rg_out hro, rgN hj (by decide) (by omega), rgN hj (by decide) (by omega), rgN hj (by decide) (by omega)]
                    repeat (first | rw [if_pos (by omega)] | rw [if_neg (by omega)]))
            · refine A_aload_n3 d_N_land_65 ?_
              refine A_getf (kf := 10) d_N_land_66 hA.o ok_1 (by decide) q_81 rfl ?_
              refine A_iload_n2 d_N_land_69 ?_
              refine A_bipush (v := nI 50) d_N_land_70 (by decide) ?_
              first | refine A_isubN d_N_land_72 (by with_reducible rfl) (by with_reducible rfl) (by omega) ?_ | refine A_isub d_N_land_72 ?_
              refine A_ialdN d_N_land_73 hA.a10 ⟨by omega, by decide⟩ ?_
              refine A_topI (hBe (j - 50) (by omega)).1 ?_
              refine A_iret d_N_land_74 rfl ⟨Nat.zero_le _, Nat.zero_le _⟩ ?_
              first | (exfalso; omega) | exact pu (by
                unfold landV
                rw [rg_out hro, rgN hj (by decide) (by omega), rgN hj (by decide) (by omega), rgN hj (by decide) (by omega)]
                repeat (first | rw [if_pos (by omega)] | rw [if_neg (by omega)]))
        · refine A_iload_n2 d_N_land_27 ?_
          refine A_bipush (v := nI 10) d_N_land_28 (by decide) ?_
          refine A_aload_n3 d_N_land_30 ?_
          refine A_getf (kf := 0) d_N_land_31 hA.o ok_1 (by decide) q_49 rfl ?_
          refine A_topI f0 ?_
          first | refine A_iaddN d_N_land_34 (by with_reducible rfl) (by with_reducible rfl) ?_ | refine A_iadd d_N_land_34 ?_
          first | refine A_icmp_geN (tgt := 48) d_N_land_35 (by decide) (by with_reducible rfl) (by with_reducible rfl) (by omega) (by omega) (fun c_35 => ?_) (fun c_35 => ?_) | refine A_icmp_ge (tgt := 48) d_N_land_35 (by decide) (fun c_35 => ?_) (fun c_35 => ?_)
          · refine A_iload_n2 d_N_land_48 ?_
            refine A_bipush (v := nI 50) d_N_land_49 (by decide) ?_
            first | refine A_icmp_ltN (tgt := 75) d_N_land_51 (by decide) (by with_reducible rfl) (by with_reducible rfl) (by omega) (by omega) (fun c_51 => ?_) (fun c_51 => ?_) | refine A_icmp_lt (tgt := 75) d_N_land_51 (by decide) (fun c_51 => ?_) (fun c_51 => ?_)
            · refine A_iload_n2 d_N_land_75 ?_
              refine A_bipush (v := nI 60) d_N_land_76 (by decide) ?_
              first | refine A_icmp_ltN (tgt := 102) d_N_land_78 (by decide) (by with_reducible rfl) (by with_reducible rfl) (by omega) (by omega) (fun c_78 => ?_) (fun c_78 => ?_) | refine A_icmp_lt (tgt := 102) d_N_land_78 (by decide) (fun c_78 => ?_) (fun c_78 => ?_)
              · refine A_iload_n2 d_N_land_102 ?_
                refine A_tableOut (tgt := 170) d_N_land_103 swo (by decide) ?_
                refine A_iconst (v := (-1)) d_N_land_170 (by decide) ?_
                refine A_iret d_N_land_171 rfl ⟨Nat.zero_le _, Nat.zero_le _⟩ ?_
                first | (exfalso; omega) | exact pu (by
                  unfold landV
                  rw [rg_out hro, rgN hj (by decide) (by omega), rgN hj (by decide) (by omega), rgN hj (by decide) (by omega)]
                  repeat (first | rw [if_pos (by omega)] | rw [if_neg (by omega)]))
              · refine A_iload_n2 d_N_land_81 ?_
                refine A_bipush (v := nI 60) d_N_land_82 (by decide) ?_
                refine A_aload_n3 d_N_land_84 ?_
                refine A_getf (kf := 9) d_N_land_85 hA.o ok_1 (by decide) q_78 rfl ?_
                refine A_topI f9 ?_
                first | refine A_iaddN d_N_land_88 (by with_reducible rfl) (by with_reducible rfl) ?_ | refine A_iadd d_N_land_88 ?_
                first | refine A_icmp_geN (tgt := 102) d_N_land_89 (by decide) (by with_reducible rfl) (by with_reducible rfl) (by omega) (by omega) (fun c_89 => ?_) (fun c_89 => ?_) | refine A_icmp_ge (tgt := 102) d_N_land_89 (by decide) (fun c_89 => ?_) (fun c_89 => ?_)
                · refine A_iload_n2 d_N_land_102 ?_
                  refine A_tableOut (tgt := 170) d_N_land_103 swo (by decide) ?_
                  refine A_iconst (v := (-1)) d_N_land_170 (by decide) ?_
                  refine A_iret d_N_land_171 rfl ⟨Nat.zero_le _, Nat.zero_le _⟩ ?_
                  first | (exfalso; omega) | exact pu (by
                    unfold landV
                    rw [rg_out hro, rgN hj (by decide) (by omega), rgN hj (by decide) (by omega), rgN hj (by decide) (by omega)]
                    repeat (first | rw [if_pos (by omega)] | rw [if_neg (by omega)]))
                · refine A_aload_n3 d_N_land_92 ?_
                  refine A_getf (kf := 11) d_N_land_93 hA.o ok_1 (by decide) q_84 rfl ?_
                  refine A_iload_n2 d_N_land_96 ?_
                  refine A_bipush (v := nI 60) d_N_land_97 (by decide) ?_
                  first | refine A_isubN d_N_land_99 (by with_reducible rfl) (by with_reducible rfl) (by omega) ?_ | refine A_isub d_N_land_99 ?_
                  refine A_ialdN d_N_land_100 hA.a11 ⟨by omega, by decide⟩ ?_
                  refine A_topI (hBe (j - 60) (by omega)).2 ?_
                  refine A_iret d_N_land_101 rfl ⟨Nat.zero_le _, Nat.zero_le _⟩ ?_
                  first | (exfalso; omega) | exact pu (by
                    unfold landV
                    rw [rg_out hro, rgN hj (by decide) (by omega), rgN hj (by decide) (by omega), rgN hj (by decide) (by omega)]
                    repeat (first | rw [if_pos (by omega)] | rw [if_neg (by omega)]))
            · refine A_iload_n2 d_N_land_54 ?_
              refine A_bipush (v := nI 50) d_N_land_55 (by decide) ?_
              refine A_aload_n3 d_N_land_57 ?_
              refine A_getf (kf := 9) d_N_land_58 hA.o ok_1 (by decide) q_78 rfl ?_
              refine A_topI f9 ?_
              first | refine A_iaddN d_N_land_61 (by with_reducible rfl) (by with_reducible rfl) ?_ | refine A_iadd d_N_land_61 ?_
              first | refine A_icmp_geN (tgt := 75) d_N_land_62 (by decide) (by with_reducible rfl) (by with_reducible rfl) (by omega) (by omega) (fun c_62 => ?_) (fun c_62 => ?_) | refine A_icmp_ge (tgt := 75) d_N_land_62 (by decide) (fun c_62 => ?_) (fun c_62 => ?_)
              · refine A_iload_n2 d_N_land_75 ?_
                refine A_bipush (v := nI 60) d_N_land_76 (by decide) ?_
                first | refine A_icmp_ltN (tgt := 102) d_N_land_78 (by decide) (by with_reducible rfl) (by with_reducible rfl) (by omega) (by omega) (fun c_78 => ?_) (fun c_78 => ?_) | refine A_icmp_lt (tgt := 102) d_N_land_78 (by decide) (fun c_78 => ?_) (fun c_78 => ?_)
                · refine A_iload_n2 d_N_land_102 ?_
                  refine A_tableOut (tgt := 170) d_N_land_103 swo (by decide) ?_
                  refine A_iconst (v := (-1)) d_N_land_170 (by decide) ?_
                  refine A_iret d_N_land_171 rfl ⟨Nat.zero_le _, Nat.zero_le _⟩ ?_
                  first | (exfalso; omega) | exact pu (by
                    unfold landV
                    rw [rg_out hro, rgN hj (by decide) (by omega), rgN hj (by decide) (by omega), rgN hj (by decide) (by omega)]
                    repeat (first | rw [if_pos (by omega)] | rw [if_neg (by omega)]))
                · refine A_iload_n2 d_N_land_81 ?_
                  refine A_bipush (v := nI 60) d_N_land_82 (by decide) ?_
                  refine A_aload_n3 d_N_land_84 ?_
                  refine A_getf (kf := 9) d_N_land_85 hA.o ok_1 (by decide) q_78 rfl ?_
                  refine A_topI f9 ?_
                  first | refine A_iaddN d_N_land_88 (by with_reducible rfl) (by with_reducible rfl) ?_ | refine A_iadd d_N_land_88 ?_
                  first | refine A_icmp_geN (tgt := 102) d_N_land_89 (by decide) (by with_reducible rfl) (by with_reducible rfl) (by omega) (by omega) (fun c_89 => ?_) (fun c_89 => ?_) | refine A_icmp_ge (tgt := 102) d_N_land_89 (by decide) (fun c_89 => ?_) (fun c_89 => ?_)
                  · refine A_iload_n2 d_N_land_102 ?_
                    refine A_tableOut (tgt := 170) d_N_land_103 swo (by decide) ?_
                    refine A_iconst (v := (-1)) d_N_land_170 (by decide) ?_
                    refine A_iret d_N_land_171 rfl ⟨Nat.zero_le _, Nat.zero_le _⟩ ?_
                    first | (exfalso; omega) | exact pu (by
                      unfold landV
                      rw [rg_out hro, rgN hj (by decide) (by omega), rgN hj (by decide) (by omega), rgN hj (by decide) (by omega)]
                      repeat (first | rw [if_pos (by omega)] | rw [if_neg (by omega)]))
                  · refine A_aload_n3 d_N_land_92 ?_
                    refine A_getf (kf := 11) d_N_land_93 hA.o ok_1 (by decide) q_84 rfl ?_
                    refine A_iload_n2 d_N_land_96 ?_
                    refine A_bipush (v := nI 60) d_N_land_97 (by decide) ?_
                    first | refine A_isubN d_N_land_99 (by with_reducible rfl) (by with_reducible rfl) (by omega) ?_ | refine A_isub d_N_land_99 ?_
                    refine A_ialdN d_N_land_100 hA.a11 ⟨by omega, by decide⟩ ?_
                    refine A_topI (hBe (j - 60) (by omega)).2 ?_
                    refine A_iret d_N_land_101 rfl ⟨Nat.zero_le _, Nat.zero_le _⟩ ?_
                    first | (exfalso; omega) | exact pu (by
                      unfold landV
                      rw [rg_out hro, rgN hj (by decide) (by omega), rgN hj (by decide) (by omega), rgN hj (by decide) (by omega)]
                      repeat (first | rw [if_pos (by omega)] | rw [if_neg (by omega)]))
              · refine A_aload_n3 d_N_land_65 ?_
                refine A_getf (kf := 10) d_N_land_66 hA.o ok_1 (by decide) q_81 rfl ?_
                refine A_iload_n2 d_N_land_69 ?_
                refine A_bipush (v := nI 50) d_N_land_70 (by decide) ?_
                first | refine A_isubN d_N_land_72 (by with_reducible rfl) (by with_reducible rfl) (by omega) ?_ | refine A_isub d_N_land_72 ?_
                refine A_ialdN d_N_land_73 hA.a10 ⟨by omega, by decide⟩ ?_
                refine A_topI (hBe (j - 50) (by omega)).1 ?_
                refine A_iret d_N_land_74 rfl ⟨Nat.zero_le _, Nat.zero_le _⟩ ?_
                first | (exfalso; omega) | exact pu (by
                  unfold landV
                  rw [rg_out hro, rgN hj (by decide) (by omega), rgN hj (by decide) (by omega), rgN hj (by decide) (by omega)]
                  repeat (first | rw [if_pos (by omega)] | rw [if_neg (by omega)]))
          · refine A_aload_n3 d_N_land_38 ?_
            refine A_getf (kf := 12) d_N_land_39 hA.o ok_1 (by decide) q_87 rfl ?_
            refine A_iload_n2 d_N_land_42 ?_
            refine A_bipush (v := nI 10) d_N_land_43 (by decide) ?_
            first | refine A_isubN d_N_land_45 (by with_reducible rfl) (by with_reducible rfl) (by omega) ?_ | refine A_isub d_N_land_45 ?_
            refine A_ialdN d_N_land_46 hA.a12 ⟨by omega, by decide⟩ ?_
            refine A_topI (hTo (j - 10) (by omega)) ?_
            refine A_iret d_N_land_47 rfl ⟨Nat.zero_le _, Nat.zero_le _⟩ ?_
            first | (exfalso; omega) | exact pu (by
              unfold landV
              rw [rg_out hro, rgN hj (by decide) (by omega), rgN hj (by decide) (by omega), rgN hj (by decide) (by omega)]
              repeat (first | rw [if_pos (by omega)] | rw [if_neg (by omega)]))
  · rw [pick_out hno]
    refine A_aload_n0 d_N_land_0 ?_
    refine A_iconst (v := nI 0) d_N_land_1 (by decide) ?_
    refine A_iload_n1 d_N_land_2 ?_
    refine A_callVP d_N_land_3 (c_N_isToldF hN (by decide) hno) hN.o rfl q_644 q_646 qs_2 mk_N_isTold rfl (by decide) rfl (Nat.le_of_ble_eq_true rfl) ⟨Nat.le_of_ble_eq_true rfl, Nat.le_of_ble_eq_true rfl⟩ ⟨rfl, rfl⟩ ?_
    refine A_if_neB (tgt := 11) d_N_land_6 (by decide) (fun c => absurd c (by decide)) (fun c_6 => ?_)
    refine A_iconst (v := (-1)) d_N_land_9 (by decide) ?_
    refine A_iret d_N_land_10 rfl ⟨Nat.zero_le _, Nat.zero_le _⟩ ?_
    exact pu rfl
theorem c_Ld_hasPersonT {G : GE} {h : AH} {a : Nat} {D : LD} (hA : LAt h a D) {V : Nat → Nat} (hV : LVr D V) {p : Nat} (hp : p < V 4) : Ctr G y_Ld_hasPerson b_Ld_hasPerson 2 (some .boolean) r_Ld_hasPerson [.ref a, .int (nI p)] h (Pu (.int (bI true)) h) := by
  have := c_Ld_hasPerson (G := G) hA hV (nI p)
  rw [inB_nI hp (by have := hV.1.2.2.2.2.1; omega)] at this
  exact this
theorem c_Ld_hasPersonF {G : GE} {h : AH} {a : Nat} {D : LD} (hA : LAt h a D) {V : Nat → Nat} (hV : LVr D V) {x : Int32} (hp : inB x (nI 0) (nI (V 4) - nI 1) = false) : Ctr G y_Ld_hasPerson b_Ld_hasPerson 2 (some .boolean) r_Ld_hasPerson [.ref a, .int x] h (Pu (.int (bI false)) h) := by
  have := c_Ld_hasPerson (G := G) hA hV x
  rw [hp] at this
  exact this
set_option maxHeartbeats 4000000 in
set_option maxRecDepth 100000 in
theorem c_N_person {G : GE} {h : AH} {n : Nat} {W : TD} {c : Nat → Nat} {VL WT BK SG GM : Nat → Nat → Nat} (hN : NT h n W c VL WT BK SG GM) (la pa x : Int32) : Ctr G y_N_person b_N_person 5 (some .int) r_N_person [.ref n, .int la, .int pa, .int x] h (Pu (.int (pick (c 0) la (fun k => pick (VL k 4) pa (fun p => personV (VL k) p x) (-1)) (-1))) h) := by
  refine Ctr.of (by decide +kernel) (by simp) (Nat.le_of_ble_eq_true rfl) (L0 := [some (.ref n), some (.int la), some (.int pa), some (.int x), none]) rfl ?_
  have hc0 := (hN.r.n 0 (by decide)).2
  rcases told_c (n := c 0) (by omega) la with ⟨l, hl, rfl⟩ | hno
  · rw [pick_in hl (by omega)]
    have hA := hN.a.l l (by omega)
    have hV := hN.r.l l hl
    have hV0 := hV
    obtain ⟨ok, ⟨f0, f1, f2, f3, f4, f9⟩, hP, hBe, hTo⟩ := hV
    have hH := ok.1
    have h4 := ok.2.2.2.2.1
    have h5 := ok.2.2.2.2.2.1
    rcases told_c (n := VL l 4) (by omega) pa with ⟨p, hp, rfl⟩ | hnp
    · rw [pick_in hp (by omega)]
      rcases tsw (x := x) (lo := 0) (hi := 2) (by decide) with ⟨kk, rfl, -, hkb⟩ | ⟨hro, swo⟩
      · rcases (show kk = 0 ∨ kk = 1 ∨ kk = 2 by omega) with rfl | rfl | rfl
        · refine A_aload_n0 d_N_person_0 ?_
          refine A_iconst (v := nI 0) d_N_person_1 (by decide) ?_
          refine A_iload_n1 d_N_person_2 ?_
          refine A_callVP d_N_person_3 (c_N_isToldT hN (by decide) hl) hN.o rfl q_644 q_646 qs_2 mk_N_isTold rfl (by decide) rfl (Nat.le_of_ble_eq_true rfl) ⟨Nat.le_of_ble_eq_true rfl, Nat.le_of_ble_eq_true rfl⟩ ⟨rfl, rfl⟩ ?_
          refine A_if_eqB (tgt := 25) d_N_person_6 (by decide) (fun c => absurd c (by decide)) (fun c_6 => ?_)
          refine A_aload_n0 d_N_person_9 ?_
          refine A_getf (kf := 0) d_N_person_10 hN.o ok_7 (by decide) q_368 rfl ?_
          refine A_getf (kf := 5) d_N_person_13 hN.a.o ok_6 (by decide) q_203 rfl ?_
          refine A_iload_n1 d_N_person_16 ?_
          refine A_aaldN d_N_person_17 hN.a.lands rfl rfl ⟨by omega, by decide⟩ (show va_rf (two (n + 1 + 12) (n + 1 + 29) l) = .ref (n + 1 + 12 + 17 * l) by rw [two_at rfl (by omega)]; rfl) ?_
          refine A_iload_n2 d_N_person_18 ?_
          refine A_callVP d_N_person_19 (c_Ld_hasPersonT hA hV0 hp) hA.o rfl q_652 q_653 q_654 mk_Ld_hasPerson rfl (by decide) rfl (Nat.le_of_ble_eq_true rfl) ⟨Nat.le_of_ble_eq_true rfl, Nat.le_of_ble_eq_true rfl⟩ ⟨rfl, rfl⟩ ?_
          refine A_if_neB (tgt := 27) d_N_person_22 (by decide) (fun c_22 => ?_) (fun c => absurd c (by decide))
          refine A_aload_n0 d_N_person_27 ?_
          refine A_getf (kf := 0) d_N_person_28 hN.o ok_7 (by decide) q_368 rfl ?_
          refine A_getf (kf := 5) d_N_person_31 hN.a.o ok_6 (by decide) q_203 rfl ?_
          refine A_iload_n1 d_N_person_34 ?_
          refine A_aaldN d_N_person_35 hN.a.lands rfl rfl ⟨by omega, by decide⟩ (show va_rf (two (n + 1 + 12) (n + 1 + 29) l) = .ref (n + 1 + 12 + 17 * l) by rw [two_at rfl (by omega)]; rfl) ?_
          refine A_astore4 d_N_person_36 trivial ?_
          refine A_iload_n3 d_N_person_38 ?_
          refine A_bipush (v := nI 10) d_N_person_39 (by decide) ?_
          first | refine A_icmp_ltN (tgt := 72) d_N_person_41 (by decide) (by with_reducible rfl) (by with_reducible rfl) (by omega) (by omega) (fun c_41 => ?_) (fun c_41 => ?_) | refine A_icmp_lt (tgt := 72) d_N_person_41 (by decide) (fun c_41 => ?_) (fun c_41 => ?_)
          · refine A_iload_n3 d_N_person_72 ?_
            refine A_tableIn (tgt := 100) d_N_person_73 (by decide) (by decide) rfl (by decide) ?_
            refine A_aload4 d_N_person_100 ?_
            refine A_getf (kf := 5) d_N_person_102 hA.o ok_1 (by decide) q_66 rfl ?_
            refine A_iload_n2 d_N_person_105 ?_
            refine A_ialdN d_N_person_106 hA.a5 ⟨by omega, by decide⟩ ?_
            refine A_topI (hP p hp).1 ?_
            refine A_iret d_N_person_107 rfl ⟨Nat.zero_le _, Nat.zero_le _⟩ ?_
            exact pu (by unfold personV; rw [rg_in ⟨by decide, by decide⟩ (by decide)])
          · exact absurd c_41 (by decide)
        · refine A_aload_n0 d_N_person_0 ?_
          refine A_iconst (v := nI 0) d_N_person_1 (by decide) ?_
          refine A_iload_n1 d_N_person_2 ?_
          refine A_callVP d_N_person_3 (c_N_isToldT hN (by decide) hl) hN.o rfl q_644 q_646 qs_2 mk_N_isTold rfl (by decide) rfl (Nat.le_of_ble_eq_true rfl) ⟨Nat.le_of_ble_eq_true rfl, Nat.le_of_ble_eq_true rfl⟩ ⟨rfl, rfl⟩ ?_
          refine A_if_eqB (tgt := 25) d_N_person_6 (by decide) (fun c => absurd c (by decide)) (fun c_6 => ?_)
          refine A_aload_n0 d_N_person_9 ?_
          refine A_getf (kf := 0) d_N_person_10 hN.o ok_7 (by decide) q_368 rfl ?_
          refine A_getf (kf := 5) d_N_person_13 hN.a.o ok_6 (by decide) q_203 rfl ?_
          refine A_iload_n1 d_N_person_16 ?_
          refine A_aaldN d_N_person_17 hN.a.lands rfl rfl ⟨by omega, by decide⟩ (show va_rf (two (n + 1 + 12) (n + 1 + 29) l) = .ref (n + 1 + 12 + 17 * l) by rw [two_at rfl (by omega)]; rfl) ?_
          refine A_iload_n2 d_N_person_18 ?_
          refine A_callVP d_N_person_19 (c_Ld_hasPersonT hA hV0 hp) hA.o rfl q_652 q_653 q_654 mk_Ld_hasPerson rfl (by decide) rfl (Nat.le_of_ble_eq_true rfl) ⟨Nat.le_of_ble_eq_true rfl, Nat.le_of_ble_eq_true rfl⟩ ⟨rfl, rfl⟩ ?_
          refine A_if_neB (tgt := 27) d_N_person_22 (by decide) (fun c_22 => ?_) (fun c => absurd c (by decide))
          refine A_aload_n0 d_N_person_27 ?_
          refine A_getf (kf := 0) d_N_person_28 hN.o ok_7 (by decide) q_368 rfl ?_
          refine A_getf (kf := 5) d_N_person_31 hN.a.o ok_6 (by decide) q_203 rfl ?_
          refine A_iload_n1 d_N_person_34 ?_
          refine A_aaldN d_N_person_35 hN.a.lands rfl rfl ⟨by omega, by decide⟩ (show va_rf (two (n + 1 + 12) (n + 1 + 29) l) = .ref (n + 1 + 12 + 17 * l) by rw [two_at rfl (by omega)]; rfl) ?_
          refine A_astore4 d_N_person_36 trivial ?_
          refine A_iload_n3 d_N_person_38 ?_
          refine A_bipush (v := nI 10) d_N_person_39 (by decide) ?_
          first | refine A_icmp_ltN (tgt := 72) d_N_person_41 (by decide) (by with_reducible rfl) (by with_reducible rfl) (by omega) (by omega) (fun c_41 => ?_) (fun c_41 => ?_) | refine A_icmp_lt (tgt := 72) d_N_person_41 (by decide) (fun c_41 => ?_) (fun c_41 => ?_)
          · refine A_iload_n3 d_N_person_72 ?_
            refine A_tableIn (tgt := 108) d_N_person_73 (by decide) (by decide) rfl (by decide) ?_
            refine A_aload4 d_N_person_108 ?_
            refine A_getf (kf := 6) d_N_person_110 hA.o ok_1 (by decide) q_69 rfl ?_
            refine A_iload_n2 d_N_person_113 ?_
            refine A_ialdN d_N_person_114 hA.a6 ⟨by omega, by decide⟩ ?_
            refine A_topI (hP p hp).2.1 ?_
            refine A_iret d_N_person_115 rfl ⟨Nat.zero_le _, Nat.zero_le _⟩ ?_
            exact pu (by unfold personV; rw [rg_in ⟨by decide, by decide⟩ (by decide)])
          · exact absurd c_41 (by decide)
        · refine A_aload_n0 d_N_person_0 ?_
          refine A_iconst (v := nI 0) d_N_person_1 (by decide) ?_
          refine A_iload_n1 d_N_person_2 ?_
          refine A_callVP d_N_person_3 (c_N_isToldT hN (by decide) hl) hN.o rfl q_644 q_646 qs_2 mk_N_isTold rfl (by decide) rfl (Nat.le_of_ble_eq_true rfl) ⟨Nat.le_of_ble_eq_true rfl, Nat.le_of_ble_eq_true rfl⟩ ⟨rfl, rfl⟩ ?_
          refine A_if_eqB (tgt := 25) d_N_person_6 (by decide) (fun c => absurd c (by decide)) (fun c_6 => ?_)
          refine A_aload_n0 d_N_person_9 ?_
          refine A_getf (kf := 0) d_N_person_10 hN.o ok_7 (by decide) q_368 rfl ?_
          refine A_getf (kf := 5) d_N_person_13 hN.a.o ok_6 (by decide) q_203 rfl ?_
          refine A_iload_n1 d_N_person_16 ?_
          refine A_aaldN d_N_person_17 hN.a.lands rfl rfl ⟨by omega, by decide⟩ (show va_rf (two (n + 1 + 12) (n + 1 + 29) l) = .ref (n + 1 + 12 + 17 * l) by rw [two_at rfl (by omega)]; rfl) ?_
          refine A_iload_n2 d_N_person_18 ?_
          refine A_callVP d_N_person_19 (c_Ld_hasPersonT hA hV0 hp) hA.o rfl q_652 q_653 q_654 mk_Ld_hasPerson rfl (by decide) rfl (Nat.le_of_ble_eq_true rfl) ⟨Nat.le_of_ble_eq_true rfl, Nat.le_of_ble_eq_true rfl⟩ ⟨rfl, rfl⟩ ?_
          refine A_if_neB (tgt := 27) d_N_person_22 (by decide) (fun c_22 => ?_) (fun c => absurd c (by decide))
          refine A_aload_n0 d_N_person_27 ?_
          refine A_getf (kf := 0) d_N_person_28 hN.o ok_7 (by decide) q_368 rfl ?_
          refine A_getf (kf := 5) d_N_person_31 hN.a.o ok_6 (by decide) q_203 rfl ?_
          refine A_iload_n1 d_N_person_34 ?_
          refine A_aaldN d_N_person_35 hN.a.lands rfl rfl ⟨by omega, by decide⟩ (show va_rf (two (n + 1 + 12) (n + 1 + 29) l) = .ref (n + 1 + 12 + 17 * l) by rw [two_at rfl (by omega)]; rfl) ?_
          refine A_astore4 d_N_person_36 trivial ?_
          refine A_iload_n3 d_N_person_38 ?_
          refine A_bipush (v := nI 10) d_N_person_39 (by decide) ?_
          first | refine A_icmp_ltN (tgt := 72) d_N_person_41 (by decide) (by with_reducible rfl) (by with_reducible rfl) (by omega) (by omega) (fun c_41 => ?_) (fun c_41 => ?_) | refine A_icmp_lt (tgt := 72) d_N_person_41 (by decide) (fun c_41 => ?_) (fun c_41 => ?_)
          · refine A_iload_n3 d_N_person_72 ?_
            refine A_tableIn (tgt := 116) d_N_person_73 (by decide) (by decide) rfl (by decide) ?_
            refine A_aload4 d_N_person_116 ?_
            refine A_getf (kf := 7) d_N_person_118 hA.o ok_1 (by decide) q_72 rfl ?_
            refine A_iload_n2 d_N_person_121 ?_
            refine A_ialdN d_N_person_122 hA.a7 ⟨by omega, by decide⟩ ?_
            refine A_topI (hP p hp).2.2.1 ?_
            refine A_iret d_N_person_123 rfl ⟨Nat.zero_le _, Nat.zero_le _⟩ ?_
            exact pu (by unfold personV; rw [rg_in ⟨by decide, by decide⟩ (by decide)])
          · exact absurd c_41 (by decide)
      · by_cases hx : x < 0
        · refine A_aload_n0 d_N_person_0 ?_
          refine A_iconst (v := nI 0) d_N_person_1 (by decide) ?_
          refine A_iload_n1 d_N_person_2 ?_
          refine A_callVP d_N_person_3 (c_N_isToldT hN (by decide) hl) hN.o rfl q_644 q_646 qs_2 mk_N_isTold rfl (by decide) rfl (Nat.le_of_ble_eq_true rfl) ⟨Nat.le_of_ble_eq_true rfl, Nat.le_of_ble_eq_true rfl⟩ ⟨rfl, rfl⟩ ?_
          refine A_if_eqB (tgt := 25) d_N_person_6 (by decide) (fun c => absurd c (by decide)) (fun c_6 => ?_)
          refine A_aload_n0 d_N_person_9 ?_
          refine A_getf (kf := 0) d_N_person_10 hN.o ok_7 (by decide) q_368 rfl ?_
          refine A_getf (kf := 5) d_N_person_13 hN.a.o ok_6 (by decide) q_203 rfl ?_
          refine A_iload_n1 d_N_person_16 ?_
          refine A_aaldN d_N_person_17 hN.a.lands rfl rfl ⟨by omega, by decide⟩ (show va_rf (two (n + 1 + 12) (n + 1 + 29) l) = .ref (n + 1 + 12 + 17 * l) by rw [two_at rfl (by omega)]; rfl) ?_
          refine A_iload_n2 d_N_person_18 ?_
          refine A_callVP d_N_person_19 (c_Ld_hasPersonT hA hV0 hp) hA.o rfl q_652 q_653 q_654 mk_Ld_hasPerson rfl (by decide) rfl (Nat.le_of_ble_eq_true rfl) ⟨Nat.le_of_ble_eq_true rfl, Nat.le_of_ble_eq_true rfl⟩ ⟨rfl, rfl⟩ ?_
          refine A_if_neB (tgt := 27) d_N_person_22 (by decide) (fun c_22 => ?_) (fun c => absurd c (by decide))
          refine A_aload_n0 d_N_person_27 ?_
          refine A_getf (kf := 0) d_N_person_28 hN.o ok_7 (by decide) q_368 rfl ?_
          refine A_getf (kf := 5) d_N_person_31 hN.a.o ok_6 (by decide) q_203 rfl ?_
          refine A_iload_n1 d_N_person_34 ?_
          refine A_aaldN d_N_person_35 hN.a.lands rfl rfl ⟨by omega, by decide⟩ (show va_rf (two (n + 1 + 12) (n + 1 + 29) l) = .ref (n + 1 + 12 + 17 * l) by rw [two_at rfl (by omega)]; rfl) ?_
          refine A_astore4 d_N_person_36 trivial ?_
          refine A_iload_n3 d_N_person_38 ?_
          refine A_bipush (v := nI 10) d_N_person_39 (by decide) ?_
          first | refine A_icmp_ltN (tgt := 72) d_N_person_41 (by decide) (by with_reducible rfl) (by with_reducible rfl) (by omega) (by omega) (fun c_41 => ?_) (fun c_41 => ?_) | refine A_icmp_lt (tgt := 72) d_N_person_41 (by decide) (fun c_41 => ?_) (fun c_41 => ?_)
          · refine A_iload_n3 d_N_person_72 ?_
            refine A_tableOut (tgt := 124) d_N_person_73 swo (by decide) ?_
            refine A_iconst (v := (-1)) d_N_person_124 (by decide) ?_
            refine A_iret d_N_person_125 rfl ⟨Nat.zero_le _, Nat.zero_le _⟩ ?_
            exact pu (by unfold personV; rw [rg_neg hx (by decide), rg_neg hx (by decide)])
          · exact absurd (neg_lt hx (by decide)) c_41
        · obtain ⟨j, hj, rfl⟩ := nI_of hx
          refine A_aload_n0 d_N_person_0 ?_
          refine A_iconst (v := nI 0) d_N_person_1 (by decide) ?_
          refine A_iload_n1 d_N_person_2 ?_
          refine A_callVP d_N_person_3 (c_N_isToldT hN (by decide) hl) hN.o rfl q_644 q_646 qs_2 mk_N_isTold rfl (by decide) rfl (Nat.le_of_ble_eq_true rfl) ⟨Nat.le_of_ble_eq_true rfl, Nat.le_of_ble_eq_true rfl⟩ ⟨rfl, rfl⟩ ?_
          refine A_if_eqB (tgt := 25) d_N_person_6 (by decide) (fun c => absurd c (by decide)) (fun c_6 => ?_)
          refine A_aload_n0 d_N_person_9 ?_
          refine A_getf (kf := 0) d_N_person_10 hN.o ok_7 (by decide) q_368 rfl ?_
          refine A_getf (kf := 5) d_N_person_13 hN.a.o ok_6 (by decide) q_203 rfl ?_
          refine A_iload_n1 d_N_person_16 ?_
          refine A_aaldN d_N_person_17 hN.a.lands rfl rfl ⟨by omega, by decide⟩ (show va_rf (two (n + 1 + 12) (n + 1 + 29) l) = .ref (n + 1 + 12 + 17 * l) by rw [two_at rfl (by omega)]; rfl) ?_
          refine A_iload_n2 d_N_person_18 ?_
          refine A_callVP d_N_person_19 (c_Ld_hasPersonT hA hV0 hp) hA.o rfl q_652 q_653 q_654 mk_Ld_hasPerson rfl (by decide) rfl (Nat.le_of_ble_eq_true rfl) ⟨Nat.le_of_ble_eq_true rfl, Nat.le_of_ble_eq_true rfl⟩ ⟨rfl, rfl⟩ ?_
          refine A_if_neB (tgt := 27) d_N_person_22 (by decide) (fun c_22 => ?_) (fun c => absurd c (by decide))
          refine A_aload_n0 d_N_person_27 ?_
          refine A_getf (kf := 0) d_N_person_28 hN.o ok_7 (by decide) q_368 rfl ?_
          refine A_getf (kf := 5) d_N_person_31 hN.a.o ok_6 (by decide) q_203 rfl ?_
          refine A_iload_n1 d_N_person_34 ?_
          refine A_aaldN d_N_person_35 hN.a.lands rfl rfl ⟨by omega, by decide⟩ (show va_rf (two (n + 1 + 12) (n + 1 + 29) l) = .ref (n + 1 + 12 + 17 * l) by rw [two_at rfl (by omega)]; rfl) ?_
          refine A_astore4 d_N_person_36 trivial ?_
          refine A_iload_n3 d_N_person_38 ?_
          refine A_bipush (v := nI 10) d_N_person_39 (by decide) ?_
          first | refine A_icmp_ltN (tgt := 72) d_N_person_41 (by decide) (by with_reducible rfl) (by with_reducible rfl) (by omega) (by omega) (fun c_41 => ?_) (fun c_41 => ?_) | refine A_icmp_lt (tgt := 72) d_N_person_41 (by decide) (fun c_41 => ?_) (fun c_41 => ?_)
          · refine A_iload_n3 d_N_person_72 ?_
            refine A_tableOut (tgt := 124) d_N_person_73 swo (by decide) ?_
            refine A_iconst (v := (-1)) d_N_person_124 (by decide) ?_
            refine A_iret d_N_person_125 rfl ⟨Nat.zero_le _, Nat.zero_le _⟩ ?_
            first | (exfalso; omega) | exact pu (by
              unfold personV
              rw [rg_out hro, rgN hj (by decide) (by omega)]
              repeat (first | rw [if_pos (by omega)] | rw [if_neg (by omega)]))
          · refine A_iload_n3 d_N_person_44 ?_
            refine A_bipush (v := nI 10) d_N_person_45 (by decide) ?_
            refine A_aload4 d_N_person_47 ?_
            refine A_getf (kf := 0) d_N_person_49 hA.o ok_1 (by decide) q_49 rfl ?_
            refine A_topI f0 ?_
            first | refine A_iaddN d_N_person_52 (by with_reducible rfl) (by with_reducible rfl) ?_ | refine A_iadd d_N_person_52 ?_
            first | refine A_icmp_geN (tgt := 72) d_N_person_53 (by decide) (by with_reducible rfl) (by with_reducible rfl) (by omega) (by omega) (fun c_53 => ?_) (fun c_53 => ?_) | refine A_icmp_ge (tgt := 72) d_N_person_53 (by decide) (fun c_53 => ?_) (fun c_53 => ?_)
            · refine A_iload_n3 d_N_person_72 ?_
              refine A_tableOut (tgt := 124) d_N_person_73 swo (by decide) ?_
              refine A_iconst (v := (-1)) d_N_person_124 (by decide) ?_
              refine A_iret d_N_person_125 rfl ⟨Nat.zero_le _, Nat.zero_le _⟩ ?_
              first | (exfalso; omega) | exact pu (by
                unfold personV
                rw [rg_out hro, rgN hj (by decide) (by omega)]
                repeat (first | rw [if_pos (by omega)] | rw [if_neg (by omega)]))
            · refine A_aload4 d_N_person_56 ?_
              refine A_getf (kf := 8) d_N_person_58 hA.o ok_1 (by decide) q_75 rfl ?_
              refine A_iload_n2 d_N_person_61 ?_
              refine A_bipush (v := nI 24) d_N_person_62 (by decide) ?_
              first | refine A_imulN d_N_person_64 (by with_reducible rfl) (by with_reducible rfl) ?_ | refine A_imul d_N_person_64 ?_
              refine A_iload_n3 d_N_person_65 ?_
              first | refine A_iaddN d_N_person_66 (by with_reducible rfl) (by with_reducible rfl) ?_ | refine A_iadd d_N_person_66 ?_
              refine A_bipush (v := nI 10) d_N_person_67 (by decide) ?_
              first | refine A_isubN d_N_person_69 (by with_reducible rfl) (by with_reducible rfl) (by omega) ?_ | refine A_isub d_N_person_69 ?_
              refine A_ialdN d_N_person_70 hA.a8 ⟨by omega, by decide⟩ ?_
              refine A_topI (show (W.2.2.1 l).2 8 (p * 24 + j - 10) = nI (VL l (42 + 27 * p + (3 + (j - 10)))) by rw [show p * 24 + j - 10 = p * 24 + (j - 10) by omega]; exact (hP p hp).2.2.2 (j - 10) (by omega)) ?_
              refine A_iret d_N_person_71 rfl ⟨Nat.zero_le _, Nat.zero_le _⟩ ?_
              first | (exfalso; omega) | exact pu (by
                unfold personV
                rw [rg_out hro, rgN hj (by decide) (by omega)]
                repeat (first | rw [if_pos (by omega)] | rw [if_neg (by omega)]))
    · rw [pick_out hnp]
      refine A_aload_n0 d_N_person_0 ?_
      refine A_iconst (v := nI 0) d_N_person_1 (by decide) ?_
      refine A_iload_n1 d_N_person_2 ?_
      refine A_callVP d_N_person_3 (c_N_isToldT hN (by decide) hl) hN.o rfl q_644 q_646 qs_2 mk_N_isTold rfl (by decide) rfl (Nat.le_of_ble_eq_true rfl) ⟨Nat.le_of_ble_eq_true rfl, Nat.le_of_ble_eq_true rfl⟩ ⟨rfl, rfl⟩ ?_
      refine A_if_eqB (tgt := 25) d_N_person_6 (by decide) (fun c => absurd c (by decide)) (fun c_6 => ?_)
      refine A_aload_n0 d_N_person_9 ?_
      refine A_getf (kf := 0) d_N_person_10 hN.o ok_7 (by decide) q_368 rfl ?_
      refine A_getf (kf := 5) d_N_person_13 hN.a.o ok_6 (by decide) q_203 rfl ?_
      refine A_iload_n1 d_N_person_16 ?_
      refine A_aaldN d_N_person_17 hN.a.lands rfl rfl ⟨by omega, by decide⟩ (show va_rf (two (n + 1 + 12) (n + 1 + 29) l) = .ref (n + 1 + 12 + 17 * l) by rw [two_at rfl (by omega)]; rfl) ?_
      refine A_iload_n2 d_N_person_18 ?_
      refine A_callVP d_N_person_19 (c_Ld_hasPersonF hA hV0 hnp) hA.o rfl q_652 q_653 q_654 mk_Ld_hasPerson rfl (by decide) rfl (Nat.le_of_ble_eq_true rfl) ⟨Nat.le_of_ble_eq_true rfl, Nat.le_of_ble_eq_true rfl⟩ ⟨rfl, rfl⟩ ?_
      refine A_if_neB (tgt := 27) d_N_person_22 (by decide) (fun c => absurd c (by decide)) (fun c_22 => ?_)
      refine A_iconst (v := (-1)) d_N_person_25 (by decide) ?_
      refine A_iret d_N_person_26 rfl ⟨Nat.zero_le _, Nat.zero_le _⟩ ?_
      exact pu rfl
  · rw [pick_out hno]
    refine A_aload_n0 d_N_person_0 ?_
    refine A_iconst (v := nI 0) d_N_person_1 (by decide) ?_
    refine A_iload_n1 d_N_person_2 ?_
    refine A_callVP d_N_person_3 (c_N_isToldF hN (by decide) hno) hN.o rfl q_644 q_646 qs_2 mk_N_isTold rfl (by decide) rfl (Nat.le_of_ble_eq_true rfl) ⟨Nat.le_of_ble_eq_true rfl, Nat.le_of_ble_eq_true rfl⟩ ⟨rfl, rfl⟩ ?_
    refine A_if_eqB (tgt := 25) d_N_person_6 (by decide) (fun c_6 => ?_) (fun c => absurd c (by decide))
    refine A_iconst (v := (-1)) d_N_person_25 (by decide) ?_
    refine A_iret d_N_person_26 rfl ⟨Nat.zero_le _, Nat.zero_le _⟩ ?_
    exact pu rfl
