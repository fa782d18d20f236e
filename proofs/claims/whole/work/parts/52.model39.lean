theorem likG8 {v : Nat → Nat} (h : lnG 8 v = true) : v 1 ≤ v 2 ∧ v 2 ≤ 23 := by
  have h : (((true && inrN 8 v 0) && inrN 8 v 1) && inrN 8 v 2) = true := h
  simp only [Bool.and_eq_true, Bool.true_and] at h
  obtain ⟨⟨a, b⟩, c⟩ := h
  simp only [inrN, inN, Bool.and_eq_true, decide_eq_true_eq] at c
  exact ⟨c.1, c.2⟩
theorem likG11 {v : Nat → Nat} (h : lnG 11 v = true) : v 0 ≤ 7 := by
  have h : ((true && inrN 11 v 0) && inrN 11 v 1) = true := h
  simp only [Bool.and_eq_true, Bool.true_and] at h
  obtain ⟨a, b⟩ := h
  simp only [inrN, inN, Bool.and_eq_true, decide_eq_true_eq] at a
  exact a.2
set_option maxHeartbeats 4000000 in
set_option maxRecDepth 100000 in
theorem c_M_treaty {G : GE} {h0 h : AH} {m : Nat} {S : MS} (hM : MW h0 h m S) {S0 : MS} {B : Nat → Nat} {n q : Nat} {T : Nat → Nat} {f : Nat × Nat × Nat} {s : Nat × Nat} (hL : LnS S0 S B n q q (T, f, s) true) (hqn : q < n) : Ctr G y_M_treatyLine b_M_treatyLine 4 (some .boolean) r_M_treatyLine [.ref m, .long (474214787188)] h (fun v h' => (∃ x, flN B n 8 q = some x ∧ v = some (.int (bI false)) ∧ ∃ S1, MW h0 h' m S1 ∧ KT S0 S1 ∧ S1.1 17 = nI x) ∨ (flN B n 8 q = none ∧ v = some (.int (bI true)) ∧ ∃ S1 g', MW h0 h' m S1 ∧ LnS S0 S1 B n (itN B n (nxN B n q) (sgN 8)) (itN B n (nxN B n q) (sgN 8)) (lnF 8 B n q (T, f, s)) g')) := by
  have hn := hL.2.1.2.1
  have hs4 : s.1 ≤ 4 := hL.2.2.2.2.2.2.1
  have hs6 : s.1 ≠ 0 → s.2 ≤ 600 := hL.2.2.2.2.2.2.2.1
  refine Ctr.of (by decide +kernel) (by simp) (Nat.le_of_ble_eq_true rfl) (L0 := [some (.ref m), some (.long (474214787188)), none, none]) rfl ?_
  refine A_lload_n1 d_M_treatyLine_0 ?_
  refine A_ldc2 d_M_treatyLine_1 q_1305 ?_
  refine A_lcmp d_M_treatyLine_4 ?_
  refine A_if_eq (tgt := 13) d_M_treatyLine_5 (by decide) (fun c_5 => ?_) (fun c => absurd (by decide +kernel) c)
  refine A_aload_n0 d_M_treatyLine_13 ?_
  refine A_callV d_M_treatyLine_14 (c_M_tokenL hM hL (by omega) hqn) hM.o rfl q_1246 q_1248 qs_18 mk_M_token rfl (by decide) rfl (Nat.le_of_ble_eq_true rfl) ⟨Nat.le_of_ble_eq_true rfl, Nat.le_of_ble_eq_true rfl⟩ (fun v h1 hv => ?_)
  obtain ⟨rfl, St, hM, hL0, -⟩ := hv
  refine A_aload_n0 d_M_treatyLine_17 ?_
  refine A_iconst (v := nI 0) d_M_treatyLine_18 (by decide) ?_
  refine A_iconst (v := nI 0) d_M_treatyLine_19 (by decide) ?_
  refine A_iconst (v := nI 2) d_M_treatyLine_20 (by decide) ?_
  refine A_callV d_M_treatyLine_21 (c_M_takeL hM hL0 (k := 0) (lo := 0) (hi := 2) (by decide) (by omega) (by omega)) hM.o rfl q_1290 q_1292 qs_27 mk_M_take rfl (by decide) rfl (Nat.le_of_ble_eq_true rfl) ⟨Nat.le_of_ble_eq_true rfl, Nat.le_of_ble_eq_true rfl⟩ (fun v h1 hv => ?_)
  rcases hv with ⟨k0, rfl, S8, hM, hK8, e17⟩ | ⟨k0, rfl, S1, hM, hL1, e21_0⟩
  · have hfl : nuF B n (nxN B n q) 3 = some (itN B n (nxN B n q) 0) := nuF_s (by decide) (fun i h => by omega) k0
    refine A_if_eqB (tgt := 54) d_M_treatyLine_24 (by decide) (fun c_24 => ?_) (fun c => absurd c (by decide))
    refine A_iconst (v := nI 0) d_M_treatyLine_54 (by decide) ?_
    refine A_zret d_M_treatyLine_55 rfl (by first | rfl | exact bI_nar _ | decide) ⟨Nat.zero_le _, Nat.zero_le _⟩ ?_
    exact Or.inl ⟨_, flN_s (k := 8) (by decide) hfl, rfl, S8, hM, hK8, e17⟩
  · have v0 : lnV B n (nxN B n q) 0 ≤ 99 := tvN_le k0
    refine A_if_eqB (tgt := 54) d_M_treatyLine_24 (by decide) (fun c => absurd c (by decide)) (fun c_24 => ?_)
    refine A_aload_n0 d_M_treatyLine_27 ?_
    refine A_iconst (v := nI 1) d_M_treatyLine_28 (by decide) ?_
    refine A_iconst (v := nI 0) d_M_treatyLine_29 (by decide) ?_
    refine A_bipush (v := nI 23) d_M_treatyLine_30 (by decide) ?_
    refine A_callV d_M_treatyLine_32 (c_M_takeL hM hL1 (k := 1) (lo := 0) (hi := 23) (by decide) (by omega) (by omega)) hM.o rfl q_1290 q_1292 qs_27 mk_M_take rfl (by decide) rfl (Nat.le_of_ble_eq_true rfl) ⟨Nat.le_of_ble_eq_true rfl, Nat.le_of_ble_eq_true rfl⟩ (fun v h1 hv => ?_)
    rcases hv with ⟨k1, rfl, S8, hM, hK8, e17⟩ | ⟨k1, rfl, S2, hM, hL2, e21_1⟩
    · have hfl : nuF B n (nxN B n q) 3 = some (itN B n (nxN B n q) 1) := nuF_s (by decide) (fun i h => by rcases (show i = 0 by omega) with rfl <;> assumption) k1
      refine A_if_eqB (tgt := 54) d_M_treatyLine_35 (by decide) (fun c_35 => ?_) (fun c => absurd c (by decide))
      refine A_iconst (v := nI 0) d_M_treatyLine_54 (by decide) ?_
      refine A_zret d_M_treatyLine_55 rfl (by first | rfl | exact bI_nar _ | decide) ⟨Nat.zero_le _, Nat.zero_le _⟩ ?_
      exact Or.inl ⟨_, flN_s (k := 8) (by decide) hfl, rfl, S8, hM, hK8, e17⟩
    · have v1 : lnV B n (nxN B n q) 1 ≤ 99 := tvN_le k1
      refine A_if_eqB (tgt := 54) d_M_treatyLine_35 (by decide) (fun c => absurd c (by decide)) (fun c_35 => ?_)
      refine A_aload_n0 d_M_treatyLine_38 ?_
      refine A_iconst (v := nI 2) d_M_treatyLine_39 (by decide) ?_
      refine A_aload_n0 d_M_treatyLine_40 ?_
      refine A_getf (kf := 21) d_M_treatyLine_41 hM.o ok_8 (by decide) q_1070 rfl ?_
      refine A_iconst (v := nI 1) d_M_treatyLine_44 (by decide) ?_
      refine A_ialdN d_M_treatyLine_45 hM.a21 ⟨by decide, by decide⟩ ?_
      refine A_topI (show S2.2.2.1 21 1 = nI (lnV B n (nxN B n q) 1) by rw [e21_1, fup_eq]; rfl) ?_
      refine A_bipush (v := nI 23) d_M_treatyLine_46 (by decide) ?_
      refine A_callV d_M_treatyLine_48 (c_M_takeL hM hL2 (k := 2) (lo := lnV B n (nxN B n q) 1) (hi := 23) (by decide) (by omega) (by omega)) hM.o rfl q_1290 q_1292 qs_27 mk_M_take rfl (by decide) rfl (Nat.le_of_ble_eq_true rfl) ⟨Nat.le_of_ble_eq_true rfl, Nat.le_of_ble_eq_true rfl⟩ (fun v h1 hv => ?_)
      rcases hv with ⟨k2, rfl, S8, hM, hK8, e17⟩ | ⟨k2, rfl, S3, hM, hL3, e21_2⟩
      · have hfl : nuF B n (nxN B n q) 3 = some (itN B n (nxN B n q) 2) := nuF_s (by decide) (fun i h => by rcases (show i = 0 ∨ i = 1 by omega) with rfl | rfl <;> assumption) k2
        refine A_if_neB (tgt := 56) d_M_treatyLine_51 (by decide) (fun c => absurd c (by decide)) (fun c_51 => ?_)
        refine A_iconst (v := nI 0) d_M_treatyLine_54 (by decide) ?_
        refine A_zret d_M_treatyLine_55 rfl (by first | rfl | exact bI_nar _ | decide) ⟨Nat.zero_le _, Nat.zero_le _⟩ ?_
        exact Or.inl ⟨_, flN_s (k := 8) (by decide) hfl, rfl, S8, hM, hK8, e17⟩
      · have v2 : lnV B n (nxN B n q) 2 ≤ 99 := tvN_le k2
        refine A_if_neB (tgt := 56) d_M_treatyLine_51 (by decide) (fun c_51 => ?_) (fun c => absurd c (by decide))
        have hfl : nuF B n (nxN B n q) 3 = none := nuF_n (fun i h => by rcases (show i = 0 ∨ i = 1 ∨ i = 2 by omega) with rfl | rfl | rfl <;> assumption)
        have r21 : ∀ i, i < 3 → S3.2.2.1 21 i = nI (lnV B n (nxN B n q) i) := by
          intro i hi
          rcases (show i = 0 ∨ i = 1 ∨ i = 2 by omega) with rfl | rfl | rfl
          · rw [e21_2, fup_ne _ _ (by decide), e21_1, fup_ne _ _ (by decide), e21_0, fup_eq]
            rfl
          · rw [e21_2, fup_ne _ _ (by decide), e21_1, fup_eq]
            rfl
          · rw [e21_2, fup_eq]
            rfl
        refine A_aload_n0 d_M_treatyLine_56 ?_
        refine A_getf (kf := 21) d_M_treatyLine_57 hM.o ok_8 (by decide) q_1070 rfl ?_
        refine A_iconst (v := nI 1) d_M_treatyLine_60 (by decide) ?_
        refine A_ialdN d_M_treatyLine_61 hM.a21 ⟨by decide, by decide⟩ ?_
        refine A_topI (show S3.2.2.1 21 1 = nI (lnV B n (nxN B n q) 1) from r21 1 (by decide)) ?_
        refine A_istore3 d_M_treatyLine_62 trivial ?_
        have hg : S3.1 25 = bI (lnG 8 (lnV B n (nxN B n q))) := hL3.2.2.2.2.1
        cases hgd : lnG 8 (lnV B n (nxN B n q))
        · rw [hgd] at hg
          refine A_aload_n0 d_M_treatyLine_63 ?_
          refine A_getf (kf := 25) d_M_treatyLine_64 hM.o ok_8 (by decide) q_1074 rfl ?_
          refine A_topI hg ?_
          refine A_if_eqB (tgt := 98) d_M_treatyLine_67 (by decide) (fun c_67 => ?_) (fun c => absurd c (by decide))
          refine A_iconst (v := nI 1) d_M_treatyLine_98 (by decide) ?_
          refine A_zret d_M_treatyLine_99 rfl (by first | rfl | exact bI_nar _ | decide) ⟨Nat.zero_le _, Nat.zero_le _⟩ ?_
          refine Or.inr ⟨flN_n (k := 8) (by decide) (by decide) hfl, rfl, S3, lnG 8 (lnV B n (nxN B n q)), hM, LnS.at hL3 ?_⟩
          have e : tolT 8 (dkN B n q) (lnV B n (nxN B n q)) T = T := by
            show (if lnG 8 (lnV B n (nxN B n q)) = true then _ else T) = T
            rw [hgd]
            rfl
          show _ = (tolT 8 (dkN B n q) (lnV B n (nxN B n q)) T, _, _)
          rw [e]
          rfl
        · rw [hgd] at hg
          have hin0 := likG8 hgd
          have keyL : ∀ j, lnV B n (nxN B n q) 1 ≤ j → j ≤ lnV B n (nxN B n q) 2 + 1 → ∀ (h : AH) (S8 : MS), MW h0 h m S8 → SA20 S3 S8 → (∀ i, i < 312 → S8.2.2.1 20 i = nI (if lnV B n (nxN B n q) 1 ≤ i ∧ i < j then lnV B n (nxN B n q) 0 else T i)) → WA G y_M_treatyLine b_M_treatyLine 4 (some .boolean) r_M_treatyLine 0 0 (fun v h' => (∃ x, flN B n 8 q = some x ∧ v = some (.int (bI false)) ∧ ∃ S1, MW h0 h' m S1 ∧ KT S0 S1 ∧ S1.1 17 = nI x) ∨ (flN B n 8 q = none ∧ v = some (.int (bI true)) ∧ ∃ S1 g', MW h0 h' m S1 ∧ LnS S0 S1 B n (itN B n (nxN B n q) (sgN 8)) (itN B n (nxN B n q) (sgN 8)) (lnF 8 B n q (T, f, s)) g')) 0 0 63 [some (.ref m), some (.long 474214787188), none, some (.int (nI j))] [] h := by
            intro j hj hj2
            obtain ⟨z, hz⟩ : ∃ z, z = 100 - j := ⟨_, rfl⟩
            induction z using Nat.strongRecOn generalizing j with
            | _ z ihz =>
              intro h S8 hM hb hr
              by_cases hlt : j ≤ lnV B n (nxN B n q) 2
              · skip
                refine A_aload_n0 d_M_treatyLine_63 ?_
                refine A_getf (kf := 25) d_M_treatyLine_64 hM.o ok_8 (by decide) q_1074 rfl ?_
                refine A_topI ((congrFun hb.1 25).trans hg) ?_
                refine A_if_eqB (tgt := 98) d_M_treatyLine_67 (by decide) (fun c => absurd c (by decide)) (fun c_67 => ?_)
                refine A_iload_n3 d_M_treatyLine_70 ?_
                refine A_aload_n0 d_M_treatyLine_71 ?_
                refine A_getf (kf := 21) d_M_treatyLine_72 hM.o ok_8 (by decide) q_1070 rfl ?_
                refine A_iconst (v := nI 2) d_M_treatyLine_75 (by decide) ?_
                refine A_ialdN d_M_treatyLine_76 hM.a21 ⟨by decide, by decide⟩ ?_
                refine A_topI ((congrFun (hb.2.2 21 (by decide)) 2).trans (r21 2 (by decide))) ?_
                refine A_icmp_gt (tgt := 98) d_M_treatyLine_77 (by decide) (fun c => absurd ((nI_ltI (by omega) (by omega)).mp c) (by omega)) (fun c_77 => ?_)
                refine A_aload_n0 d_M_treatyLine_80 ?_
                refine A_getf (kf := 20) d_M_treatyLine_81 hM.o ok_8 (by decide) q_1069 rfl ?_
                refine A_iload_n3 d_M_treatyLine_84 ?_
                refine A_aload_n0 d_M_treatyLine_85 ?_
                refine A_getf (kf := 21) d_M_treatyLine_86 hM.o ok_8 (by decide) q_1070 rfl ?_
                refine A_iconst (v := nI 0) d_M_treatyLine_89 (by decide) ?_
                refine A_ialdN d_M_treatyLine_90 hM.a21 ⟨by decide, by decide⟩ ?_
                refine A_topI ((congrFun (hb.2.2 21 (by decide)) 0).trans (r21 0 (by decide))) ?_
                refine A_st20 hM d_M_treatyLine_91 (by omega) (fun h hM => ?_)
                obtain ⟨S9, hM, e9, x9⟩ := opa20 hM
                first | refine A_iinc3 d_M_treatyLine_92 (nI_1 _) trivial ?_ | refine A_iinc3 d_M_treatyLine_92 rfl trivial ?_
                refine A_goto (tgt := 63) d_M_treatyLine_95 (by decide) ?_
                refine ihz (100 - (j + 1)) (by omega) (j + 1) (by omega) (by omega) rfl _ _ hM (hb.tr x9) (fun i hi => ?_)
                rw [e9]
                by_cases z : i = j
                · rw [z, fup_eq, if_pos (by omega)]
                · rw [fup_ne _ _ z, hr i hi]
                  by_cases q2 : lnV B n (nxN B n q) 1 ≤ i ∧ i < j
                  · rw [if_pos q2, if_pos (by omega)]
                  · rw [if_neg q2, if_neg (by omega)]
              · have hlast : j = lnV B n (nxN B n q) 2 + 1 := by omega
                refine A_aload_n0 d_M_treatyLine_63 ?_
                refine A_getf (kf := 25) d_M_treatyLine_64 hM.o ok_8 (by decide) q_1074 rfl ?_
                refine A_topI ((congrFun hb.1 25).trans hg) ?_
                refine A_if_eqB (tgt := 98) d_M_treatyLine_67 (by decide) (fun c => absurd c (by decide)) (fun c_67 => ?_)
                refine A_iload_n3 d_M_treatyLine_70 ?_
                refine A_aload_n0 d_M_treatyLine_71 ?_
                refine A_getf (kf := 21) d_M_treatyLine_72 hM.o ok_8 (by decide) q_1070 rfl ?_
                refine A_iconst (v := nI 2) d_M_treatyLine_75 (by decide) ?_
                refine A_ialdN d_M_treatyLine_76 hM.a21 ⟨by decide, by decide⟩ ?_
                refine A_topI ((congrFun (hb.2.2 21 (by decide)) 2).trans (r21 2 (by decide))) ?_
                refine A_icmp_gt (tgt := 98) d_M_treatyLine_77 (by decide) (fun c_77 => ?_) (fun c => absurd ((nI_ltI (by omega) (by omega)).mpr (by omega)) c)
                refine A_iconst (v := nI 1) d_M_treatyLine_98 (by decide) ?_
                refine A_zret d_M_treatyLine_99 rfl (by first | rfl | exact bI_nar _ | decide) ⟨Nat.zero_le _, Nat.zero_le _⟩ ?_
                refine Or.inr ⟨flN_n (k := 8) (by decide) (by decide) hfl, rfl, S8, _, hM, LnS.at (LnS.a20 (T' := spF 0 (lnV B n (nxN B n q) 1) (lnV B n (nxN B n q) 2) (lnV B n (nxN B n q) 0) T) hL3 hb (fun i hi => ?_)) ?_⟩
                · rw [hr i hi]
                  congr 1
                  unfold spF
                  by_cases q2 : lnV B n (nxN B n q) 1 ≤ i ∧ i < j
                  · rw [if_pos q2, if_pos (by omega)]
                  · rw [if_neg q2, if_neg (by omega)]
                · have e : tolT 8 (dkN B n q) (lnV B n (nxN B n q)) T = spF 0 (lnV B n (nxN B n q) 1) (lnV B n (nxN B n q) 2) (lnV B n (nxN B n q) 0) T := by
                    show (if lnG 8 (lnV B n (nxN B n q)) = true then _ else T) = _
                    rw [hgd]
                    rfl
                  show _ = (tolT 8 (dkN B n q) (lnV B n (nxN B n q)) T, _, _)
                  rw [e]
                  rfl
          exact keyL (lnV B n (nxN B n q) 1) (Nat.le_refl _) (by omega) _ _ hM (SA20.rf _) (fun i hi => by rw [if_neg (by omega)]; exact hL3.2.2.2.1.1 i hi)
set_option maxHeartbeats 4000000 in
set_option maxRecDepth 100000 in
theorem c_M_treaty_none {G : GE} {h0 h : AH} {m : Nat} {S : MS} (hM : MW h0 h m S) {S0 : MS} {B : Nat → Nat} {n q : Nat} {T : Nat → Nat} {f : Nat × Nat × Nat} {s : Nat × Nat} (hL : LnS S0 S B n q q (T, f, s) true) (hqn : q < n) (hw : isW B n q wd_night = false) : Ctr G y_M_treatyLine b_M_treatyLine 4 (some .boolean) r_M_treatyLine [.ref m, .long (wdW B n q)] h (fun v h' => (∃ x, flN B n 12 q = some x ∧ v = some (.int (bI false)) ∧ ∃ S1, MW h0 h' m S1 ∧ KT S0 S1 ∧ S1.1 17 = nI x) ∨ (flN B n 12 q = none ∧ v = some (.int (bI true)) ∧ ∃ S1 g', MW h0 h' m S1 ∧ LnS S0 S1 B n (itN B n (nxN B n q) (sgN 12)) (itN B n (nxN B n q) (sgN 12)) (lnF 12 B n q (T, f, s)) g')) := by
  refine Ctr.of (by decide +kernel) (by simp) (Nat.le_of_ble_eq_true rfl) (L0 := [some (.ref m), some (.long (wdW B n q)), none, none]) rfl ?_
  refine A_lload_n1 d_M_treatyLine_0 ?_
  refine A_ldc2 d_M_treatyLine_1 q_1305 ?_
  refine A_lcmp d_M_treatyLine_4 ?_
  refine A_if_eq (tgt := 13) d_M_treatyLine_5 (by decide) (fun c => absurd (wc_night.mp ((lg_cmp_eq _ _).mp c)) (by rw [hw]; decide)) (fun c_5 => ?_)
  refine A_aload_n0 d_M_treatyLine_8 ?_
  refine A_callV d_M_treatyLine_9 (c_M_fails hM hL.2.2.1.2.1) hM.o rfl q_1274 q_1276 qs_23 mk_M_fails rfl (by decide) rfl (Nat.le_of_ble_eq_true rfl) ⟨Nat.le_of_ble_eq_true rfl, Nat.le_of_ble_eq_true rfl⟩ (fun v h1 hv => ?_)
  obtain ⟨rfl, S2, hM, e17, x17⟩ := hv
  refine A_zret d_M_treatyLine_12 rfl (by first | rfl | exact bI_nar _ | decide) ⟨Nat.zero_le _, Nat.zero_le _⟩ ?_
  exact Or.inl ⟨q, if_pos rfl, rfl, S2, hM, hL.1.tr (KT.sf x17 (by decide)), e17⟩
set_option maxHeartbeats 4000000 in
set_option maxRecDepth 100000 in
theorem c_M_book {G : GE} {h0 h : AH} {m : Nat} {S : MS} (hM : MW h0 h m S) {S0 : MS} {B : Nat → Nat} {n q : Nat} {T : Nat → Nat} {f : Nat × Nat × Nat} {s : Nat × Nat} (hL : LnS S0 S B n q q (T, f, s) true) (hqn : q < n) (hTb : T 0 ≤ 30) : Ctr G y_M_bookLine b_M_bookLine 4 (some .boolean) r_M_bookLine [.ref m, .long (24948), .int (nI q)] h (fun v h' => (∃ x, flN B n 9 q = some x ∧ v = some (.int (bI false)) ∧ ∃ S1, MW h0 h' m S1 ∧ KT S0 S1 ∧ S1.1 17 = nI x) ∨ (flN B n 9 q = none ∧ v = some (.int (bI true)) ∧ ∃ S1 g', MW h0 h' m S1 ∧ LnS S0 S1 B n (itN B n (nxN B n q) (sgN 9)) (itN B n (nxN B n q) (sgN 9)) (lnF 9 B n q (T, f, s)) g')) := by
  have hn := hL.2.1.2.1
  have hs4 : s.1 ≤ 4 := hL.2.2.2.2.2.2.1
  have hs6 : s.1 ≠ 0 → s.2 ≤ 600 := hL.2.2.2.2.2.2.2.1
  refine Ctr.of (by decide +kernel) (by simp) (Nat.le_of_ble_eq_true rfl) (L0 := [some (.ref m), some (.long (24948)), none, some (.int (nI q))]) rfl ?_
  refine A_lload_n1 d_M_bookLine_0 ?_
  refine A_ldc2 d_M_bookLine_1 q_1310 ?_
  refine A_lcmp d_M_bookLine_4 ?_
  refine A_if_eq (tgt := 13) d_M_bookLine_5 (by decide) (fun c_5 => ?_) (fun c => absurd (by decide +kernel) c)
  refine A_aload_n0 d_M_bookLine_13 ?_
  refine A_iconst (v := nI 0) d_M_bookLine_14 (by decide) ?_
  refine A_bipush (v := nI 30) d_M_bookLine_15 (by decide) ?_
  refine A_iload_n3 d_M_bookLine_17 ?_
  refine A_callV d_M_bookLine_18 (c_M_full hM (c := 0) (x := T 0) (mo := 30) (f := 0) (p := q) (lf := s.1) (lp := s.2) (by decide) (hL.2.2.2.1.1 0 (by decide)) (by omega) (hL.2.2.2.1.2.2.2.2.1) (hL.2.2.2.1.2.2.2.2.2) (by omega) hL.2.2.2.2.2.2.2.2) hM.o rfl q_1278 q_1280 qs_24 mk_M_full rfl (by decide) rfl (Nat.le_of_ble_eq_true rfl) ⟨Nat.le_of_ble_eq_true rfl, Nat.le_of_ble_eq_true rfl⟩ (fun v h1 hv => ?_)
  obtain ⟨rfl, Sf, hM, e18, e19, xf⟩ := hv
  rw [ful_9] at e18 e19
  have hLf := LnS.ful hL e18 e19 xf (fulN 9 T) rfl
  refine A_aload_n0 d_M_bookLine_21 ?_
  refine A_callV d_M_bookLine_22 (c_M_tokenL hM hLf (by omega) hqn) hM.o rfl q_1246 q_1248 qs_18 mk_M_token rfl (by decide) rfl (Nat.le_of_ble_eq_true rfl) ⟨Nat.le_of_ble_eq_true rfl, Nat.le_of_ble_eq_true rfl⟩ (fun v h1 hv => ?_)
  obtain ⟨rfl, St, hM, hL0, -⟩ := hv
  refine A_aload_n0 d_M_bookLine_25 ?_
  refine A_iconst (v := nI 0) d_M_bookLine_26 (by decide) ?_
  refine A_iconst (v := nI 0) d_M_bookLine_27 (by decide) ?_
  refine A_iconst (v := nI 2) d_M_bookLine_28 (by decide) ?_
  refine A_callV d_M_bookLine_29 (c_M_takeL hM hL0 (k := 0) (lo := 0) (hi := 2) (by decide) (by omega) (by omega)) hM.o rfl q_1290 q_1292 qs_27 mk_M_take rfl (by decide) rfl (Nat.le_of_ble_eq_true rfl) ⟨Nat.le_of_ble_eq_true rfl, Nat.le_of_ble_eq_true rfl⟩ (fun v h1 hv => ?_)
  rcases hv with ⟨k0, rfl, S8, hM, hK8, e17⟩ | ⟨k0, rfl, S1, hM, hL1, e21_0⟩
  · have hfl : nuF B n (nxN B n q) 2 = some (itN B n (nxN B n q) 0) := nuF_s (by decide) (fun i h => by omega) k0
    refine A_if_eqB (tgt := 46) d_M_bookLine_32 (by decide) (fun c_32 => ?_) (fun c => absurd c (by decide))
    refine A_iconst (v := nI 0) d_M_bookLine_46 (by decide) ?_
    refine A_zret d_M_bookLine_47 rfl (by first | rfl | exact bI_nar _ | decide) ⟨Nat.zero_le _, Nat.zero_le _⟩ ?_
    exact Or.inl ⟨_, flN_s (k := 9) (by decide) hfl, rfl, S8, hM, hK8, e17⟩
  · have v0 : lnV B n (nxN B n q) 0 ≤ 99 := tvN_le k0
    refine A_if_eqB (tgt := 46) d_M_bookLine_32 (by decide) (fun c => absurd c (by decide)) (fun c_32 => ?_)
    refine A_aload_n0 d_M_bookLine_35 ?_
    refine A_iconst (v := nI 1) d_M_bookLine_36 (by decide) ?_
    refine A_iconst (v := nI 1) d_M_bookLine_37 (by decide) ?_
    refine A_bipush (v := nI 24) d_M_bookLine_38 (by decide) ?_
    refine A_callV d_M_bookLine_40 (c_M_takeL hM hL1 (k := 1) (lo := 1) (hi := 24) (by decide) (by omega) (by omega)) hM.o rfl q_1290 q_1292 qs_27 mk_M_take rfl (by decide) rfl (Nat.le_of_ble_eq_true rfl) ⟨Nat.le_of_ble_eq_true rfl, Nat.le_of_ble_eq_true rfl⟩ (fun v h1 hv => ?_)
    rcases hv with ⟨k1, rfl, S8, hM, hK8, e17⟩ | ⟨k1, rfl, S2, hM, hL2, e21_1⟩
    · have hfl : nuF B n (nxN B n q) 2 = some (itN B n (nxN B n q) 1) := nuF_s (by decide) (fun i h => by rcases (show i = 0 by omega) with rfl <;> assumption) k1
      refine A_if_neB (tgt := 48) d_M_bookLine_43 (by decide) (fun c => absurd c (by decide)) (fun c_43 => ?_)
      refine A_iconst (v := nI 0) d_M_bookLine_46 (by decide) ?_
      refine A_zret d_M_bookLine_47 rfl (by first | rfl | exact bI_nar _ | decide) ⟨Nat.zero_le _, Nat.zero_le _⟩ ?_
      exact Or.inl ⟨_, flN_s (k := 9) (by decide) hfl, rfl, S8, hM, hK8, e17⟩
    · have v1 : lnV B n (nxN B n q) 1 ≤ 99 := tvN_le k1
      refine A_if_neB (tgt := 48) d_M_bookLine_43 (by decide) (fun c_43 => ?_) (fun c => absurd c (by decide))
      have hfl : nuF B n (nxN B n q) 2 = none := nuF_n (fun i h => by rcases (show i = 0 ∨ i = 1 by omega) with rfl | rfl <;> assumption)
      have r21 : ∀ i, i < 2 → S2.2.2.1 21 i = nI (lnV B n (nxN B n q) i) := by
        intro i hi
        rcases (show i = 0 ∨ i = 1 by omega) with rfl | rfl
        · rw [e21_1, fup_ne _ _ (by decide), e21_0, fup_eq]
          rfl
        · rw [e21_1, fup_eq]
          rfl
      refine A_aload_n0 d_M_bookLine_48 ?_
      first | refine A_dupR d_M_bookLine_49 ?_ | refine A_dupI d_M_bookLine_49 ?_
      refine A_getf (kf := 24) d_M_bookLine_50 hM.o ok_8 (by decide) q_1073 rfl ?_
      refine A_topI hL2.2.2.2.1.2.2.2.1 ?_
      refine A_aload_n0 d_M_bookLine_53 ?_
      refine A_getf (kf := 21) d_M_bookLine_54 hM.o ok_8 (by decide) q_1070 rfl ?_
      refine A_iconst (v := nI 1) d_M_bookLine_57 (by decide) ?_
      refine A_ialdN d_M_bookLine_58 hM.a21 ⟨by decide, by decide⟩ ?_
      refine A_topI (show S2.2.2.1 21 1 = nI (lnV B n (nxN B n q) 1) from r21 1 (by decide)) ?_
      first | refine A_iaddN d_M_bookLine_59 (by with_reducible rfl) (by with_reducible rfl) ?_ | refine A_iadd d_M_bookLine_59 ?_
      refine A_putM hM (kf := 24) (ty := .int) d_M_bookLine_60 (by decide) q_1073 rfl (by decide +kernel) (by first | rfl | exact bI_nar _) rfl (Nat.le_of_ble_eq_true rfl) rfl (fun h hM => ?_)
      obtain ⟨S3, hM, e24, x3⟩ := ops hM
      have hL3 := LnS.mx hL2 e24 x3 (by decide) (f' := (f.1, f.2.1, f.2.2 + lnV B n (nxN B n q) 1)) (Or.inr ⟨by decide, rfl⟩) (Or.inr ⟨by decide, rfl⟩) (Or.inl ⟨rfl, rfl⟩)
      have r21c : ∀ i, i < 2 → S3.2.2.1 21 i = nI (lnV B n (nxN B n q) i) := fun i hi => by rw [x3.2]; exact r21 i hi
      refine A_aload_n0 d_M_bookLine_63 ?_
      refine A_iconst (v := nI 0) d_M_bookLine_64 (by decide) ?_
      refine A_iconst (v := nI 1) d_M_bookLine_65 (by decide) ?_
      refine A_iconst (v := nI 2) d_M_bookLine_66 (by decide) ?_
      refine A_iconst (v := nI 2) d_M_bookLine_67 (by decide) ?_
      refine A_bipush (v := nI 30) d_M_bookLine_68 (by decide) ?_
      refine A_callV d_M_bookLine_70 (c_M_keep hM (T := T) (v0 := lnV B n (nxN B n q)) (hL3.2.2.2.1.1) (c := 0) (fr := 1) (ap := 2) (wi := 2) (mo := 30) r21c (by decide) (by decide) (by decide) hTb (by omega) (by omega) (by decide)) hM.o rfl q_1297 q_1299 qs_28 mk_M_keep rfl (by decide) rfl (Nat.le_of_ble_eq_true rfl) ⟨Nat.le_of_ble_eq_true rfl, Nat.le_of_ble_eq_true rfl⟩ (fun v h1 hv => ?_)
      obtain ⟨rfl, S9, hM, hb9, hr9⟩ := hv
      have hL9 := LnS.a20 hL3 hb9 hr9
      refine A_iconst (v := nI 1) d_M_bookLine_73 (by decide) ?_
      refine A_zret d_M_bookLine_74 rfl (by first | rfl | exact bI_nar _ | decide) ⟨Nat.zero_le _, Nat.zero_le _⟩ ?_
      exact Or.inr ⟨flN_n (k := 9) (by decide) (by decide) hfl, rfl, S9, _, hM, LnS.at hL9 rfl⟩
set_option maxHeartbeats 4000000 in
set_option maxRecDepth 100000 in
theorem c_M_book_none {G : GE} {h0 h : AH} {m : Nat} {S : MS} (hM : MW h0 h m S) {S0 : MS} {B : Nat → Nat} {n q : Nat} {T : Nat → Nat} {f : Nat × Nat × Nat} {s : Nat × Nat} (hL : LnS S0 S B n q q (T, f, s) true) (hqn : q < n) (hw : isW B n q wd_at = false) : Ctr G y_M_bookLine b_M_bookLine 4 (some .boolean) r_M_bookLine [.ref m, .long (wdW B n q), .int (nI q)] h (fun v h' => (∃ x, flN B n 12 q = some x ∧ v = some (.int (bI false)) ∧ ∃ S1, MW h0 h' m S1 ∧ KT S0 S1 ∧ S1.1 17 = nI x) ∨ (flN B n 12 q = none ∧ v = some (.int (bI true)) ∧ ∃ S1 g', MW h0 h' m S1 ∧ LnS S0 S1 B n (itN B n (nxN B n q) (sgN 12)) (itN B n (nxN B n q) (sgN 12)) (lnF 12 B n q (T, f, s)) g')) := by
  refine Ctr.of (by decide +kernel) (by simp) (Nat.le_of_ble_eq_true rfl) (L0 := [some (.ref m), some (.long (wdW B n q)), none, some (.int (nI q))]) rfl ?_
  refine A_lload_n1 d_M_bookLine_0 ?_
  refine A_ldc2 d_M_bookLine_1 q_1310 ?_
  refine A_lcmp d_M_bookLine_4 ?_
  refine A_if_eq (tgt := 13) d_M_bookLine_5 (by decide) (fun c => absurd (wc_at.mp ((lg_cmp_eq _ _).mp c)) (by rw [hw]; decide)) (fun c_5 => ?_)
  refine A_aload_n0 d_M_bookLine_8 ?_
  refine A_callV d_M_bookLine_9 (c_M_fails hM hL.2.2.1.2.1) hM.o rfl q_1274 q_1276 qs_23 mk_M_fails rfl (by decide) rfl (Nat.le_of_ble_eq_true rfl) ⟨Nat.le_of_ble_eq_true rfl, Nat.le_of_ble_eq_true rfl⟩ (fun v h1 hv => ?_)
  obtain ⟨rfl, S2, hM, e17, x17⟩ := hv
  refine A_zret d_M_bookLine_12 rfl (by first | rfl | exact bI_nar _ | decide) ⟨Nat.zero_le _, Nat.zero_le _⟩ ?_
  exact Or.inl ⟨q, if_pos rfl, rfl, S2, hM, hL.1.tr (KT.sf x17 (by decide)), e17⟩
set_option maxHeartbeats 4000000 in
set_option maxRecDepth 100000 in
theorem c_M_gameL {G : GE} {h0 h : AH} {m : Nat} {S : MS} (hM : MW h0 h m S) {S0 : MS} {B : Nat → Nat} {n q : Nat} {T : Nat → Nat} {f : Nat × Nat × Nat} {s : Nat × Nat} (hL : LnS S0 S B n q q (T, f, s) true) (hqn : q < n) : Ctr G y_M_gameLine b_M_gameLine 3 (some .boolean) r_M_gameLine [.ref m, .long (512970880104)] h (fun v h' => (∃ x, flN B n 11 q = some x ∧ v = some (.int (bI false)) ∧ ∃ S1, MW h0 h' m S1 ∧ KT S0 S1 ∧ S1.1 17 = nI x) ∨ (flN B n 11 q = none ∧ v = some (.int (bI true)) ∧ ∃ S1 g', MW h0 h' m S1 ∧ LnS S0 S1 B n (itN B n (nxN B n q) (sgN 11)) (itN B n (nxN B n q) (sgN 11)) (lnF 11 B n q (T, f, s)) g')) := by
  have hn := hL.2.1.2.1
  have hs4 : s.1 ≤ 4 := hL.2.2.2.2.2.2.1
  have hs6 : s.1 ≠ 0 → s.2 ≤ 600 := hL.2.2.2.2.2.2.2.1
  refine Ctr.of (by decide +kernel) (by simp) (Nat.le_of_ble_eq_true rfl) (L0 := [some (.ref m), some (.long (512970880104)), none]) rfl ?_
  refine A_lload_n1 d_M_gameLine_0 ?_
  refine A_ldc2 d_M_gameLine_1 q_1322 ?_
  refine A_lcmp d_M_gameLine_4 ?_
  refine A_if_eq (tgt := 13) d_M_gameLine_5 (by decide) (fun c_5 => ?_) (fun c => absurd (by decide +kernel) c)
  refine A_aload_n0 d_M_gameLine_13 ?_
  refine A_callV d_M_gameLine_14 (c_M_tokenL hM hL (by omega) hqn) hM.o rfl q_1246 q_1248 qs_18 mk_M_token rfl (by decide) rfl (Nat.le_of_ble_eq_true rfl) ⟨Nat.le_of_ble_eq_true rfl, Nat.le_of_ble_eq_true rfl⟩ (fun v h1 hv => ?_)
  obtain ⟨rfl, St, hM, hL0, -⟩ := hv
  refine A_aload_n0 d_M_gameLine_17 ?_
  refine A_iconst (v := nI 0) d_M_gameLine_18 (by decide) ?_
  refine A_iconst (v := nI 1) d_M_gameLine_19 (by decide) ?_
  refine A_bipush (v := nI 7) d_M_gameLine_20 (by decide) ?_
  refine A_callV d_M_gameLine_22 (c_M_takeL hM hL0 (k := 0) (lo := 1) (hi := 7) (by decide) (by omega) (by omega)) hM.o rfl q_1290 q_1292 qs_27 mk_M_take rfl (by decide) rfl (Nat.le_of_ble_eq_true rfl) ⟨Nat.le_of_ble_eq_true rfl, Nat.le_of_ble_eq_true rfl⟩ (fun v h1 hv => ?_)
  rcases hv with ⟨k0, rfl, S8, hM, hK8, e17⟩ | ⟨k0, rfl, S1, hM, hL1, e21_0⟩
  · have hfl : nuF B n (nxN B n q) 2 = some (itN B n (nxN B n q) 0) := nuF_s (by decide) (fun i h => by omega) k0
    refine A_if_eqB (tgt := 39) d_M_gameLine_25 (by decide) (fun c_25 => ?_) (fun c => absurd c (by decide))
    refine A_iconst (v := nI 0) d_M_gameLine_39 (by decide) ?_
    refine A_zret d_M_gameLine_40 rfl (by first | rfl | exact bI_nar _ | decide) ⟨Nat.zero_le _, Nat.zero_le _⟩ ?_
    exact Or.inl ⟨_, flN_s (k := 11) (by decide) hfl, rfl, S8, hM, hK8, e17⟩
  · have v0 : lnV B n (nxN B n q) 0 ≤ 99 := tvN_le k0
    refine A_if_eqB (tgt := 39) d_M_gameLine_25 (by decide) (fun c => absurd c (by decide)) (fun c_25 => ?_)
    refine A_aload_n0 d_M_gameLine_28 ?_
    refine A_iconst (v := nI 1) d_M_gameLine_29 (by decide) ?_
    refine A_iconst (v := nI 0) d_M_gameLine_30 (by decide) ?_
    refine A_bipush (v := nI 60) d_M_gameLine_31 (by decide) ?_
    refine A_callV d_M_gameLine_33 (c_M_takeL hM hL1 (k := 1) (lo := 0) (hi := 60) (by decide) (by omega) (by omega)) hM.o rfl q_1290 q_1292 qs_27 mk_M_take rfl (by decide) rfl (Nat.le_of_ble_eq_true rfl) ⟨Nat.le_of_ble_eq_true rfl, Nat.le_of_ble_eq_true rfl⟩ (fun v h1 hv => ?_)
    rcases hv with ⟨k1, rfl, S8, hM, hK8, e17⟩ | ⟨k1, rfl, S2, hM, hL2, e21_1⟩
    · have hfl : nuF B n (nxN B n q) 2 = some (itN B n (nxN B n q) 1) := nuF_s (by decide) (fun i h => by rcases (show i = 0 by omega) with rfl <;> assumption) k1
      refine A_if_neB (tgt := 41) d_M_gameLine_36 (by decide) (fun c => absurd c (by decide)) (fun c_36 => ?_)
      refine A_iconst (v := nI 0) d_M_gameLine_39 (by decide) ?_
      refine A_zret d_M_gameLine_40 rfl (by first | rfl | exact bI_nar _ | decide) ⟨Nat.zero_le _, Nat.zero_le _⟩ ?_
      exact Or.inl ⟨_, flN_s (k := 11) (by decide) hfl, rfl, S8, hM, hK8, e17⟩
    · have v1 : lnV B n (nxN B n q) 1 ≤ 99 := tvN_le k1
      refine A_if_neB (tgt := 41) d_M_gameLine_36 (by decide) (fun c_36 => ?_) (fun c => absurd c (by decide))
      have hfl : nuF B n (nxN B n q) 2 = none := nuF_n (fun i h => by rcases (show i = 0 ∨ i = 1 by omega) with rfl | rfl <;> assumption)
      have r21 : ∀ i, i < 2 → S2.2.2.1 21 i = nI (lnV B n (nxN B n q) i) := by
        intro i hi
        rcases (show i = 0 ∨ i = 1 by omega) with rfl | rfl
        · rw [e21_1, fup_ne _ _ (by decide), e21_0, fup_eq]
          rfl
        · rw [e21_1, fup_eq]
          rfl
      have hg : S2.1 25 = bI (lnG 11 (lnV B n (nxN B n q))) := hL2.2.2.2.2.1
      refine A_aload_n0 d_M_gameLine_41 ?_
      cases hgd : lnG 11 (lnV B n (nxN B n q))
      · rw [hgd] at hg
        refine A_getf (kf := 25) d_M_gameLine_42 hM.o ok_8 (by decide) q_1074 rfl ?_
        refine A_topI hg ?_
        refine A_if_eqB (tgt := 65) d_M_gameLine_45 (by decide) (fun c_45 => ?_) (fun c => absurd c (by decide))
        refine A_iconst (v := nI 1) d_M_gameLine_65 (by decide) ?_
        refine A_zret d_M_gameLine_66 rfl (by first | rfl | exact bI_nar _ | decide) ⟨Nat.zero_le _, Nat.zero_le _⟩ ?_
        refine Or.inr ⟨flN_n (k := 11) (by decide) (by decide) hfl, rfl, S2, lnG 11 (lnV B n (nxN B n q)), hM, LnS.at hL2 ?_⟩
        have e : tolT 11 (dkN B n q) (lnV B n (nxN B n q)) T = T := by
          show (if lnG 11 (lnV B n (nxN B n q)) = true then _ else T) = T
          rw [hgd]
          rfl
        show _ = (tolT 11 (dkN B n q) (lnV B n (nxN B n q)) T, _, _)
        rw [e]
        rfl
      · rw [hgd] at hg
        have hin0 := likG11 hgd
        refine A_getf (kf := 25) d_M_gameLine_42 hM.o ok_8 (by decide) q_1074 rfl ?_
        refine A_topI hg ?_
        refine A_if_eqB (tgt := 65) d_M_gameLine_45 (by decide) (fun c => absurd c (by decide)) (fun c_45 => ?_)
        refine A_aload_n0 d_M_gameLine_48 ?_
        refine A_getf (kf := 20) d_M_gameLine_49 hM.o ok_8 (by decide) q_1069 rfl ?_
        refine A_aload_n0 d_M_gameLine_52 ?_
        refine A_getf (kf := 21) d_M_gameLine_53 hM.o ok_8 (by decide) q_1070 rfl ?_
        refine A_iconst (v := nI 0) d_M_gameLine_56 (by decide) ?_
        refine A_ialdN d_M_gameLine_57 hM.a21 ⟨by decide, by decide⟩ ?_
        refine A_topI (show S2.2.2.1 21 0 = nI (lnV B n (nxN B n q) 0) from r21 0 (by decide)) ?_
        refine A_aload_n0 d_M_gameLine_58 ?_
        refine A_getf (kf := 21) d_M_gameLine_59 hM.o ok_8 (by decide) q_1070 rfl ?_
        refine A_iconst (v := nI 1) d_M_gameLine_62 (by decide) ?_
        refine A_ialdN d_M_gameLine_63 hM.a21 ⟨by decide, by decide⟩ ?_
        refine A_topI (show S2.2.2.1 21 1 = nI (lnV B n (nxN B n q) 1) from r21 1 (by decide)) ?_
        refine A_st20 hM d_M_gameLine_64 (by omega) (fun h hM => ?_)
        obtain ⟨S9, hM, e9, x9⟩ := opa20 hM
        have hL9 := LnS.a20 (T' := fup T (lnV B n (nxN B n q) 0) (lnV B n (nxN B n q) 1)) hL2 x9 (fun i hi => by
          rw [e9]
          by_cases z : i = lnV B n (nxN B n q) 0
          · rw [z, fup_eq, fup_eq]
          · rw [fup_ne _ _ z, fup_ne _ _ z]; exact hL2.2.2.2.1.1 i hi)
        refine A_iconst (v := nI 1) d_M_gameLine_65 (by decide) ?_
        refine A_zret d_M_gameLine_66 rfl (by first | rfl | exact bI_nar _ | decide) ⟨Nat.zero_le _, Nat.zero_le _⟩ ?_
        refine Or.inr ⟨flN_n (k := 11) (by decide) (by decide) hfl, rfl, S9, _, hM, LnS.at hL9 ?_⟩
        have e : tolT 11 (dkN B n q) (lnV B n (nxN B n q)) T = fup T (lnV B n (nxN B n q) 0) (lnV B n (nxN B n q) 1) := by
          show (if lnG 11 (lnV B n (nxN B n q)) = true then _ else T) = _
          rw [hgd]
          rfl
        show _ = (tolT 11 (dkN B n q) (lnV B n (nxN B n q)) T, _, _)
        rw [e]
        rfl
set_option maxHeartbeats 4000000 in
set_option maxRecDepth 100000 in
theorem c_M_gameL_none {G : GE} {h0 h : AH} {m : Nat} {S : MS} (hM : MW h0 h m S) {S0 : MS} {B : Nat → Nat} {n q : Nat} {T : Nat → Nat} {f : Nat × Nat × Nat} {s : Nat × Nat} (hL : LnS S0 S B n q q (T, f, s) true) (hqn : q < n) (hw : isW B n q wd_worth = false) : Ctr G y_M_gameLine b_M_gameLine 3 (some .boolean) r_M_gameLine [.ref m, .long (wdW B n q)] h (fun v h' => (∃ x, flN B n 12 q = some x ∧ v = some (.int (bI false)) ∧ ∃ S1, MW h0 h' m S1 ∧ KT S0 S1 ∧ S1.1 17 = nI x) ∨ (flN B n 12 q = none ∧ v = some (.int (bI true)) ∧ ∃ S1 g', MW h0 h' m S1 ∧ LnS S0 S1 B n (itN B n (nxN B n q) (sgN 12)) (itN B n (nxN B n q) (sgN 12)) (lnF 12 B n q (T, f, s)) g')) := by
  refine Ctr.of (by decide +kernel) (by simp) (Nat.le_of_ble_eq_true rfl) (L0 := [some (.ref m), some (.long (wdW B n q)), none]) rfl ?_
  refine A_lload_n1 d_M_gameLine_0 ?_
  refine A_ldc2 d_M_gameLine_1 q_1322 ?_
  refine A_lcmp d_M_gameLine_4 ?_
  refine A_if_eq (tgt := 13) d_M_gameLine_5 (by decide) (fun c => absurd (wc_worth.mp ((lg_cmp_eq _ _).mp c)) (by rw [hw]; decide)) (fun c_5 => ?_)
  refine A_aload_n0 d_M_gameLine_8 ?_
  refine A_callV d_M_gameLine_9 (c_M_fails hM hL.2.2.1.2.1) hM.o rfl q_1274 q_1276 qs_23 mk_M_fails rfl (by decide) rfl (Nat.le_of_ble_eq_true rfl) ⟨Nat.le_of_ble_eq_true rfl, Nat.le_of_ble_eq_true rfl⟩ (fun v h1 hv => ?_)
  obtain ⟨rfl, S2, hM, e17, x17⟩ := hv
  refine A_zret d_M_gameLine_12 rfl (by first | rfl | exact bI_nar _ | decide) ⟨Nat.zero_le _, Nat.zero_le _⟩ ?_
  exact Or.inl ⟨q, if_pos rfl, rfl, S2, hM, hL.1.tr (KT.sf x17 (by decide)), e17⟩
theorem isW_k {B : Nat → Nat} {n q : Nat} {l : List Nat} (h : isW B n q l = true) : kN B n q = 2 := by
  unfold isW at h
  rw [Bool.and_eq_true, decide_eq_true_eq] at h
  exact h.1
theorem TOK.a21 {S S1 : MS} (a : SA21 S S1) {B : Nat → Nat} {n q : Nat} (h : TOK S B n q) : TOK S1 B n q := by
  obtain ⟨h1, h2, h3, h4, h5⟩ := h
  exact ⟨by rw [a.1]; exact h1, by rw [a.1]; exact h2, by rw [a.1]; exact h3, fun z => by rw [a.1]; exact h4 z, fun z => by rw [a.2.1]; exact h5 z⟩
theorem LnS.a21 {S0 S S1 : MS} {B : Nat → Nat} {n q b : Nat} {r : RS} {g : Bool} (hL : LnS S0 S B n q b r g) (a : SA21 S S1) : LnS S0 S1 B n q b r g := by
  obtain ⟨l1, l2, l3, l4, l5, l6, l7, l8, l9⟩ := hL
  exact ⟨l1.tr a.kt, KT.tpe a.kt l2, TOK.a21 a l3, RSt.a21 a l4, by rw [a.1]; exact l5, l6, l7, l8, l9⟩
set_option maxHeartbeats 4000000 in
set_option maxRecDepth 100000 in
theorem c_M_sight {G : GE} {h0 h : AH} {m : Nat} {S : MS} (hM : MW h0 h m S) {S0 : MS} {B : Nat → Nat} {n q : Nat} {T : Nat → Nat} {f : Nat × Nat × Nat} {s : Nat × Nat} (hL : LnS S0 S B n q q (T, f, s) true) (hqn : q < n) (hTb : T 0 ≤ 20) : Ctr G y_M_sightLine b_M_sightLine 6 (some .boolean) r_M_sightLine [.ref m, .long (7561591), .int (nI q)] h (fun v h' => (∃ x, flN B n 10 q = some x ∧ v = some (.int (bI false)) ∧ ∃ S1, MW h0 h' m S1 ∧ KT S0 S1 ∧ S1.1 17 = nI x) ∨ (flN B n 10 q = none ∧ v = some (.int (bI true)) ∧ ∃ S1 g', MW h0 h' m S1 ∧ LnS S0 S1 B n (itN B n (nxN B n q) (sgN 10)) (itN B n (nxN B n q) (sgN 10)) (lnF 10 B n q (T, f, s)) g')) := by
  have hn := hL.2.1.2.1
  have hs4 : s.1 ≤ 4 := hL.2.2.2.2.2.2.1
  have hs6 : s.1 ≠ 0 → s.2 ≤ 600 := hL.2.2.2.2.2.2.2.1
  refine Ctr.of (by decide +kernel) (by simp) (Nat.le_of_ble_eq_true rfl) (L0 := [some (.ref m), some (.long (7561591)), none, some (.int (nI q)), none, none]) rfl ?_
  refine A_lload_n1 d_M_sightLine_0 ?_
  refine A_ldc2 d_M_sightLine_1 q_1315 ?_
  refine A_lcmp d_M_sightLine_4 ?_
  refine A_if_eq (tgt := 13) d_M_sightLine_5 (by decide) (fun c_5 => ?_) (fun c => absurd (by decide +kernel) c)
  refine A_aload_n0 d_M_sightLine_13 ?_
  refine A_iconst (v := nI 0) d_M_sightLine_14 (by decide) ?_
  refine A_bipush (v := nI 20) d_M_sightLine_15 (by decide) ?_
  refine A_iload_n3 d_M_sightLine_17 ?_
  refine A_callV d_M_sightLine_18 (c_M_full hM (c := 0) (x := T 0) (mo := 20) (f := 0) (p := q) (lf := s.1) (lp := s.2) (by decide) (hL.2.2.2.1.1 0 (by decide)) (by omega) (hL.2.2.2.1.2.2.2.2.1) (hL.2.2.2.1.2.2.2.2.2) (by omega) hL.2.2.2.2.2.2.2.2) hM.o rfl q_1278 q_1280 qs_24 mk_M_full rfl (by decide) rfl (Nat.le_of_ble_eq_true rfl) ⟨Nat.le_of_ble_eq_true rfl, Nat.le_of_ble_eq_true rfl⟩ (fun v h1 hv => ?_)
  obtain ⟨rfl, Sf, hM, e18, e19, xf⟩ := hv
  rw [ful_10] at e18 e19
  have hLf := LnS.ful hL e18 e19 xf (fulN 10 T) rfl
  refine A_aload_n0 d_M_sightLine_21 ?_
  refine A_callV d_M_sightLine_22 (c_M_tokenL hM hLf (by omega) hqn) hM.o rfl q_1246 q_1248 qs_18 mk_M_token rfl (by decide) rfl (Nat.le_of_ble_eq_true rfl) ⟨Nat.le_of_ble_eq_true rfl, Nat.le_of_ble_eq_true rfl⟩ (fun v h1 hv => ?_)
  obtain ⟨rfl, St, hM, hL0, -⟩ := hv
  refine A_aload_n0 d_M_sightLine_25 ?_
  refine A_iconst (v := nI 0) d_M_sightLine_26 (by decide) ?_
  refine A_iconst (v := nI 0) d_M_sightLine_27 (by decide) ?_
  refine A_bipush (v := nI 9) d_M_sightLine_28 (by decide) ?_
  refine A_callV d_M_sightLine_30 (c_M_takeL hM hL0 (k := 0) (lo := 0) (hi := 9) (by decide) (by omega) (by omega)) hM.o rfl q_1290 q_1292 qs_27 mk_M_take rfl (by decide) rfl (Nat.le_of_ble_eq_true rfl) ⟨Nat.le_of_ble_eq_true rfl, Nat.le_of_ble_eq_true rfl⟩ (fun v h1 hv => ?_)
  rcases hv with ⟨k0, rfl, S8, hM, hK8, e17⟩ | ⟨k0, rfl, S1, hM, hL1, e21_0⟩
  · have hfl : nuF B n (nxN B n q) 2 = some (itN B n (nxN B n q) 0) := nuF_s (by decide) (fun i h => by omega) k0
    refine A_if_eqB (tgt := 47) d_M_sightLine_33 (by decide) (fun c_33 => ?_) (fun c => absurd c (by decide))
    refine A_iconst (v := nI 0) d_M_sightLine_47 (by decide) ?_
    refine A_zret d_M_sightLine_48 rfl (by first | rfl | exact bI_nar _ | decide) ⟨Nat.zero_le _, Nat.zero_le _⟩ ?_
    exact Or.inl ⟨_, flN_s (k := 10) (by decide) hfl, rfl, S8, hM, hK8, e17⟩
  · have v0 : lnV B n (nxN B n q) 0 ≤ 99 := tvN_le k0
    refine A_if_eqB (tgt := 47) d_M_sightLine_33 (by decide) (fun c => absurd c (by decide)) (fun c_33 => ?_)
    refine A_aload_n0 d_M_sightLine_36 ?_
    refine A_iconst (v := nI 1) d_M_sightLine_37 (by decide) ?_
    refine A_iconst (v := nI 0) d_M_sightLine_38 (by decide) ?_
    refine A_bipush (v := nI 23) d_M_sightLine_39 (by decide) ?_
    refine A_callV d_M_sightLine_41 (c_M_takeL hM hL1 (k := 1) (lo := 0) (hi := 23) (by decide) (by omega) (by omega)) hM.o rfl q_1290 q_1292 qs_27 mk_M_take rfl (by decide) rfl (Nat.le_of_ble_eq_true rfl) ⟨Nat.le_of_ble_eq_true rfl, Nat.le_of_ble_eq_true rfl⟩ (fun v h1 hv => ?_)
    rcases hv with ⟨k1, rfl, S8, hM, hK8, e17⟩ | ⟨k1, rfl, S2, hM, hL2, e21_1⟩
    · have hfl : nuF B n (nxN B n q) 2 = some (itN B n (nxN B n q) 1) := nuF_s (by decide) (fun i h => by rcases (show i = 0 by omega) with rfl <;> assumption) k1
      refine A_if_neB (tgt := 49) d_M_sightLine_44 (by decide) (fun c => absurd c (by decide)) (fun c_44 => ?_)
      refine A_iconst (v := nI 0) d_M_sightLine_47 (by decide) ?_
      refine A_zret d_M_sightLine_48 rfl (by first | rfl | exact bI_nar _ | decide) ⟨Nat.zero_le _, Nat.zero_le _⟩ ?_
      exact Or.inl ⟨_, flN_s (k := 10) (by decide) hfl, rfl, S8, hM, hK8, e17⟩
    · have v1 : lnV B n (nxN B n q) 1 ≤ 99 := tvN_le k1
      refine A_if_neB (tgt := 49) d_M_sightLine_44 (by decide) (fun c_44 => ?_) (fun c => absurd c (by decide))
      have hfl : nuF B n (nxN B n q) 2 = none := nuF_n (fun i h => by rcases (show i = 0 ∨ i = 1 by omega) with rfl | rfl <;> assumption)
      have r21 : ∀ i, i < 2 → S2.2.2.1 21 i = nI (lnV B n (nxN B n q) i) := by
        intro i hi
        rcases (show i = 0 ∨ i = 1 by omega) with rfl | rfl
        · rw [e21_1, fup_ne _ _ (by decide), e21_0, fup_eq]
          rfl
        · rw [e21_1, fup_eq]
          rfl
      refine A_aload_n0 d_M_sightLine_49 ?_
      have hkl := kN_le B n (itN B n (nxN B n q) 2)
      cases hdd : isW B n (itN B n (nxN B n q) 2) wd_dark
      · have hnd : wdW B n (itN B n (nxN B n q) 2) ≠ 1684107883 := fun z => by rw [wc_dark.mp z] at hdd; cases hdd
        cases hll : isW B n (itN B n (nxN B n q) 2) wd_light
        · by_cases hk : kN B n (itN B n (nxN B n q) 2) = 2
          · skip
            refine A_getf (kf := 14) d_M_sightLine_50 hM.o ok_8 (by decide) q_1063 rfl ?_
            refine A_topI hL2.2.2.1.2.2.1 ?_
            refine A_iconst (v := nI 2) d_M_sightLine_53 (by decide) ?_
            refine A_icmp_ne (tgt := 64) d_M_sightLine_54 (by decide) (fun c => absurd (congrArg nI hk) c) (fun c_54 => ?_)
            refine A_aload_n0 d_M_sightLine_57 ?_
            refine A_getf (kf := 16) d_M_sightLine_58 hM.o ok_8 (by decide) q_1065 rfl ?_
            refine A_top (congrArg Value.long ((hL2.2.2.1.2.2.2.2 hk).trans (if_pos hk).symm : _ = wdW B n (itN B n (nxN B n q) 2))) ?_
            refine A_goto (tgt := 65) d_M_sightLine_61 (by decide) ?_
            refine A_lstore4 d_M_sightLine_65 trivial ?_
            refine A_lload4 d_M_sightLine_67 ?_
            refine A_ldc2 d_M_sightLine_69 q_1316 ?_
            refine A_lcmp d_M_sightLine_72 ?_
            refine A_if_eq (tgt := 90) d_M_sightLine_73 (by decide) (fun c => absurd (wc_dark.mp ((lg_cmp_eq _ _).mp c)) (by rw [hdd]; decide)) (fun c_73 => ?_)
            refine A_lload4 d_M_sightLine_76 ?_
            refine A_ldc2 d_M_sightLine_78 q_1317 ?_
            refine A_lcmp d_M_sightLine_81 ?_
            refine A_if_eq (tgt := 90) d_M_sightLine_82 (by decide) (fun c => absurd (wc_light.mp ((lg_cmp_eq _ _).mp c)) (by rw [hll]; decide)) (fun c_82 => ?_)
            refine A_aload_n0 d_M_sightLine_85 ?_
            refine A_callV d_M_sightLine_86 (c_M_fails hM hL2.2.2.1.2.1) hM.o rfl q_1274 q_1276 qs_23 mk_M_fails rfl (by decide) rfl (Nat.le_of_ble_eq_true rfl) ⟨Nat.le_of_ble_eq_true rfl, Nat.le_of_ble_eq_true rfl⟩ (fun v h1 hv => ?_)
            obtain ⟨rfl, S8, hM, e17, x17⟩ := hv
            refine A_zret d_M_sightLine_89 rfl (by first | rfl | exact bI_nar _ | decide) ⟨Nat.zero_le _, Nat.zero_le _⟩ ?_
            refine Or.inl ⟨itN B n (nxN B n q) 2, ?_, rfl, S8, hM, hL2.1.tr (KT.sf x17 (by decide)), e17⟩
            unfold flN
            rw [if_neg (by decide), show nuF B n (nxN B n q) (ncN 10) = none from hfl]
            exact if_pos ⟨rfl, hdd, hll⟩
          · skip
            refine A_getf (kf := 14) d_M_sightLine_50 hM.o ok_8 (by decide) q_1063 rfl ?_
            refine A_topI hL2.2.2.1.2.2.1 ?_
            refine A_iconst (v := nI 2) d_M_sightLine_53 (by decide) ?_
            refine A_icmp_ne (tgt := 64) d_M_sightLine_54 (by decide) (fun c_54 => ?_) (fun c => absurd ((nI_eq (a := kN B n (itN B n (nxN B n q) 2)) (by omega) (by decide)).mp c) hk)
            refine A_lconst (v := 0) d_M_sightLine_64 (by decide) ?_
            refine A_lstore4 d_M_sightLine_65 trivial ?_
            refine A_lload4 d_M_sightLine_67 ?_
            refine A_ldc2 d_M_sightLine_69 q_1316 ?_
            refine A_lcmp d_M_sightLine_72 ?_
            refine A_if_eq (tgt := 90) d_M_sightLine_73 (by decide) (fun c => absurd c (by decide +kernel)) (fun c_73 => ?_)
            refine A_lload4 d_M_sightLine_76 ?_
            refine A_ldc2 d_M_sightLine_78 q_1317 ?_
            refine A_lcmp d_M_sightLine_81 ?_
            refine A_if_eq (tgt := 90) d_M_sightLine_82 (by decide) (fun c => absurd c (by decide +kernel)) (fun c_82 => ?_)
            refine A_aload_n0 d_M_sightLine_85 ?_
            refine A_callV d_M_sightLine_86 (c_M_fails hM hL2.2.2.1.2.1) hM.o rfl q_1274 q_1276 qs_23 mk_M_fails rfl (by decide) rfl (Nat.le_of_ble_eq_true rfl) ⟨Nat.le_of_ble_eq_true rfl, Nat.le_of_ble_eq_true rfl⟩ (fun v h1 hv => ?_)
            obtain ⟨rfl, S8, hM, e17, x17⟩ := hv
            refine A_zret d_M_sightLine_89 rfl (by first | rfl | exact bI_nar _ | decide) ⟨Nat.zero_le _, Nat.zero_le _⟩ ?_
            refine Or.inl ⟨itN B n (nxN B n q) 2, ?_, rfl, S8, hM, hL2.1.tr (KT.sf x17 (by decide)), e17⟩
            unfold flN
            rw [if_neg (by decide), show nuF B n (nxN B n q) (ncN 10) = none from hfl]
            exact if_pos ⟨rfl, hdd, hll⟩
        · have hwl := (wc_light (B := B) (n := n) (q := itN B n (nxN B n q) 2)).mpr hll
          have hk : kN B n (itN B n (nxN B n q) 2) = 2 := isW_k hll
          refine A_getf (kf := 14) d_M_sightLine_50 hM.o ok_8 (by decide) q_1063 rfl ?_
          refine A_topI hL2.2.2.1.2.2.1 ?_
          refine A_iconst (v := nI 2) d_M_sightLine_53 (by decide) ?_
          refine A_icmp_ne (tgt := 64) d_M_sightLine_54 (by decide) (fun c => absurd (congrArg nI hk) c) (fun c_54 => ?_)
          refine A_aload_n0 d_M_sightLine_57 ?_
          refine A_getf (kf := 16) d_M_sightLine_58 hM.o ok_8 (by decide) q_1065 rfl ?_
          refine A_top (congrArg Value.long ((hL2.2.2.1.2.2.2.2 hk).trans (if_pos hk).symm : _ = wdW B n (itN B n (nxN B n q) 2))) ?_
          refine A_goto (tgt := 65) d_M_sightLine_61 (by decide) ?_
          refine A_lstore4 d_M_sightLine_65 trivial ?_
          refine A_lload4 d_M_sightLine_67 ?_
          refine A_ldc2 d_M_sightLine_69 q_1316 ?_
          refine A_lcmp d_M_sightLine_72 ?_
          refine A_if_eq (tgt := 90) d_M_sightLine_73 (by decide) (fun c => absurd ((lg_cmp_eq _ _).mp c) hnd) (fun c_73 => ?_)
          refine A_lload4 d_M_sightLine_76 ?_
          refine A_ldc2 d_M_sightLine_78 q_1317 ?_
          refine A_lcmp d_M_sightLine_81 ?_
          refine A_if_eq (tgt := 90) d_M_sightLine_82 (by decide) (fun c_82 => ?_) (fun c => absurd ((lg_cmp_eq _ _).mpr hwl) c)
          refine A_aload_n0 d_M_sightLine_90 ?_
          refine A_callV d_M_sightLine_91 (c_M_tokenL hM hL2 (by omega) (kN_lt (B := B) (n := n) (q := itN B n (nxN B n q) 2) (by rw [hk]; decide))) hM.o rfl q_1246 q_1248 qs_18 mk_M_token rfl (by decide) rfl (Nat.le_of_ble_eq_true rfl) ⟨Nat.le_of_ble_eq_true rfl, Nat.le_of_ble_eq_true rfl⟩ (fun v h1 hv => ?_)
          obtain ⟨rfl, S3, hM, hL3, g3⟩ := hv
          refine A_aload_n0 d_M_sightLine_94 ?_
          refine A_getf (kf := 21) d_M_sightLine_95 hM.o ok_8 (by decide) q_1070 rfl ?_
          refine A_iconst (v := nI 2) d_M_sightLine_98 (by decide) ?_
          refine A_lload4 d_M_sightLine_99 ?_
          refine A_ldc2 d_M_sightLine_101 q_1316 ?_
          refine A_lcmp d_M_sightLine_104 ?_
          refine A_if_ne (tgt := 112) d_M_sightLine_105 (by decide) (fun c_105 => ?_) (fun c => absurd ((lg_cmp_eq _ _).mp c) hnd)
          refine A_iconst (v := nI 0) d_M_sightLine_112 (by decide) ?_
          refine A_st21 hM d_M_sightLine_113 (by decide) (fun h hM => ?_)
          obtain ⟨S4, hM, e4, x4⟩ := opa21 hM
          have hL4 := LnS.a21 hL3 x4
          have r21c : ∀ i, i < 3 → S4.2.2.1 21 i = nI (fup (lnV B n (nxN B n q)) 2 0 i) := by
            intro i hi
            rcases (show i = 0 ∨ i = 1 ∨ i = 2 by omega) with rfl | rfl | rfl
            · rw [e4, fup_ne _ _ (by decide), fup_ne _ _ (by decide), g3]; exact r21 0 (by decide)
            · rw [e4, fup_ne _ _ (by decide), fup_ne _ _ (by decide), g3]; exact r21 1 (by decide)
            · rw [e4, fup_eq, fup_eq]
          refine A_aload_n0 d_M_sightLine_114 ?_
          refine A_iconst (v := nI 0) d_M_sightLine_115 (by decide) ?_
          refine A_iconst (v := nI 1) d_M_sightLine_116 (by decide) ?_
          refine A_iconst (v := nI 3) d_M_sightLine_117 (by decide) ?_
          refine A_iconst (v := nI 3) d_M_sightLine_118 (by decide) ?_
          refine A_bipush (v := nI 20) d_M_sightLine_119 (by decide) ?_
          refine A_callV d_M_sightLine_121 (c_M_keep hM (T := T) (v0 := fup (lnV B n (nxN B n q)) 2 0) (hL4.2.2.2.1.1) (c := 0) (fr := 1) (ap := 3) (wi := 3) (mo := 20) r21c (by decide) (by decide) (by decide) hTb (by omega) (by omega) (by decide)) hM.o rfl q_1297 q_1299 qs_28 mk_M_keep rfl (by decide) rfl (Nat.le_of_ble_eq_true rfl) ⟨Nat.le_of_ble_eq_true rfl, Nat.le_of_ble_eq_true rfl⟩ (fun v h1 hv => ?_)
          obtain ⟨rfl, S9, hM, hb9, hr9⟩ := hv
          have hL9 := LnS.a20 hL4 hb9 hr9
          refine A_iconst (v := nI 1) d_M_sightLine_124 (by decide) ?_
          refine A_zret d_M_sightLine_125 rfl (by first | rfl | exact bI_nar _ | decide) ⟨Nat.zero_le _, Nat.zero_le _⟩ ?_
          have hdk : dkN B n q = 0 := by unfold dkN; rw [hdd]; rfl
          refine Or.inr ⟨?_, rfl, S9, _, hM, LnS.at hL9 ?_⟩
          · unfold flN
            rw [if_neg (by decide), show nuF B n (nxN B n q) (ncN 10) = none from hfl]
            exact if_neg (fun z => by have z1 := z.2.1; have z2 := z.2.2; simp_all)
          · show _ = (kpF T (fup (lnV B n (nxN B n q)) 2 (dkN B n q)) 0 1 3 3 20, _, _)
            rw [hdk]
            rfl
      · have hwd := (wc_dark (B := B) (n := n) (q := itN B n (nxN B n q) 2)).mpr hdd
        have hk : kN B n (itN B n (nxN B n q) 2) = 2 := isW_k hdd
        refine A_getf (kf := 14) d_M_sightLine_50 hM.o ok_8 (by decide) q_1063 rfl ?_
        refine A_topI hL2.2.2.1.2.2.1 ?_
        refine A_iconst (v := nI 2) d_M_sightLine_53 (by decide) ?_
        refine A_icmp_ne (tgt := 64) d_M_sightLine_54 (by decide) (fun c => absurd (congrArg nI hk) c) (fun c_54 => ?_)
        refine A_aload_n0 d_M_sightLine_57 ?_
        refine A_getf (kf := 16) d_M_sightLine_58 hM.o ok_8 (by decide) q_1065 rfl ?_
        refine A_top (congrArg Value.long ((hL2.2.2.1.2.2.2.2 hk).trans (if_pos hk).symm : _ = wdW B n (itN B n (nxN B n q) 2))) ?_
        refine A_goto (tgt := 65) d_M_sightLine_61 (by decide) ?_
        refine A_lstore4 d_M_sightLine_65 trivial ?_
        refine A_lload4 d_M_sightLine_67 ?_
        refine A_ldc2 d_M_sightLine_69 q_1316 ?_
        refine A_lcmp d_M_sightLine_72 ?_
        refine A_if_eq (tgt := 90) d_M_sightLine_73 (by decide) (fun c_73 => ?_) (fun c => absurd ((lg_cmp_eq _ _).mpr hwd) c)
        refine A_aload_n0 d_M_sightLine_90 ?_
        refine A_callV d_M_sightLine_91 (c_M_tokenL hM hL2 (by omega) (kN_lt (B := B) (n := n) (q := itN B n (nxN B n q) 2) (by rw [hk]; decide))) hM.o rfl q_1246 q_1248 qs_18 mk_M_token rfl (by decide) rfl (Nat.le_of_ble_eq_true rfl) ⟨Nat.le_of_ble_eq_true rfl, Nat.le_of_ble_eq_true rfl⟩ (fun v h1 hv => ?_)
        obtain ⟨rfl, S3, hM, hL3, g3⟩ := hv
        refine A_aload_n0 d_M_sightLine_94 ?_
        refine A_getf (kf := 21) d_M_sightLine_95 hM.o ok_8 (by decide) q_1070 rfl ?_
        refine A_iconst (v := nI 2) d_M_sightLine_98 (by decide) ?_
        refine A_lload4 d_M_sightLine_99 ?_
        refine A_ldc2 d_M_sightLine_101 q_1316 ?_
        refine A_lcmp d_M_sightLine_104 ?_
        refine A_if_ne (tgt := 112) d_M_sightLine_105 (by decide) (fun c => absurd ((lg_cmp_eq _ _).mpr hwd) c) (fun c_105 => ?_)
        refine A_iconst (v := nI 1) d_M_sightLine_108 (by decide) ?_
        refine A_goto (tgt := 113) d_M_sightLine_109 (by decide) ?_
        refine A_st21 hM d_M_sightLine_113 (by decide) (fun h hM => ?_)
        obtain ⟨S4, hM, e4, x4⟩ := opa21 hM
        have hL4 := LnS.a21 hL3 x4
        have r21c : ∀ i, i < 3 → S4.2.2.1 21 i = nI (fup (lnV B n (nxN B n q)) 2 1 i) := by
          intro i hi
          rcases (show i = 0 ∨ i = 1 ∨ i = 2 by omega) with rfl | rfl | rfl
          · rw [e4, fup_ne _ _ (by decide), fup_ne _ _ (by decide), g3]; exact r21 0 (by decide)
          · rw [e4, fup_ne _ _ (by decide), fup_ne _ _ (by decide), g3]; exact r21 1 (by decide)
          · rw [e4, fup_eq, fup_eq]
        refine A_aload_n0 d_M_sightLine_114 ?_
        refine A_iconst (v := nI 0) d_M_sightLine_115 (by decide) ?_
        refine A_iconst (v := nI 1) d_M_sightLine_116 (by decide) ?_
        refine A_iconst (v := nI 3) d_M_sightLine_117 (by decide) ?_
        refine A_iconst (v := nI 3) d_M_sightLine_118 (by decide) ?_
        refine A_bipush (v := nI 20) d_M_sightLine_119 (by decide) ?_
        refine A_callV d_M_sightLine_121 (c_M_keep hM (T := T) (v0 := fup (lnV B n (nxN B n q)) 2 1) (hL4.2.2.2.1.1) (c := 0) (fr := 1) (ap := 3) (wi := 3) (mo := 20) r21c (by decide) (by decide) (by decide) hTb (by omega) (by omega) (by decide)) hM.o rfl q_1297 q_1299 qs_28 mk_M_keep rfl (by decide) rfl (Nat.le_of_ble_eq_true rfl) ⟨Nat.le_of_ble_eq_true rfl, Nat.le_of_ble_eq_true rfl⟩ (fun v h1 hv => ?_)
        obtain ⟨rfl, S9, hM, hb9, hr9⟩ := hv
        have hL9 := LnS.a20 hL4 hb9 hr9
        refine A_iconst (v := nI 1) d_M_sightLine_124 (by decide) ?_
        refine A_zret d_M_sightLine_125 rfl (by first | rfl | exact bI_nar _ | decide) ⟨Nat.zero_le _, Nat.zero_le _⟩ ?_
        have hdk : dkN B n q = 1 := by unfold dkN; rw [hdd]; rfl
        refine Or.inr ⟨?_, rfl, S9, _, hM, LnS.at hL9 ?_⟩
        · unfold flN
          rw [if_neg (by decide), show nuF B n (nxN B n q) (ncN 10) = none from hfl]
          exact if_neg (fun z => by have z1 := z.2.1; have z2 := z.2.2; simp_all)
        · show _ = (kpF T (fup (lnV B n (nxN B n q)) 2 (dkN B n q)) 0 1 3 3 20, _, _)
          rw [hdk]
          rfl
set_option maxHeartbeats 4000000 in
set_option maxRecDepth 100000 in
theorem c_M_sight_none {G : GE} {h0 h : AH} {m : Nat} {S : MS} (hM : MW h0 h m S) {S0 : MS} {B : Nat → Nat} {n q : Nat} {T : Nat → Nat} {f : Nat × Nat × Nat} {s : Nat × Nat} (hL : LnS S0 S B n q q (T, f, s) true) (hqn : q < n) (hw : isW B n q wd_saw = false) : Ctr G y_M_sightLine b_M_sightLine 6 (some .boolean) r_M_sightLine [.ref m, .long (wdW B n q), .int (nI q)] h (fun v h' => (∃ x, flN B n 12 q = some x ∧ v = some (.int (bI false)) ∧ ∃ S1, MW h0 h' m S1 ∧ KT S0 S1 ∧ S1.1 17 = nI x) ∨ (flN B n 12 q = none ∧ v = some (.int (bI true)) ∧ ∃ S1 g', MW h0 h' m S1 ∧ LnS S0 S1 B n (itN B n (nxN B n q) (sgN 12)) (itN B n (nxN B n q) (sgN 12)) (lnF 12 B n q (T, f, s)) g')) := by
  refine Ctr.of (by decide +kernel) (by simp) (Nat.le_of_ble_eq_true rfl) (L0 := [some (.ref m), some (.long (wdW B n q)), none, some (.int (nI q)), none, none]) rfl ?_
  refine A_lload_n1 d_M_sightLine_0 ?_
  refine A_ldc2 d_M_sightLine_1 q_1315 ?_
  refine A_lcmp d_M_sightLine_4 ?_
  refine A_if_eq (tgt := 13) d_M_sightLine_5 (by decide) (fun c => absurd (wc_saw.mp ((lg_cmp_eq _ _).mp c)) (by rw [hw]; decide)) (fun c_5 => ?_)
  refine A_aload_n0 d_M_sightLine_8 ?_
  refine A_callV d_M_sightLine_9 (c_M_fails hM hL.2.2.1.2.1) hM.o rfl q_1274 q_1276 qs_23 mk_M_fails rfl (by decide) rfl (Nat.le_of_ble_eq_true rfl) ⟨Nat.le_of_ble_eq_true rfl, Nat.le_of_ble_eq_true rfl⟩ (fun v h1 hv => ?_)
  obtain ⟨rfl, S2, hM, e17, x17⟩ := hv
  refine A_zret d_M_sightLine_12 rfl (by first | rfl | exact bI_nar _ | decide) ⟨Nat.zero_le _, Nat.zero_le _⟩ ?_
  exact Or.inl ⟨q, if_pos rfl, rfl, S2, hM, hL.1.tr (KT.sf x17 (by decide)), e17⟩
