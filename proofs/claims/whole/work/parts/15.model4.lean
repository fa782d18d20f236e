theorem handS_f {S : MS} {l : Nat} {V : Nat → Nat} {j : Nat} (h : j < 26 ∨ 30 < j) : (handS S l V).1 j = S.1 j := by
  show fup (fup (fup (fup (fup S.1 26 _) 27 _) 28 _) 29 _) 30 _ j = S.1 j
  rw [fup_ne _ _ (by omega), fup_ne _ _ (by omega), fup_ne _ _ (by omega), fup_ne _ _ (by omega), fup_ne _ _ (by omega)]
set_option maxHeartbeats 4000000 in
set_option maxRecDepth 100000 in
theorem c_M_layRow {G : GE} {h0 h : AH} {m : Nat} {S : MS} (hM : MW h0 h m S) {c : Nat → Nat} {VL WT BK SG GM : Nat → Nat → Nat} (hp : MP S c VL WT BK SG GM) (la ta : Int32) : Ctr G y_M_layRow b_M_layRow 4 (some .boolean) r_M_layRow [.ref m, .int la, .int ta] h (fun v h' => (∃ lb tb, la = nI lb ∧ ta = nI tb ∧ lb < c 0 ∧ tb < c 1 ∧ v = some (.int (bI true)) ∧ ∃ S1, MW h0 h' m S1 ∧ LRd S1 lb (VL lb) (WT tb) ∧ Keep S S1 ∧ ∀ j, (j < 26 ∨ 33 < j) → S1.1 j = S.1 j) ∨ ((inB la (nI 0) (nI (c 0) - nI 1) = false ∨ inB ta (nI 0) (nI (c 1) - nI 1) = false) ∧ v = some (.int (bI false)) ∧ ∃ S1, MW h0 h' m S1 ∧ Keep S S1)) := by
  refine Ctr.of (by decide +kernel) (by simp) (Nat.le_of_ble_eq_true rfl) (L0 := [some (.ref m), some (.int la), some (.int ta), none]) rfl ?_
  refine A_aload_n0 d_M_layRow_0 ?_
  refine A_iconst (v := nI 1) d_M_layRow_1 (by decide) ?_
  refine A_iload_n2 d_M_layRow_2 ?_
  refine A_callVP d_M_layRow_3 (c_M_is hM 1 (by decide) ta) hM.o rfl q_1238 q_1240 qs_16 mk_M_is rfl (by decide) rfl (Nat.le_of_ble_eq_true rfl) ⟨Nat.le_of_ble_eq_true rfl, Nat.le_of_ble_eq_true rfl⟩ ⟨rfl, rfl⟩ ?_
  refine A_topI (by rw [(hp.1 1 (by decide)).1]) ?_
  refine A_if_eqB (tgt := 17) d_M_layRow_6 (by decide) (fun c_6 => ?_) (fun c_6 => ?_)
  · refine A_iconst (v := nI 0) d_M_layRow_17 (by decide) ?_
    refine A_zret d_M_layRow_18 rfl (by first | rfl | exact bI_nar _ | decide) ⟨Nat.zero_le _, Nat.zero_le _⟩ ?_
    exact Or.inr ⟨Or.inr c_6, rfl, S, hM, Keep.rf S⟩
  · refine A_aload_n0 d_M_layRow_9 ?_
    refine A_iload_n1 d_M_layRow_10 ?_
    refine A_callV d_M_layRow_11 (c_M_hand hM (hp.1 0 (by decide)).1 (hp.1 0 (by decide)).2 hp.2.1 la) hM.o rfl q_1339 q_1341 qs_35 mk_M_hand rfl (by decide) rfl (Nat.le_of_ble_eq_true rfl) ⟨Nat.le_of_ble_eq_true rfl, Nat.le_of_ble_eq_true rfl⟩ (fun v h1 hv => ?_)
    rcases hv with ⟨l', rfl, hl, rfl, hM⟩ | ⟨q, rfl, rfl⟩
    · refine A_if_neB (tgt := 19) d_M_layRow_14 (by decide) (fun c_14 => ?_) (fun c_14 => absurd c_14 (by decide))
      obtain ⟨t', rfl, ht⟩ := inB_nat (by have := (hp.1 1 (by decide)).2; omega) c_6
      have hMT := hp.2.2.1 t' ht
      have hVl := hp.2.1 l' hl
      have hH := hVl.2.1.1
      have key : ∀ i, i ≤ VL l' 0 → ∀ (h : AH) (S1 : MS), MW h0 h m S1 → S1.1 = (handS S l' (VL l')).1 → Keep S S1 → RW S1 (WT t') i → WA G y_M_layRow b_M_layRow 4 (some .boolean) r_M_layRow 0 0 (fun v h' => (∃ lb tb, (nI l') = nI lb ∧ (nI t') = nI tb ∧ lb < c 0 ∧ tb < c 1 ∧ v = some (.int (bI true)) ∧ ∃ S1, MW h0 h' m S1 ∧ LRd S1 lb (VL lb) (WT tb) ∧ Keep S S1 ∧ ∀ j, (j < 26 ∨ 33 < j) → S1.1 j = S.1 j) ∨ ((inB (nI l') (nI 0) (nI (c 0) - nI 1) = false ∨ inB (nI t') (nI 0) (nI (c 1) - nI 1) = false) ∧ v = some (.int (bI false)) ∧ ∃ S1, MW h0 h' m S1 ∧ Keep S S1)) 0 0 21 [some (.ref m), some (.int (nI l')), some (.int (nI t')), some (.int (nI i))] [] h := by
        refine down ?_ (fun i hi ih => ?_)
        · intro h S1 hM he hk hr
          have hS : HS S1 l' (VL l') := HS.keepF (S := handS S l' (VL l')) (fun k hk2 => hk k hk2) (fun j _ _ => by rw [he]) (HS_hand hVl)
          refine A_iload_n3 d_M_layRow_21 ?_
          refine A_aload_n0 d_M_layRow_22 ?_
          refine A_getf (kf := 27) d_M_layRow_23 hM.o ok_8 (by decide) q_1076 rfl ?_
          refine A_topN (k := VL l' 0) (congrFun he 27) ?_
          first | refine A_icmp_geN (tgt := 52) d_M_layRow_26 (by decide) (by with_reducible rfl) (by with_reducible rfl) (by omega) (by omega) (fun c_26 => ?_) (fun c_26 => ?_) | refine A_icmp_ge (tgt := 52) d_M_layRow_26 (by decide) (fun c_26 => ?_) (fun c_26 => ?_)
          · refine A_aload_n0 d_M_layRow_52 ?_
            refine A_callV d_M_layRow_53 (c_M_countDark hM hS hr) hM.o rfl q_1375 q_1377 qs_41 mk_M_countDark rfl (by decide) rfl (Nat.le_of_ble_eq_true rfl) ⟨Nat.le_of_ble_eq_true rfl, Nat.le_of_ble_eq_true rfl⟩ (fun v h1 hv => ?_)
            obtain ⟨rfl, S2, hM, e2, e32, e33, eo⟩ := hv
            refine A_iconst (v := nI 1) d_M_layRow_56 (by decide) ?_
            refine A_zret d_M_layRow_57 rfl (by first | rfl | exact bI_nar _ | decide) ⟨Nat.zero_le _, Nat.zero_le _⟩ ?_
            exact Or.inl ⟨l', t', rfl, rfl, hl, ht, rfl, S2, hM, ⟨hS.keepF (Keep.of e2) (fun j a b => eo j (by omega) (by omega)), fun i hi => by rw [e2]; exact hr i hi, e32, e33⟩, hk.tr (Keep.of e2), fun j hj => (eo j (by omega) (by omega)).trans ((congrFun he j).trans (handS_f (by omega)))⟩
          · exact absurd c_26 (by omega)
        · intro h S1 hM he hk hr
          refine A_iload_n3 d_M_layRow_21 ?_
          refine A_aload_n0 d_M_layRow_22 ?_
          refine A_getf (kf := 27) d_M_layRow_23 hM.o ok_8 (by decide) q_1076 rfl ?_
          refine A_topN (k := VL l' 0) (congrFun he 27) ?_
          first | refine A_icmp_geN (tgt := 52) d_M_layRow_26 (by decide) (by with_reducible rfl) (by with_reducible rfl) (by omega) (by omega) (fun c_26 => ?_) (fun c_26 => ?_) | refine A_icmp_ge (tgt := 52) d_M_layRow_26 (by decide) (fun c_26 => ?_) (fun c_26 => ?_)
          · exact absurd c_26 (by omega)
          · refine A_aload_n0 d_M_layRow_29 ?_
            refine A_getf (kf := 31) d_M_layRow_30 hM.o ok_8 (by decide) q_1080 rfl ?_
            refine A_iload_n3 d_M_layRow_33 ?_
            refine A_aload_n0 d_M_layRow_34 ?_
            refine A_getf (kf := 7) d_M_layRow_35 hM.o ok_8 (by decide) q_1056 rfl ?_
            refine A_bipush (v := nI 24) d_M_layRow_38 (by decide) ?_
            refine A_iload_n2 d_M_layRow_40 ?_
            first | refine A_imulN d_M_layRow_41 (by with_reducible rfl) (by with_reducible rfl) ?_ | refine A_imul d_M_layRow_41 ?_
            refine A_iload_n3 d_M_layRow_42 ?_
            first | refine A_iaddN d_M_layRow_43 (by with_reducible rfl) (by with_reducible rfl) ?_ | refine A_iadd d_M_layRow_43 ?_
            refine A_ialdN d_M_layRow_44 hM.a7 ⟨by have := hMT.1; omega, by decide⟩ ?_
            refine A_topI ((congrFun (hk 7 (by decide)) _).trans (hMT.2 i (by omega)).1) ?_
            refine A_st31 hM d_M_layRow_45 (by omega) (fun h hM => ?_)
            first | refine A_iinc3 d_M_layRow_46 (nI_1 _) trivial ?_ | refine A_iinc3 d_M_layRow_46 rfl trivial ?_
            refine A_goto (tgt := 21) d_M_layRow_49 (by decide) ?_
            refine ih _ _ hM he (hk.tr (Keep.sa _ _ (by decide))) (fun j hj => ?_)
            by_cases q : j = i
            · subst q
              exact ⟨fup_eq _ _ _, (hMT.2 j (by omega)).2⟩
            · exact ⟨(fup_ne _ _ q).trans (hr j (by omega)).1, (hr j (by omega)).2⟩
      refine A_iconst (v := nI 0) d_M_layRow_19 (by decide) ?_
      refine A_istore3 d_M_layRow_20 trivial ?_
      exact key 0 (Nat.zero_le _) h1 _ hM rfl (fun _ _ => rfl) (fun i hi => absurd hi (Nat.not_lt_zero _))
    · refine A_if_neB (tgt := 19) d_M_layRow_14 (by decide) (fun c_14 => absurd c_14 (by decide)) (fun c_14 => ?_)
      refine A_iconst (v := nI 0) d_M_layRow_17 (by decide) ?_
      refine A_zret d_M_layRow_18 rfl (by first | rfl | exact bI_nar _ | decide) ⟨Nat.zero_le _, Nat.zero_le _⟩ ?_
      exact Or.inr ⟨Or.inl q, rfl, S, hM, Keep.rf S⟩
