def envyV (V : Nat → Nat) (cc : Nat) (x : Int32) : Int32 :=
  if nI 0 ≤ nI (worthN V cc ((if cc = 1 then x else x ^^^ (-1)) ^^^ (-1))) - nI (worthN V cc (if cc = 1 then x else x ^^^ (-1))) then nI (worthN V cc ((if cc = 1 then x else x ^^^ (-1)) ^^^ (-1))) - nI (worthN V cc (if cc = 1 then x else x ^^^ (-1))) else nI 0
theorem d00 : nI (0 - 0) = nI 0 - nI 0 := by decide
theorem d10 : nI (1 - 0) = nI 1 - nI 0 := by decide
theorem d11 : nI (1 - 1) = nI 1 - nI 1 := by decide
theorem sh1 {k : Nat} (h : k < 31) : nI 1 <<< (nI k &&& 31) = nI (2 ^ k) := by
  have : ∀ j : Fin 31, nI 1 <<< (nI j.val &&& 31) = nI (2 ^ j.val) := by decide +kernel
  exact this ⟨k, h⟩
set_option maxHeartbeats 4000000 in
set_option maxRecDepth 100000 in
theorem c_M_worth {G : GE} {h0 h : AH} {m : Nat} {S : MS} (hM : MW h0 h m S) {c : Nat → Nat} {VL WT BK SG GM : Nat → Nat → Nat} (hp : MP S c VL WT BK SG GM) (la ca x : Int32) : Ctr G y_M_worth b_M_worth 4 (some .int) r_M_worth [.ref m, .int la, .int ca, .int x] h (TK h0 m S (.int (pick (c 0) la (fun l => rg ca 0 1 (fun cc => nI (worthN (VL l) cc x)) (-1)) (-1)))) := by
  have hc0 := (hp.1 0 (by decide)).2
  refine Ctr.of (by decide +kernel) (by simp) (Nat.le_of_ble_eq_true rfl) (L0 := [some (.ref m), some (.int la), some (.int ca), some (.int x)]) rfl ?_
  refine A_aload_n0 d_M_worth_0 ?_
  refine A_iconst (v := nI 0) d_M_worth_1 (by decide) ?_
  refine A_putM hM (kf := 0) (ty := .int) d_M_worth_2 (by decide) q_1049 rfl (by decide +kernel) (by first | rfl | exact bI_nar _) rfl (Nat.le_of_ble_eq_true rfl) rfl (fun h hM => ?_)
  have hp := hp.keep (Keep.sf _ 0 (nI 0))
  refine A_aload_n0 d_M_worth_5 ?_
  refine A_iload_n1 d_M_worth_6 ?_
  refine A_callV d_M_worth_7 (c_M_hand hM (hp.1 0 (by decide)).1 (hp.1 0 (by decide)).2 hp.2.1 la) hM.o rfl q_1339 q_1341 qs_35 mk_M_hand rfl (by decide) rfl (Nat.le_of_ble_eq_true rfl) ⟨Nat.le_of_ble_eq_true rfl, Nat.le_of_ble_eq_true rfl⟩ (fun v h1 hv => ?_)
  rcases hv with ⟨l', rfl, hl, rfl, hM⟩ | ⟨q, rfl, rfl⟩
  · have hVl := hp.2.1 l' hl
    have hS := HS_hand hVl
    obtain ⟨b0, b1, b2, b3, b4, b5, bp, bb, bt⟩ := hVl.2.1
    refine A_if_eqB (tgt := 31) d_M_worth_10 (by decide) (fun c => absurd c (by decide)) (fun c_10 => ?_)
    refine A_iload_n2 d_M_worth_13 ?_
    refine A_iconst (v := nI 0) d_M_worth_14 (by decide) ?_
    refine A_iconst (v := nI 1) d_M_worth_15 (by decide) ?_
    refine A_callSP d_M_worth_16 (c_M_in _ _ _ _) q_1231 q_1232 mk_M_in rfl (by decide) rfl (Nat.le_of_ble_eq_true rfl) ⟨Nat.le_of_ble_eq_true rfl, Nat.le_of_ble_eq_true rfl⟩ ⟨rfl, rfl⟩ ?_
    refine A_if_eqB (tgt := 31) d_M_worth_19 (by decide) (fun c_19 => ?_) (fun c_19 => ?_)
    · refine A_iconst (v := (-1)) d_M_worth_31 (by decide) ?_
      refine A_iret d_M_worth_32 rfl ⟨Nat.zero_le _, Nat.zero_le _⟩ ?_
      first | exact tk hM (fun _ _ => rfl) (by rw [pick_out q]) | exact tk hM (fun _ _ => rfl) (by rw [pick_in hl (by omega), rg_out c_19]) | exact tk hM (fun _ _ => rfl) (by rw [pick_in hl (by omega), rg_in ⟨hc1, hc2⟩ (by decide)])
    · obtain ⟨cc, rfl, hc1, hc2⟩ := inB_ex (by decide) c_19
      refine A_aload_n0 d_M_worth_22 ?_
      refine A_iload_n2 d_M_worth_23 ?_
      refine A_iload_n3 d_M_worth_24 ?_
      refine A_callVP d_M_worth_25 (c_M_worthOf hM hS cc (by omega) x) hM.o rfl q_1549 q_1551 qs_77 mk_M_worthOf rfl (by decide) rfl (Nat.le_of_ble_eq_true rfl) ⟨Nat.le_of_ble_eq_true rfl, Nat.le_of_ble_eq_true rfl⟩ ⟨rfl, rfl⟩ ?_
      refine A_goto (tgt := 32) d_M_worth_28 (by decide) ?_
      refine A_iret d_M_worth_32 rfl ⟨Nat.zero_le _, Nat.zero_le _⟩ ?_
      first | exact tk hM (fun _ _ => rfl) (by rw [pick_out q]) | exact tk hM (fun _ _ => rfl) (by rw [pick_in hl (by omega), rg_out c_19]) | exact tk hM (fun _ _ => rfl) (by rw [pick_in hl (by omega), rg_in ⟨hc1, hc2⟩ (by decide)])
  · refine A_if_eqB (tgt := 31) d_M_worth_10 (by decide) (fun c_10 => ?_) (fun c => absurd c (by decide))
    refine A_iconst (v := (-1)) d_M_worth_31 (by decide) ?_
    refine A_iret d_M_worth_32 rfl ⟨Nat.zero_le _, Nat.zero_le _⟩ ?_
    first | exact tk hM (fun _ _ => rfl) (by rw [pick_out q]) | exact tk hM (fun _ _ => rfl) (by rw [pick_in hl (by omega), rg_out c_19]) | exact tk hM (fun _ _ => rfl) (by rw [pick_in hl (by omega), rg_in ⟨hc1, hc2⟩ (by decide)])
set_option maxHeartbeats 4000000 in
set_option maxRecDepth 100000 in
theorem c_M_envy {G : GE} {h0 h : AH} {m : Nat} {S : MS} (hM : MW h0 h m S) {c : Nat → Nat} {VL WT BK SG GM : Nat → Nat → Nat} (hp : MP S c VL WT BK SG GM) (la ca x : Int32) : Ctr G y_M_envy b_M_envy 5 (some .int) r_M_envy [.ref m, .int la, .int ca, .int x] h (TK h0 m S (.int (pick (c 0) la (fun l => rg ca 0 1 (fun cc => envyV (VL l) cc x) (-1)) (-1)))) := by
  have hc0 := (hp.1 0 (by decide)).2
  refine Ctr.of (by decide +kernel) (by simp) (Nat.le_of_ble_eq_true rfl) (L0 := [some (.ref m), some (.int la), some (.int ca), some (.int x), none]) rfl ?_
  refine A_aload_n0 d_M_envy_0 ?_
  refine A_iconst (v := nI 0) d_M_envy_1 (by decide) ?_
  refine A_putM hM (kf := 0) (ty := .int) d_M_envy_2 (by decide) q_1049 rfl (by decide +kernel) (by first | rfl | exact bI_nar _) rfl (Nat.le_of_ble_eq_true rfl) rfl (fun h hM => ?_)
  have hp := hp.keep (Keep.sf _ 0 (nI 0))
  refine A_aload_n0 d_M_envy_5 ?_
  refine A_iload_n1 d_M_envy_6 ?_
  refine A_callV d_M_envy_7 (c_M_hand hM (hp.1 0 (by decide)).1 (hp.1 0 (by decide)).2 hp.2.1 la) hM.o rfl q_1339 q_1341 qs_35 mk_M_hand rfl (by decide) rfl (Nat.le_of_ble_eq_true rfl) ⟨Nat.le_of_ble_eq_true rfl, Nat.le_of_ble_eq_true rfl⟩ (fun v h1 hv => ?_)
  rcases hv with ⟨l', rfl, hl, rfl, hM⟩ | ⟨q, rfl, rfl⟩
  · have hVl := hp.2.1 l' hl
    have hS := HS_hand hVl
    obtain ⟨b0, b1, b2, b3, b4, b5, bp, bb, bt⟩ := hVl.2.1
    refine A_if_eqB (tgt := 22) d_M_envy_10 (by decide) (fun c => absurd c (by decide)) (fun c_10 => ?_)
    refine A_iload_n2 d_M_envy_13 ?_
    refine A_iconst (v := nI 0) d_M_envy_14 (by decide) ?_
    refine A_iconst (v := nI 1) d_M_envy_15 (by decide) ?_
    refine A_callSP d_M_envy_16 (c_M_in _ _ _ _) q_1231 q_1232 mk_M_in rfl (by decide) rfl (Nat.le_of_ble_eq_true rfl) ⟨Nat.le_of_ble_eq_true rfl, Nat.le_of_ble_eq_true rfl⟩ ⟨rfl, rfl⟩ ?_
    refine A_if_neB (tgt := 24) d_M_envy_19 (by decide) (fun c_19 => ?_) (fun c_19 => ?_)
    · obtain ⟨cc, rfl, hc1, hc2⟩ := inB_ex (by decide) c_19
      refine A_iload_n2 d_M_envy_24 ?_
      refine A_iconst (v := nI 1) d_M_envy_25 (by decide) ?_
      first | refine A_icmp_neN (tgt := 33) d_M_envy_26 (by decide) (by with_reducible rfl) (by with_reducible rfl) (by omega) (by omega) (fun c_26 => ?_) (fun c_26 => ?_) | refine A_icmp_ne (tgt := 33) d_M_envy_26 (by decide) (fun c_26 => ?_) (fun c_26 => ?_)
      · refine A_iload_n3 d_M_envy_33 ?_
        refine A_iconst (v := (-1)) d_M_envy_34 (by decide) ?_
        refine A_ixor d_M_envy_35 ?_
        refine A_istore4 d_M_envy_36 trivial ?_
        refine A_iconst (v := nI 0) d_M_envy_38 (by decide) ?_
        refine A_aload_n0 d_M_envy_39 ?_
        refine A_iload_n2 d_M_envy_40 ?_
        refine A_iload4 d_M_envy_41 ?_
        refine A_iconst (v := (-1)) d_M_envy_43 (by decide) ?_
        refine A_ixor d_M_envy_44 ?_
        refine A_callVP d_M_envy_45 (c_M_worthOf hM hS cc (by omega) _) hM.o rfl q_1549 q_1551 qs_77 mk_M_worthOf rfl (by decide) rfl (Nat.le_of_ble_eq_true rfl) ⟨Nat.le_of_ble_eq_true rfl, Nat.le_of_ble_eq_true rfl⟩ ⟨rfl, rfl⟩ ?_
        refine A_aload_n0 d_M_envy_48 ?_
        refine A_iload_n2 d_M_envy_49 ?_
        refine A_iload4 d_M_envy_50 ?_
        refine A_callVP d_M_envy_52 (c_M_worthOf hM hS cc (by omega) _) hM.o rfl q_1549 q_1551 qs_77 mk_M_worthOf rfl (by decide) rfl (Nat.le_of_ble_eq_true rfl) ⟨Nat.le_of_ble_eq_true rfl, Nat.le_of_ble_eq_true rfl⟩ ⟨rfl, rfl⟩ ?_
        first | refine A_isubN d_M_envy_55 (by with_reducible rfl) (by with_reducible rfl) (by omega) ?_ | refine A_isub d_M_envy_55 ?_
        refine A_callSP d_M_envy_56 (c_M_greater _ _ _) q_1294 q_1295 mk_M_greater rfl (by decide) rfl (Nat.le_of_ble_eq_true rfl) ⟨Nat.le_of_ble_eq_true rfl, Nat.le_of_ble_eq_true rfl⟩ ⟨rfl, rfl⟩ ?_
        refine A_iret d_M_envy_59 rfl ⟨Nat.zero_le _, Nat.zero_le _⟩ ?_
        exact tk hM (fun _ _ => rfl) (by rw [pick_in hl (by omega), rg_in ⟨hc1, hc2⟩ (by decide), envyV]; simp only [c_19, c_26, reduceIte])
      · refine A_iload_n3 d_M_envy_29 ?_
        refine A_goto (tgt := 36) d_M_envy_30 (by decide) ?_
        refine A_istore4 d_M_envy_36 trivial ?_
        refine A_iconst (v := nI 0) d_M_envy_38 (by decide) ?_
        refine A_aload_n0 d_M_envy_39 ?_
        refine A_iload_n2 d_M_envy_40 ?_
        refine A_iload4 d_M_envy_41 ?_
        refine A_iconst (v := (-1)) d_M_envy_43 (by decide) ?_
        refine A_ixor d_M_envy_44 ?_
        refine A_callVP d_M_envy_45 (c_M_worthOf hM hS cc (by omega) _) hM.o rfl q_1549 q_1551 qs_77 mk_M_worthOf rfl (by decide) rfl (Nat.le_of_ble_eq_true rfl) ⟨Nat.le_of_ble_eq_true rfl, Nat.le_of_ble_eq_true rfl⟩ ⟨rfl, rfl⟩ ?_
        refine A_aload_n0 d_M_envy_48 ?_
        refine A_iload_n2 d_M_envy_49 ?_
        refine A_iload4 d_M_envy_50 ?_
        refine A_callVP d_M_envy_52 (c_M_worthOf hM hS cc (by omega) _) hM.o rfl q_1549 q_1551 qs_77 mk_M_worthOf rfl (by decide) rfl (Nat.le_of_ble_eq_true rfl) ⟨Nat.le_of_ble_eq_true rfl, Nat.le_of_ble_eq_true rfl⟩ ⟨rfl, rfl⟩ ?_
        first | refine A_isubN d_M_envy_55 (by with_reducible rfl) (by with_reducible rfl) (by omega) ?_ | refine A_isub d_M_envy_55 ?_
        refine A_callSP d_M_envy_56 (c_M_greater _ _ _) q_1294 q_1295 mk_M_greater rfl (by decide) rfl (Nat.le_of_ble_eq_true rfl) ⟨Nat.le_of_ble_eq_true rfl, Nat.le_of_ble_eq_true rfl⟩ ⟨rfl, rfl⟩ ?_
        refine A_iret d_M_envy_59 rfl ⟨Nat.zero_le _, Nat.zero_le _⟩ ?_
        exact tk hM (fun _ _ => rfl) (by rw [pick_in hl (by omega), rg_in ⟨hc1, hc2⟩ (by decide), envyV]; simp only [c_19, c_26, reduceIte])
    · refine A_iconst (v := (-1)) d_M_envy_22 (by decide) ?_
      refine A_iret d_M_envy_23 rfl ⟨Nat.zero_le _, Nat.zero_le _⟩ ?_
      first | exact tk hM (fun _ _ => rfl) (by rw [pick_out q]) | exact tk hM (fun _ _ => rfl) (by rw [pick_in hl (by omega), rg_out c_19])
  · refine A_if_eqB (tgt := 22) d_M_envy_10 (by decide) (fun c_10 => ?_) (fun c => absurd c (by decide))
    refine A_iconst (v := (-1)) d_M_envy_22 (by decide) ?_
    refine A_iret d_M_envy_23 rfl ⟨Nat.zero_le _, Nat.zero_le _⟩ ?_
    first | exact tk hM (fun _ _ => rfl) (by rw [pick_out q]) | exact tk hM (fun _ _ => rfl) (by rw [pick_in hl (by omega), rg_out c_19])
set_option maxHeartbeats 4000000 in
set_option maxRecDepth 100000 in
theorem c_M_days {G : GE} {h0 h : AH} {m : Nat} {S : MS} (hM : MW h0 h m S) {c : Nat → Nat} {VL WT BK SG GM : Nat → Nat → Nat} (hp : MP S c VL WT BK SG GM) (la ba x : Int32) : Ctr G y_M_days b_M_days 5 (some .int) r_M_days [.ref m, .int la, .int ba, .int x] h (TK h0 m S (.int (pick (c 2) ba (fun b => pick (c 0) la (fun l => daysV (VL l) (BK b) x) (-2)) (-2)))) := by
  have hc0 := (hp.1 0 (by decide)).2
  have hc2 := (hp.1 2 (by decide)).2
  refine Ctr.of (by decide +kernel) (by simp) (Nat.le_of_ble_eq_true rfl) (L0 := [some (.ref m), some (.int la), some (.int ba), some (.int x), none]) rfl ?_
  refine A_aload_n0 d_M_days_0 ?_
  refine A_iconst (v := nI 0) d_M_days_1 (by decide) ?_
  refine A_putM hM (kf := 0) (ty := .int) d_M_days_2 (by decide) q_1049 rfl (by decide +kernel) (by first | rfl | exact bI_nar _) rfl (Nat.le_of_ble_eq_true rfl) rfl (fun h hM => ?_)
  have hp := hp.keep (Keep.sf _ 0 (nI 0))
  refine A_aload_n0 d_M_days_5 ?_
  refine A_iload_n2 d_M_days_6 ?_
  refine A_callV d_M_days_7 (c_M_hasBook hM hp ba) hM.o rfl q_1423 q_1425 qs_51 mk_M_hasBook rfl (by decide) rfl (Nat.le_of_ble_eq_true rfl) ⟨Nat.le_of_ble_eq_true rfl, Nat.le_of_ble_eq_true rfl⟩ (fun v h1 hv => ?_)
  obtain ⟨rfl, hM⟩ := hv
  have hp := hp.keep (Keep.sf _ 34 ba)
  dsimp only [Option.toList, List.cons_append, List.nil_append]
  refine A_if_eqB (tgt := 21) d_M_days_10 (by decide) (fun c_10 => ?_) (fun c_10 => ?_)
  · refine A_bipush (v := (-2)) d_M_days_21 (by decide) ?_
    refine A_iret d_M_days_23 rfl ⟨Nat.zero_le _, Nat.zero_le _⟩ ?_
    first | exact tk hM (fun _ _ => rfl) (by rw [pick_out c_10]) | exact tk hM (fun _ _ => rfl) (by rw [pick_in hb (by omega), pick_out q])
  · obtain ⟨b, rfl, hb⟩ := inB_nat (by omega) c_10
    refine A_aload_n0 d_M_days_13 ?_
    refine A_iload_n1 d_M_days_14 ?_
    refine A_callV d_M_days_15 (c_M_hand hM (hp.1 0 (by decide)).1 (hp.1 0 (by decide)).2 hp.2.1 la) hM.o rfl q_1339 q_1341 qs_35 mk_M_hand rfl (by decide) rfl (Nat.le_of_ble_eq_true rfl) ⟨Nat.le_of_ble_eq_true rfl, Nat.le_of_ble_eq_true rfl⟩ (fun v h1 hv => ?_)
    rcases hv with ⟨l', rfl, hl, rfl, hM⟩ | ⟨q, rfl, rfl⟩
    · have hVl := hp.2.1 l' hl
      have hS := HS_hand hVl
      obtain ⟨b0, b1, b2, b3, b4, b5, bp, bb, bt⟩ := hVl.2.1
      refine A_if_neB (tgt := 24) d_M_days_18 (by decide) (fun c_18 => ?_) (fun c => absurd c (by decide))
      have hB : HB _ b (BK b) := HB.mk2 hp hb rfl
      refine A_aload_n0 d_M_days_24 ?_
      refine A_callV d_M_days_25 (c_M_layBook hM hB) hM.o rfl q_1427 q_1429 qs_52 mk_M_layBook rfl (by decide) rfl (Nat.le_of_ble_eq_true rfl) ⟨Nat.le_of_ble_eq_true rfl, Nat.le_of_ble_eq_true rfl⟩ (fun v h1 hv => ?_)
      obtain ⟨rfl, S1, hM, hW, hk1, hf1, ha1⟩ := hv
      have hS := hS.keepF hk1 (fun j a z => hf1 j (by omega))
      have ht := hW.1.tot
      have hdv : totB (BK b) / VL l' 0 ≤ 96 := Nat.le_trans (Nat.div_le_self _ _) ht
      refine A_aload_n0 d_M_days_28 ?_
      refine A_getf (kf := 35) d_M_days_29 hM.o ok_8 (by decide) q_1084 rfl ?_
      refine A_topI hW.2.1 ?_
      refine A_aload_n0 d_M_days_32 ?_
      refine A_getf (kf := 27) d_M_days_33 hM.o ok_8 (by decide) q_1076 rfl ?_
      refine A_topI hS.hours ?_
      refine A_idivN d_M_days_36 (by with_reducible rfl) (by with_reducible rfl) (by omega) ?_
      refine A_istore4 d_M_days_37 trivial ?_
      refine A_iload_n3 d_M_days_39 ?_
      refine A_bipush (v := nI 100) d_M_days_40 (by decide) ?_
      refine A_bipush (v := nI 99) d_M_days_42 (by decide) ?_
      refine A_iload4 d_M_days_44 ?_
      first | refine A_iaddN d_M_days_46 (by with_reducible rfl) (by with_reducible rfl) ?_ | refine A_iadd d_M_days_46 ?_
      refine A_callSP d_M_days_47 (c_M_in _ _ _ _) q_1231 q_1232 mk_M_in rfl (by decide) rfl (Nat.le_of_ble_eq_true rfl) ⟨Nat.le_of_ble_eq_true rfl, Nat.le_of_ble_eq_true rfl⟩ ⟨rfl, rfl⟩ ?_
      refine A_if_eqB (tgt := 62) d_M_days_50 (by decide) (fun c_50 => ?_) (fun c_50 => ?_)
      · refine A_iload_n3 d_M_days_62 ?_
        first | refine A_if_neN (tgt := 71) d_M_days_63 (by decide) (by with_reducible rfl) (by omega) (fun c_63 => ?_) (fun c_63 => ?_) | refine A_if_ne (tgt := 71) d_M_days_63 (by decide) (fun c_63 => ?_) (fun c_63 => ?_)
        · refine A_iload_n3 d_M_days_71 ?_
          refine A_iconst (v := nI 1) d_M_days_72 (by decide) ?_
          first | refine A_icmp_neN (tgt := 83) d_M_days_73 (by decide) (by with_reducible rfl) (by with_reducible rfl) (by omega) (by omega) (fun c_73 => ?_) (fun c_73 => ?_) | refine A_icmp_ne (tgt := 83) d_M_days_73 (by decide) (fun c_73 => ?_) (fun c_73 => ?_)
          · refine A_iload_n3 d_M_days_83 ?_
            refine A_iconst (v := nI 2) d_M_days_84 (by decide) ?_
            first | refine A_icmp_eqN (tgt := 93) d_M_days_85 (by decide) (by with_reducible rfl) (by with_reducible rfl) (by omega) (by omega) (fun c_85 => ?_) (fun c_85 => ?_) | refine A_icmp_eq (tgt := 93) d_M_days_85 (by decide) (fun c_85 => ?_) (fun c_85 => ?_)
            · refine A_aload_n0 d_M_days_93 ?_
              refine A_iload_n3 d_M_days_94 ?_
              first | refine A_topN (k := 2) c_85 ?_ | refine A_topN (k := 3) c_90 ?_
              refine A_iconst (v := nI 2) d_M_days_95 (by decide) ?_
              first | refine A_isubN d_M_days_96 (by with_reducible rfl) (by with_reducible rfl) (by omega) ?_ | refine A_isub d_M_days_96 ?_
              refine A_iconst (v := nI 0) d_M_days_97 (by decide) ?_
              refine A_aload_n0 d_M_days_98 ?_
              refine A_getf (kf := 35) d_M_days_99 hM.o ok_8 (by decide) q_1084 rfl ?_
              refine A_topI hW.2.1 ?_
              refine A_callVP d_M_days_102 (c_M_wentIn hM hW _ 0 _ (by omega) (Nat.le_refl _) (Nat.zero_le _)) hM.o rfl q_1447 q_1449 qs_56 mk_M_wentIn rfl (by decide) rfl (Nat.le_of_ble_eq_true rfl) ⟨Nat.le_of_ble_eq_true rfl, Nat.le_of_ble_eq_true rfl⟩ ⟨rfl, rfl⟩ ?_
              refine A_goto (tgt := 110) d_M_days_105 (by decide) ?_
              refine A_iret d_M_days_110 rfl ⟨Nat.zero_le _, Nat.zero_le _⟩ ?_
              first | exact tk hM (fun k hk => hk1 k hk) (by rw [pick_in hb (by omega), pick_in hl (by omega), daysV, rg_out c_50, if_pos c_63]) | exact tk hM (fun k hk => hk1 k hk) (by rw [pick_in hb (by omega), pick_in hl (by omega), daysV, rg_out c_50, if_neg c_63, if_pos c_73]) | exact tk hM (fun k hk => hk1 k hk) (by rw [pick_in hb (by omega), pick_in hl (by omega), daysV, rg_out c_50, if_neg c_63, if_neg c_73, if_pos c_85]) | exact tk hM (fun k hk => hk1 k hk) (by rw [pick_in hb (by omega), pick_in hl (by omega), daysV, rg_out c_50, if_neg c_63, if_neg c_73, if_neg c_85, if_pos c_90]) | exact tk hM (fun k hk => hk1 k hk) (by rw [pick_in hb (by omega), pick_in hl (by omega), daysV, rg_out c_50, if_neg c_63, if_neg c_73, if_neg c_85, if_neg c_90])
            · refine A_iload_n3 d_M_days_88 ?_
              refine A_iconst (v := nI 3) d_M_days_89 (by decide) ?_
              first | refine A_icmp_neN (tgt := 108) d_M_days_90 (by decide) (by with_reducible rfl) (by with_reducible rfl) (by omega) (by omega) (fun c_90 => ?_) (fun c_90 => ?_) | refine A_icmp_ne (tgt := 108) d_M_days_90 (by decide) (fun c_90 => ?_) (fun c_90 => ?_)
              · refine A_bipush (v := (-2)) d_M_days_108 (by decide) ?_
                refine A_iret d_M_days_110 rfl ⟨Nat.zero_le _, Nat.zero_le _⟩ ?_
                first | exact tk hM (fun k hk => hk1 k hk) (by rw [pick_in hb (by omega), pick_in hl (by omega), daysV, rg_out c_50, if_pos c_63]) | exact tk hM (fun k hk => hk1 k hk) (by rw [pick_in hb (by omega), pick_in hl (by omega), daysV, rg_out c_50, if_neg c_63, if_pos c_73]) | exact tk hM (fun k hk => hk1 k hk) (by rw [pick_in hb (by omega), pick_in hl (by omega), daysV, rg_out c_50, if_neg c_63, if_neg c_73, if_pos c_85]) | exact tk hM (fun k hk => hk1 k hk) (by rw [pick_in hb (by omega), pick_in hl (by omega), daysV, rg_out c_50, if_neg c_63, if_neg c_73, if_neg c_85, if_pos c_90]) | exact tk hM (fun k hk => hk1 k hk) (by rw [pick_in hb (by omega), pick_in hl (by omega), daysV, rg_out c_50, if_neg c_63, if_neg c_73, if_neg c_85, if_neg c_90])
              · refine A_aload_n0 d_M_days_93 ?_
                refine A_iload_n3 d_M_days_94 ?_
                first | refine A_topN (k := 2) c_85 ?_ | refine A_topN (k := 3) c_90 ?_
                refine A_iconst (v := nI 2) d_M_days_95 (by decide) ?_
                first | refine A_isubN d_M_days_96 (by with_reducible rfl) (by with_reducible rfl) (by omega) ?_ | refine A_isub d_M_days_96 ?_
                refine A_iconst (v := nI 0) d_M_days_97 (by decide) ?_
                refine A_aload_n0 d_M_days_98 ?_
                refine A_getf (kf := 35) d_M_days_99 hM.o ok_8 (by decide) q_1084 rfl ?_
                refine A_topI hW.2.1 ?_
                refine A_callVP d_M_days_102 (c_M_wentIn hM hW _ 0 _ (by omega) (Nat.le_refl _) (Nat.zero_le _)) hM.o rfl q_1447 q_1449 qs_56 mk_M_wentIn rfl (by decide) rfl (Nat.le_of_ble_eq_true rfl) ⟨Nat.le_of_ble_eq_true rfl, Nat.le_of_ble_eq_true rfl⟩ ⟨rfl, rfl⟩ ?_
                refine A_goto (tgt := 110) d_M_days_105 (by decide) ?_
                refine A_iret d_M_days_110 rfl ⟨Nat.zero_le _, Nat.zero_le _⟩ ?_
                first | exact tk hM (fun k hk => hk1 k hk) (by rw [pick_in hb (by omega), pick_in hl (by omega), daysV, rg_out c_50, if_pos c_63]) | exact tk hM (fun k hk => hk1 k hk) (by rw [pick_in hb (by omega), pick_in hl (by omega), daysV, rg_out c_50, if_neg c_63, if_pos c_73]) | exact tk hM (fun k hk => hk1 k hk) (by rw [pick_in hb (by omega), pick_in hl (by omega), daysV, rg_out c_50, if_neg c_63, if_neg c_73, if_pos c_85]) | exact tk hM (fun k hk => hk1 k hk) (by rw [pick_in hb (by omega), pick_in hl (by omega), daysV, rg_out c_50, if_neg c_63, if_neg c_73, if_neg c_85, if_pos c_90]) | exact tk hM (fun k hk => hk1 k hk) (by rw [pick_in hb (by omega), pick_in hl (by omega), daysV, rg_out c_50, if_neg c_63, if_neg c_73, if_neg c_85, if_neg c_90])
          · refine A_aload_n0 d_M_days_76 ?_
            refine A_callVP d_M_days_77 (c_M_villages hM hS hW) hM.o rfl q_1451 q_1453 qs_57 mk_M_villages rfl (by decide) rfl (Nat.le_of_ble_eq_true rfl) ⟨Nat.le_of_ble_eq_true rfl, Nat.le_of_ble_eq_true rfl⟩ ⟨rfl, rfl⟩ ?_
            refine A_goto (tgt := 110) d_M_days_80 (by decide) ?_
            refine A_iret d_M_days_110 rfl ⟨Nat.zero_le _, Nat.zero_le _⟩ ?_
            first | exact tk hM (fun k hk => hk1 k hk) (by rw [pick_in hb (by omega), pick_in hl (by omega), daysV, rg_out c_50, if_pos c_63]) | exact tk hM (fun k hk => hk1 k hk) (by rw [pick_in hb (by omega), pick_in hl (by omega), daysV, rg_out c_50, if_neg c_63, if_pos c_73]) | exact tk hM (fun k hk => hk1 k hk) (by rw [pick_in hb (by omega), pick_in hl (by omega), daysV, rg_out c_50, if_neg c_63, if_neg c_73, if_pos c_85]) | exact tk hM (fun k hk => hk1 k hk) (by rw [pick_in hb (by omega), pick_in hl (by omega), daysV, rg_out c_50, if_neg c_63, if_neg c_73, if_neg c_85, if_pos c_90]) | exact tk hM (fun k hk => hk1 k hk) (by rw [pick_in hb (by omega), pick_in hl (by omega), daysV, rg_out c_50, if_neg c_63, if_neg c_73, if_neg c_85, if_neg c_90])
        · refine A_iload4 d_M_days_66 ?_
          refine A_goto (tgt := 110) d_M_days_68 (by decide) ?_
          refine A_iret d_M_days_110 rfl ⟨Nat.zero_le _, Nat.zero_le _⟩ ?_
          first | exact tk hM (fun k hk => hk1 k hk) (by rw [pick_in hb (by omega), pick_in hl (by omega), daysV, rg_out c_50, if_pos c_63]) | exact tk hM (fun k hk => hk1 k hk) (by rw [pick_in hb (by omega), pick_in hl (by omega), daysV, rg_out c_50, if_neg c_63, if_pos c_73]) | exact tk hM (fun k hk => hk1 k hk) (by rw [pick_in hb (by omega), pick_in hl (by omega), daysV, rg_out c_50, if_neg c_63, if_neg c_73, if_pos c_85]) | exact tk hM (fun k hk => hk1 k hk) (by rw [pick_in hb (by omega), pick_in hl (by omega), daysV, rg_out c_50, if_neg c_63, if_neg c_73, if_neg c_85, if_pos c_90]) | exact tk hM (fun k hk => hk1 k hk) (by rw [pick_in hb (by omega), pick_in hl (by omega), daysV, rg_out c_50, if_neg c_63, if_neg c_73, if_neg c_85, if_neg c_90])
      · obtain ⟨d, rfl, hd1, hd2⟩ := inB_ex (by omega) c_50
        refine A_aload_n0 d_M_days_53 ?_
        refine A_iload_n3 d_M_days_54 ?_
        refine A_bipush (v := nI 100) d_M_days_55 (by decide) ?_
        first | refine A_isubN d_M_days_57 (by with_reducible rfl) (by with_reducible rfl) (by omega) ?_ | refine A_isub d_M_days_57 ?_
        refine A_callVP d_M_days_58 (c_M_sleptIn hM hS hW (d - 100) (by have := Nat.div_mul_le_self (totB (BK b)) (VL l' 0); have h2 := Nat.mul_le_mul_left (VL l' 0) (show d - 100 + 1 ≤ totB (BK b) / VL l' 0 by omega); rw [Nat.mul_comm (VL l' 0) (totB (BK b) / VL l' 0)] at h2; omega)) hM.o rfl q_1443 q_1445 qs_55 mk_M_sleptIn rfl (by decide) rfl (Nat.le_of_ble_eq_true rfl) ⟨Nat.le_of_ble_eq_true rfl, Nat.le_of_ble_eq_true rfl⟩ ⟨rfl, rfl⟩ ?_
        refine A_iret d_M_days_61 rfl ⟨Nat.zero_le _, Nat.zero_le _⟩ ?_
        exact tk hM (fun k hk => hk1 k hk) (by rw [pick_in hb (by omega), pick_in hl (by omega), daysV, rg_in ⟨hd1, hd2⟩ (by omega)])
    · refine A_if_neB (tgt := 24) d_M_days_18 (by decide) (fun c => absurd c (by decide)) (fun c_18 => ?_)
      refine A_bipush (v := (-2)) d_M_days_21 (by decide) ?_
      refine A_iret d_M_days_23 rfl ⟨Nat.zero_le _, Nat.zero_le _⟩ ?_
      first | exact tk hM (fun _ _ => rfl) (by rw [pick_out c_10]) | exact tk hM (fun _ _ => rfl) (by rw [pick_in hb (by omega), pick_out q])
theorem brF_succ (V w tw : Nat → Nat) (x : Int32) (n : Nat) : brF V w tw x (n + 1) = (if (brF V w tw x n).1 = -1 then (if tw n = w (n % V 0) then (brF V w tw x n).1 else nI n) else (brF V w tw x n).1, (brF V w tw x n).2 + ((if nI (w (n % V 0)) = x - nI 1 then nI 1 else nI 0) - (if nI (tw n) = x - nI 1 then nI 1 else nI 0))) := rfl
set_option maxHeartbeats 4000000 in
set_option maxRecDepth 100000 in
theorem c_M_breach {G : GE} {h0 h : AH} {m : Nat} {S : MS} (hM : MW h0 h m S) {c : Nat → Nat} {VL WT BK SG GM : Nat → Nat → Nat} (hp : MP S c VL WT BK SG GM) (la ba ta x : Int32) : Ctr G y_M_breach b_M_breach 9 (some .int) r_M_breach [.ref m, .int la, .int ba, .int ta, .int x] h (TK h0 m S (.int (pick (c 2) ba (fun b => pick (c 0) la (fun l => pick (c 1) ta (fun t => breachV (VL l) (WT t) (BK b) x) (-1000)) (-1000)) (-1000)))) := by
  have hc0 := (hp.1 0 (by decide)).2
  have hc1 := (hp.1 1 (by decide)).2
  have hc2 := (hp.1 2 (by decide)).2
  refine Ctr.of (by decide +kernel) (by simp) (Nat.le_of_ble_eq_true rfl) (L0 := [some (.ref m), some (.int la), some (.int ba), some (.int ta), some (.int x), none, none, none, none]) rfl ?_
  refine A_aload_n0 d_M_breach_0 ?_
  refine A_iconst (v := nI 0) d_M_breach_1 (by decide) ?_
  refine A_putM hM (kf := 0) (ty := .int) d_M_breach_2 (by decide) q_1049 rfl (by decide +kernel) (by first | rfl | exact bI_nar _) rfl (Nat.le_of_ble_eq_true rfl) rfl (fun h hM => ?_)
  have hp := hp.keep (Keep.sf _ 0 (nI 0))
  refine A_aload_n0 d_M_breach_5 ?_
  refine A_iload_n2 d_M_breach_6 ?_
  refine A_callV d_M_breach_7 (c_M_hasBook hM hp ba) hM.o rfl q_1423 q_1425 qs_51 mk_M_hasBook rfl (by decide) rfl (Nat.le_of_ble_eq_true rfl) ⟨Nat.le_of_ble_eq_true rfl, Nat.le_of_ble_eq_true rfl⟩ (fun v h1 hv => ?_)
  obtain ⟨rfl, hM⟩ := hv
  have hp := hp.keep (Keep.sf _ 34 ba)
  dsimp only [Option.toList, List.cons_append, List.nil_append]
  refine A_if_eqB (tgt := 32) d_M_breach_10 (by decide) (fun c_10 => ?_) (fun c_10 => ?_)
  · refine A_sipush (v := (-1000)) d_M_breach_32 (by decide) ?_
    refine A_iret d_M_breach_35 rfl ⟨Nat.zero_le _, Nat.zero_le _⟩ ?_
    first | exact tk hM (fun _ _ => rfl) (by rw [pick_out c_10]) | exact tk hM (fun k hk2 => hk k hk2) (by rw [pick_in hb (by omega)]; rcases q with q | q <;> first | rw [pick_out q] | (unfold pick; split <;> first | rfl | (rw [q]; rfl))) | exact tk hM (fun k hk2 => hk k hk2) (by rw [pick_in hb (by omega), pick_in hl (by omega), pick_in ht1 (by omega), breachV, rg_out c_29])
  · obtain ⟨b, rfl, hb⟩ := inB_nat (by omega) c_10
    refine A_aload_n0 d_M_breach_13 ?_
    refine A_iload_n1 d_M_breach_14 ?_
    refine A_iload_n3 d_M_breach_15 ?_
    refine A_callV d_M_breach_16 (c_M_layRow hM hp la ta) hM.o rfl q_1371 q_1373 qs_40 mk_M_layRow rfl (by decide) rfl (Nat.le_of_ble_eq_true rfl) ⟨Nat.le_of_ble_eq_true rfl, Nat.le_of_ble_eq_true rfl⟩ (fun v h1 hv => ?_)
    rcases hv with ⟨l', t', rfl, rfl, hl, ht1, rfl, S2, hM, hL, hk, hkf⟩ | ⟨q, rfl, S2, hM, hk⟩
    · obtain ⟨hS, hw, e0, e1⟩ := hL
      obtain ⟨b0, b1, b2, b3, b4, b5, bp, bb, bt⟩ := hS.ok
      have hp := hp.keep hk
      refine A_if_eqB (tgt := 32) d_M_breach_19 (by decide) (fun c => absurd c (by decide)) (fun c_19 => ?_)
      refine A_iload4 d_M_breach_22 ?_
      refine A_iconst (v := nI 0) d_M_breach_24 (by decide) ?_
      refine A_iconst (v := nI 2) d_M_breach_25 (by decide) ?_
      refine A_callSP d_M_breach_26 (c_M_in _ _ _ _) q_1231 q_1232 mk_M_in rfl (by decide) rfl (Nat.le_of_ble_eq_true rfl) ⟨Nat.le_of_ble_eq_true rfl, Nat.le_of_ble_eq_true rfl⟩ ⟨rfl, rfl⟩ ?_
      refine A_if_neB (tgt := 36) d_M_breach_29 (by decide) (fun c_29 => ?_) (fun c_29 => ?_)
      · have hB : HB S2 b (BK b) := HB.mk2 hp hb ((hkf 34 (by decide)).trans rfl)
        obtain ⟨xx, rfl, hx1, hx2⟩ := inB_ex (by decide) c_29
        refine A_aload_n0 d_M_breach_36 ?_
        refine A_callV d_M_breach_37 (c_M_layBook hM hB) hM.o rfl q_1427 q_1429 qs_52 mk_M_layBook rfl (by decide) rfl (Nat.le_of_ble_eq_true rfl) ⟨Nat.le_of_ble_eq_true rfl, Nat.le_of_ble_eq_true rfl⟩ (fun v h1 hv => ?_)
        obtain ⟨rfl, S1, hM, hW, hk1, hf1, ha1⟩ := hv
        have hS := hS.keepF hk1 (fun j a z => hf1 j (by omega))
        have ht := hW.1.tot
        have hw : RW S1 (WT t') (VL l' 0) := fun i hi => by rw [ha1 31 (by decide)]; exact hw i hi
        generalize hF : brF (VL l') (WT t') (wentB (BK b)) (nI xx) = F
        refine A_iconst (v := (-1)) d_M_breach_40 (by decide) ?_
        refine A_istore5 d_M_breach_41 trivial ?_
        refine A_iconst (v := nI 0) d_M_breach_43 (by decide) ?_
        refine A_istore6 d_M_breach_44 trivial ?_
        refine A_iconst (v := nI 0) d_M_breach_46 (by decide) ?_
        refine A_istore7 d_M_breach_47 trivial ?_
        rw [pick_in hb (by omega), pick_in hl (by omega), pick_in ht1 (by omega), breachV, rg_in ⟨hx1, hx2⟩ (by decide), hF]
        have hF0 : F 0 = (-1, nI 0) := by rw [← hF]; rfl
        have key : ∀ i, i ≤ totB (BK b) → WA G y_M_breach b_M_breach 9 (some .int) r_M_breach 0 0 (TK h0 m S (.int (if xx = 0 then (F (totB (BK b))).1 else (F (totB (BK b))).2))) 0 0 49 [some (.ref m), some (.int (nI l')), some (.int (nI b)), some (.int (nI t')), some (.int (nI xx)), some (.int (F i).1), some (.int (F i).2), some (.int (nI i)), none] [] h1 := by
          refine down ?_ (fun i hi ih => ?_)
          · refine A_iload7 d_M_breach_49 ?_
            refine A_aload_n0 d_M_breach_51 ?_
            refine A_getf (kf := 35) d_M_breach_52 hM.o ok_8 (by decide) q_1084 rfl ?_
            refine A_topI hW.2.1 ?_
            first | refine A_icmp_geN (tgt := 144) d_M_breach_55 (by decide) (by with_reducible rfl) (by with_reducible rfl) (by omega) (by omega) (fun c_55 => ?_) (fun c_55 => ?_) | refine A_icmp_ge (tgt := 144) d_M_breach_55 (by decide) (fun c_55 => ?_) (fun c_55 => ?_)
            · refine A_iload4 d_M_breach_144 ?_
              first | refine A_if_neN (tgt := 154) d_M_breach_146 (by decide) (by with_reducible rfl) (by omega) (fun c_146 => ?_) (fun c_146 => ?_) | refine A_if_ne (tgt := 154) d_M_breach_146 (by decide) (fun c_146 => ?_) (fun c_146 => ?_)
              · refine A_iload6 d_M_breach_154 ?_
                refine A_iret d_M_breach_156 rfl ⟨Nat.zero_le _, Nat.zero_le _⟩ ?_
                exact tk hM (fun k hk2 => (hk1 k hk2).trans (hk k hk2)) (by first | rw [if_pos c_146] | rw [if_neg c_146])
              · refine A_iload5 d_M_breach_149 ?_
                refine A_goto (tgt := 156) d_M_breach_151 (by decide) ?_
                refine A_iret d_M_breach_156 rfl ⟨Nat.zero_le _, Nat.zero_le _⟩ ?_
                exact tk hM (fun k hk2 => (hk1 k hk2).trans (hk k hk2)) (by first | rw [if_pos c_146] | rw [if_neg c_146])
            · exact absurd c_55 (by omega)
          · have hlt : i % VL l' 0 < VL l' 0 := Nat.mod_lt _ (by omega)
            have hw2 := (hw _ hlt).2
            have hw3 := hW.1.le i
            refine A_iload7 d_M_breach_49 ?_
            refine A_aload_n0 d_M_breach_51 ?_
            refine A_getf (kf := 35) d_M_breach_52 hM.o ok_8 (by decide) q_1084 rfl ?_
            refine A_topI hW.2.1 ?_
            first | refine A_icmp_geN (tgt := 144) d_M_breach_55 (by decide) (by with_reducible rfl) (by with_reducible rfl) (by omega) (by omega) (fun c_55 => ?_) (fun c_55 => ?_) | refine A_icmp_ge (tgt := 144) d_M_breach_55 (by decide) (fun c_55 => ?_) (fun c_55 => ?_)
            · exact absurd c_55 (by omega)
            · refine A_aload_n0 d_M_breach_58 ?_
              refine A_getf (kf := 31) d_M_breach_59 hM.o ok_8 (by decide) q_1080 rfl ?_
              refine A_iload7 d_M_breach_62 ?_
              refine A_aload_n0 d_M_breach_64 ?_
              refine A_getf (kf := 27) d_M_breach_65 hM.o ok_8 (by decide) q_1076 rfl ?_
              refine A_topI hS.hours ?_
              refine A_iremN d_M_breach_68 (by with_reducible rfl) (by with_reducible rfl) (by omega) ?_
              refine A_ialdN d_M_breach_69 hM.a31 ⟨by omega, by decide⟩ ?_
              refine A_topI (hw _ hlt).1 ?_
              refine A_istore8 d_M_breach_70 trivial ?_
              refine A_iload5 d_M_breach_72 ?_
              refine A_iconst (v := (-1)) d_M_breach_74 (by decide) ?_
              first | refine A_icmp_neN (tgt := 95) d_M_breach_75 (by decide) (by with_reducible rfl) (by with_reducible rfl) (by omega) (by omega) (fun c_75 => ?_) (fun c_75 => ?_) | refine A_icmp_ne (tgt := 95) d_M_breach_75 (by decide) (fun c_75 => ?_) (fun c_75 => ?_)
              · refine A_iload5 d_M_breach_95 ?_
                refine A_istore5 d_M_breach_97 trivial ?_
                refine A_iload6 d_M_breach_99 ?_
                refine A_iload8 d_M_breach_101 ?_
                refine A_iload4 d_M_breach_103 ?_
                refine A_iconst (v := nI 1) d_M_breach_105 (by decide) ?_
                first | refine A_isubN d_M_breach_106 (by with_reducible rfl) (by with_reducible rfl) (by omega) ?_ | refine A_isub d_M_breach_106 ?_
                first | refine A_icmp_neN (tgt := 114) d_M_breach_107 (by decide) (by with_reducible rfl) (by with_reducible rfl) (by omega) (by omega) (fun c_107 => ?_) (fun c_107 => ?_) | refine A_icmp_ne (tgt := 114) d_M_breach_107 (by decide) (fun c_107 => ?_) (fun c_107 => ?_)
                · refine A_iconst (v := nI 0) d_M_breach_114 (by decide) ?_
                  refine A_aload_n0 d_M_breach_115 ?_
                  refine A_getf (kf := 36) d_M_breach_116 hM.o ok_8 (by decide) q_1085 rfl ?_
                  refine A_iload7 d_M_breach_119 ?_
                  refine A_ialdN d_M_breach_121 hM.a36 ⟨by omega, by decide⟩ ?_
                  refine A_topI (hW.2.2 _ hi) ?_
                  refine A_iload4 d_M_breach_122 ?_
                  refine A_iconst (v := nI 1) d_M_breach_124 (by decide) ?_
                  first | refine A_isubN d_M_breach_125 (by with_reducible rfl) (by with_reducible rfl) (by omega) ?_ | refine A_isub d_M_breach_125 ?_
                  first | refine A_icmp_neN (tgt := 133) d_M_breach_126 (by decide) (by with_reducible rfl) (by with_reducible rfl) (by omega) (by omega) (fun c_126 => ?_) (fun c_126 => ?_) | refine A_icmp_ne (tgt := 133) d_M_breach_126 (by decide) (fun c_126 => ?_) (fun c_126 => ?_)
                  · refine A_iconst (v := nI 0) d_M_breach_133 (by decide) ?_
                    first | refine A_isubN d_M_breach_134 (by with_reducible rfl) (by with_reducible rfl) (by omega) ?_ | refine A_isub d_M_breach_134 ?_
                    first | refine A_iaddN d_M_breach_135 (by with_reducible rfl) (by with_reducible rfl) ?_ | refine A_iadd d_M_breach_135 ?_
                    refine A_istore6 d_M_breach_136 trivial ?_
                    first | refine A_iinc7 d_M_breach_138 (nI_1 _) trivial ?_ | refine A_iinc7 d_M_breach_138 rfl trivial ?_
                    refine A_goto (tgt := 49) d_M_breach_141 (by decide) ?_
                    refine A_drop8 ?_
                    first | (refine A_loc ?_ ih; rw [← hF, brF_succ, hF]; simp only [c_55, c_75, c_107, c_126, reduceIte, d00, d10, d11]; done) | exact absurd (by rw [← c_87]; exact c_126) c_107 | exact absurd (by rw [c_87]; exact c_107) c_126
                  · refine A_iconst (v := nI 1) d_M_breach_129 (by decide) ?_
                    refine A_goto (tgt := 134) d_M_breach_130 (by decide) ?_
                    first | refine A_isubN d_M_breach_134 (by with_reducible rfl) (by with_reducible rfl) (by omega) ?_ | refine A_isub d_M_breach_134 ?_
                    first | refine A_iaddN d_M_breach_135 (by with_reducible rfl) (by with_reducible rfl) ?_ | refine A_iadd d_M_breach_135 ?_
                    refine A_istore6 d_M_breach_136 trivial ?_
                    first | refine A_iinc7 d_M_breach_138 (nI_1 _) trivial ?_ | refine A_iinc7 d_M_breach_138 rfl trivial ?_
                    refine A_goto (tgt := 49) d_M_breach_141 (by decide) ?_
                    refine A_drop8 ?_
                    first | (refine A_loc ?_ ih; rw [← hF, brF_succ, hF]; simp only [c_55, c_75, c_107, c_126, reduceIte, d00, d10, d11]; done) | exact absurd (by rw [← c_87]; exact c_126) c_107 | exact absurd (by rw [c_87]; exact c_107) c_126
                · refine A_iconst (v := nI 1) d_M_breach_110 (by decide) ?_
                  refine A_goto (tgt := 115) d_M_breach_111 (by decide) ?_
                  refine A_aload_n0 d_M_breach_115 ?_
                  refine A_getf (kf := 36) d_M_breach_116 hM.o ok_8 (by decide) q_1085 rfl ?_
                  refine A_iload7 d_M_breach_119 ?_
                  refine A_ialdN d_M_breach_121 hM.a36 ⟨by omega, by decide⟩ ?_
                  refine A_topI (hW.2.2 _ hi) ?_
                  refine A_iload4 d_M_breach_122 ?_
                  refine A_iconst (v := nI 1) d_M_breach_124 (by decide) ?_
                  first | refine A_isubN d_M_breach_125 (by with_reducible rfl) (by with_reducible rfl) (by omega) ?_ | refine A_isub d_M_breach_125 ?_
                  first | refine A_icmp_neN (tgt := 133) d_M_breach_126 (by decide) (by with_reducible rfl) (by with_reducible rfl) (by omega) (by omega) (fun c_126 => ?_) (fun c_126 => ?_) | refine A_icmp_ne (tgt := 133) d_M_breach_126 (by decide) (fun c_126 => ?_) (fun c_126 => ?_)
                  · refine A_iconst (v := nI 0) d_M_breach_133 (by decide) ?_
                    first | refine A_isubN d_M_breach_134 (by with_reducible rfl) (by with_reducible rfl) (by omega) ?_ | refine A_isub d_M_breach_134 ?_
                    first | refine A_iaddN d_M_breach_135 (by with_reducible rfl) (by with_reducible rfl) ?_ | refine A_iadd d_M_breach_135 ?_
                    refine A_istore6 d_M_breach_136 trivial ?_
                    first | refine A_iinc7 d_M_breach_138 (nI_1 _) trivial ?_ | refine A_iinc7 d_M_breach_138 rfl trivial ?_
                    refine A_goto (tgt := 49) d_M_breach_141 (by decide) ?_
                    refine A_drop8 ?_
                    first | (refine A_loc ?_ ih; rw [← hF, brF_succ, hF]; simp only [c_55, c_75, c_107, c_126, reduceIte, d00, d10, d11]; done) | exact absurd (by rw [← c_87]; exact c_126) c_107 | exact absurd (by rw [c_87]; exact c_107) c_126
                  · refine A_iconst (v := nI 1) d_M_breach_129 (by decide) ?_
                    refine A_goto (tgt := 134) d_M_breach_130 (by decide) ?_
                    first | refine A_isubN d_M_breach_134 (by with_reducible rfl) (by with_reducible rfl) (by omega) ?_ | refine A_isub d_M_breach_134 ?_
                    first | refine A_iaddN d_M_breach_135 (by with_reducible rfl) (by with_reducible rfl) ?_ | refine A_iadd d_M_breach_135 ?_
                    refine A_istore6 d_M_breach_136 trivial ?_
                    first | refine A_iinc7 d_M_breach_138 (nI_1 _) trivial ?_ | refine A_iinc7 d_M_breach_138 rfl trivial ?_
                    refine A_goto (tgt := 49) d_M_breach_141 (by decide) ?_
                    refine A_drop8 ?_
                    first | (refine A_loc ?_ ih; rw [← hF, brF_succ, hF]; simp only [c_55, c_75, c_107, c_126, reduceIte, d00, d10, d11]; done) | exact absurd (by rw [← c_87]; exact c_126) c_107 | exact absurd (by rw [c_87]; exact c_107) c_126
              · refine A_aload_n0 d_M_breach_78 ?_
                refine A_getf (kf := 36) d_M_breach_79 hM.o ok_8 (by decide) q_1085 rfl ?_
                refine A_iload7 d_M_breach_82 ?_
                refine A_ialdN d_M_breach_84 hM.a36 ⟨by omega, by decide⟩ ?_
                refine A_topI (hW.2.2 _ hi) ?_
                refine A_iload8 d_M_breach_85 ?_
                first | refine A_icmp_eqN (tgt := 95) d_M_breach_87 (by decide) (by with_reducible rfl) (by with_reducible rfl) (by omega) (by omega) (fun c_87 => ?_) (fun c_87 => ?_) | refine A_icmp_eq (tgt := 95) d_M_breach_87 (by decide) (fun c_87 => ?_) (fun c_87 => ?_)
                · refine A_iload5 d_M_breach_95 ?_
                  refine A_istore5 d_M_breach_97 trivial ?_
                  refine A_iload6 d_M_breach_99 ?_
                  refine A_iload8 d_M_breach_101 ?_
                  refine A_iload4 d_M_breach_103 ?_
                  refine A_iconst (v := nI 1) d_M_breach_105 (by decide) ?_
                  first | refine A_isubN d_M_breach_106 (by with_reducible rfl) (by with_reducible rfl) (by omega) ?_ | refine A_isub d_M_breach_106 ?_
                  first | refine A_icmp_neN (tgt := 114) d_M_breach_107 (by decide) (by with_reducible rfl) (by with_reducible rfl) (by omega) (by omega) (fun c_107 => ?_) (fun c_107 => ?_) | refine A_icmp_ne (tgt := 114) d_M_breach_107 (by decide) (fun c_107 => ?_) (fun c_107 => ?_)
                  · refine A_iconst (v := nI 0) d_M_breach_114 (by decide) ?_
                    refine A_aload_n0 d_M_breach_115 ?_
                    refine A_getf (kf := 36) d_M_breach_116 hM.o ok_8 (by decide) q_1085 rfl ?_
                    refine A_iload7 d_M_breach_119 ?_
                    refine A_ialdN d_M_breach_121 hM.a36 ⟨by omega, by decide⟩ ?_
                    refine A_topI (hW.2.2 _ hi) ?_
                    refine A_iload4 d_M_breach_122 ?_
                    refine A_iconst (v := nI 1) d_M_breach_124 (by decide) ?_
                    first | refine A_isubN d_M_breach_125 (by with_reducible rfl) (by with_reducible rfl) (by omega) ?_ | refine A_isub d_M_breach_125 ?_
                    first | refine A_icmp_neN (tgt := 133) d_M_breach_126 (by decide) (by with_reducible rfl) (by with_reducible rfl) (by omega) (by omega) (fun c_126 => ?_) (fun c_126 => ?_) | refine A_icmp_ne (tgt := 133) d_M_breach_126 (by decide) (fun c_126 => ?_) (fun c_126 => ?_)
                    · refine A_iconst (v := nI 0) d_M_breach_133 (by decide) ?_
                      first | refine A_isubN d_M_breach_134 (by with_reducible rfl) (by with_reducible rfl) (by omega) ?_ | refine A_isub d_M_breach_134 ?_
                      first | refine A_iaddN d_M_breach_135 (by with_reducible rfl) (by with_reducible rfl) ?_ | refine A_iadd d_M_breach_135 ?_
                      refine A_istore6 d_M_breach_136 trivial ?_
                      first | refine A_iinc7 d_M_breach_138 (nI_1 _) trivial ?_ | refine A_iinc7 d_M_breach_138 rfl trivial ?_
                      refine A_goto (tgt := 49) d_M_breach_141 (by decide) ?_
                      refine A_drop8 ?_
                      first | (refine A_loc ?_ ih; rw [← hF, brF_succ, hF]; simp only [c_55, c_75, c_87, c_107, c_126, reduceIte, d00, d10, d11]; done) | exact absurd (by rw [← c_87]; exact c_126) c_107 | exact absurd (by rw [c_87]; exact c_107) c_126
                    · refine A_iconst (v := nI 1) d_M_breach_129 (by decide) ?_
                      refine A_goto (tgt := 134) d_M_breach_130 (by decide) ?_
                      first | refine A_isubN d_M_breach_134 (by with_reducible rfl) (by with_reducible rfl) (by omega) ?_ | refine A_isub d_M_breach_134 ?_
                      first | refine A_iaddN d_M_breach_135 (by with_reducible rfl) (by with_reducible rfl) ?_ | refine A_iadd d_M_breach_135 ?_
                      refine A_istore6 d_M_breach_136 trivial ?_
                      first | refine A_iinc7 d_M_breach_138 (nI_1 _) trivial ?_ | refine A_iinc7 d_M_breach_138 rfl trivial ?_
                      refine A_goto (tgt := 49) d_M_breach_141 (by decide) ?_
                      refine A_drop8 ?_
                      first | (refine A_loc ?_ ih; rw [← hF, brF_succ, hF]; simp only [c_55, c_75, c_87, c_107, c_126, reduceIte, d00, d10, d11]; done) | exact absurd (by rw [← c_87]; exact c_126) c_107 | exact absurd (by rw [c_87]; exact c_107) c_126
                  · refine A_iconst (v := nI 1) d_M_breach_110 (by decide) ?_
                    refine A_goto (tgt := 115) d_M_breach_111 (by decide) ?_
                    refine A_aload_n0 d_M_breach_115 ?_
                    refine A_getf (kf := 36) d_M_breach_116 hM.o ok_8 (by decide) q_1085 rfl ?_
                    refine A_iload7 d_M_breach_119 ?_
                    refine A_ialdN d_M_breach_121 hM.a36 ⟨by omega, by decide⟩ ?_
                    refine A_topI (hW.2.2 _ hi) ?_
                    refine A_iload4 d_M_breach_122 ?_
                    refine A_iconst (v := nI 1) d_M_breach_124 (by decide) ?_
                    first | refine A_isubN d_M_breach_125 (by with_reducible rfl) (by with_reducible rfl) (by omega) ?_ | refine A_isub d_M_breach_125 ?_
                    first | refine A_icmp_neN (tgt := 133) d_M_breach_126 (by decide) (by with_reducible rfl) (by with_reducible rfl) (by omega) (by omega) (fun c_126 => ?_) (fun c_126 => ?_) | refine A_icmp_ne (tgt := 133) d_M_breach_126 (by decide) (fun c_126 => ?_) (fun c_126 => ?_)
                    · refine A_iconst (v := nI 0) d_M_breach_133 (by decide) ?_
                      first | refine A_isubN d_M_breach_134 (by with_reducible rfl) (by with_reducible rfl) (by omega) ?_ | refine A_isub d_M_breach_134 ?_
                      first | refine A_iaddN d_M_breach_135 (by with_reducible rfl) (by with_reducible rfl) ?_ | refine A_iadd d_M_breach_135 ?_
                      refine A_istore6 d_M_breach_136 trivial ?_
                      first | refine A_iinc7 d_M_breach_138 (nI_1 _) trivial ?_ | refine A_iinc7 d_M_breach_138 rfl trivial ?_
                      refine A_goto (tgt := 49) d_M_breach_141 (by decide) ?_
                      refine A_drop8 ?_
                      first | (refine A_loc ?_ ih; rw [← hF, brF_succ, hF]; simp only [c_55, c_75, c_87, c_107, c_126, reduceIte, d00, d10, d11]; done) | exact absurd (by rw [← c_87]; exact c_126) c_107 | exact absurd (by rw [c_87]; exact c_107) c_126
                    · refine A_iconst (v := nI 1) d_M_breach_129 (by decide) ?_
                      refine A_goto (tgt := 134) d_M_breach_130 (by decide) ?_
                      first | refine A_isubN d_M_breach_134 (by with_reducible rfl) (by with_reducible rfl) (by omega) ?_ | refine A_isub d_M_breach_134 ?_
                      first | refine A_iaddN d_M_breach_135 (by with_reducible rfl) (by with_reducible rfl) ?_ | refine A_iadd d_M_breach_135 ?_
                      refine A_istore6 d_M_breach_136 trivial ?_
                      first | refine A_iinc7 d_M_breach_138 (nI_1 _) trivial ?_ | refine A_iinc7 d_M_breach_138 rfl trivial ?_
                      refine A_goto (tgt := 49) d_M_breach_141 (by decide) ?_
                      refine A_drop8 ?_
                      first | (refine A_loc ?_ ih; rw [← hF, brF_succ, hF]; simp only [c_55, c_75, c_87, c_107, c_126, reduceIte, d00, d10, d11]; done) | exact absurd (by rw [← c_87]; exact c_126) c_107 | exact absurd (by rw [c_87]; exact c_107) c_126
                · refine A_iload7 d_M_breach_90 ?_
                  refine A_goto (tgt := 97) d_M_breach_92 (by decide) ?_
                  refine A_istore5 d_M_breach_97 trivial ?_
                  refine A_iload6 d_M_breach_99 ?_
                  refine A_iload8 d_M_breach_101 ?_
                  refine A_iload4 d_M_breach_103 ?_
                  refine A_iconst (v := nI 1) d_M_breach_105 (by decide) ?_
                  first | refine A_isubN d_M_breach_106 (by with_reducible rfl) (by with_reducible rfl) (by omega) ?_ | refine A_isub d_M_breach_106 ?_
                  first | refine A_icmp_neN (tgt := 114) d_M_breach_107 (by decide) (by with_reducible rfl) (by with_reducible rfl) (by omega) (by omega) (fun c_107 => ?_) (fun c_107 => ?_) | refine A_icmp_ne (tgt := 114) d_M_breach_107 (by decide) (fun c_107 => ?_) (fun c_107 => ?_)
                  · refine A_iconst (v := nI 0) d_M_breach_114 (by decide) ?_
                    refine A_aload_n0 d_M_breach_115 ?_
                    refine A_getf (kf := 36) d_M_breach_116 hM.o ok_8 (by decide) q_1085 rfl ?_
                    refine A_iload7 d_M_breach_119 ?_
                    refine A_ialdN d_M_breach_121 hM.a36 ⟨by omega, by decide⟩ ?_
                    refine A_topI (hW.2.2 _ hi) ?_
                    refine A_iload4 d_M_breach_122 ?_
                    refine A_iconst (v := nI 1) d_M_breach_124 (by decide) ?_
                    first | refine A_isubN d_M_breach_125 (by with_reducible rfl) (by with_reducible rfl) (by omega) ?_ | refine A_isub d_M_breach_125 ?_
                    first | refine A_icmp_neN (tgt := 133) d_M_breach_126 (by decide) (by with_reducible rfl) (by with_reducible rfl) (by omega) (by omega) (fun c_126 => ?_) (fun c_126 => ?_) | refine A_icmp_ne (tgt := 133) d_M_breach_126 (by decide) (fun c_126 => ?_) (fun c_126 => ?_)
                    · refine A_iconst (v := nI 0) d_M_breach_133 (by decide) ?_
                      first | refine A_isubN d_M_breach_134 (by with_reducible rfl) (by with_reducible rfl) (by omega) ?_ | refine A_isub d_M_breach_134 ?_
                      first | refine A_iaddN d_M_breach_135 (by with_reducible rfl) (by with_reducible rfl) ?_ | refine A_iadd d_M_breach_135 ?_
                      refine A_istore6 d_M_breach_136 trivial ?_
                      first | refine A_iinc7 d_M_breach_138 (nI_1 _) trivial ?_ | refine A_iinc7 d_M_breach_138 rfl trivial ?_
                      refine A_goto (tgt := 49) d_M_breach_141 (by decide) ?_
                      refine A_drop8 ?_
                      first | (refine A_loc ?_ ih; rw [← hF, brF_succ, hF]; simp only [c_55, c_75, c_87, c_107, c_126, reduceIte, d00, d10, d11]; done) | exact absurd (by rw [← c_87]; exact c_126) c_107 | exact absurd (by rw [c_87]; exact c_107) c_126
                    · refine A_iconst (v := nI 1) d_M_breach_129 (by decide) ?_
                      refine A_goto (tgt := 134) d_M_breach_130 (by decide) ?_
                      first | refine A_isubN d_M_breach_134 (by with_reducible rfl) (by with_reducible rfl) (by omega) ?_ | refine A_isub d_M_breach_134 ?_
                      first | refine A_iaddN d_M_breach_135 (by with_reducible rfl) (by with_reducible rfl) ?_ | refine A_iadd d_M_breach_135 ?_
                      refine A_istore6 d_M_breach_136 trivial ?_
                      first | refine A_iinc7 d_M_breach_138 (nI_1 _) trivial ?_ | refine A_iinc7 d_M_breach_138 rfl trivial ?_
                      refine A_goto (tgt := 49) d_M_breach_141 (by decide) ?_
                      refine A_drop8 ?_
                      first | (refine A_loc ?_ ih; rw [← hF, brF_succ, hF]; simp only [c_55, c_75, c_87, c_107, c_126, reduceIte, d00, d10, d11]; done) | exact absurd (by rw [← c_87]; exact c_126) c_107 | exact absurd (by rw [c_87]; exact c_107) c_126
                  · refine A_iconst (v := nI 1) d_M_breach_110 (by decide) ?_
                    refine A_goto (tgt := 115) d_M_breach_111 (by decide) ?_
                    refine A_aload_n0 d_M_breach_115 ?_
                    refine A_getf (kf := 36) d_M_breach_116 hM.o ok_8 (by decide) q_1085 rfl ?_
                    refine A_iload7 d_M_breach_119 ?_
                    refine A_ialdN d_M_breach_121 hM.a36 ⟨by omega, by decide⟩ ?_
                    refine A_topI (hW.2.2 _ hi) ?_
                    refine A_iload4 d_M_breach_122 ?_
                    refine A_iconst (v := nI 1) d_M_breach_124 (by decide) ?_
                    first | refine A_isubN d_M_breach_125 (by with_reducible rfl) (by with_reducible rfl) (by omega) ?_ | refine A_isub d_M_breach_125 ?_
                    first | refine A_icmp_neN (tgt := 133) d_M_breach_126 (by decide) (by with_reducible rfl) (by with_reducible rfl) (by omega) (by omega) (fun c_126 => ?_) (fun c_126 => ?_) | refine A_icmp_ne (tgt := 133) d_M_breach_126 (by decide) (fun c_126 => ?_) (fun c_126 => ?_)
                    · refine A_iconst (v := nI 0) d_M_breach_133 (by decide) ?_
                      first | refine A_isubN d_M_breach_134 (by with_reducible rfl) (by with_reducible rfl) (by omega) ?_ | refine A_isub d_M_breach_134 ?_
                      first | refine A_iaddN d_M_breach_135 (by with_reducible rfl) (by with_reducible rfl) ?_ | refine A_iadd d_M_breach_135 ?_
                      refine A_istore6 d_M_breach_136 trivial ?_
                      first | refine A_iinc7 d_M_breach_138 (nI_1 _) trivial ?_ | refine A_iinc7 d_M_breach_138 rfl trivial ?_
                      refine A_goto (tgt := 49) d_M_breach_141 (by decide) ?_
                      refine A_drop8 ?_
                      first | (refine A_loc ?_ ih; rw [← hF, brF_succ, hF]; simp only [c_55, c_75, c_87, c_107, c_126, reduceIte, d00, d10, d11]; done) | exact absurd (by rw [← c_87]; exact c_126) c_107 | exact absurd (by rw [c_87]; exact c_107) c_126
                    · refine A_iconst (v := nI 1) d_M_breach_129 (by decide) ?_
                      refine A_goto (tgt := 134) d_M_breach_130 (by decide) ?_
                      first | refine A_isubN d_M_breach_134 (by with_reducible rfl) (by with_reducible rfl) (by omega) ?_ | refine A_isub d_M_breach_134 ?_
                      first | refine A_iaddN d_M_breach_135 (by with_reducible rfl) (by with_reducible rfl) ?_ | refine A_iadd d_M_breach_135 ?_
                      refine A_istore6 d_M_breach_136 trivial ?_
                      first | refine A_iinc7 d_M_breach_138 (nI_1 _) trivial ?_ | refine A_iinc7 d_M_breach_138 rfl trivial ?_
                      refine A_goto (tgt := 49) d_M_breach_141 (by decide) ?_
                      refine A_drop8 ?_
                      first | (refine A_loc ?_ ih; rw [← hF, brF_succ, hF]; simp only [c_55, c_75, c_87, c_107, c_126, reduceIte, d00, d10, d11]; done) | exact absurd (by rw [← c_87]; exact c_126) c_107 | exact absurd (by rw [c_87]; exact c_107) c_126
        exact A_loc (by rw [hF0]) (key 0 (Nat.zero_le _))
      · refine A_sipush (v := (-1000)) d_M_breach_32 (by decide) ?_
        refine A_iret d_M_breach_35 rfl ⟨Nat.zero_le _, Nat.zero_le _⟩ ?_
        first | exact tk hM (fun _ _ => rfl) (by rw [pick_out c_10]) | exact tk hM (fun k hk2 => hk k hk2) (by rw [pick_in hb (by omega)]; rcases q with q | q <;> first | rw [pick_out q] | (unfold pick; split <;> first | rfl | (rw [q]; rfl))) | exact tk hM (fun k hk2 => hk k hk2) (by rw [pick_in hb (by omega), pick_in hl (by omega), pick_in ht1 (by omega), breachV, rg_out c_29])
    · have hp := hp.keep hk
      refine A_if_eqB (tgt := 32) d_M_breach_19 (by decide) (fun c_19 => ?_) (fun c => absurd c (by decide))
      refine A_sipush (v := (-1000)) d_M_breach_32 (by decide) ?_
      refine A_iret d_M_breach_35 rfl ⟨Nat.zero_le _, Nat.zero_le _⟩ ?_
      first | exact tk hM (fun _ _ => rfl) (by rw [pick_out c_10]) | exact tk hM (fun k hk2 => hk k hk2) (by rw [pick_in hb (by omega)]; rcases q with q | q <;> first | rw [pick_out q] | (unfold pick; split <;> first | rfl | (rw [q]; rfl))) | exact tk hM (fun k hk2 => hk k hk2) (by rw [pick_in hb (by omega), pick_in hl (by omega), pick_in ht1 (by omega), breachV, rg_out c_29])
