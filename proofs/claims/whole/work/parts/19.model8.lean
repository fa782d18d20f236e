set_option maxHeartbeats 4000000 in
set_option maxRecDepth 100000 in
theorem c_M_wentIn {G : GE} {h0 h : AH} {m : Nat} {S : MS} (hM : MW h0 h m S) {bk : Nat → Nat} (hW : BWd S bk) (x a z : Nat) (hx : x < 2 ^ 31) (hz : z ≤ totB bk) (haz : a ≤ z) : Ctr G y_M_wentIn b_M_wentIn 6 (some .int) r_M_wentIn [.ref m, .int (nI x), .int (nI a), .int (nI z)] h (Pu (.int (nI (cntN (wentB bk) x a z))) h) := by
  have ht := hW.1.tot
  generalize hf : (fun i => if wentB bk (a + i) = x then 1 else 0) = f
  have key : ∀ i, i ≤ z - a → WA G y_M_wentIn b_M_wentIn 6 (some .int) r_M_wentIn 0 0 (Pu (.int (nI (cntN (wentB bk) x a z))) h) 0 0 6 [some (.ref m), some (.int (nI x)), some (.int (nI a)), some (.int (nI z)), some (.int (nI (sumN f i))), some (.int (nI (a + i)))] [] h := by
    refine down ?_ (fun i hi ih => ?_)
    · refine A_iload5 d_M_wentIn_6 ?_
      refine A_iload_n3 d_M_wentIn_8 ?_
      first | refine A_icmp_geN (tgt := 39) d_M_wentIn_9 (by decide) (by with_reducible rfl) (by with_reducible rfl) (by omega) (by omega) (fun c_9 => ?_) (fun c_9 => ?_) | refine A_icmp_ge (tgt := 39) d_M_wentIn_9 (by decide) (fun c_9 => ?_) (fun c_9 => ?_)
      · refine A_iload4 d_M_wentIn_39 ?_
        refine A_iret d_M_wentIn_41 rfl ⟨Nat.zero_le _, Nat.zero_le _⟩ ?_
        exact pu (by rw [cntN, hf])
      · exact absurd c_9 (by omega)
    · have hw2 := hW.1.le (a + i)
      refine A_iload5 d_M_wentIn_6 ?_
      refine A_iload_n3 d_M_wentIn_8 ?_
      first | refine A_icmp_geN (tgt := 39) d_M_wentIn_9 (by decide) (by with_reducible rfl) (by with_reducible rfl) (by omega) (by omega) (fun c_9 => ?_) (fun c_9 => ?_) | refine A_icmp_ge (tgt := 39) d_M_wentIn_9 (by decide) (fun c_9 => ?_) (fun c_9 => ?_)
      · exact absurd c_9 (by omega)
      · refine A_iload4 d_M_wentIn_12 ?_
        refine A_aload_n0 d_M_wentIn_14 ?_
        refine A_getf (kf := 36) d_M_wentIn_15 hM.o ok_8 (by decide) q_1085 rfl ?_
        refine A_iload5 d_M_wentIn_18 ?_
        refine A_ialdN d_M_wentIn_20 hM.a36 ⟨by omega, by decide⟩ ?_
        refine A_topI (hW.2.2 _ (by omega)) ?_
        refine A_iload_n1 d_M_wentIn_21 ?_
        first | refine A_icmp_neN (tgt := 29) d_M_wentIn_22 (by decide) (by with_reducible rfl) (by with_reducible rfl) (by omega) (by omega) (fun c_22 => ?_) (fun c_22 => ?_) | refine A_icmp_ne (tgt := 29) d_M_wentIn_22 (by decide) (fun c_22 => ?_) (fun c_22 => ?_)
        · refine A_iconst (v := nI 0) d_M_wentIn_29 (by decide) ?_
          first | refine A_iaddN d_M_wentIn_30 (by with_reducible rfl) (by with_reducible rfl) ?_ | refine A_iadd d_M_wentIn_30 ?_
          refine A_istore4 d_M_wentIn_31 trivial ?_
          first | refine A_iinc5 d_M_wentIn_33 (nI_1 _) trivial ?_ | refine A_iinc5 d_M_wentIn_33 rfl trivial ?_
          refine A_goto (tgt := 6) d_M_wentIn_36 (by decide) ?_
          exact A_loc (by simp only [sumN, ← hf, c_9, c_22, reduceIte]; rfl) ih
        · refine A_iconst (v := nI 1) d_M_wentIn_25 (by decide) ?_
          refine A_goto (tgt := 30) d_M_wentIn_26 (by decide) ?_
          first | refine A_iaddN d_M_wentIn_30 (by with_reducible rfl) (by with_reducible rfl) ?_ | refine A_iadd d_M_wentIn_30 ?_
          refine A_istore4 d_M_wentIn_31 trivial ?_
          first | refine A_iinc5 d_M_wentIn_33 (nI_1 _) trivial ?_ | refine A_iinc5 d_M_wentIn_33 rfl trivial ?_
          refine A_goto (tgt := 6) d_M_wentIn_36 (by decide) ?_
          exact A_loc (by simp only [sumN, ← hf, c_9, c_22, reduceIte]; rfl) ih
  refine Ctr.of (by decide +kernel) (by simp) (Nat.le_of_ble_eq_true rfl) (L0 := [some (.ref m), some (.int (nI x)), some (.int (nI a)), some (.int (nI z)), none, none]) rfl ?_
  refine A_iconst (v := nI 0) d_M_wentIn_0 (by decide) ?_
  refine A_istore4 d_M_wentIn_1 trivial ?_
  refine A_iload_n2 d_M_wentIn_3 ?_
  refine A_istore5 d_M_wentIn_4 trivial ?_
  exact key 0 (Nat.zero_le _)
theorem villF_succ (w : Nat → Nat) (cr n : Nat) : villF w cr (n + 1) = (if w n = 2 then (villF w cr n).1 + 1 else 0, (villF w cr n).2 + if (if w n = 2 then (villF w cr n).1 + 1 else 0) = cr + 1 then 1 else 0) := rfl
set_option maxHeartbeats 4000000 in
set_option maxRecDepth 100000 in
theorem c_M_villages {G : GE} {h0 h : AH} {m : Nat} {S : MS} (hM : MW h0 h m S) {l : Nat} {V : Nat → Nat} (hS : HS S l V) {bk : Nat → Nat} (hW : BWd S bk) : Ctr G y_M_villages b_M_villages 4 (some .int) r_M_villages [.ref m] h (Pu (.int (nI (villF (wentB bk) (V 1) (totB bk)).2)) h) := by
  have ht := hW.1.tot
  have hc := hS.ok.2.1
  have key : ∀ i, i ≤ totB bk → WA G y_M_villages b_M_villages 4 (some .int) r_M_villages 0 0 (Pu (.int (nI (villF (wentB bk) (V 1) (totB bk)).2)) h) 0 0 6 [some (.ref m), some (.int (nI (villF (wentB bk) (V 1) i).2)), some (.int (nI (villF (wentB bk) (V 1) i).1)), some (.int (nI i))] [] h := by
    refine down ?_ (fun i hi ih => ?_)
    · refine A_iload_n3 d_M_villages_6 ?_
      refine A_aload_n0 d_M_villages_7 ?_
      refine A_getf (kf := 35) d_M_villages_8 hM.o ok_8 (by decide) q_1084 rfl ?_
      refine A_topI hW.2.1 ?_
      first | refine A_icmp_geN (tgt := 56) d_M_villages_11 (by decide) (by with_reducible rfl) (by with_reducible rfl) (by omega) (by omega) (fun c_11 => ?_) (fun c_11 => ?_) | refine A_icmp_ge (tgt := 56) d_M_villages_11 (by decide) (fun c_11 => ?_) (fun c_11 => ?_)
      · refine A_iload_n1 d_M_villages_56 ?_
        refine A_iret d_M_villages_57 rfl ⟨Nat.zero_le _, Nat.zero_le _⟩ ?_
        exact pu rfl
      · exact absurd c_11 (by omega)
    · have hw2 := hW.1.le i
      have hv := villF_le (wentB bk) (V 1) i
      refine A_iload_n3 d_M_villages_6 ?_
      refine A_aload_n0 d_M_villages_7 ?_
      refine A_getf (kf := 35) d_M_villages_8 hM.o ok_8 (by decide) q_1084 rfl ?_
      refine A_topI hW.2.1 ?_
      first | refine A_icmp_geN (tgt := 56) d_M_villages_11 (by decide) (by with_reducible rfl) (by with_reducible rfl) (by omega) (by omega) (fun c_11 => ?_) (fun c_11 => ?_) | refine A_icmp_ge (tgt := 56) d_M_villages_11 (by decide) (fun c_11 => ?_) (fun c_11 => ?_)
      · exact absurd c_11 (by omega)
      · refine A_aload_n0 d_M_villages_14 ?_
        refine A_getf (kf := 36) d_M_villages_15 hM.o ok_8 (by decide) q_1085 rfl ?_
        refine A_iload_n3 d_M_villages_18 ?_
        refine A_ialdN d_M_villages_19 hM.a36 ⟨by omega, by decide⟩ ?_
        refine A_topI (hW.2.2 _ (by omega)) ?_
        refine A_iconst (v := nI 2) d_M_villages_20 (by decide) ?_
        first | refine A_icmp_neN (tgt := 30) d_M_villages_21 (by decide) (by with_reducible rfl) (by with_reducible rfl) (by omega) (by omega) (fun c_21 => ?_) (fun c_21 => ?_) | refine A_icmp_ne (tgt := 30) d_M_villages_21 (by decide) (fun c_21 => ?_) (fun c_21 => ?_)
        · refine A_iconst (v := nI 0) d_M_villages_30 (by decide) ?_
          refine A_istore2 d_M_villages_31 trivial ?_
          refine A_iload_n1 d_M_villages_32 ?_
          refine A_iload_n2 d_M_villages_33 ?_
          refine A_aload_n0 d_M_villages_34 ?_
          refine A_getf (kf := 28) d_M_villages_35 hM.o ok_8 (by decide) q_1077 rfl ?_
          refine A_topI hS.cross ?_
          refine A_iconst (v := nI 1) d_M_villages_38 (by decide) ?_
          first | refine A_iaddN d_M_villages_39 (by with_reducible rfl) (by with_reducible rfl) ?_ | refine A_iadd d_M_villages_39 ?_
          first | refine A_icmp_neN (tgt := 47) d_M_villages_40 (by decide) (by with_reducible rfl) (by with_reducible rfl) (by omega) (by omega) (fun c_40 => ?_) (fun c_40 => ?_) | refine A_icmp_ne (tgt := 47) d_M_villages_40 (by decide) (fun c_40 => ?_) (fun c_40 => ?_)
          · refine A_iconst (v := nI 0) d_M_villages_47 (by decide) ?_
            first | refine A_iaddN d_M_villages_48 (by with_reducible rfl) (by with_reducible rfl) ?_ | refine A_iadd d_M_villages_48 ?_
            refine A_istore1 d_M_villages_49 trivial ?_
            first | refine A_iinc3 d_M_villages_50 (nI_1 _) trivial ?_ | refine A_iinc3 d_M_villages_50 rfl trivial ?_
            refine A_goto (tgt := 6) d_M_villages_53 (by decide) ?_
            exact A_loc (by rw [villF_succ]; simp only [c_11, c_21, c_40, reduceIte, Nat.add_zero]) ih
          · refine A_iconst (v := nI 1) d_M_villages_43 (by decide) ?_
            refine A_goto (tgt := 48) d_M_villages_44 (by decide) ?_
            first | refine A_iaddN d_M_villages_48 (by with_reducible rfl) (by with_reducible rfl) ?_ | refine A_iadd d_M_villages_48 ?_
            refine A_istore1 d_M_villages_49 trivial ?_
            first | refine A_iinc3 d_M_villages_50 (nI_1 _) trivial ?_ | refine A_iinc3 d_M_villages_50 rfl trivial ?_
            refine A_goto (tgt := 6) d_M_villages_53 (by decide) ?_
            exact A_loc (by rw [villF_succ]; simp only [c_11, c_21, c_40, reduceIte, Nat.add_zero]) ih
        · refine A_iload_n2 d_M_villages_24 ?_
          refine A_iconst (v := nI 1) d_M_villages_25 (by decide) ?_
          first | refine A_iaddN d_M_villages_26 (by with_reducible rfl) (by with_reducible rfl) ?_ | refine A_iadd d_M_villages_26 ?_
          refine A_goto (tgt := 31) d_M_villages_27 (by decide) ?_
          refine A_istore2 d_M_villages_31 trivial ?_
          refine A_iload_n1 d_M_villages_32 ?_
          refine A_iload_n2 d_M_villages_33 ?_
          refine A_aload_n0 d_M_villages_34 ?_
          refine A_getf (kf := 28) d_M_villages_35 hM.o ok_8 (by decide) q_1077 rfl ?_
          refine A_topI hS.cross ?_
          refine A_iconst (v := nI 1) d_M_villages_38 (by decide) ?_
          first | refine A_iaddN d_M_villages_39 (by with_reducible rfl) (by with_reducible rfl) ?_ | refine A_iadd d_M_villages_39 ?_
          first | refine A_icmp_neN (tgt := 47) d_M_villages_40 (by decide) (by with_reducible rfl) (by with_reducible rfl) (by omega) (by omega) (fun c_40 => ?_) (fun c_40 => ?_) | refine A_icmp_ne (tgt := 47) d_M_villages_40 (by decide) (fun c_40 => ?_) (fun c_40 => ?_)
          · refine A_iconst (v := nI 0) d_M_villages_47 (by decide) ?_
            first | refine A_iaddN d_M_villages_48 (by with_reducible rfl) (by with_reducible rfl) ?_ | refine A_iadd d_M_villages_48 ?_
            refine A_istore1 d_M_villages_49 trivial ?_
            first | refine A_iinc3 d_M_villages_50 (nI_1 _) trivial ?_ | refine A_iinc3 d_M_villages_50 rfl trivial ?_
            refine A_goto (tgt := 6) d_M_villages_53 (by decide) ?_
            exact A_loc (by rw [villF_succ]; simp only [c_11, c_21, c_40, reduceIte, Nat.add_zero]) ih
          · refine A_iconst (v := nI 1) d_M_villages_43 (by decide) ?_
            refine A_goto (tgt := 48) d_M_villages_44 (by decide) ?_
            first | refine A_iaddN d_M_villages_48 (by with_reducible rfl) (by with_reducible rfl) ?_ | refine A_iadd d_M_villages_48 ?_
            refine A_istore1 d_M_villages_49 trivial ?_
            first | refine A_iinc3 d_M_villages_50 (nI_1 _) trivial ?_ | refine A_iinc3 d_M_villages_50 rfl trivial ?_
            refine A_goto (tgt := 6) d_M_villages_53 (by decide) ?_
            exact A_loc (by rw [villF_succ]; simp only [c_11, c_21, c_40, reduceIte, Nat.add_zero]) ih
  refine Ctr.of (by decide +kernel) (by simp) (Nat.le_of_ble_eq_true rfl) (L0 := [some (.ref m), none, none, none]) rfl ?_
  refine A_iconst (v := nI 0) d_M_villages_0 (by decide) ?_
  refine A_istore1 d_M_villages_1 trivial ?_
  refine A_iconst (v := nI 0) d_M_villages_2 (by decide) ?_
  refine A_istore2 d_M_villages_3 trivial ?_
  refine A_iconst (v := nI 0) d_M_villages_4 (by decide) ?_
  refine A_istore3 d_M_villages_5 trivial ?_
  exact key 0 (Nat.zero_le _)
set_option maxHeartbeats 4000000 in
set_option maxRecDepth 100000 in
theorem c_M_sleptIn {G : GE} {h0 h : AH} {m : Nat} {S : MS} (hM : MW h0 h m S) {l : Nat} {V : Nat → Nat} (hS : HS S l V) {bk : Nat → Nat} (hW : BWd S bk) (d : Nat) (hd : V 0 * (d + 1) ≤ totB bk) : Ctr G y_M_sleptIn b_M_sleptIn 4 (some .int) r_M_sleptIn [.ref m, .int (nI d)] h (Pu (.int (sleptI V (wentB bk) d)) h) := by
  have ht := hW.1.tot
  have hP := hS.ok.2.2.2.2.1
  have hd2 : V 0 * (d + 1) = V 0 * d + V 0 := Nat.mul_succ _ _
  generalize hf : (fun p x => x ||| (if sleepsB V p (cntN (wentB bk) (V (42 + 27 * p + 0)) (V 0 * d) (V 0 * (d + 1))) = true then nI 1 <<< (nI p &&& 31) else nI 0)) = f
  have key : ∀ i, i ≤ V 4 → WA G y_M_sleptIn b_M_sleptIn 4 (some .int) r_M_sleptIn 0 0 (Pu (.int (sleptI V (wentB bk) d)) h) 0 0 4 [some (.ref m), some (.int (nI d)), some (.int (foldN f (nI 0) i)), some (.int (nI i))] [] h := by
    refine down ?_ (fun i hi ih => ?_)
    · refine A_iload_n3 d_M_sleptIn_4 ?_
      refine A_aload_n0 d_M_sleptIn_5 ?_
      refine A_getf (kf := 29) d_M_sleptIn_6 hM.o ok_8 (by decide) q_1078 rfl ?_
      refine A_topI hS.people ?_
      first | refine A_icmp_geN (tgt := 60) d_M_sleptIn_9 (by decide) (by with_reducible rfl) (by with_reducible rfl) (by omega) (by omega) (fun c_9 => ?_) (fun c_9 => ?_) | refine A_icmp_ge (tgt := 60) d_M_sleptIn_9 (by decide) (fun c_9 => ?_) (fun c_9 => ?_)
      · refine A_iload_n2 d_M_sleptIn_60 ?_
        refine A_iret d_M_sleptIn_61 rfl ⟨Nat.zero_le _, Nat.zero_le _⟩ ?_
        exact pu (by rw [sleptI, hf])
      · exact absurd c_9 (by omega)
    · have hVi := (hS.ok.2.2.2.2.2.2.1 i (by omega)).1
      refine A_iload_n3 d_M_sleptIn_4 ?_
      refine A_aload_n0 d_M_sleptIn_5 ?_
      refine A_getf (kf := 29) d_M_sleptIn_6 hM.o ok_8 (by decide) q_1078 rfl ?_
      refine A_topI hS.people ?_
      first | refine A_icmp_geN (tgt := 60) d_M_sleptIn_9 (by decide) (by with_reducible rfl) (by with_reducible rfl) (by omega) (by omega) (fun c_9 => ?_) (fun c_9 => ?_) | refine A_icmp_ge (tgt := 60) d_M_sleptIn_9 (by decide) (fun c_9 => ?_) (fun c_9 => ?_)
      · exact absurd c_9 (by omega)
      · refine A_iload_n2 d_M_sleptIn_12 ?_
        refine A_aload_n0 d_M_sleptIn_13 ?_
        refine A_iload_n3 d_M_sleptIn_14 ?_
        refine A_aload_n0 d_M_sleptIn_15 ?_
        refine A_aload_n0 d_M_sleptIn_16 ?_
        refine A_iload_n3 d_M_sleptIn_17 ?_
        refine A_iconst (v := nI 0) d_M_sleptIn_18 (by decide) ?_
        refine A_callVP d_M_sleptIn_19 (c_M_ofOne hM hS i 0 (by omega)) hM.o rfl q_1355 q_1357 qs_38 mk_M_ofOne rfl (by decide) rfl (Nat.le_of_ble_eq_true rfl) ⟨Nat.le_of_ble_eq_true rfl, Nat.le_of_ble_eq_true rfl⟩ ⟨rfl, rfl⟩ ?_
        refine A_aload_n0 d_M_sleptIn_22 ?_
        refine A_getf (kf := 27) d_M_sleptIn_23 hM.o ok_8 (by decide) q_1076 rfl ?_
        refine A_topI hS.hours ?_
        refine A_iload_n1 d_M_sleptIn_26 ?_
        first | refine A_imulN d_M_sleptIn_27 (by with_reducible rfl) (by with_reducible rfl) ?_ | refine A_imul d_M_sleptIn_27 ?_
        refine A_aload_n0 d_M_sleptIn_28 ?_
        refine A_getf (kf := 27) d_M_sleptIn_29 hM.o ok_8 (by decide) q_1076 rfl ?_
        refine A_topI hS.hours ?_
        refine A_iload_n1 d_M_sleptIn_32 ?_
        refine A_iconst (v := nI 1) d_M_sleptIn_33 (by decide) ?_
        first | refine A_iaddN d_M_sleptIn_34 (by with_reducible rfl) (by with_reducible rfl) ?_ | refine A_iadd d_M_sleptIn_34 ?_
        first | refine A_imulN d_M_sleptIn_35 (by with_reducible rfl) (by with_reducible rfl) ?_ | refine A_imul d_M_sleptIn_35 ?_
        refine A_callVP d_M_sleptIn_36 (c_M_wentIn hM hW _ _ _ (by omega) hd (by omega)) hM.o rfl q_1447 q_1449 qs_56 mk_M_wentIn rfl (by decide) rfl (Nat.le_of_ble_eq_true rfl) ⟨Nat.le_of_ble_eq_true rfl, Nat.le_of_ble_eq_true rfl⟩ ⟨rfl, rfl⟩ ?_
        refine A_callVP d_M_sleptIn_39 (c_M_sleeps hM hS i _ (by omega) (by have := cntN_le (wentB bk) (V (42 + 27 * i + 0)) (V 0 * d) (V 0 * (d + 1)); omega)) hM.o rfl q_1415 q_1417 qs_50 mk_M_sleeps rfl (by decide) rfl (Nat.le_of_ble_eq_true rfl) ⟨Nat.le_of_ble_eq_true rfl, Nat.le_of_ble_eq_true rfl⟩ ⟨rfl, rfl⟩ ?_
        refine A_if_eqB (tgt := 51) d_M_sleptIn_42 (by decide) (fun c_42 => ?_) (fun c_42 => ?_)
        · refine A_iconst (v := nI 0) d_M_sleptIn_51 (by decide) ?_
          refine A_ior d_M_sleptIn_52 ?_
          refine A_istore2 d_M_sleptIn_53 trivial ?_
          first | refine A_iinc3 d_M_sleptIn_54 (nI_1 _) trivial ?_ | refine A_iinc3 d_M_sleptIn_54 rfl trivial ?_
          refine A_goto (tgt := 4) d_M_sleptIn_57 (by decide) ?_
          exact A_loc (by simp only [foldN, ← hf, c_9, c_42, reduceIte, Bool.false_eq_true]) ih
        · refine A_iconst (v := nI 1) d_M_sleptIn_45 (by decide) ?_
          refine A_iload_n3 d_M_sleptIn_46 ?_
          refine A_ishl d_M_sleptIn_47 ?_
          refine A_goto (tgt := 52) d_M_sleptIn_48 (by decide) ?_
          refine A_ior d_M_sleptIn_52 ?_
          refine A_istore2 d_M_sleptIn_53 trivial ?_
          first | refine A_iinc3 d_M_sleptIn_54 (nI_1 _) trivial ?_ | refine A_iinc3 d_M_sleptIn_54 rfl trivial ?_
          refine A_goto (tgt := 4) d_M_sleptIn_57 (by decide) ?_
          exact A_loc (by simp only [foldN, ← hf, c_9, c_42, reduceIte, Bool.false_eq_true]) ih
  refine Ctr.of (by decide +kernel) (by simp) (Nat.le_of_ble_eq_true rfl) (L0 := [some (.ref m), some (.int (nI d)), none, none]) rfl ?_
  refine A_iconst (v := nI 0) d_M_sleptIn_0 (by decide) ?_
  refine A_istore2 d_M_sleptIn_1 trivial ?_
  refine A_iconst (v := nI 0) d_M_sleptIn_2 (by decide) ?_
  refine A_istore3 d_M_sleptIn_3 trivial ?_
  exact key 0 (Nat.zero_le _)
theorem HB.mk2 {S : MS} {c : Nat → Nat} {VL WT BK SG GM : Nat → Nat → Nat} (hp : MP S c VL WT BK SG GM) {b : Nat} (hb : b < c 2) (h : S.1 34 = nI b) : HB S b (BK b) := ⟨hp.2.2.2.1 b hb, h⟩
theorem HB.keep {S S1 : MS} {b : Nat} {bk : Nat → Nat} (h : HB S b bk) (k : Keep S S1) (e : S1.1 34 = S.1 34) : HB S1 b bk := ⟨⟨h.1.1, h.1.2.1, fun i hi => by rw [k 8 (by omega)]; exact h.1.2.2 i hi⟩, e.trans h.2⟩
set_option maxHeartbeats 4000000 in
set_option maxRecDepth 100000 in
theorem c_M_spell {G : GE} {h0 h : AH} {m : Nat} {S : MS} (hM : MW h0 h m S) {c : Nat → Nat} {VL WT BK SG GM : Nat → Nat → Nat} (hp : MP S c VL WT BK SG GM) (ba k x : Int32) : Ctr G y_M_spell b_M_spell 4 (some .int) r_M_spell [.ref m, .int ba, .int k, .int x] h (TK h0 m S (.int (pick (c 2) ba (fun b => spellV (BK b) k x) (-2)))) := by
  have hc2 := (hp.1 2 (by decide)).2
  refine Ctr.of (by decide +kernel) (by simp) (Nat.le_of_ble_eq_true rfl) (L0 := [some (.ref m), some (.int ba), some (.int k), some (.int x)]) rfl ?_
  refine A_aload_n0 d_M_spell_0 ?_
  refine A_iconst (v := nI 0) d_M_spell_1 (by decide) ?_
  refine A_putM hM (kf := 0) (ty := .int) d_M_spell_2 (by decide) q_1049 rfl (by decide +kernel) (by first | rfl | exact bI_nar _) rfl (Nat.le_of_ble_eq_true rfl) rfl (fun h hM => ?_)
  have hp := hp.keep (Keep.sf _ 0 (nI 0))
  refine A_aload_n0 d_M_spell_5 ?_
  refine A_iload_n1 d_M_spell_6 ?_
  refine A_callV d_M_spell_7 (c_M_hasBook hM hp ba) hM.o rfl q_1423 q_1425 qs_51 mk_M_hasBook rfl (by decide) rfl (Nat.le_of_ble_eq_true rfl) ⟨Nat.le_of_ble_eq_true rfl, Nat.le_of_ble_eq_true rfl⟩ (fun v h1 hv => ?_)
  obtain ⟨rfl, hM⟩ := hv
  have hp := hp.keep (Keep.sf _ 34 ba)
  dsimp only [Option.toList, List.cons_append, List.nil_append]
  refine A_if_neB (tgt := 16) d_M_spell_10 (by decide) (fun c_10 => ?_) (fun c_10 => ?_)
  · obtain ⟨b, rfl, hb⟩ := inB_nat (by omega) c_10
    have hB := HB.mk2 hp hb rfl
    refine A_aload_n0 d_M_spell_16 ?_
    refine A_callV d_M_spell_17 (c_M_layBook hM hB) hM.o rfl q_1427 q_1429 qs_52 mk_M_layBook rfl (by decide) rfl (Nat.le_of_ble_eq_true rfl) ⟨Nat.le_of_ble_eq_true rfl, Nat.le_of_ble_eq_true rfl⟩ (fun v h1 hv => ?_)
    obtain ⟨rfl, S1, hM, hW, hk1, hf1, ha1⟩ := hv
    have hB1 := hB.keep hk1 (hf1 34 (by decide))
    refine A_iload_n2 d_M_spell_20 ?_
    refine A_iconst (v := (-1)) d_M_spell_21 (by decide) ?_
    first | refine A_icmp_neN (tgt := 51) d_M_spell_22 (by decide) (by with_reducible rfl) (by with_reducible rfl) (by omega) (by omega) (fun c_22 => ?_) (fun c_22 => ?_) | refine A_icmp_ne (tgt := 51) d_M_spell_22 (by decide) (fun c_22 => ?_) (fun c_22 => ?_)
    · refine A_iload_n2 d_M_spell_51 ?_
      refine A_iconst (v := nI 0) d_M_spell_52 (by decide) ?_
      refine A_aload_n0 d_M_spell_53 ?_
      refine A_callVP d_M_spell_54 (c_M_spells hM hB1) hM.o rfl q_1431 q_1433 qs_53 mk_M_spells rfl (by decide) rfl (Nat.le_of_ble_eq_true rfl) ⟨Nat.le_of_ble_eq_true rfl, Nat.le_of_ble_eq_true rfl⟩ ⟨rfl, rfl⟩ ?_
      refine A_iconst (v := nI 1) d_M_spell_57 (by decide) ?_
      first | refine A_isubN d_M_spell_58 (by with_reducible rfl) (by with_reducible rfl) (by omega) ?_ | refine A_isub d_M_spell_58 ?_
      refine A_callSP d_M_spell_59 (c_M_in _ _ _ _) q_1231 q_1232 mk_M_in rfl (by decide) rfl (Nat.le_of_ble_eq_true rfl) ⟨Nat.le_of_ble_eq_true rfl, Nat.le_of_ble_eq_true rfl⟩ ⟨rfl, rfl⟩ ?_
      refine A_if_eqB (tgt := 83) d_M_spell_62 (by decide) (fun c_62 => ?_) (fun c_62 => ?_)
      · refine A_bipush (v := (-2)) d_M_spell_83 (by decide) ?_
        refine A_iret d_M_spell_85 rfl ⟨Nat.zero_le _, Nat.zero_le _⟩ ?_
        first | exact tk hM hk1 (by rw [pick_in hb (by omega), spellV, if_neg c_22, pick_out c_62]) | exact tk hM hk1 (by rw [pick_in hb (by omega), spellV, if_neg c_22, pick_in hi (by have := hB1.1.2.1.1; omega), rg_out c_71]) | exact tk hM hk1 (by rw [pick_in hb (by omega), spellV, if_neg c_22, pick_in hi (by have := hB1.1.2.1.1; omega), rg_in ⟨hj1, hj2⟩ (by decide)])
      · obtain ⟨i, rfl, hi⟩ := inB_nat (by have := hB1.1.2.1.1; omega) c_62
        refine A_iload_n3 d_M_spell_65 ?_
        refine A_iconst (v := nI 0) d_M_spell_66 (by decide) ?_
        refine A_iconst (v := nI 1) d_M_spell_67 (by decide) ?_
        refine A_callSP d_M_spell_68 (c_M_in _ _ _ _) q_1231 q_1232 mk_M_in rfl (by decide) rfl (Nat.le_of_ble_eq_true rfl) ⟨Nat.le_of_ble_eq_true rfl, Nat.le_of_ble_eq_true rfl⟩ ⟨rfl, rfl⟩ ?_
        refine A_if_eqB (tgt := 83) d_M_spell_71 (by decide) (fun c_71 => ?_) (fun c_71 => ?_)
        · refine A_bipush (v := (-2)) d_M_spell_83 (by decide) ?_
          refine A_iret d_M_spell_85 rfl ⟨Nat.zero_le _, Nat.zero_le _⟩ ?_
          first | exact tk hM hk1 (by rw [pick_in hb (by omega), spellV, if_neg c_22, pick_out c_62]) | exact tk hM hk1 (by rw [pick_in hb (by omega), spellV, if_neg c_22, pick_in hi (by have := hB1.1.2.1.1; omega), rg_out c_71]) | exact tk hM hk1 (by rw [pick_in hb (by omega), spellV, if_neg c_22, pick_in hi (by have := hB1.1.2.1.1; omega), rg_in ⟨hj1, hj2⟩ (by decide)])
        · obtain ⟨j, rfl, hj1, hj2⟩ := inB_ex (by decide) c_71
          refine A_aload_n0 d_M_spell_74 ?_
          refine A_iload_n2 d_M_spell_75 ?_
          refine A_iload_n3 d_M_spell_76 ?_
          refine A_callVP d_M_spell_77 (c_M_spellOf hM hB1 i j (by have := hB1.1.2.1.1; omega)) hM.o rfl q_1435 q_1437 qs_54 mk_M_spellOf rfl (by decide) rfl (Nat.le_of_ble_eq_true rfl) ⟨Nat.le_of_ble_eq_true rfl, Nat.le_of_ble_eq_true rfl⟩ ⟨rfl, rfl⟩ ?_
          refine A_goto (tgt := 85) d_M_spell_80 (by decide) ?_
          refine A_iret d_M_spell_85 rfl ⟨Nat.zero_le _, Nat.zero_le _⟩ ?_
          first | exact tk hM hk1 (by rw [pick_in hb (by omega), spellV, if_neg c_22, pick_out c_62]) | exact tk hM hk1 (by rw [pick_in hb (by omega), spellV, if_neg c_22, pick_in hi (by have := hB1.1.2.1.1; omega), rg_out c_71]) | exact tk hM hk1 (by rw [pick_in hb (by omega), spellV, if_neg c_22, pick_in hi (by have := hB1.1.2.1.1; omega), rg_in ⟨hj1, hj2⟩ (by decide)])
    · refine A_iload_n3 d_M_spell_25 ?_
      first | refine A_if_neN (tgt := 36) d_M_spell_26 (by decide) (by with_reducible rfl) (by omega) (fun c_26 => ?_) (fun c_26 => ?_) | refine A_if_ne (tgt := 36) d_M_spell_26 (by decide) (fun c_26 => ?_) (fun c_26 => ?_)
      · refine A_iload_n3 d_M_spell_36 ?_
        refine A_iconst (v := nI 1) d_M_spell_37 (by decide) ?_
        first | refine A_icmp_neN (tgt := 48) d_M_spell_38 (by decide) (by with_reducible rfl) (by with_reducible rfl) (by omega) (by omega) (fun c_38 => ?_) (fun c_38 => ?_) | refine A_icmp_ne (tgt := 48) d_M_spell_38 (by decide) (fun c_38 => ?_) (fun c_38 => ?_)
        · refine A_bipush (v := (-2)) d_M_spell_48 (by decide) ?_
          refine A_iret d_M_spell_50 rfl ⟨Nat.zero_le _, Nat.zero_le _⟩ ?_
          exact tk hM hk1 (by rw [pick_in hb (by omega), spellV]; simp only [show nI 0 = 0 from rfl, c_10, c_22, c_26, c_38, reduceIte] <;> first | rfl | simp_all)
        · refine A_aload_n0 d_M_spell_41 ?_
          refine A_getf (kf := 35) d_M_spell_42 hM.o ok_8 (by decide) q_1084 rfl ?_
          refine A_topI hW.2.1 ?_
          refine A_goto (tgt := 50) d_M_spell_45 (by decide) ?_
          refine A_iret d_M_spell_50 rfl ⟨Nat.zero_le _, Nat.zero_le _⟩ ?_
          exact tk hM hk1 (by rw [pick_in hb (by omega), spellV]; simp only [show nI 0 = 0 from rfl, c_10, c_22, c_26, c_38, reduceIte] <;> first | rfl | simp_all)
      · refine A_aload_n0 d_M_spell_29 ?_
        refine A_callVP d_M_spell_30 (c_M_spells hM hB1) hM.o rfl q_1431 q_1433 qs_53 mk_M_spells rfl (by decide) rfl (Nat.le_of_ble_eq_true rfl) ⟨Nat.le_of_ble_eq_true rfl, Nat.le_of_ble_eq_true rfl⟩ ⟨rfl, rfl⟩ ?_
        refine A_goto (tgt := 50) d_M_spell_33 (by decide) ?_
        refine A_iret d_M_spell_50 rfl ⟨Nat.zero_le _, Nat.zero_le _⟩ ?_
        exact tk hM hk1 (by rw [pick_in hb (by omega), spellV]; simp only [show nI 0 = 0 from rfl, c_10, c_22, c_26, reduceIte] <;> first | rfl | simp_all)
  · refine A_bipush (v := (-2)) d_M_spell_13 (by decide) ?_
    refine A_iret d_M_spell_15 rfl ⟨Nat.zero_le _, Nat.zero_le _⟩ ?_
    exact tk hM (fun _ _ => rfl) (by rw [pick_out c_10])
