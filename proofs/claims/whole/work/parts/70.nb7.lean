theorem TW.trans {h0 h h1 : AH} {t : Nat} {W W' : TD} (M : TW h0 h t W) (M1 : TW h h1 t W') : TW h0 h1 t W' := ⟨M1.1, fun i hi => (M1.2 i hi).trans (M.2 i hi)⟩
set_option maxHeartbeats 4000000 in
set_option maxRecDepth 100000 in
theorem c_N_feed {G : GE} {h : AH} {n : Nat} {W : TD} (hO : h n = some (.inr (7, nfs n))) (hA : TdAt h (n + 1) W) {len : Nat} (hlen : W.1 1 = nI len) (hl : len ≤ 600) (va vb vc vd ve : Int32) : Ctr G y_N_feed b_N_feed 6 (some .int) r_N_feed [.ref n, .int va, .int vb, .int vc, .int vd, .int ve] h (fun v h1 => (580 < len ∧ v = some (.int (-1)) ∧ h1 = h) ∨ (len ≤ 580 ∧ v = some (.int (nI (len + 20))) ∧ TW h h1 (n + 1) (apS (apS (apS (apS (apS W (len) va 4) (len + 4) vb 4) (len + 4 + 4) vc 4) (len + 4 + 4 + 4) vd 4) (len + 4 + 4 + 4 + 4) ve 4))) := by
  refine Ctr.of (by decide +kernel) (by simp) (Nat.le_of_ble_eq_true rfl) (L0 := [some (.ref n), some (.int va), some (.int vb), some (.int vc), some (.int vd), some (.int ve)]) rfl ?_
  have M := TW.start hA
  refine A_aload_n0 d_N_feed_0 ?_
  refine A_getf (kf := 0) d_N_feed_1 ((M.2 n (by omega)).trans hO) ok_7 (by decide) q_368 rfl ?_
  refine A_getf (kf := 1) d_N_feed_4 M.1.o ok_6 (by decide) q_194 rfl ?_
  refine A_topI hlen ?_
  refine A_sipush (v := nI 580) d_N_feed_7 (by decide) ?_
  first | refine A_icmp_leN (tgt := 15) d_N_feed_10 (by decide) (by with_reducible rfl) (by with_reducible rfl) (by omega) (by omega) (fun c_10 => ?_) (fun c_10 => ?_) | refine A_icmp_le (tgt := 15) d_N_feed_10 (by decide) (fun c_10 => ?_) (fun c_10 => ?_)
  · refine A_aload_n0 d_N_feed_15 ?_
    refine A_getf (kf := 0) d_N_feed_16 ((M.2 n (by omega)).trans hO) ok_7 (by decide) q_368 rfl ?_
    refine A_iload_n1 d_N_feed_19 ?_
    refine A_callV d_N_feed_20 (c_Td_append M.1 (hlen) (by omega) va) M.1.o rfl q_397 q_398 q_399 mk_Td_append rfl (by decide) rfl (Nat.le_of_ble_eq_true rfl) ⟨Nat.le_of_ble_eq_true rfl, Nat.le_of_ble_eq_true rfl⟩ ?_
    rintro _ h1 ⟨rfl, M1⟩
    replace M := M.trans M1
    clear M1
    refine A_aload_n0 d_N_feed_23 ?_
    refine A_getf (kf := 0) d_N_feed_24 ((M.2 n (by omega)).trans hO) ok_7 (by decide) q_368 rfl ?_
    refine A_iload_n2 d_N_feed_27 ?_
    refine A_callV d_N_feed_28 (c_Td_append M.1 (apS_n W (len) va 4) (by omega) vb) M.1.o rfl q_397 q_398 q_399 mk_Td_append rfl (by decide) rfl (Nat.le_of_ble_eq_true rfl) ⟨Nat.le_of_ble_eq_true rfl, Nat.le_of_ble_eq_true rfl⟩ ?_
    rintro _ h1 ⟨rfl, M1⟩
    replace M := M.trans M1
    clear M1
    refine A_aload_n0 d_N_feed_31 ?_
    refine A_getf (kf := 0) d_N_feed_32 ((M.2 n (by omega)).trans hO) ok_7 (by decide) q_368 rfl ?_
    refine A_iload_n3 d_N_feed_35 ?_
    refine A_callV d_N_feed_36 (c_Td_append M.1 (apS_n (apS W (len) va 4) (len + 4) vb 4) (by omega) vc) M.1.o rfl q_397 q_398 q_399 mk_Td_append rfl (by decide) rfl (Nat.le_of_ble_eq_true rfl) ⟨Nat.le_of_ble_eq_true rfl, Nat.le_of_ble_eq_true rfl⟩ ?_
    rintro _ h1 ⟨rfl, M1⟩
    replace M := M.trans M1
    clear M1
    refine A_aload_n0 d_N_feed_39 ?_
    refine A_getf (kf := 0) d_N_feed_40 ((M.2 n (by omega)).trans hO) ok_7 (by decide) q_368 rfl ?_
    refine A_iload4 d_N_feed_43 ?_
    refine A_callV d_N_feed_45 (c_Td_append M.1 (apS_n (apS (apS W (len) va 4) (len + 4) vb 4) (len + 4 + 4) vc 4) (by omega) vd) M.1.o rfl q_397 q_398 q_399 mk_Td_append rfl (by decide) rfl (Nat.le_of_ble_eq_true rfl) ⟨Nat.le_of_ble_eq_true rfl, Nat.le_of_ble_eq_true rfl⟩ ?_
    rintro _ h1 ⟨rfl, M1⟩
    replace M := M.trans M1
    clear M1
    refine A_aload_n0 d_N_feed_48 ?_
    refine A_getf (kf := 0) d_N_feed_49 ((M.2 n (by omega)).trans hO) ok_7 (by decide) q_368 rfl ?_
    refine A_iload5 d_N_feed_52 ?_
    refine A_callV d_N_feed_54 (c_Td_append M.1 (apS_n (apS (apS (apS W (len) va 4) (len + 4) vb 4) (len + 4 + 4) vc 4) (len + 4 + 4 + 4) vd 4) (by omega) ve) M.1.o rfl q_397 q_398 q_399 mk_Td_append rfl (by decide) rfl (Nat.le_of_ble_eq_true rfl) ⟨Nat.le_of_ble_eq_true rfl, Nat.le_of_ble_eq_true rfl⟩ ?_
    rintro _ h1 ⟨rfl, M1⟩
    replace M := M.trans M1
    clear M1
    refine A_aload_n0 d_N_feed_57 ?_
    refine A_getf (kf := 0) d_N_feed_58 ((M.2 n (by omega)).trans hO) ok_7 (by decide) q_368 rfl ?_
    refine A_getf (kf := 1) d_N_feed_61 M.1.o ok_6 (by decide) q_194 rfl ?_
    refine A_topI ((apS_n (apS (apS (apS (apS W (len) va 4) (len + 4) vb 4) (len + 4 + 4) vc 4) (len + 4 + 4 + 4) vd 4) (len + 4 + 4 + 4 + 4) ve 4).trans (congrArg nI (show len + 4 + 4 + 4 + 4 + 4 = len + 20 by omega))) ?_
    refine A_iret d_N_feed_64 rfl ⟨Nat.zero_le _, Nat.zero_le _⟩ ?_
    exact .inr ⟨by omega, rfl, M⟩
  · refine A_iconst (v := (-1)) d_N_feed_13 (by decide) ?_
    refine A_iret d_N_feed_14 rfl ⟨Nat.zero_le _, Nat.zero_le _⟩ ?_
    exact .inl ⟨by omega, rfl, rfl⟩
