theorem slo_k {c k : Nat} {xa : Int32} (hc : c ≤ 2) (h : sloO c xa = some k) : k < 2 ∧ (k = c ↔ xa = -1) ∧ k ≤ c := by
  unfold sloO at h
  by_cases hx : xa = -1
  · rw [if_pos hx] at h
    by_cases h2 : c = 2
    · rw [if_pos h2] at h; cases h
    · rw [if_neg h2] at h
      cases h
      exact ⟨by omega, ⟨fun _ => hx, fun _ => rfl⟩, Nat.le_refl _⟩
  · rw [if_neg hx] at h
    by_cases hb : inB xa (nI 0) (nI c - nI 1) = true
    · rw [if_pos hb] at h
      obtain ⟨j, rfl, hj⟩ := inB_nat (n := c) (by omega) hb
      rw [nI_clamp (by omega)] at h
      cases h
      exact ⟨by omega, ⟨fun z => by omega, fun z => absurd z hx⟩, by omega⟩
    · rw [if_neg hb] at h; cases h
/-- the told object's own numbers after a text: length, fault, place -/
def tx3 (F : Nat → Int32) (a b : Int32) : Nat → Int32 := fup (fup (fup F 1 (nI 0)) 2 a) 3 b
def TXC (h h1 : AH) (n : Nat) (B : Nat → Nat) (len : Nat) (c : Nat → Nat) (W : TD) (sa xa : Int32) (v : Option Value) (W1 : TD) (Z1 : RC) : Prop :=
  TdAt h1 (n + 1) W1 ∧ RdAt h1 (n + 48) Z1 ∧ (∃ z, Z1.2.2.2.1.1 14 = bI z) ∧ (∀ i, (i < n + 1 ∨ n + 47 ≤ i ∧ i < n + 48 ∨ n + 72 ≤ i) → h1 i = h i) ∧
  (((inB sa (nI 0) (nI 4) = false ∨ ∃ of, sa = nI of ∧ of ≤ 4 ∧ sloO (c of) xa = none) ∧ v = some (.int (-2)) ∧ W1 = (tx3 W.1 (nI 0) (-1), W.2)) ∨
   (∃ of k, sa = nI of ∧ of ≤ 4 ∧ sloO (c of) xa = some k ∧ ftN B len of ≠ 0 ∧ v = some (.int (-1)) ∧ W1 = (fup (fup (tx3 W.1 (nI 0) (-1)) 2 (nI (ftN B len of))) 3 (plN B len of), W.2)) ∨
   (∃ of k, sa = nI of ∧ of ≤ 4 ∧ k < 2 ∧ sloO (c of) xa = some k ∧ ftN B len of = 0 ∧ v = some (.int (nI k)) ∧ CR of Z1 (rdX B len of).2.1 (rdX B len of).2.2.1 ∧ KPQ of k (if k = c of then fup (W.2.1 1) of (nI (c of + 1)) else W.2.1 1) Z1 (tx3 W.1 (nI 0) (-1), W.2) W1))
set_option maxHeartbeats 4000000 in
set_option maxRecDepth 100000 in
theorem c_N_text {G : GE} {h : AH} {n : Nat} {W : TD} {c : Nat → Nat} {VL WT BK SG GM : Nat → Nat → Nat} (hN : NT h n W c VL WT BK SG GM) {Z : RC} (hR : RdAt h (n + 48) Z) (hOl : OLD h) {B : Nat → Nat} (hBt : ∀ k, k < 600 → W.2.1 0 k = nI (B k)) (hB2 : ∀ k, B k < 256) {len : Nat} (hl6 : len ≤ 600) (hlen : W.1 1 = nI len) {z14 : Bool} (h14 : Z.2.2.2.1.1 14 = bI z14) (sa xa : Int32)  : Ctr G y_N_text b_N_text 5 (some .int) r_N_text [.ref n, .int sa, .int xa] h (fun v h1 => ∃ W1 Z1, TXC h h1 n B len c W sa xa v W1 Z1) := by
  refine Ctr.of (by decide +kernel) (by simp) (Nat.le_of_ble_eq_true rfl) (L0 := [some (.ref n), some (.int sa), some (.int xa), none, none]) rfl ?_
  have hO := hN.o
  have hA := hN.a
  have hTR := hN.r
  have M := TW.start hA
  by_cases hin : inB sa (nI 0) (nI 4) = true
  · obtain ⟨of, rfl, -, hof⟩ := inB_ex (by decide) hin
    cases hs : sloO (c of) xa with
    | none =>
      refine A_aload_n0 d_N_text_0 ?_
      refine A_getf (kf := 0) d_N_text_1 ((M.2 _ (by omega)).trans hO) ok_7 (by decide) q_368 rfl ?_
      refine A_getf (kf := 1) d_N_text_4 M.1.o ok_6 (by decide) q_194 rfl ?_
      refine A_topI hlen ?_
      refine A_istore3 d_N_text_7 trivial ?_
      refine A_aload_n0 d_N_text_8 ?_
      refine A_iload_n1 d_N_text_9 ?_
      refine A_iload_n2 d_N_text_10 ?_
      refine A_callVP d_N_text_11 (c_N_slotFor hN of hof xa) ((M.2 _ (by omega)).trans hO) rfl q_409 q_411 qs_0 mk_N_slotFor rfl (by decide) rfl (Nat.le_of_ble_eq_true rfl) ⟨Nat.le_of_ble_eq_true rfl, Nat.le_of_ble_eq_true rfl⟩ ⟨rfl, rfl⟩ ?_
      refine A_topI (sloI_n hs) ?_
      refine A_istore4 d_N_text_14 trivial ?_
      refine A_aload_n0 d_N_text_16 ?_
      refine A_getf (kf := 0) d_N_text_17 ((M.2 _ (by omega)).trans hO) ok_7 (by decide) q_368 rfl ?_
      refine A_iconst (v := nI 0) d_N_text_20 (by decide) ?_
      refine A_twInt (kf := 1) d_N_text_21 (by decide) q_194 (Or.inl rfl) (by decide +kernel) M rfl (fun h' M' => ?_)
      replace M := M'
      clear M'
      refine A_aload_n0 d_N_text_24 ?_
      refine A_getf (kf := 0) d_N_text_25 ((M.2 _ (by omega)).trans hO) ok_7 (by decide) q_368 rfl ?_
      refine A_iconst (v := nI 0) d_N_text_28 (by decide) ?_
      refine A_twInt (kf := 2) d_N_text_29 (by decide) q_197 (Or.inl rfl) (by decide +kernel) M rfl (fun h' M' => ?_)
      replace M := M'
      clear M'
      refine A_aload_n0 d_N_text_32 ?_
      refine A_getf (kf := 0) d_N_text_33 ((M.2 _ (by omega)).trans hO) ok_7 (by decide) q_368 rfl ?_
      refine A_iconst (v := (-1)) d_N_text_36 (by decide) ?_
      refine A_twInt (kf := 3) d_N_text_37 (by decide) q_199 (Or.inl rfl) (by decide +kernel) M rfl (fun h' M' => ?_)
      replace M := M'
      clear M'
      refine A_iload4 d_N_text_40 ?_
      refine A_iconst (v := (-1)) d_N_text_42 (by decide) ?_
      first | refine A_icmp_neN (tgt := 49) d_N_text_43 (by decide) (by with_reducible rfl) (by with_reducible rfl) (by omega) (by omega) (fun c_43 => ?_) (fun c_43 => ?_) | refine A_icmp_ne (tgt := 49) d_N_text_43 (by decide) (fun c_43 => ?_) (fun c_43 => ?_)
      · exact absurd rfl c_43
      · refine A_bipush (v := (-2)) d_N_text_46 (by decide) ?_
        refine A_iret d_N_text_48 rfl ⟨Nat.zero_le _, Nat.zero_le _⟩ ?_
        refine ⟨_, Z, M.1, (hR.kept (fun j _ _ => M.2 j (by omega))), ⟨z14, h14⟩, fun i hi => M.2 i (by omega), .inl ⟨.inr ⟨of, rfl, hof, hs⟩, rfl, rfl⟩⟩
    | some k =>
      have hk := slo_k (hTR.n of (by omega)).2 hs
      refine A_aload_n0 d_N_text_0 ?_
      refine A_getf (kf := 0) d_N_text_1 ((M.2 _ (by omega)).trans hO) ok_7 (by decide) q_368 rfl ?_
      refine A_getf (kf := 1) d_N_text_4 M.1.o ok_6 (by decide) q_194 rfl ?_
      refine A_topI hlen ?_
      refine A_istore3 d_N_text_7 trivial ?_
      refine A_aload_n0 d_N_text_8 ?_
      refine A_iload_n1 d_N_text_9 ?_
      refine A_iload_n2 d_N_text_10 ?_
      refine A_callVP d_N_text_11 (c_N_slotFor hN of hof xa) ((M.2 _ (by omega)).trans hO) rfl q_409 q_411 qs_0 mk_N_slotFor rfl (by decide) rfl (Nat.le_of_ble_eq_true rfl) ⟨Nat.le_of_ble_eq_true rfl, Nat.le_of_ble_eq_true rfl⟩ ⟨rfl, rfl⟩ ?_
      refine A_topI (sloI_s hs) ?_
      refine A_istore4 d_N_text_14 trivial ?_
      refine A_aload_n0 d_N_text_16 ?_
      refine A_getf (kf := 0) d_N_text_17 ((M.2 _ (by omega)).trans hO) ok_7 (by decide) q_368 rfl ?_
      refine A_iconst (v := nI 0) d_N_text_20 (by decide) ?_
      refine A_twInt (kf := 1) d_N_text_21 (by decide) q_194 (Or.inl rfl) (by decide +kernel) M rfl (fun h' M' => ?_)
      replace M := M'
      clear M'
      refine A_aload_n0 d_N_text_24 ?_
      refine A_getf (kf := 0) d_N_text_25 ((M.2 _ (by omega)).trans hO) ok_7 (by decide) q_368 rfl ?_
      refine A_iconst (v := nI 0) d_N_text_28 (by decide) ?_
      refine A_twInt (kf := 2) d_N_text_29 (by decide) q_197 (Or.inl rfl) (by decide +kernel) M rfl (fun h' M' => ?_)
      replace M := M'
      clear M'
      refine A_aload_n0 d_N_text_32 ?_
      refine A_getf (kf := 0) d_N_text_33 ((M.2 _ (by omega)).trans hO) ok_7 (by decide) q_368 rfl ?_
      refine A_iconst (v := (-1)) d_N_text_36 (by decide) ?_
      refine A_twInt (kf := 3) d_N_text_37 (by decide) q_199 (Or.inl rfl) (by decide +kernel) M rfl (fun h' M' => ?_)
      replace M := M'
      clear M'
      refine A_iload4 d_N_text_40 ?_
      refine A_iconst (v := (-1)) d_N_text_42 (by decide) ?_
      first | refine A_icmp_neN (tgt := 49) d_N_text_43 (by decide) (by with_reducible rfl) (by with_reducible rfl) (by omega) (by omega) (fun c_43 => ?_) (fun c_43 => ?_) | refine A_icmp_ne (tgt := 49) d_N_text_43 (by decide) (fun c_43 => ?_) (fun c_43 => ?_)
      · refine A_aload_n0 d_N_text_49 ?_
        refine A_getf (kf := 2) d_N_text_50 ((M.2 _ (by omega)).trans hO) ok_7 (by decide) q_370 rfl ?_
        refine A_iload_n1 d_N_text_53 ?_
        refine A_aload_n0 d_N_text_54 ?_
        refine A_getf (kf := 0) d_N_text_55 ((M.2 _ (by omega)).trans hO) ok_7 (by decide) q_368 rfl ?_
        refine A_getf (kf := 0) d_N_text_58 M.1.o ok_6 (by decide) q_193 rfl ?_
        refine A_iload_n3 d_N_text_61 ?_
        refine A_callV d_N_text_62 (c_Rd_read (hR.kept (fun j _ _ => M.2 j (by omega))) (hOl.kept (fun i hi => M.2 i (by have := hA.ge; omega))) (tp := n + 1 + 1) ⟨⟨W.2.1 0, M.1.tape, hBt⟩, hB2⟩ (by omega) hl6 h14 of hof) (hR.kept (fun j _ _ => M.2 j (by omega))).o rfl q_413 q_414 q_415 mk_Rd_read rfl (by decide) rfl (Nat.le_of_ble_eq_true rfl) ⟨Nat.le_of_ble_eq_true rfl, Nat.le_of_ble_eq_true rfl⟩ ?_
        rintro _ h5 ⟨rfl, Z1, MR, hf4, hz5, e6, e7, hCR⟩
        have hR5 := MR.1
        have hfr : ∀ i, (i < n + 1 ∨ n + 47 ≤ i ∧ i < n + 48 ∨ n + 72 ≤ i) → h5 i = h i := fun i hi => (MR.2 i (by omega)).trans (M.2 i (by omega))
        have hO5 := (hfr n (by omega)).trans hO
        replace M := TW.start (M.1.kept (fun i _ _ => MR.2 i (by omega)))
        clear MR
        refine A_aload_n0 d_N_text_65 ?_
        refine A_getf (kf := 2) d_N_text_66 ((M.2 _ (by omega)).trans hO5) ok_7 (by decide) q_370 rfl ?_
        refine A_getf (kf := 6) d_N_text_69 (hR5.kept (fun j _ _ => M.2 j (by omega))).o ok_3 (by decide) q_286 rfl ?_
        refine A_topI e6 ?_
        first | refine A_if_eqN (tgt := 105) d_N_text_72 (by decide) (by with_reducible rfl) (by omega) (fun c_72 => ?_) (fun c_72 => ?_) | refine A_if_eq (tgt := 105) d_N_text_72 (by decide) (fun c_72 => ?_) (fun c_72 => ?_)
        · refine A_aload_n0 d_N_text_105 ?_
          refine A_iload_n1 d_N_text_106 ?_
          refine A_iload4 d_N_text_107 ?_
          refine A_callV d_N_text_109 (c_N_keep ((M.2 _ (by omega)).trans hO5) M.1 (hR5.kept (fun j _ _ => M.2 j (by omega))) hof hk.1 (hTR.n of (by omega)).1 (hTR.n of (by omega)).2 (fun z => ((hCR c_72).1 z).1.2.2) hz5.choose_spec) ((M.2 _ (by omega)).trans hO5) rfl q_593 q_595 qs_1 mk_N_keep rfl (by decide) rfl (Nat.le_of_ble_eq_true rfl) ⟨Nat.le_of_ble_eq_true rfl, Nat.le_of_ble_eq_true rfl⟩ ?_
          rintro _ h6 ⟨rfl, W6, M6, hK6⟩
          replace M := (⟨M6.1, fun i hi => (M6.2 i hi).trans (M.2 i hi)⟩ : TW h5 h6 (n + 1) W6)
          refine A_iload4 d_N_text_112 ?_
          refine A_iret d_N_text_114 rfl ⟨Nat.zero_le _, Nat.zero_le _⟩ ?_
          exact ⟨W6, Z1, M.1, hR5.kept (fun j _ _ => M.2 j (by omega)), hz5, fun i hi => (M.2 i (by omega)).trans (hfr i hi), .inr (.inr ⟨of, k, rfl, hof, hk.1, hs, c_72, rfl, hCR c_72, hK6⟩)⟩
        · refine A_aload_n0 d_N_text_75 ?_
          refine A_getf (kf := 0) d_N_text_76 ((M.2 _ (by omega)).trans hO5) ok_7 (by decide) q_368 rfl ?_
          refine A_aload_n0 d_N_text_79 ?_
          refine A_getf (kf := 2) d_N_text_80 ((M.2 _ (by omega)).trans hO5) ok_7 (by decide) q_370 rfl ?_
          refine A_getf (kf := 6) d_N_text_83 (hR5.kept (fun j _ _ => M.2 j (by omega))).o ok_3 (by decide) q_286 rfl ?_
          refine A_topI e6 ?_
          refine A_twInt (kf := 2) d_N_text_86 (by decide) q_197 (Or.inl rfl) (by decide +kernel) M rfl (fun h' M' => ?_)
          replace M := M'
          clear M'
          refine A_aload_n0 d_N_text_89 ?_
          refine A_getf (kf := 0) d_N_text_90 ((M.2 _ (by omega)).trans hO5) ok_7 (by decide) q_368 rfl ?_
          refine A_aload_n0 d_N_text_93 ?_
          refine A_getf (kf := 2) d_N_text_94 ((M.2 _ (by omega)).trans hO5) ok_7 (by decide) q_370 rfl ?_
          refine A_getf (kf := 7) d_N_text_97 (hR5.kept (fun j _ _ => M.2 j (by omega))).o ok_3 (by decide) q_288 rfl ?_
          refine A_topI e7 ?_
          refine A_twInt (kf := 3) d_N_text_100 (by decide) q_199 (Or.inl rfl) (by decide +kernel) M rfl (fun h' M' => ?_)
          replace M := M'
          clear M'
          refine A_iconst (v := (-1)) d_N_text_103 (by decide) ?_
          refine A_iret d_N_text_104 rfl ⟨Nat.zero_le _, Nat.zero_le _⟩ ?_
          exact ⟨_, Z1, M.1, hR5.kept (fun j _ _ => M.2 j (by omega)), hz5, fun i hi => (M.2 i (by omega)).trans (hfr i hi), .inr (.inl ⟨of, k, rfl, hof, hs, c_72, rfl, rfl⟩)⟩
      · exact absurd c_43 (nI_neM1 (by omega))
  · have hin : inB sa (nI 0) (nI 4) = false := by
      cases z : inB sa (nI 0) (nI 4) with
      | true => exact absurd z hin
      | false => rfl
    refine A_aload_n0 d_N_text_0 ?_
    refine A_getf (kf := 0) d_N_text_1 ((M.2 _ (by omega)).trans hO) ok_7 (by decide) q_368 rfl ?_
    refine A_getf (kf := 1) d_N_text_4 M.1.o ok_6 (by decide) q_194 rfl ?_
    refine A_topI hlen ?_
    refine A_istore3 d_N_text_7 trivial ?_
    refine A_aload_n0 d_N_text_8 ?_
    refine A_iload_n1 d_N_text_9 ?_
    refine A_iload_n2 d_N_text_10 ?_
    refine A_callVP d_N_text_11 (c_N_slotForF hin xa) ((M.2 _ (by omega)).trans hO) rfl q_409 q_411 qs_0 mk_N_slotFor rfl (by decide) rfl (Nat.le_of_ble_eq_true rfl) ⟨Nat.le_of_ble_eq_true rfl, Nat.le_of_ble_eq_true rfl⟩ ⟨rfl, rfl⟩ ?_
    refine A_istore4 d_N_text_14 trivial ?_
    refine A_aload_n0 d_N_text_16 ?_
    refine A_getf (kf := 0) d_N_text_17 ((M.2 _ (by omega)).trans hO) ok_7 (by decide) q_368 rfl ?_
    refine A_iconst (v := nI 0) d_N_text_20 (by decide) ?_
    refine A_twInt (kf := 1) d_N_text_21 (by decide) q_194 (Or.inl rfl) (by decide +kernel) M rfl (fun h' M' => ?_)
    replace M := M'
    clear M'
    refine A_aload_n0 d_N_text_24 ?_
    refine A_getf (kf := 0) d_N_text_25 ((M.2 _ (by omega)).trans hO) ok_7 (by decide) q_368 rfl ?_
    refine A_iconst (v := nI 0) d_N_text_28 (by decide) ?_
    refine A_twInt (kf := 2) d_N_text_29 (by decide) q_197 (Or.inl rfl) (by decide +kernel) M rfl (fun h' M' => ?_)
    replace M := M'
    clear M'
    refine A_aload_n0 d_N_text_32 ?_
    refine A_getf (kf := 0) d_N_text_33 ((M.2 _ (by omega)).trans hO) ok_7 (by decide) q_368 rfl ?_
    refine A_iconst (v := (-1)) d_N_text_36 (by decide) ?_
    refine A_twInt (kf := 3) d_N_text_37 (by decide) q_199 (Or.inl rfl) (by decide +kernel) M rfl (fun h' M' => ?_)
    replace M := M'
    clear M'
    refine A_iload4 d_N_text_40 ?_
    refine A_iconst (v := (-1)) d_N_text_42 (by decide) ?_
    first | refine A_icmp_neN (tgt := 49) d_N_text_43 (by decide) (by with_reducible rfl) (by with_reducible rfl) (by omega) (by omega) (fun c_43 => ?_) (fun c_43 => ?_) | refine A_icmp_ne (tgt := 49) d_N_text_43 (by decide) (fun c_43 => ?_) (fun c_43 => ?_)
    · exact absurd rfl c_43
    · refine A_bipush (v := (-2)) d_N_text_46 (by decide) ?_
      refine A_iret d_N_text_48 rfl ⟨Nat.zero_le _, Nat.zero_le _⟩ ?_
      refine ⟨_, Z, M.1, (hR.kept (fun j _ _ => M.2 j (by omega))), ⟨z14, h14⟩, fun i hi => M.2 i (by omega), .inl ⟨.inl hin, rfl, rfl⟩⟩
