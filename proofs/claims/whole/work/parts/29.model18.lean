theorem hset_hset (h : AH) (q : Nat) (e e' : va_E) : hset (hset h q e) q e' = hset h q e' := by
  funext i
  unfold hset
  by_cases k : i = q
  · rw [if_pos k, if_pos k]
  · rw [if_neg k, if_neg k, if_neg k]
theorem hset_same {h : AH} {q : Nat} {e : va_E} (k : h q = some e) : hset h q e = h := by
  funext i
  unfold hset
  by_cases r : i = q
  · rw [if_pos r, r, k]
  · rw [if_neg r]
/-- the first i places of block t made those of block f, blocks of n -/
def cpyI (g : Nat → Int32) (n f t i : Nat) : Nat → Int32 := fun j => if n * t ≤ j ∧ j < n * t + i then g (n * f + (j - n * t)) else g j
def cpyF (g : Nat → Int32) (n f t : Nat) : Nat → Int32 := cpyI g n f t n
theorem cpyI_0 (g : Nat → Int32) (n f t : Nat) : cpyI g n f t 0 = g := by
  funext j
  unfold cpyI
  rw [if_neg (by omega)]
theorem cpyI_src {g : Nat → Int32} {n f t i k : Nat} (hk : k < n) (hd : n * f + n ≤ n * t ∨ n * t + n ≤ n * f) (hi : i ≤ n) : cpyI g n f t i (n * f + k) = g (n * f + k) := by
  unfold cpyI
  rw [if_neg (by omega)]
theorem cpyI_step {g : Nat → Int32} {n f t i : Nat} {x : Int32} (hx : x = g (n * f + i)) : fup (cpyI g n f t i) (n * t + i) x = cpyI g n f t (i + 1) := by
  funext j
  subst hx
  by_cases k : j = n * t + i
  · subst k
    rw [fup_eq]
    unfold cpyI
    rw [if_pos (by omega), show n * t + i - n * t = i by omega]
  · rw [fup_ne _ _ k]
    unfold cpyI
    by_cases k2 : n * t ≤ j ∧ j < n * t + i
    · rw [if_pos k2, if_pos (by omega)]
    · rw [if_neg k2, if_neg (by omega)]
/-- an array of the state made anew: the state behind it, without its make -/
theorem opa {h0 h : AH} {m : Nat} {S : MS} {k : Nat} {g : Nat → Int32} (hM : MW h0 h m (S.sa k g)) : ∃ S2 : MS, MW h0 h m S2 ∧ S2.2.2.1 k = g ∧ (∀ j, j ≠ k → S2.2.2.1 j = S.2.2.1 j) ∧ S2.1 = S.1 ∧ S2.2.1 = S.2.1 ∧ S2.2.2.2 = S.2.2.2 := ⟨_, hM, fup_eq _ _ _, fun j hj => fup_ne _ _ hj, rfl, rfl, rfl⟩
/-- lengths of one image's blocks -/
def nK : Nat → Nat
  | 1 => 600
  | 2 => 1
  | 3 => 1
  | 4 => 1
  | 5 => 5
  | 6 => 624
  | 7 => 48
  | 8 => 122
  | 9 => 122
  | 10 => 16
  | _ => 0
def CPY (S S1 : MS) (f t : Nat) : Prop := (∀ k, 1 ≤ k → k ≤ 10 → S1.2.2.1 k = cpyF (S.2.2.1 k) (nK k) f t) ∧ ∀ k, 10 < k → S1.2.2.1 k = S.2.2.1 k
set_option maxHeartbeats 4000000 in
set_option maxRecDepth 100000 in
theorem c_M_copyRow {G : GE} {h : AH} {q w : Nat} {g : Nat → Int32} (hq : h q = some (.inl (0, w, .inl g))) (h1 : 1000 ≤ q) (n f t : Nat) (hd : n * f + n ≤ n * t ∨ n * t + n ≤ n * f) (hw : w < 2 ^ 31) (hf : n * f + n ≤ w) (ht : n * t + n ≤ w) : Ctr G y_M_copyRow b_M_copyRow 5 none r_M_copyRow [.ref q, .int (nI n), .int (nI f), .int (nI t)] h (fun v h' => v = none ∧ h' = hset h q (.inl (0, w, .inl (cpyF g n f t)))) := by
  have key : ∀ i, i ≤ n → WA G y_M_copyRow b_M_copyRow 5 none r_M_copyRow 0 0 (fun v h' => v = none ∧ h' = hset h q (.inl (0, w, .inl (cpyF g n f t)))) 0 0 3 [some (.ref q), some (.int (nI n)), some (.int (nI f)), some (.int (nI t)), some (.int (nI i))] [] (hset h q (.inl (0, w, .inl (cpyI g n f t i)))) := by
    refine down ?_ (fun i hi ih => ?_)
    · refine A_iload4 d_M_copyRow_3 ?_
      refine A_iload_n1 d_M_copyRow_5 ?_
      first | refine A_icmp_geN (tgt := 31) d_M_copyRow_6 (by decide) (by with_reducible rfl) (by with_reducible rfl) (by omega) (by omega) (fun c_6 => ?_) (fun c_6 => ?_) | refine A_icmp_ge (tgt := 31) d_M_copyRow_6 (by decide) (fun c_6 => ?_) (fun c_6 => ?_)
      · refine A_vret d_M_copyRow_31 rfl ⟨Nat.zero_le _, Nat.zero_le _⟩ ?_
        exact ⟨rfl, rfl⟩
      · exact absurd c_6 (by omega)
    · refine A_iload4 d_M_copyRow_3 ?_
      refine A_iload_n1 d_M_copyRow_5 ?_
      first | refine A_icmp_geN (tgt := 31) d_M_copyRow_6 (by decide) (by with_reducible rfl) (by with_reducible rfl) (by omega) (by omega) (fun c_6 => ?_) (fun c_6 => ?_) | refine A_icmp_ge (tgt := 31) d_M_copyRow_6 (by decide) (fun c_6 => ?_) (fun c_6 => ?_)
      · exact absurd c_6 (by omega)
      · refine A_aload_n0 d_M_copyRow_9 ?_
        refine A_iload_n1 d_M_copyRow_10 ?_
        refine A_iload_n3 d_M_copyRow_11 ?_
        first | refine A_imulN d_M_copyRow_12 (by with_reducible rfl) (by with_reducible rfl) ?_ | refine A_imul d_M_copyRow_12 ?_
        refine A_iload4 d_M_copyRow_13 ?_
        first | refine A_iaddN d_M_copyRow_15 (by with_reducible rfl) (by with_reducible rfl) ?_ | refine A_iadd d_M_copyRow_15 ?_
        refine A_aload_n0 d_M_copyRow_16 ?_
        refine A_iload_n1 d_M_copyRow_17 ?_
        refine A_iload_n2 d_M_copyRow_18 ?_
        first | refine A_imulN d_M_copyRow_19 (by with_reducible rfl) (by with_reducible rfl) ?_ | refine A_imul d_M_copyRow_19 ?_
        refine A_iload4 d_M_copyRow_20 ?_
        first | refine A_iaddN d_M_copyRow_22 (by with_reducible rfl) (by with_reducible rfl) ?_ | refine A_iadd d_M_copyRow_22 ?_
        refine A_ialdN d_M_copyRow_23 (hset_eq _ _ _) ⟨by omega, by omega⟩ ?_
        refine A_iastN d_M_copyRow_24 (hset_eq _ _ _) ⟨by omega, by omega⟩ h1 ?_
        rw [hset_hset, cpyI_step (cpyI_src (by omega) hd (by omega))]
        first | refine A_iinc4 d_M_copyRow_25 (nI_1 _) trivial ?_ | refine A_iinc4 d_M_copyRow_25 rfl trivial ?_
        refine A_goto (tgt := 3) d_M_copyRow_28 (by decide) ?_
        exact ih
  refine Ctr.of (by decide +kernel) (by simp) (Nat.le_of_ble_eq_true rfl) (L0 := [some (.ref q), some (.int (nI n)), some (.int (nI f)), some (.int (nI t)), none]) rfl ?_
  refine A_iconst (v := nI 0) d_M_copyRow_0 (by decide) ?_
  refine A_istore4 d_M_copyRow_1 trivial ?_
  have k0 := key 0 (Nat.zero_le _)
  rw [cpyI_0, hset_same hq] at k0
  exact k0
set_option maxHeartbeats 4000000 in
set_option maxRecDepth 100000 in
theorem c_M_copyAll {G : GE} {h0 h : AH} {m : Nat} {S : MS} (hM : MW h0 h m S) (hT : ∀ i, i < 2400 → vp_nar .byte (S.2.2.1 1 i) = S.2.2.1 1 i) (f t : Nat) (hf : f < 4) (ht : t < 4) (hft : f ≠ t) : Ctr G y_M_copyAll b_M_copyAll 4 none r_M_copyAll [.ref m, .int (nI f), .int (nI t)] h (fun v h' => v = none ∧ ∃ S1, MW h0 h' m S1 ∧ CPY S S1 f t) := by
  have key : ∀ i, i ≤ 600 → ∀ (h : AH) (S1 : MS), MW h0 h m S1 → (∀ j, j ≠ 1 → S1.2.2.1 j = S.2.2.1 j) → S1.2.2.1 1 = cpyI (S.2.2.1 1) 600 f t i → WA G y_M_copyAll b_M_copyAll 4 none r_M_copyAll 0 0 (fun v h' => v = none ∧ ∃ S1, MW h0 h' m S1 ∧ CPY S S1 f t) 0 0 2 [some (.ref m), some (.int (nI f)), some (.int (nI t)), some (.int (nI i))] [] h := by
    refine down ?_ (fun i hi ih => ?_)
    · intro h S1 hM hn e1
      have n1 : ∀ j, 1 < j → S1.2.2.1 j = S.2.2.1 j := fun j hj => hn j (by omega)
      refine A_iload_n3 d_M_copyAll_2 ?_
      refine A_sipush (v := nI 600) d_M_copyAll_3 (by decide) ?_
      first | refine A_icmp_geN (tgt := 39) d_M_copyAll_6 (by decide) (by with_reducible rfl) (by with_reducible rfl) (by omega) (by omega) (fun c_6 => ?_) (fun c_6 => ?_) | refine A_icmp_ge (tgt := 39) d_M_copyAll_6 (by decide) (fun c_6 => ?_) (fun c_6 => ?_)
      · refine A_aload_n0 d_M_copyAll_39 ?_
        refine A_getf (kf := 2) d_M_copyAll_40 hM.o ok_8 (by decide) q_1051 rfl ?_
        refine A_iconst (v := nI 1) d_M_copyAll_43 (by decide) ?_
        refine A_iload_n1 d_M_copyAll_44 ?_
        refine A_iload_n2 d_M_copyAll_45 ?_
        refine A_callS d_M_copyAll_46 (c_M_copyRow hM.a2 (by have := hM.ge; omega) 1 f t (by omega) (by decide) (by omega) (by omega)) q_1730 q_1731 mk_M_copyRow rfl (by decide) rfl (Nat.le_of_ble_eq_true rfl) ⟨Nat.le_of_ble_eq_true rfl, Nat.le_of_ble_eq_true rfl⟩ (fun v h1 hv => ?_)
        obtain ⟨rfl, rfl⟩ := hv
        have hM := hM.u2 (cpyF (S1.2.2.1 2) 1 f t)
        obtain ⟨S2, hM, e2, x2, -⟩ := opa hM
        rw [n1 2 (by decide)] at e2
        have n2 : ∀ j, 2 < j → S2.2.2.1 j = S.2.2.1 j := fun j hj => (x2 j (by omega)).trans (n1 j (by omega))
        refine A_aload_n0 d_M_copyAll_49 ?_
        refine A_getf (kf := 3) d_M_copyAll_50 hM.o ok_8 (by decide) q_1052 rfl ?_
        refine A_iconst (v := nI 1) d_M_copyAll_53 (by decide) ?_
        refine A_iload_n1 d_M_copyAll_54 ?_
        refine A_iload_n2 d_M_copyAll_55 ?_
        refine A_callS d_M_copyAll_56 (c_M_copyRow hM.a3 (by have := hM.ge; omega) 1 f t (by omega) (by decide) (by omega) (by omega)) q_1730 q_1731 mk_M_copyRow rfl (by decide) rfl (Nat.le_of_ble_eq_true rfl) ⟨Nat.le_of_ble_eq_true rfl, Nat.le_of_ble_eq_true rfl⟩ (fun v h1 hv => ?_)
        obtain ⟨rfl, rfl⟩ := hv
        have hM := hM.u3 (cpyF (S2.2.2.1 3) 1 f t)
        obtain ⟨S3, hM, e3, x3, -⟩ := opa hM
        rw [n2 3 (by decide)] at e3
        have n3 : ∀ j, 3 < j → S3.2.2.1 j = S.2.2.1 j := fun j hj => (x3 j (by omega)).trans (n2 j (by omega))
        refine A_aload_n0 d_M_copyAll_59 ?_
        refine A_getf (kf := 4) d_M_copyAll_60 hM.o ok_8 (by decide) q_1053 rfl ?_
        refine A_iconst (v := nI 1) d_M_copyAll_63 (by decide) ?_
        refine A_iload_n1 d_M_copyAll_64 ?_
        refine A_iload_n2 d_M_copyAll_65 ?_
        refine A_callS d_M_copyAll_66 (c_M_copyRow hM.a4 (by have := hM.ge; omega) 1 f t (by omega) (by decide) (by omega) (by omega)) q_1730 q_1731 mk_M_copyRow rfl (by decide) rfl (Nat.le_of_ble_eq_true rfl) ⟨Nat.le_of_ble_eq_true rfl, Nat.le_of_ble_eq_true rfl⟩ (fun v h1 hv => ?_)
        obtain ⟨rfl, rfl⟩ := hv
        have hM := hM.u4 (cpyF (S3.2.2.1 4) 1 f t)
        obtain ⟨S4, hM, e4, x4, -⟩ := opa hM
        rw [n3 4 (by decide)] at e4
        have n4 : ∀ j, 4 < j → S4.2.2.1 j = S.2.2.1 j := fun j hj => (x4 j (by omega)).trans (n3 j (by omega))
        refine A_aload_n0 d_M_copyAll_69 ?_
        refine A_getf (kf := 5) d_M_copyAll_70 hM.o ok_8 (by decide) q_1054 rfl ?_
        refine A_iconst (v := nI 5) d_M_copyAll_73 (by decide) ?_
        refine A_iload_n1 d_M_copyAll_74 ?_
        refine A_iload_n2 d_M_copyAll_75 ?_
        refine A_callS d_M_copyAll_76 (c_M_copyRow hM.a5 (by have := hM.ge; omega) 5 f t (by omega) (by decide) (by omega) (by omega)) q_1730 q_1731 mk_M_copyRow rfl (by decide) rfl (Nat.le_of_ble_eq_true rfl) ⟨Nat.le_of_ble_eq_true rfl, Nat.le_of_ble_eq_true rfl⟩ (fun v h1 hv => ?_)
        obtain ⟨rfl, rfl⟩ := hv
        have hM := hM.u5 (cpyF (S4.2.2.1 5) 5 f t)
        obtain ⟨S5, hM, e5, x5, -⟩ := opa hM
        rw [n4 5 (by decide)] at e5
        have n5 : ∀ j, 5 < j → S5.2.2.1 j = S.2.2.1 j := fun j hj => (x5 j (by omega)).trans (n4 j (by omega))
        refine A_aload_n0 d_M_copyAll_79 ?_
        refine A_getf (kf := 6) d_M_copyAll_80 hM.o ok_8 (by decide) q_1055 rfl ?_
        refine A_sipush (v := nI 624) d_M_copyAll_83 (by decide) ?_
        refine A_iload_n1 d_M_copyAll_86 ?_
        refine A_iload_n2 d_M_copyAll_87 ?_
        refine A_callS d_M_copyAll_88 (c_M_copyRow hM.a6 (by have := hM.ge; omega) 624 f t (by omega) (by decide) (by omega) (by omega)) q_1730 q_1731 mk_M_copyRow rfl (by decide) rfl (Nat.le_of_ble_eq_true rfl) ⟨Nat.le_of_ble_eq_true rfl, Nat.le_of_ble_eq_true rfl⟩ (fun v h1 hv => ?_)
        obtain ⟨rfl, rfl⟩ := hv
        have hM := hM.u6 (cpyF (S5.2.2.1 6) 624 f t)
        obtain ⟨S6, hM, e6, x6, -⟩ := opa hM
        rw [n5 6 (by decide)] at e6
        have n6 : ∀ j, 6 < j → S6.2.2.1 j = S.2.2.1 j := fun j hj => (x6 j (by omega)).trans (n5 j (by omega))
        refine A_aload_n0 d_M_copyAll_91 ?_
        refine A_getf (kf := 7) d_M_copyAll_92 hM.o ok_8 (by decide) q_1056 rfl ?_
        refine A_bipush (v := nI 48) d_M_copyAll_95 (by decide) ?_
        refine A_iload_n1 d_M_copyAll_97 ?_
        refine A_iload_n2 d_M_copyAll_98 ?_
        refine A_callS d_M_copyAll_99 (c_M_copyRow hM.a7 (by have := hM.ge; omega) 48 f t (by omega) (by decide) (by omega) (by omega)) q_1730 q_1731 mk_M_copyRow rfl (by decide) rfl (Nat.le_of_ble_eq_true rfl) ⟨Nat.le_of_ble_eq_true rfl, Nat.le_of_ble_eq_true rfl⟩ (fun v h1 hv => ?_)
        obtain ⟨rfl, rfl⟩ := hv
        have hM := hM.u7 (cpyF (S6.2.2.1 7) 48 f t)
        obtain ⟨S7, hM, e7, x7, -⟩ := opa hM
        rw [n6 7 (by decide)] at e7
        have n7 : ∀ j, 7 < j → S7.2.2.1 j = S.2.2.1 j := fun j hj => (x7 j (by omega)).trans (n6 j (by omega))
        refine A_aload_n0 d_M_copyAll_102 ?_
        refine A_getf (kf := 8) d_M_copyAll_103 hM.o ok_8 (by decide) q_1057 rfl ?_
        refine A_bipush (v := nI 122) d_M_copyAll_106 (by decide) ?_
        refine A_iload_n1 d_M_copyAll_108 ?_
        refine A_iload_n2 d_M_copyAll_109 ?_
        refine A_callS d_M_copyAll_110 (c_M_copyRow hM.a8 (by have := hM.ge; omega) 122 f t (by omega) (by decide) (by omega) (by omega)) q_1730 q_1731 mk_M_copyRow rfl (by decide) rfl (Nat.le_of_ble_eq_true rfl) ⟨Nat.le_of_ble_eq_true rfl, Nat.le_of_ble_eq_true rfl⟩ (fun v h1 hv => ?_)
        obtain ⟨rfl, rfl⟩ := hv
        have hM := hM.u8 (cpyF (S7.2.2.1 8) 122 f t)
        obtain ⟨S8, hM, e8, x8, -⟩ := opa hM
        rw [n7 8 (by decide)] at e8
        have n8 : ∀ j, 8 < j → S8.2.2.1 j = S.2.2.1 j := fun j hj => (x8 j (by omega)).trans (n7 j (by omega))
        refine A_aload_n0 d_M_copyAll_113 ?_
        refine A_getf (kf := 9) d_M_copyAll_114 hM.o ok_8 (by decide) q_1058 rfl ?_
        refine A_bipush (v := nI 122) d_M_copyAll_117 (by decide) ?_
        refine A_iload_n1 d_M_copyAll_119 ?_
        refine A_iload_n2 d_M_copyAll_120 ?_
        refine A_callS d_M_copyAll_121 (c_M_copyRow hM.a9 (by have := hM.ge; omega) 122 f t (by omega) (by decide) (by omega) (by omega)) q_1730 q_1731 mk_M_copyRow rfl (by decide) rfl (Nat.le_of_ble_eq_true rfl) ⟨Nat.le_of_ble_eq_true rfl, Nat.le_of_ble_eq_true rfl⟩ (fun v h1 hv => ?_)
        obtain ⟨rfl, rfl⟩ := hv
        have hM := hM.u9 (cpyF (S8.2.2.1 9) 122 f t)
        obtain ⟨S9, hM, e9, x9, -⟩ := opa hM
        rw [n8 9 (by decide)] at e9
        have n9 : ∀ j, 9 < j → S9.2.2.1 j = S.2.2.1 j := fun j hj => (x9 j (by omega)).trans (n8 j (by omega))
        refine A_aload_n0 d_M_copyAll_124 ?_
        refine A_getf (kf := 10) d_M_copyAll_125 hM.o ok_8 (by decide) q_1059 rfl ?_
        refine A_bipush (v := nI 16) d_M_copyAll_128 (by decide) ?_
        refine A_iload_n1 d_M_copyAll_130 ?_
        refine A_iload_n2 d_M_copyAll_131 ?_
        refine A_callS d_M_copyAll_132 (c_M_copyRow hM.a10 (by have := hM.ge; omega) 16 f t (by omega) (by decide) (by omega) (by omega)) q_1730 q_1731 mk_M_copyRow rfl (by decide) rfl (Nat.le_of_ble_eq_true rfl) ⟨Nat.le_of_ble_eq_true rfl, Nat.le_of_ble_eq_true rfl⟩ (fun v h1 hv => ?_)
        obtain ⟨rfl, rfl⟩ := hv
        have hM := hM.u10 (cpyF (S9.2.2.1 10) 16 f t)
        obtain ⟨S10, hM, e10, x10, -⟩ := opa hM
        rw [n9 10 (by decide)] at e10
        have n10 : ∀ j, 10 < j → S10.2.2.1 j = S.2.2.1 j := fun j hj => (x10 j (by omega)).trans (n9 j (by omega))
        refine A_vret d_M_copyAll_135 rfl ⟨Nat.zero_le _, Nat.zero_le _⟩ ?_
        refine ⟨rfl, S10, hM, fun k hk1 hk2 => ?_, fun k hk => n10 k hk⟩
        rcases (show k = 1 ∨ k = 2 ∨ k = 3 ∨ k = 4 ∨ k = 5 ∨ k = 6 ∨ k = 7 ∨ k = 8 ∨ k = 9 ∨ k = 10 by omega) with rfl | rfl | rfl | rfl | rfl | rfl | rfl | rfl | rfl | rfl
        · exact (x10 1 (by decide)).trans ((x9 1 (by decide)).trans ((x8 1 (by decide)).trans ((x7 1 (by decide)).trans ((x6 1 (by decide)).trans ((x5 1 (by decide)).trans ((x4 1 (by decide)).trans ((x3 1 (by decide)).trans ((x2 1 (by decide)).trans (e1)))))))))
        · exact (x10 2 (by decide)).trans ((x9 2 (by decide)).trans ((x8 2 (by decide)).trans ((x7 2 (by decide)).trans ((x6 2 (by decide)).trans ((x5 2 (by decide)).trans ((x4 2 (by decide)).trans ((x3 2 (by decide)).trans (e2))))))))
        · exact (x10 3 (by decide)).trans ((x9 3 (by decide)).trans ((x8 3 (by decide)).trans ((x7 3 (by decide)).trans ((x6 3 (by decide)).trans ((x5 3 (by decide)).trans ((x4 3 (by decide)).trans (e3)))))))
        · exact (x10 4 (by decide)).trans ((x9 4 (by decide)).trans ((x8 4 (by decide)).trans ((x7 4 (by decide)).trans ((x6 4 (by decide)).trans ((x5 4 (by decide)).trans (e4))))))
        · exact (x10 5 (by decide)).trans ((x9 5 (by decide)).trans ((x8 5 (by decide)).trans ((x7 5 (by decide)).trans ((x6 5 (by decide)).trans (e5)))))
        · exact (x10 6 (by decide)).trans ((x9 6 (by decide)).trans ((x8 6 (by decide)).trans ((x7 6 (by decide)).trans (e6))))
        · exact (x10 7 (by decide)).trans ((x9 7 (by decide)).trans ((x8 7 (by decide)).trans (e7)))
        · exact (x10 8 (by decide)).trans ((x9 8 (by decide)).trans (e8))
        · exact (x10 9 (by decide)).trans (e9)
        · exact e10
      · exact absurd c_6 (by omega)
    · intro h S1 hM hn hc
      refine A_iload_n3 d_M_copyAll_2 ?_
      refine A_sipush (v := nI 600) d_M_copyAll_3 (by decide) ?_
      first | refine A_icmp_geN (tgt := 39) d_M_copyAll_6 (by decide) (by with_reducible rfl) (by with_reducible rfl) (by omega) (by omega) (fun c_6 => ?_) (fun c_6 => ?_) | refine A_icmp_ge (tgt := 39) d_M_copyAll_6 (by decide) (fun c_6 => ?_) (fun c_6 => ?_)
      · exact absurd c_6 (by omega)
      · refine A_aload_n0 d_M_copyAll_9 ?_
        refine A_getf (kf := 1) d_M_copyAll_10 hM.o ok_8 (by decide) q_1050 rfl ?_
        refine A_sipush (v := nI 600) d_M_copyAll_13 (by decide) ?_
        refine A_iload_n2 d_M_copyAll_16 ?_
        first | refine A_imulN d_M_copyAll_17 (by with_reducible rfl) (by with_reducible rfl) ?_ | refine A_imul d_M_copyAll_17 ?_
        refine A_iload_n3 d_M_copyAll_18 ?_
        first | refine A_iaddN d_M_copyAll_19 (by with_reducible rfl) (by with_reducible rfl) ?_ | refine A_iadd d_M_copyAll_19 ?_
        refine A_aload_n0 d_M_copyAll_20 ?_
        refine A_getf (kf := 1) d_M_copyAll_21 hM.o ok_8 (by decide) q_1050 rfl ?_
        refine A_sipush (v := nI 600) d_M_copyAll_24 (by decide) ?_
        refine A_iload_n1 d_M_copyAll_27 ?_
        first | refine A_imulN d_M_copyAll_28 (by with_reducible rfl) (by with_reducible rfl) ?_ | refine A_imul d_M_copyAll_28 ?_
        refine A_iload_n3 d_M_copyAll_29 ?_
        first | refine A_iaddN d_M_copyAll_30 (by with_reducible rfl) (by with_reducible rfl) ?_ | refine A_iadd d_M_copyAll_30 ?_
        refine A_baldN d_M_copyAll_31 hM.a1 ⟨by omega, by decide⟩ ?_
        refine A_st1 hM d_M_copyAll_32 (by omega) (fun h hM => ?_)
        rw [hc, cpyI_step (x := vp_nar .byte (cpyI (S.2.2.1 1) 600 f t i (600 * f + i))) (by rw [cpyI_src (by omega) (by omega) (by omega)]; exact hT _ (by omega))] at hM
        obtain ⟨S2, hM, e1, x1, -⟩ := opa hM
        first | refine A_iinc3 d_M_copyAll_33 (nI_1 _) trivial ?_ | refine A_iinc3 d_M_copyAll_33 rfl trivial ?_
        refine A_goto (tgt := 2) d_M_copyAll_36 (by decide) ?_
        exact ih _ _ hM (fun j hj => (x1 j hj).trans (hn j hj)) e1
  refine Ctr.of (by decide +kernel) (by simp) (Nat.le_of_ble_eq_true rfl) (L0 := [some (.ref m), some (.int (nI f)), some (.int (nI t)), none]) rfl ?_
  refine A_iconst (v := nI 0) d_M_copyAll_0 (by decide) ?_
  refine A_istore3 d_M_copyAll_1 trivial ?_
  exact key 0 (Nat.zero_le _) _ _ hM (fun _ _ => rfl) (cpyI_0 _ _ _ _).symm
set_option maxHeartbeats 4000000 in
set_option maxRecDepth 100000 in
theorem c_M_image {G : GE} {h0 h : AH} {m : Nat} {S : MS} (hM : MW h0 h m S) (hT : ∀ i, i < 2400 → vp_nar .byte (S.2.2.1 1 i) = S.2.2.1 1 i) (k : Int32) : Ctr G y_M_image b_M_image 2 (some .boolean) r_M_image [.ref m, .int k] h (fun v h' => (inB k (nI 0) (nI 2) = false ∧ v = some (.int (bI false)) ∧ ∃ S1, MW h0 h' m S1 ∧ S1.2 = S.2) ∨ (∃ k', k = nI k' ∧ k' ≤ 2 ∧ v = some (.int (bI true)) ∧ ∃ S1, MW h0 h' m S1 ∧ (∀ j, 1 ≤ j → j ≤ 10 → S1.2.2.1 j = cpyF (S.2.2.1 j) (nK j) 0 (k' + 1)) ∧ S1.2.2.1 55 = fup (S.2.2.1 55) k' (nI 1))) := by
  refine Ctr.of (by decide +kernel) (by simp) (Nat.le_of_ble_eq_true rfl) (L0 := [some (.ref m), some (.int k)]) rfl ?_
  refine A_aload_n0 d_M_image_0 ?_
  refine A_iconst (v := nI 0) d_M_image_1 (by decide) ?_
  refine A_putM hM (kf := 0) (ty := .int) d_M_image_2 (by decide) q_1049 rfl (by decide +kernel) (by first | rfl | exact bI_nar _) rfl (Nat.le_of_ble_eq_true rfl) rfl (fun h hM => ?_)
  refine A_iload_n1 d_M_image_5 ?_
  refine A_iconst (v := nI 0) d_M_image_6 (by decide) ?_
  refine A_iconst (v := nI 2) d_M_image_7 (by decide) ?_
  refine A_callSP d_M_image_8 (c_M_in _ _ _ _) q_1231 q_1232 mk_M_in rfl (by decide) rfl (Nat.le_of_ble_eq_true rfl) ⟨Nat.le_of_ble_eq_true rfl, Nat.le_of_ble_eq_true rfl⟩ ⟨rfl, rfl⟩ ?_
  refine A_if_neB (tgt := 16) d_M_image_11 (by decide) (fun c_11 => ?_) (fun c_11 => ?_)
  · obtain ⟨k', rfl, -, hk⟩ := inB_ex (by decide) c_11
    refine A_aload_n0 d_M_image_16 ?_
    refine A_iconst (v := nI 0) d_M_image_17 (by decide) ?_
    refine A_iload_n1 d_M_image_18 ?_
    refine A_iconst (v := nI 1) d_M_image_19 (by decide) ?_
    first | refine A_iaddN d_M_image_20 (by with_reducible rfl) (by with_reducible rfl) ?_ | refine A_iadd d_M_image_20 ?_
    refine A_callV d_M_image_21 (c_M_copyAll hM hT 0 (k' + 1) (by decide) (by omega) (by omega)) hM.o rfl q_1726 q_1728 qs_104 mk_M_copyAll rfl (by decide) rfl (Nat.le_of_ble_eq_true rfl) ⟨Nat.le_of_ble_eq_true rfl, Nat.le_of_ble_eq_true rfl⟩ (fun v h1 hv => ?_)
    obtain ⟨rfl, S2, hM, hc1, hc2⟩ := hv
    refine A_aload_n0 d_M_image_24 ?_
    refine A_getf (kf := 55) d_M_image_25 hM.o ok_8 (by decide) q_1104 rfl ?_
    refine A_iload_n1 d_M_image_28 ?_
    refine A_iconst (v := nI 1) d_M_image_29 (by decide) ?_
    refine A_st55 hM d_M_image_30 (by omega) (fun h hM => ?_)
    obtain ⟨S3, hM, e55, x1, -⟩ := opa hM
    refine A_iconst (v := nI 1) d_M_image_31 (by decide) ?_
    refine A_zret d_M_image_32 rfl (by decide) ⟨Nat.zero_le _, Nat.zero_le _⟩ ?_
    exact Or.inr ⟨k', rfl, hk, rfl, _, hM, fun j a b => (x1 j (by omega)).trans (hc1 j a b), by rw [e55, hc2 55 (by decide)]; rfl⟩
  · refine A_iconst (v := nI 0) d_M_image_14 (by decide) ?_
    refine A_zret d_M_image_15 rfl (by decide) ⟨Nat.zero_le _, Nat.zero_le _⟩ ?_
    exact Or.inl ⟨c_11, rfl, _, hM, rfl⟩
set_option maxHeartbeats 4000000 in
set_option maxRecDepth 100000 in
theorem c_M_again {G : GE} {h0 h : AH} {m : Nat} {S : MS} (hM : MW h0 h m S) (hT : ∀ i, i < 2400 → vp_nar .byte (S.2.2.1 1 i) = S.2.2.1 1 i) (bb : Nat → Bool) (hb : ∀ j, j ≤ 2 → S.2.2.1 55 j = bI (bb j)) (k : Int32) : Ctr G y_M_again b_M_again 2 (some .boolean) r_M_again [.ref m, .int k] h (fun v h' => ((inB k (nI 0) (nI 2) = false ∨ ∃ k', k = nI k' ∧ k' ≤ 2 ∧ bb k' = false) ∧ v = some (.int (bI false)) ∧ ∃ S1, MW h0 h' m S1 ∧ S1.2 = S.2) ∨ (∃ k', k = nI k' ∧ k' ≤ 2 ∧ bb k' = true ∧ v = some (.int (bI true)) ∧ ∃ S1, MW h0 h' m S1 ∧ (∀ j, 1 ≤ j → j ≤ 10 → S1.2.2.1 j = cpyF (S.2.2.1 j) (nK j) (k' + 1) 0) ∧ S1.2.2.1 55 = S.2.2.1 55)) := by
  refine Ctr.of (by decide +kernel) (by simp) (Nat.le_of_ble_eq_true rfl) (L0 := [some (.ref m), some (.int k)]) rfl ?_
  refine A_aload_n0 d_M_again_0 ?_
  refine A_iconst (v := nI 0) d_M_again_1 (by decide) ?_
  refine A_putM hM (kf := 0) (ty := .int) d_M_again_2 (by decide) q_1049 rfl (by decide +kernel) (by first | rfl | exact bI_nar _) rfl (Nat.le_of_ble_eq_true rfl) rfl (fun h hM => ?_)
  refine A_iload_n1 d_M_again_5 ?_
  refine A_iconst (v := nI 0) d_M_again_6 (by decide) ?_
  refine A_iconst (v := nI 2) d_M_again_7 (by decide) ?_
  refine A_callSP d_M_again_8 (c_M_in _ _ _ _) q_1231 q_1232 mk_M_in rfl (by decide) rfl (Nat.le_of_ble_eq_true rfl) ⟨Nat.le_of_ble_eq_true rfl, Nat.le_of_ble_eq_true rfl⟩ ⟨rfl, rfl⟩ ?_
  refine A_if_eqB (tgt := 23) d_M_again_11 (by decide) (fun c_11 => ?_) (fun c_11 => ?_)
  · refine A_iconst (v := nI 0) d_M_again_23 (by decide) ?_
    refine A_zret d_M_again_24 rfl (by decide) ⟨Nat.zero_le _, Nat.zero_le _⟩ ?_
    first | exact Or.inl ⟨Or.inl c_11, rfl, _, hM, rfl⟩ | exact Or.inl ⟨Or.inr ⟨k', rfl, hk, c_20⟩, rfl, _, hM, rfl⟩ | exact Or.inr ⟨k', rfl, hk, c_20, rfl, _, hM, hc1, hc2 55 (by decide)⟩
  · obtain ⟨k', rfl, -, hk⟩ := inB_ex (by decide) c_11
    refine A_aload_n0 d_M_again_14 ?_
    refine A_getf (kf := 55) d_M_again_15 hM.o ok_8 (by decide) q_1104 rfl ?_
    refine A_iload_n1 d_M_again_18 ?_
    refine A_zaldN d_M_again_19 hM.a55 ⟨by omega, by decide⟩ ?_
    refine A_topI (hb _ hk) ?_
    refine A_if_neB (tgt := 25) d_M_again_20 (by decide) (fun c_20 => ?_) (fun c_20 => ?_)
    · refine A_aload_n0 d_M_again_25 ?_
      refine A_iload_n1 d_M_again_26 ?_
      refine A_iconst (v := nI 1) d_M_again_27 (by decide) ?_
      first | refine A_iaddN d_M_again_28 (by with_reducible rfl) (by with_reducible rfl) ?_ | refine A_iadd d_M_again_28 ?_
      refine A_iconst (v := nI 0) d_M_again_29 (by decide) ?_
      refine A_callV d_M_again_30 (c_M_copyAll hM hT (k' + 1) 0 (by omega) (by decide) (by omega)) hM.o rfl q_1726 q_1728 qs_104 mk_M_copyAll rfl (by decide) rfl (Nat.le_of_ble_eq_true rfl) ⟨Nat.le_of_ble_eq_true rfl, Nat.le_of_ble_eq_true rfl⟩ (fun v h1 hv => ?_)
      obtain ⟨rfl, S2, hM, hc1, hc2⟩ := hv
      refine A_iconst (v := nI 1) d_M_again_33 (by decide) ?_
      refine A_zret d_M_again_34 rfl (by decide) ⟨Nat.zero_le _, Nat.zero_le _⟩ ?_
      first | exact Or.inl ⟨Or.inl c_11, rfl, _, hM, rfl⟩ | exact Or.inl ⟨Or.inr ⟨k', rfl, hk, c_20⟩, rfl, _, hM, rfl⟩ | exact Or.inr ⟨k', rfl, hk, c_20, rfl, _, hM, hc1, hc2 55 (by decide)⟩
    · refine A_iconst (v := nI 0) d_M_again_23 (by decide) ?_
      refine A_zret d_M_again_24 rfl (by decide) ⟨Nat.zero_le _, Nat.zero_le _⟩ ?_
      first | exact Or.inl ⟨Or.inl c_11, rfl, _, hM, rfl⟩ | exact Or.inl ⟨Or.inr ⟨k', rfl, hk, c_20⟩, rfl, _, hM, rfl⟩ | exact Or.inr ⟨k', rfl, hk, c_20, rfl, _, hM, hc1, hc2 55 (by decide)⟩
/-- the byte of v at a shift -/
def byS (v k : Int32) : Int32 := vp_nar .byte (v >>> (k &&& 31)).toInt8.toInt32
def put4 (g : Nat → Int32) (n : Nat) (v : Int32) : Nat → Int32 := fup (fup (fup (fup g n (byS v (nI 24))) (n + 1) (byS v (nI 16))) (n + 2) (byS v (nI 8))) (n + 3) (byS v (nI 0))
def TAP (S S1 : MS) (g : Nat → Int32) (n : Nat) : Prop := S1.2.2.1 1 = g ∧ S1.2.2.1 2 = fup (S.2.2.1 2) 0 (nI n) ∧ ∀ k, k ≠ 1 → k ≠ 2 → S1.2.2.1 k = S.2.2.1 k
theorem fup_fup {α : Type} (f : Nat → α) (k : Nat) (x x' : α) : fup (fup f k x) k x' = fup f k x' := by
  funext j
  by_cases r : j = k
  · subst r; rw [fup_eq, fup_eq]
  · rw [fup_ne _ _ r, fup_ne _ _ r, fup_ne _ _ r]
set_option maxHeartbeats 4000000 in
set_option maxRecDepth 100000 in
theorem c_M_four {G : GE} {h0 h : AH} {m : Nat} {S : MS} (hM : MW h0 h m S) (n : Nat) (hn : S.2.2.1 2 0 = nI n) (hn2 : n + 4 ≤ 600) (v0 : Int32) : Ctr G y_M_four b_M_four 3 none r_M_four [.ref m, .int v0] h (fun v h' => v = none ∧ ∃ S1, MW h0 h' m S1 ∧ TAP S S1 (put4 (S.2.2.1 1) n v0) (n + 4)) := by
  refine Ctr.of (by decide +kernel) (by simp) (Nat.le_of_ble_eq_true rfl) (L0 := [some (.ref m), some (.int v0), none]) rfl ?_
  have z2 : S.2.2.1 2 = fup (S.2.2.1 2) 0 (nI n) := by
    funext j
    by_cases r : j = 0
    · subst r; rw [fup_eq, hn]
    · rw [fup_ne _ _ r]
  have z1 : S.2.2.1 1 = S.2.2.1 1 := rfl
  have zk : ∀ k, k ≠ 1 → k ≠ 2 → S.2.2.1 k = S.2.2.1 k := fun _ _ _ => rfl
  refine A_bipush (v := nI 24) d_M_four_0 (by decide) ?_
  refine A_istore2 d_M_four_2 trivial ?_
  refine A_iload_n2 d_M_four_3 ?_
  refine A_if_lt (tgt := 38) d_M_four_4 (by decide) (fun c => absurd c (by decide)) (fun c_4 => ?_)
  refine A_aload_n0 d_M_four_7 ?_
  refine A_getf (kf := 1) d_M_four_8 hM.o ok_8 (by decide) q_1050 rfl ?_
  refine A_aload_n0 d_M_four_11 ?_
  refine A_getf (kf := 2) d_M_four_12 hM.o ok_8 (by decide) q_1051 rfl ?_
  refine A_iconst (v := nI 0) d_M_four_15 (by decide) ?_
  refine A_ialdN d_M_four_16 hM.a2 ⟨by decide, by decide⟩ ?_
  refine A_topI ((congrFun z2 0).trans (fup_eq _ _ _)) ?_
  refine A_iload_n1 d_M_four_17 ?_
  refine A_iload_n2 d_M_four_18 ?_
  refine A_ishr d_M_four_19 ?_
  refine A_i2b d_M_four_20 ?_
  refine A_st1 hM d_M_four_21 (by omega) (fun h hM => ?_)
  obtain ⟨S0a, hM, e1, x1, -⟩ := opa hM
  replace z2 := (x1 2 (by decide)).trans z2
  replace zk := fun k (p : k ≠ 1) (q : k ≠ 2) => (x1 k p).trans (zk k p q)
  rw [z1] at e1
  replace z1 := e1
  refine A_aload_n0 d_M_four_22 ?_
  refine A_getf (kf := 2) d_M_four_23 hM.o ok_8 (by decide) q_1051 rfl ?_
  refine A_iconst (v := nI 0) d_M_four_26 (by decide) ?_
  refine A_dup2IR d_M_four_27 ?_
  refine A_ialdN d_M_four_28 hM.a2 ⟨by decide, by decide⟩ ?_
  refine A_topI ((congrFun z2 0).trans (fup_eq _ _ _)) ?_
  refine A_iconst (v := nI 1) d_M_four_29 (by decide) ?_
  first | refine A_iaddN d_M_four_30 (by with_reducible rfl) (by with_reducible rfl) ?_ | refine A_iadd d_M_four_30 ?_
  refine A_st2 hM d_M_four_31 (by decide) (fun h hM => ?_)
  obtain ⟨S0b, hM, e1, x1, -⟩ := opa hM
  replace z1 := (x1 1 (by decide)).trans z1
  replace zk := fun k (p : k ≠ 1) (q : k ≠ 2) => (x1 k q).trans (zk k p q)
  rw [z2, fup_fup] at e1
  replace z2 := e1
  refine A_iinc2 (v := nI 16) d_M_four_32 (by decide) trivial ?_
  refine A_goto (tgt := 3) d_M_four_35 (by decide) ?_
  refine A_iload_n2 d_M_four_3 ?_
  refine A_if_lt (tgt := 38) d_M_four_4 (by decide) (fun c => absurd c (by decide)) (fun c_4 => ?_)
  refine A_aload_n0 d_M_four_7 ?_
  refine A_getf (kf := 1) d_M_four_8 hM.o ok_8 (by decide) q_1050 rfl ?_
  refine A_aload_n0 d_M_four_11 ?_
  refine A_getf (kf := 2) d_M_four_12 hM.o ok_8 (by decide) q_1051 rfl ?_
  refine A_iconst (v := nI 0) d_M_four_15 (by decide) ?_
  refine A_ialdN d_M_four_16 hM.a2 ⟨by decide, by decide⟩ ?_
  refine A_topI ((congrFun z2 0).trans (fup_eq _ _ _)) ?_
  refine A_iload_n1 d_M_four_17 ?_
  refine A_iload_n2 d_M_four_18 ?_
  refine A_ishr d_M_four_19 ?_
  refine A_i2b d_M_four_20 ?_
  refine A_st1 hM d_M_four_21 (by omega) (fun h hM => ?_)
  obtain ⟨S1a, hM, e1, x1, -⟩ := opa hM
  replace z2 := (x1 2 (by decide)).trans z2
  replace zk := fun k (p : k ≠ 1) (q : k ≠ 2) => (x1 k p).trans (zk k p q)
  rw [z1] at e1
  replace z1 := e1
  refine A_aload_n0 d_M_four_22 ?_
  refine A_getf (kf := 2) d_M_four_23 hM.o ok_8 (by decide) q_1051 rfl ?_
  refine A_iconst (v := nI 0) d_M_four_26 (by decide) ?_
  refine A_dup2IR d_M_four_27 ?_
  refine A_ialdN d_M_four_28 hM.a2 ⟨by decide, by decide⟩ ?_
  refine A_topI ((congrFun z2 0).trans (fup_eq _ _ _)) ?_
  refine A_iconst (v := nI 1) d_M_four_29 (by decide) ?_
  first | refine A_iaddN d_M_four_30 (by with_reducible rfl) (by with_reducible rfl) ?_ | refine A_iadd d_M_four_30 ?_
  refine A_st2 hM d_M_four_31 (by decide) (fun h hM => ?_)
  obtain ⟨S1b, hM, e1, x1, -⟩ := opa hM
  replace z1 := (x1 1 (by decide)).trans z1
  replace zk := fun k (p : k ≠ 1) (q : k ≠ 2) => (x1 k q).trans (zk k p q)
  rw [z2, fup_fup] at e1
  replace z2 := e1
  refine A_iinc2 (v := nI 8) d_M_four_32 (by decide) trivial ?_
  refine A_goto (tgt := 3) d_M_four_35 (by decide) ?_
  refine A_iload_n2 d_M_four_3 ?_
  refine A_if_lt (tgt := 38) d_M_four_4 (by decide) (fun c => absurd c (by decide)) (fun c_4 => ?_)
  refine A_aload_n0 d_M_four_7 ?_
  refine A_getf (kf := 1) d_M_four_8 hM.o ok_8 (by decide) q_1050 rfl ?_
  refine A_aload_n0 d_M_four_11 ?_
  refine A_getf (kf := 2) d_M_four_12 hM.o ok_8 (by decide) q_1051 rfl ?_
  refine A_iconst (v := nI 0) d_M_four_15 (by decide) ?_
  refine A_ialdN d_M_four_16 hM.a2 ⟨by decide, by decide⟩ ?_
  refine A_topI ((congrFun z2 0).trans (fup_eq _ _ _)) ?_
  refine A_iload_n1 d_M_four_17 ?_
  refine A_iload_n2 d_M_four_18 ?_
  refine A_ishr d_M_four_19 ?_
  refine A_i2b d_M_four_20 ?_
  refine A_st1 hM d_M_four_21 (by omega) (fun h hM => ?_)
  obtain ⟨S2a, hM, e1, x1, -⟩ := opa hM
  replace z2 := (x1 2 (by decide)).trans z2
  replace zk := fun k (p : k ≠ 1) (q : k ≠ 2) => (x1 k p).trans (zk k p q)
  rw [z1] at e1
  replace z1 := e1
  refine A_aload_n0 d_M_four_22 ?_
  refine A_getf (kf := 2) d_M_four_23 hM.o ok_8 (by decide) q_1051 rfl ?_
  refine A_iconst (v := nI 0) d_M_four_26 (by decide) ?_
  refine A_dup2IR d_M_four_27 ?_
  refine A_ialdN d_M_four_28 hM.a2 ⟨by decide, by decide⟩ ?_
  refine A_topI ((congrFun z2 0).trans (fup_eq _ _ _)) ?_
  refine A_iconst (v := nI 1) d_M_four_29 (by decide) ?_
  first | refine A_iaddN d_M_four_30 (by with_reducible rfl) (by with_reducible rfl) ?_ | refine A_iadd d_M_four_30 ?_
  refine A_st2 hM d_M_four_31 (by decide) (fun h hM => ?_)
  obtain ⟨S2b, hM, e1, x1, -⟩ := opa hM
  replace z1 := (x1 1 (by decide)).trans z1
  replace zk := fun k (p : k ≠ 1) (q : k ≠ 2) => (x1 k q).trans (zk k p q)
  rw [z2, fup_fup] at e1
  replace z2 := e1
  refine A_iinc2 (v := nI 0) d_M_four_32 (by decide) trivial ?_
  refine A_goto (tgt := 3) d_M_four_35 (by decide) ?_
  refine A_iload_n2 d_M_four_3 ?_
  refine A_if_lt (tgt := 38) d_M_four_4 (by decide) (fun c => absurd c (by decide)) (fun c_4 => ?_)
  refine A_aload_n0 d_M_four_7 ?_
  refine A_getf (kf := 1) d_M_four_8 hM.o ok_8 (by decide) q_1050 rfl ?_
  refine A_aload_n0 d_M_four_11 ?_
  refine A_getf (kf := 2) d_M_four_12 hM.o ok_8 (by decide) q_1051 rfl ?_
  refine A_iconst (v := nI 0) d_M_four_15 (by decide) ?_
  refine A_ialdN d_M_four_16 hM.a2 ⟨by decide, by decide⟩ ?_
  refine A_topI ((congrFun z2 0).trans (fup_eq _ _ _)) ?_
  refine A_iload_n1 d_M_four_17 ?_
  refine A_iload_n2 d_M_four_18 ?_
  refine A_ishr d_M_four_19 ?_
  refine A_i2b d_M_four_20 ?_
  refine A_st1 hM d_M_four_21 (by omega) (fun h hM => ?_)
  obtain ⟨S3a, hM, e1, x1, -⟩ := opa hM
  replace z2 := (x1 2 (by decide)).trans z2
  replace zk := fun k (p : k ≠ 1) (q : k ≠ 2) => (x1 k p).trans (zk k p q)
  rw [z1] at e1
  replace z1 := e1
  refine A_aload_n0 d_M_four_22 ?_
  refine A_getf (kf := 2) d_M_four_23 hM.o ok_8 (by decide) q_1051 rfl ?_
  refine A_iconst (v := nI 0) d_M_four_26 (by decide) ?_
  refine A_dup2IR d_M_four_27 ?_
  refine A_ialdN d_M_four_28 hM.a2 ⟨by decide, by decide⟩ ?_
  refine A_topI ((congrFun z2 0).trans (fup_eq _ _ _)) ?_
  refine A_iconst (v := nI 1) d_M_four_29 (by decide) ?_
  first | refine A_iaddN d_M_four_30 (by with_reducible rfl) (by with_reducible rfl) ?_ | refine A_iadd d_M_four_30 ?_
  refine A_st2 hM d_M_four_31 (by decide) (fun h hM => ?_)
  obtain ⟨S3b, hM, e1, x1, -⟩ := opa hM
  replace z1 := (x1 1 (by decide)).trans z1
  replace zk := fun k (p : k ≠ 1) (q : k ≠ 2) => (x1 k q).trans (zk k p q)
  rw [z2, fup_fup] at e1
  replace z2 := e1
  refine A_iinc2 (v := (-8)) d_M_four_32 (by decide) trivial ?_
  refine A_goto (tgt := 3) d_M_four_35 (by decide) ?_
  refine A_iload_n2 d_M_four_3 ?_
  refine A_if_lt (tgt := 38) d_M_four_4 (by decide) (fun c_4 => ?_) (fun c => absurd (by decide) c)
  refine A_vret d_M_four_38 rfl ⟨Nat.zero_le _, Nat.zero_le _⟩ ?_
  exact ⟨rfl, _, hM, z1, z2, zk⟩
set_option maxHeartbeats 4000000 in
set_option maxRecDepth 100000 in
theorem c_M_feed {G : GE} {h0 h : AH} {m : Nat} {S : MS} (hM : MW h0 h m S) (n : Nat) (hn : S.2.2.1 2 0 = nI n) (hn2 : n ≤ 600) (va vb vc vd ve : Int32) : Ctr G y_M_feed b_M_feed 6 (some .int) r_M_feed [.ref m, .int va, .int vb, .int vc, .int vd, .int ve] h (fun v h' => (580 < n ∧ v = some (.int (-1)) ∧ ∃ S1, MW h0 h' m S1 ∧ S1.2 = S.2) ∨ (n ≤ 580 ∧ v = some (.int (nI (n + 20))) ∧ ∃ S1, MW h0 h' m S1 ∧ TAP S S1 (put4 (put4 (put4 (put4 (put4 (S.2.2.1 1) n va) (n + 4) vb) (n + 8) vc) (n + 12) vd) (n + 16) ve) (n + 20))) := by
  refine Ctr.of (by decide +kernel) (by simp) (Nat.le_of_ble_eq_true rfl) (L0 := [some (.ref m), some (.int va), some (.int vb), some (.int vc), some (.int vd), some (.int ve)]) rfl ?_
  refine A_aload_n0 d_M_feed_0 ?_
  refine A_iconst (v := nI 0) d_M_feed_1 (by decide) ?_
  refine A_putM hM (kf := 0) (ty := .int) d_M_feed_2 (by decide) q_1049 rfl (by decide +kernel) (by first | rfl | exact bI_nar _) rfl (Nat.le_of_ble_eq_true rfl) rfl (fun h hM => ?_)
  refine A_aload_n0 d_M_feed_5 ?_
  refine A_getf (kf := 2) d_M_feed_6 hM.o ok_8 (by decide) q_1051 rfl ?_
  refine A_iconst (v := nI 0) d_M_feed_9 (by decide) ?_
  refine A_ialdN d_M_feed_10 hM.a2 ⟨by decide, by decide⟩ ?_
  refine A_topI hn ?_
  refine A_bipush (v := nI 20) d_M_feed_11 (by decide) ?_
  first | refine A_iaddN d_M_feed_13 (by with_reducible rfl) (by with_reducible rfl) ?_ | refine A_iadd d_M_feed_13 ?_
  refine A_sipush (v := nI 600) d_M_feed_14 (by decide) ?_
  first | refine A_icmp_leN (tgt := 22) d_M_feed_17 (by decide) (by with_reducible rfl) (by with_reducible rfl) (by omega) (by omega) (fun c_17 => ?_) (fun c_17 => ?_) | refine A_icmp_le (tgt := 22) d_M_feed_17 (by decide) (fun c_17 => ?_) (fun c_17 => ?_)
  · refine A_aload_n0 d_M_feed_22 ?_
    refine A_iload_n1 d_M_feed_23 ?_
    refine A_callV d_M_feed_24 (c_M_four hM n hn (by omega) va) hM.o rfl q_1223 q_1225 qs_15 mk_M_four rfl (by decide) rfl (Nat.le_of_ble_eq_true rfl) ⟨Nat.le_of_ble_eq_true rfl, Nat.le_of_ble_eq_true rfl⟩ (fun v h1 hv => ?_)
    obtain ⟨rfl, S1, hM, z1, z2, zk⟩ := hv
    have y1 := z1
    have y2 := z2
    have yk := zk
    clear z1 z2 zk
    have hn1 : S1.2.2.1 2 0 = nI (n + 4) := by rw [y2]; exact fup_eq _ _ _
    refine A_aload_n0 d_M_feed_27 ?_
    refine A_iload_n2 d_M_feed_28 ?_
    refine A_callV d_M_feed_29 (c_M_four hM (n + 4) hn1 (by omega) vb) hM.o rfl q_1223 q_1225 qs_15 mk_M_four rfl (by decide) rfl (Nat.le_of_ble_eq_true rfl) ⟨Nat.le_of_ble_eq_true rfl, Nat.le_of_ble_eq_true rfl⟩ (fun v h1 hv => ?_)
    obtain ⟨rfl, S2, hM, z1, z2, zk⟩ := hv
    rw [y1] at z1
    rw [y2, fup_fup] at z2
    replace zk := fun k (p : k ≠ 1) (q : k ≠ 2) => (zk k p q).trans (yk k p q)
    have y1 := z1
    have y2 := z2
    have yk := zk
    clear z1 z2 zk
    have hn2 : S2.2.2.1 2 0 = nI (n + 8) := by rw [y2]; exact fup_eq _ _ _
    refine A_aload_n0 d_M_feed_32 ?_
    refine A_iload_n3 d_M_feed_33 ?_
    refine A_callV d_M_feed_34 (c_M_four hM (n + 8) hn2 (by omega) vc) hM.o rfl q_1223 q_1225 qs_15 mk_M_four rfl (by decide) rfl (Nat.le_of_ble_eq_true rfl) ⟨Nat.le_of_ble_eq_true rfl, Nat.le_of_ble_eq_true rfl⟩ (fun v h1 hv => ?_)
    obtain ⟨rfl, S3, hM, z1, z2, zk⟩ := hv
    rw [y1] at z1
    rw [y2, fup_fup] at z2
    replace zk := fun k (p : k ≠ 1) (q : k ≠ 2) => (zk k p q).trans (yk k p q)
    have y1 := z1
    have y2 := z2
    have yk := zk
    clear z1 z2 zk
    have hn3 : S3.2.2.1 2 0 = nI (n + 12) := by rw [y2]; exact fup_eq _ _ _
    refine A_aload_n0 d_M_feed_37 ?_
    refine A_iload4 d_M_feed_38 ?_
    refine A_callV d_M_feed_40 (c_M_four hM (n + 12) hn3 (by omega) vd) hM.o rfl q_1223 q_1225 qs_15 mk_M_four rfl (by decide) rfl (Nat.le_of_ble_eq_true rfl) ⟨Nat.le_of_ble_eq_true rfl, Nat.le_of_ble_eq_true rfl⟩ (fun v h1 hv => ?_)
    obtain ⟨rfl, S4, hM, z1, z2, zk⟩ := hv
    rw [y1] at z1
    rw [y2, fup_fup] at z2
    replace zk := fun k (p : k ≠ 1) (q : k ≠ 2) => (zk k p q).trans (yk k p q)
    have y1 := z1
    have y2 := z2
    have yk := zk
    clear z1 z2 zk
    have hn4 : S4.2.2.1 2 0 = nI (n + 16) := by rw [y2]; exact fup_eq _ _ _
    refine A_aload_n0 d_M_feed_43 ?_
    refine A_iload5 d_M_feed_44 ?_
    refine A_callV d_M_feed_46 (c_M_four hM (n + 16) hn4 (by omega) ve) hM.o rfl q_1223 q_1225 qs_15 mk_M_four rfl (by decide) rfl (Nat.le_of_ble_eq_true rfl) ⟨Nat.le_of_ble_eq_true rfl, Nat.le_of_ble_eq_true rfl⟩ (fun v h1 hv => ?_)
    obtain ⟨rfl, S5, hM, z1, z2, zk⟩ := hv
    rw [y1] at z1
    rw [y2, fup_fup] at z2
    replace zk := fun k (p : k ≠ 1) (q : k ≠ 2) => (zk k p q).trans (yk k p q)
    have y1 := z1
    have y2 := z2
    have yk := zk
    clear z1 z2 zk
    have hn5 : S5.2.2.1 2 0 = nI (n + 20) := by rw [y2]; exact fup_eq _ _ _
    refine A_aload_n0 d_M_feed_49 ?_
    refine A_getf (kf := 2) d_M_feed_50 hM.o ok_8 (by decide) q_1051 rfl ?_
    refine A_iconst (v := nI 0) d_M_feed_53 (by decide) ?_
    refine A_ialdN d_M_feed_54 hM.a2 ⟨by decide, by decide⟩ ?_
    refine A_topI hn5 ?_
    refine A_iret d_M_feed_55 rfl ⟨Nat.zero_le _, Nat.zero_le _⟩ ?_
    first | (exfalso; omega) | exact Or.inl ⟨by omega, rfl, _, hM, rfl⟩ | exact Or.inr ⟨by omega, rfl, _, hM, y1, y2, yk⟩
  · refine A_iconst (v := (-1)) d_M_feed_20 (by decide) ?_
    refine A_iret d_M_feed_21 rfl ⟨Nat.zero_le _, Nat.zero_le _⟩ ?_
    first | (exfalso; omega) | exact Or.inl ⟨by omega, rfl, _, hM, rfl⟩ | exact Or.inr ⟨by omega, rfl, _, hM, y1, y2, yk⟩
