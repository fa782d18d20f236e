theorem wy_lt {V : Nat → Nat} (hH : V 0 ≤ 24) {p : Nat} (hp : p < 13) : wyN V p < 2 ^ 63 := by
  unfold wyN
  split
  · rename_i c
    have h1 : sumN (fun a => if fitsB V a (V 0 - 2 * p * V 1 - a) = true then rowN (V 0) p a (V 0 - 2 * p * V 1 - a) else 0) (V 0 - 2 * p * V 1 + 1) ≤ (V 0 - 2 * p * V 1 + 1) * 2 ^ 53 := by
      refine sumN_le _ (fun a ha => ?_)
      split
      · exact Nat.le_of_lt (rw_lt (V 0) (by omega) p hp a (by omega) _ (by omega))
      · exact Nat.zero_le _
    have h2 : (V 0 - 2 * p * V 1 + 1) * 2 ^ 53 ≤ 25 * 2 ^ 53 := Nat.mul_le_mul_right _ (by omega)
    have h3 : (25 : Nat) * 2 ^ 53 < 2 ^ 63 := by decide
    omega
  · decide
theorem bq0n {V : Nat → Nat} (h : allB true V (2 + 2 * V 1) = none) : bestQ V 0 = -1 := by
  unfold bestQ
  rw [if_neg (by decide), if_pos rfl, h]
theorem bq0s {V : Nat → Nat} {p : Nat} (h : allB true V (2 + 2 * V 1) = some (-((2 * p : Nat) : Int))) : bestQ V 0 = nI (2 * p) := by
  unfold bestQ
  rw [if_neg (by decide), if_pos rfl, h]
  show Int32.ofInt (-(-((2 * p : Nat) : Int))) = _
  rw [Int.neg_neg, nI_Z]
set_option maxHeartbeats 4000000 in
set_option maxRecDepth 100000 in
theorem c_N_fewest {G : GE} {h : AH} {a : Nat} {D : LD} (hA : LAt h a D) {V : Nat → Nat} (hV : LVr D V)  : Ctr G y_N_fewest b_N_fewest 2 (some .int) r_N_fewest [.ref a] h (Pu (.int (bestQ V 0)) h) := by
  refine Ctr.of (by decide +kernel) (by simp) (Nat.le_of_ble_eq_true rfl) (L0 := [some (.ref a), none]) rfl ?_
  have hV0 := hV
  obtain ⟨ok, ⟨f0, f1, -⟩, -⟩ := hV0
  have hH := ok.1.2
  have key : ∀ i, i ≤ V 0 / 2 + 1 → (∀ q, q < i → ¬ 0 < wyN V q) → WA G y_N_fewest b_N_fewest 2 (some .int) r_N_fewest 0 0 (Pu (.int (bestQ V 0)) h) 0 0 2 [some (.ref a), some (.int (nI i))] [] h := by
    refine down ?_ (fun i hi ih => ?_)
    · intro hl
      refine A_iload_n1 d_N_fewest_2 ?_
      refine A_aload_n0 d_N_fewest_3 ?_
      refine A_getf (kf := 0) d_N_fewest_4 hA.o ok_1 (by decide) q_49 rfl ?_
      refine A_topI f0 ?_
      refine A_iconst (v := nI 2) d_N_fewest_7 (by decide) ?_
      refine A_idivN d_N_fewest_8 (by with_reducible rfl) (by with_reducible rfl) (by omega) ?_
      first | refine A_icmp_gtN (tgt := 32) d_N_fewest_9 (by decide) (by with_reducible rfl) (by with_reducible rfl) (by omega) (by omega) (fun c_9 => ?_) (fun c_9 => ?_) | refine A_icmp_gt (tgt := 32) d_N_fewest_9 (by decide) (fun c_9 => ?_) (fun c_9 => ?_)
      · refine A_iconst (v := (-1)) d_N_fewest_32 (by decide) ?_
        refine A_iret d_N_fewest_33 rfl ⟨Nat.zero_le _, Nat.zero_le _⟩ ?_
        exact pu (congrArg Value.int (bq0n (few_none ok.2.1 ok.1.1 ok.1.2 hl)).symm)
      · exfalso
        omega
    · intro hl
      by_cases hw : wyN V i = 0
      · refine A_iload_n1 d_N_fewest_2 ?_
        refine A_aload_n0 d_N_fewest_3 ?_
        refine A_getf (kf := 0) d_N_fewest_4 hA.o ok_1 (by decide) q_49 rfl ?_
        refine A_topI f0 ?_
        refine A_iconst (v := nI 2) d_N_fewest_7 (by decide) ?_
        refine A_idivN d_N_fewest_8 (by with_reducible rfl) (by with_reducible rfl) (by omega) ?_
        first | refine A_icmp_gtN (tgt := 32) d_N_fewest_9 (by decide) (by with_reducible rfl) (by with_reducible rfl) (by omega) (by omega) (fun c_9 => ?_) (fun c_9 => ?_) | refine A_icmp_gt (tgt := 32) d_N_fewest_9 (by decide) (fun c_9 => ?_) (fun c_9 => ?_)
        · exfalso
          omega
        · refine A_aload_n0 d_N_fewest_12 ?_
          refine A_iload_n1 d_N_fewest_13 ?_
          refine A_callSP d_N_fewest_14 (c_N_waysWith hA hV (p := i) (by omega)) q_770 q_771 mk_N_waysWith rfl (by decide) rfl (Nat.le_of_ble_eq_true rfl) ⟨Nat.le_of_ble_eq_true rfl, Nat.le_of_ble_eq_true rfl⟩ ⟨rfl, rfl⟩ ?_
          refine A_lconst (v := 0) d_N_fewest_17 (by decide) ?_
          refine A_lcmp d_N_fewest_18 ?_
          refine A_topI ((cmp0 (wy_lt hH (by omega))).trans (congrArg nI (if_pos hw))) ?_
          first | refine A_if_leN (tgt := 26) d_N_fewest_19 (by decide) (by with_reducible rfl) (by omega) (fun c_19 => ?_) (fun c_19 => ?_) | refine A_if_le (tgt := 26) d_N_fewest_19 (by decide) (fun c_19 => ?_) (fun c_19 => ?_)
          · first | refine A_iinc1 d_N_fewest_26 (nI_1 _) trivial ?_ | refine A_iinc1 d_N_fewest_26 rfl trivial ?_
            refine A_goto (tgt := 2) d_N_fewest_29 (by decide) ?_
            exact ih (fun q hq => by
              by_cases z : q = i
              · subst z; omega
              · exact hl q (by omega))
          · exfalso
            omega
      · refine A_iload_n1 d_N_fewest_2 ?_
        refine A_aload_n0 d_N_fewest_3 ?_
        refine A_getf (kf := 0) d_N_fewest_4 hA.o ok_1 (by decide) q_49 rfl ?_
        refine A_topI f0 ?_
        refine A_iconst (v := nI 2) d_N_fewest_7 (by decide) ?_
        refine A_idivN d_N_fewest_8 (by with_reducible rfl) (by with_reducible rfl) (by omega) ?_
        first | refine A_icmp_gtN (tgt := 32) d_N_fewest_9 (by decide) (by with_reducible rfl) (by with_reducible rfl) (by omega) (by omega) (fun c_9 => ?_) (fun c_9 => ?_) | refine A_icmp_gt (tgt := 32) d_N_fewest_9 (by decide) (fun c_9 => ?_) (fun c_9 => ?_)
        · exfalso
          omega
        · refine A_aload_n0 d_N_fewest_12 ?_
          refine A_iload_n1 d_N_fewest_13 ?_
          refine A_callSP d_N_fewest_14 (c_N_waysWith hA hV (p := i) (by omega)) q_770 q_771 mk_N_waysWith rfl (by decide) rfl (Nat.le_of_ble_eq_true rfl) ⟨Nat.le_of_ble_eq_true rfl, Nat.le_of_ble_eq_true rfl⟩ ⟨rfl, rfl⟩ ?_
          refine A_lconst (v := 0) d_N_fewest_17 (by decide) ?_
          refine A_lcmp d_N_fewest_18 ?_
          refine A_topI ((cmp0 (wy_lt hH (by omega))).trans (congrArg nI (if_neg hw))) ?_
          first | refine A_if_leN (tgt := 26) d_N_fewest_19 (by decide) (by with_reducible rfl) (by omega) (fun c_19 => ?_) (fun c_19 => ?_) | refine A_if_le (tgt := 26) d_N_fewest_19 (by decide) (fun c_19 => ?_) (fun c_19 => ?_)
          · exfalso
            omega
          · refine A_iconst (v := nI 2) d_N_fewest_22 (by decide) ?_
            refine A_iload_n1 d_N_fewest_23 ?_
            first | refine A_imulN d_N_fewest_24 (by with_reducible rfl) (by with_reducible rfl) ?_ | refine A_imul d_N_fewest_24 ?_
            refine A_iret d_N_fewest_25 rfl ⟨Nat.zero_le _, Nat.zero_le _⟩ ?_
            exact pu (congrArg Value.int (bq0s (few_some ok.2.1 ok.1.1 ok.1.2 (by omega) (by omega) hl)).symm)
  refine A_iconst (v := nI 0) d_N_fewest_0 (by decide) ?_
  refine A_istore1 d_N_fewest_1 trivial ?_
  exact key 0 (Nat.zero_le _) (fun q hq => absurd hq (Nat.not_lt_zero _))
