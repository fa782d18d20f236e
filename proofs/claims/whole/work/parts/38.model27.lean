def frowF (V : Nat → Nat) (M : Option Int) (s : Nat) (fr : Nat → Nat) : Nat → Nat := if bestF false V s = M then (if soonB (rowW false V s) fr (V 0) = true then rowW false V s else fr) else fr
/-- the first row by hours of those that are best -/
def frowN (V : Nat → Nat) (M : Option Int) : Nat → Nat → Nat := foldN (fun s fr => frowF V M s fr) (fun _ => 3)
theorem frowN_le {V : Nat → Nat} {M : Option Int} : ∀ n k, frowN V M n k ≤ 3
  | 0, _ => Nat.le_refl _
  | n + 1, k => by
    show frowF V M n (frowN V M n) k ≤ 3
    unfold frowF
    split
    · split
      · have := ciN_le (walkS false V n k).1
        unfold rowW
        omega
      · exact frowN_le n k
    · exact frowN_le n k
def bestQ (V : Nat → Nat) (x : Nat) : Int32 :=
  if x = 3 then nI (needN V 0 + needN V 1 - V 0)
  else if x = 0 then (match allB true V (2 + 2 * V 1) with | none => -1 | some z => Int32.ofInt (-z))
  else (match allB false V (2 + 2 * V 1) with
    | none => -1
    | some z => if x = 1 then nI ((z + 9999).toNat / 10000) else if x = 2 then Int32.ofInt (10000 * (((z + 9999).toNat / 10000 : Nat) : Int) - z) else nI (frowN V (some z) (2 + 2 * V 1) (x - 10)))
def bestV (V : Nat → Nat) (x : Int32) : Int32 := rg x 0 3 (bestQ V) (rg x 10 (9 + V 0) (bestQ V) (-1))
def SBR (S S1 : MS) : Prop := S1.1 = S.1 ∧ ∀ k, k ≠ 31 → k ≠ 39 → k ≠ 46 → S1.2.2.1 k = S.2.2.1 k
theorem SBR.rf (S : MS) : SBR S S := ⟨rfl, fun _ _ _ _ => rfl⟩
theorem SBR.tr {S S1 S2 : MS} (a : SBR S S1) (b : SBR S1 S2) : SBR S S2 := ⟨b.1.trans a.1, fun k h1 h2 h3 => (b.2 k h1 h2 h3).trans (a.2 k h1 h2 h3)⟩
theorem SBR.hs {S S1 : MS} (a : SBR S S1) {l : Nat} {V : Nat → Nat} (h : HS S l V) : HS S1 l V := h.keepF (fun k hk => a.2 k (by omega) (by omega) (by omega)) (fun j _ _ => by rw [a.1])
theorem SBR.nd {S S1 : MS} (a : SBR S S1) {V : Nat → Nat} (h : ND S V) : ND S1 V := by
  obtain ⟨n1, n2, n3, n4, n5⟩ := h
  exact ⟨by rw [a.1]; exact n1, by rw [a.1]; exact n2, by rw [a.1]; exact n3, by rw [a.1]; exact n4, fun h hh => by rw [a.2 40 (by decide) (by decide) (by decide)]; exact n5 h hh⟩
theorem opa46 {h0 h : AH} {m : Nat} {S : MS} {g : Nat → Int32} (hM : MW h0 h m (S.sa 46 g)) : ∃ S2 : MS, MW h0 h m S2 ∧ S2.2.2.1 46 = g ∧ S2.1 = S.1 ∧ ∀ k, k ≠ 46 → S2.2.2.1 k = S.2.2.1 k := ⟨_, hM, fup_eq S.2.2.1 46 g, rfl, fun j hj => fup_ne S.2.2.1 g hj⟩
set_option maxHeartbeats 4000000 in
set_option maxRecDepth 100000 in
theorem c_M_findRow {G : GE} {h0 h : AH} {m : Nat} {S : MS} (hM : MW h0 h m S) (hw : S.1 45 = bI false) {l : Nat} {V : Nat → Nat} (hS : HS S l V) (hN : ND S V) {zM : Int} (hz1 : -1000000 ≤ zM) (hz2 : zM ≤ 30000000) : Ctr G y_M_findRow b_M_findRow 4 none r_M_findRow [.ref m, .int (Int32.ofInt zM)] h (fun v h' => v = none ∧ ∃ S1, MW h0 h' m S1 ∧ SBR S S1 ∧ ∀ k, k < V 0 → S1.2.2.1 46 k = nI (frowN V (some zM) (2 + 2 * V 1) k)) := by
  have ok := hS.ok
  have hH := ok.1
  have hC := ok.2.1
  have key : ∀ s, s ≤ 2 + 2 * V 1 → ∀ (h : AH) (S1 : MS), MW h0 h m S1 → SBR S S1 → (∀ k, k < V 0 → S1.2.2.1 46 k = nI (frowN V (some zM) s k)) → WA G y_M_findRow b_M_findRow 4 none r_M_findRow 0 0 (fun v h' => v = none ∧ ∃ S1, MW h0 h' m S1 ∧ SBR S S1 ∧ ∀ k, k < V 0 → S1.2.2.1 46 k = nI (frowN V (some zM) (2 + 2 * V 1) k)) 0 0 25 [some (.ref m), some (.int (Int32.ofInt zM)), some (.int (nI s)), none] [] h := by
    refine down ?_ (fun s hs ih => ?_)
    · intro h S1 hM hb hr
      refine A_iload_n2 d_M_findRow_25 ?_
      refine A_aload_n0 d_M_findRow_26 ?_
      refine A_callVP d_M_findRow_27 (c_M_stateMany hM) hM.o rfl q_1468 q_1470 qs_59 mk_M_stateMany rfl (by decide) rfl (Nat.le_of_ble_eq_true rfl) ⟨Nat.le_of_ble_eq_true rfl, Nat.le_of_ble_eq_true rfl⟩ ⟨rfl, rfl⟩ ?_
      refine A_topI (show nI 2 + nI 2 * S1.1 28 = nI (2 + 2 * V 1) by rw [(hb.hs hS).cross, nI_mul, nI_add]) ?_
      first | refine A_icmp_geN (tgt := 88) d_M_findRow_30 (by decide) (by with_reducible rfl) (by with_reducible rfl) (by omega) (by omega) (fun c_30 => ?_) (fun c_30 => ?_) | refine A_icmp_ge (tgt := 88) d_M_findRow_30 (by decide) (fun c_30 => ?_) (fun c_30 => ?_)
      · refine A_vret d_M_findRow_88 rfl ⟨Nat.zero_le _, Nat.zero_le _⟩ ?_
        exact ⟨rfl, S1, hM, hb, hr⟩
      · exact absurd c_30 (by omega)
    · intro h S1 hM hb hr
      refine A_iload_n2 d_M_findRow_25 ?_
      refine A_aload_n0 d_M_findRow_26 ?_
      refine A_callVP d_M_findRow_27 (c_M_stateMany hM) hM.o rfl q_1468 q_1470 qs_59 mk_M_stateMany rfl (by decide) rfl (Nat.le_of_ble_eq_true rfl) ⟨Nat.le_of_ble_eq_true rfl, Nat.le_of_ble_eq_true rfl⟩ ⟨rfl, rfl⟩ ?_
      refine A_topI (show nI 2 + nI 2 * S1.1 28 = nI (2 + 2 * V 1) by rw [(hb.hs hS).cross, nI_mul, nI_add]) ?_
      first | refine A_icmp_geN (tgt := 88) d_M_findRow_30 (by decide) (by with_reducible rfl) (by with_reducible rfl) (by omega) (by omega) (fun c_30 => ?_) (fun c_30 => ?_) | refine A_icmp_ge (tgt := 88) d_M_findRow_30 (by decide) (fun c_30 => ?_) (fun c_30 => ?_)
      · exact absurd c_30 (by omega)
      · refine A_aload_n0 d_M_findRow_33 ?_
        refine A_iload_n2 d_M_findRow_34 ?_
        refine A_callV d_M_findRow_35 (c_M_bestFrom hM (by rw [hb.1]; exact hw) (hb.hs hS) (hb.nd hN) s hs) hM.o rfl q_1509 q_1511 qs_68 mk_M_bestFrom rfl (by decide) rfl (Nat.le_of_ble_eq_true rfl) ⟨Nat.le_of_ble_eq_true rfl, Nat.le_of_ble_eq_true rfl⟩ (fun v h1 hv => ?_)
        obtain ⟨rfl, S2, hM, hb9, hA⟩ := hv
        have hb2 : SBR S S2 := hb.tr ⟨hb9.1, fun k q1 q2 q3 => hb9.2 k q2⟩
        have hf46 : ∀ k, S2.2.2.1 46 k = S1.2.2.1 46 k := fun k => congrFun (hb9.2 46 (by decide)) k
        by_cases heq : some zM = bestF false V s
        · refine A_iload_n1 d_M_findRow_38 ?_
          refine A_icmp_ne (tgt := 82) d_M_findRow_39 (by decide) (fun c => absurd ((encZ_eq (z := zM) (q := bestF false V s) (by omega) (by omega) (bdO.wide (bestB_bd2 ok (by omega)))).mpr heq).symm c) (fun c_39 => ?_)
          refine A_aload_n0 d_M_findRow_42 ?_
          refine A_iload_n2 d_M_findRow_43 ?_
          refine A_callV d_M_findRow_44 (c_M_walkFrom hM (by rw [hb2.1]; exact hw) (hb2.hs hS) (hb2.nd hN) s hs hA heq.symm) hM.o rfl q_1533 q_1535 qs_74 mk_M_walkFrom rfl (by decide) rfl (Nat.le_of_ble_eq_true rfl) ⟨Nat.le_of_ble_eq_true rfl, Nat.le_of_ble_eq_true rfl⟩ (fun v h1 hv => ?_)
          obtain ⟨rfl, S3, hM, hb31, h31⟩ := hv
          have hb3 : SBR S S3 := hb2.tr ⟨hb31.1, fun k q1 q2 q3 => hb31.2 k q1⟩
          have h46 : ∀ k, k < V 0 → S3.2.2.1 46 k = nI (frowN V (some zM) s k) := fun k hk => by rw [hb31.2 46 (by decide), hf46]; exact hr k hk
          refine A_aload_n0 d_M_findRow_47 ?_
          refine A_callVP d_M_findRow_48 (c_M_isSooner hM (hb3.hs hS) (r := rowW false V s) (f := frowN V (some zM) s) (fun k hk => ⟨h31 k hk, h46 k hk, Nat.le_trans (ciN_le _) (by decide), frowN_le _ _⟩)) hM.o rfl q_1541 q_1543 qs_76 mk_M_isSooner rfl (by decide) rfl (Nat.le_of_ble_eq_true rfl) ⟨Nat.le_of_ble_eq_true rfl, Nat.le_of_ble_eq_true rfl⟩ ⟨rfl, rfl⟩ ?_
          refine A_if_eqB (tgt := 82) d_M_findRow_51 (by decide) (fun c_51 => ?_) (fun c_51 => ?_)
          · first | refine A_iinc2 d_M_findRow_82 (nI_1 _) trivial ?_ | refine A_iinc2 d_M_findRow_82 rfl trivial ?_
            refine A_goto (tgt := 25) d_M_findRow_85 (by decide) ?_
            refine ih _ _ hM hb3 (fun k hk => ?_)
            rw [h46 k hk, show frowN V (some zM) (s + 1) = frowN V (some zM) s from (by
              show frowF V (some zM) s (frowN V (some zM) s) = _
              unfold frowF
              rw [if_pos heq.symm, if_neg (by rw [c_51]; decide)])]
          · refine A_iconst (v := nI 0) d_M_findRow_54 (by decide) ?_
            refine A_istore3 d_M_findRow_55 trivial ?_
            have hfr2 : frowN V (some zM) (s + 1) = rowW false V s := by
              show frowF V (some zM) s (frowN V (some zM) s) = _
              unfold frowF
              rw [if_pos heq.symm, if_pos c_51]
            have keyc : ∀ i, i ≤ V 0 → ∀ (h : AH) (S4 : MS), MW h0 h m S4 → (S4.1 = S3.1) → (∀ k, k ≠ 46 → S4.2.2.1 k = S3.2.2.1 k) → (∀ k, k < V 0 → S4.2.2.1 46 k = nI (if k < i then rowW false V s k else frowN V (some zM) s k)) → WA G y_M_findRow b_M_findRow 4 none r_M_findRow 0 0 (fun v h' => v = none ∧ ∃ S1, MW h0 h' m S1 ∧ SBR S S1 ∧ ∀ k, k < V 0 → S1.2.2.1 46 k = nI (frowN V (some zM) (2 + 2 * V 1) k)) 0 0 56 [some (.ref m), some (.int (Int32.ofInt zM)), some (.int (nI s)), some (.int (nI i))] [] h := by
              refine down ?_ (fun i hi ihc => ?_)
              · intro h S4 hM hf4 ha4 h46
                have hb4 : SBR S S4 := hb3.tr ⟨hf4, fun k q1 q2 q3 => ha4 k q3⟩
                have h4S := hb4.hs hS
                refine A_iload_n3 d_M_findRow_56 ?_
                refine A_aload_n0 d_M_findRow_57 ?_
                refine A_getf (kf := 27) d_M_findRow_58 hM.o ok_8 (by decide) q_1076 rfl ?_
                refine A_topI (h4S.hours) ?_
                first | refine A_icmp_geN (tgt := 82) d_M_findRow_61 (by decide) (by with_reducible rfl) (by with_reducible rfl) (by omega) (by omega) (fun c_61 => ?_) (fun c_61 => ?_) | refine A_icmp_ge (tgt := 82) d_M_findRow_61 (by decide) (fun c_61 => ?_) (fun c_61 => ?_)
                · first | refine A_iinc2 d_M_findRow_82 (nI_1 _) trivial ?_ | refine A_iinc2 d_M_findRow_82 rfl trivial ?_
                  refine A_goto (tgt := 25) d_M_findRow_85 (by decide) ?_
                  refine A_drop3 (ih _ _ hM hb4 (fun k hk => ?_))
                  rw [h46 k hk, if_pos hk, hfr2]
                · exact absurd c_61 (by omega)
              · intro h S4 hM hf4 ha4 h46
                have hb4 : SBR S S4 := hb3.tr ⟨hf4, fun k q1 q2 q3 => ha4 k q3⟩
                have h4S := hb4.hs hS
                refine A_iload_n3 d_M_findRow_56 ?_
                refine A_aload_n0 d_M_findRow_57 ?_
                refine A_getf (kf := 27) d_M_findRow_58 hM.o ok_8 (by decide) q_1076 rfl ?_
                refine A_topI (h4S.hours) ?_
                first | refine A_icmp_geN (tgt := 82) d_M_findRow_61 (by decide) (by with_reducible rfl) (by with_reducible rfl) (by omega) (by omega) (fun c_61 => ?_) (fun c_61 => ?_) | refine A_icmp_ge (tgt := 82) d_M_findRow_61 (by decide) (fun c_61 => ?_) (fun c_61 => ?_)
                · exact absurd c_61 (by omega)
                · refine A_aload_n0 d_M_findRow_64 ?_
                  refine A_getf (kf := 46) d_M_findRow_65 hM.o ok_8 (by decide) q_1095 rfl ?_
                  refine A_iload_n3 d_M_findRow_68 ?_
                  refine A_aload_n0 d_M_findRow_69 ?_
                  refine A_getf (kf := 31) d_M_findRow_70 hM.o ok_8 (by decide) q_1080 rfl ?_
                  refine A_iload_n3 d_M_findRow_73 ?_
                  refine A_ialdN d_M_findRow_74 hM.a31 ⟨by omega, by decide⟩ ?_
                  refine A_topI (show S4.2.2.1 31 i = nI (rowW false V s i) by rw [ha4 31 (by decide)]; exact h31 i hi) ?_
                  refine A_st46 hM d_M_findRow_75 (by omega) (fun h hM => ?_)
                  obtain ⟨S5, hM, e46, f46, x46⟩ := opa46 hM
                  first | refine A_iinc3 d_M_findRow_76 (nI_1 _) trivial ?_ | refine A_iinc3 d_M_findRow_76 rfl trivial ?_
                  refine A_goto (tgt := 56) d_M_findRow_79 (by decide) ?_
                  refine ihc _ _ hM (f46.trans hf4) (fun k hk => (x46 k hk).trans (ha4 k hk)) (fun k hk => ?_)
                  rw [e46]
                  by_cases r : k = i
                  · rw [r, fup_eq, if_pos (by omega)]
                  · rw [fup_ne _ _ r, h46 k hk]
                    by_cases r2 : k < i
                    · rw [if_pos r2, if_pos (by omega)]
                    · rw [if_neg r2, if_neg (by omega)]
            exact keyc 0 (Nat.zero_le _) _ _ hM rfl (fun _ _ => rfl) (fun k hk => by rw [if_neg (Nat.not_lt_zero k)]; exact h46 k hk)
        · have hne := heq
          refine A_iload_n1 d_M_findRow_38 ?_
          refine A_icmp_ne (tgt := 82) d_M_findRow_39 (by decide) (fun c_39 => ?_) (fun c => absurd ((encZ_eq (z := zM) (q := bestF false V s) (by omega) (by omega) (bdO.wide (bestB_bd2 ok (by omega)))).mp c.symm) hne)
          first | refine A_iinc2 d_M_findRow_82 (nI_1 _) trivial ?_ | refine A_iinc2 d_M_findRow_82 rfl trivial ?_
          refine A_goto (tgt := 25) d_M_findRow_85 (by decide) ?_
          refine ih _ _ hM hb2 (fun k hk => ?_)
          rw [hf46, hr k hk, show frowN V (some zM) (s + 1) = frowN V (some zM) s from if_neg (fun z => hne z.symm)]
  have key0 : ∀ i, i ≤ V 0 → ∀ (h : AH) (S1 : MS), MW h0 h m S1 → SBR S S1 → (∀ k, k < i → S1.2.2.1 46 k = nI 3) → WA G y_M_findRow b_M_findRow 4 none r_M_findRow 0 0 (fun v h' => v = none ∧ ∃ S1, MW h0 h' m S1 ∧ SBR S S1 ∧ ∀ k, k < V 0 → S1.2.2.1 46 k = nI (frowN V (some zM) (2 + 2 * V 1) k)) 0 0 2 [some (.ref m), some (.int (Int32.ofInt zM)), some (.int (nI i)), none] [] h := by
    refine down ?_ (fun i hi ih => ?_)
    · intro h S1 hM hb hr
      refine A_iload_n2 d_M_findRow_2 ?_
      refine A_aload_n0 d_M_findRow_3 ?_
      refine A_getf (kf := 27) d_M_findRow_4 hM.o ok_8 (by decide) q_1076 rfl ?_
      refine A_topI (hb.hs hS).hours ?_
      first | refine A_icmp_geN (tgt := 23) d_M_findRow_7 (by decide) (by with_reducible rfl) (by with_reducible rfl) (by omega) (by omega) (fun c_7 => ?_) (fun c_7 => ?_) | refine A_icmp_ge (tgt := 23) d_M_findRow_7 (by decide) (fun c_7 => ?_) (fun c_7 => ?_)
      · refine A_iconst (v := nI 0) d_M_findRow_23 (by decide) ?_
        refine A_istore2 d_M_findRow_24 trivial ?_
        exact key 0 (Nat.zero_le _) _ _ hM hb hr
      · exact absurd c_7 (by omega)
    · intro h S1 hM hb hr
      refine A_iload_n2 d_M_findRow_2 ?_
      refine A_aload_n0 d_M_findRow_3 ?_
      refine A_getf (kf := 27) d_M_findRow_4 hM.o ok_8 (by decide) q_1076 rfl ?_
      refine A_topI (hb.hs hS).hours ?_
      first | refine A_icmp_geN (tgt := 23) d_M_findRow_7 (by decide) (by with_reducible rfl) (by with_reducible rfl) (by omega) (by omega) (fun c_7 => ?_) (fun c_7 => ?_) | refine A_icmp_ge (tgt := 23) d_M_findRow_7 (by decide) (fun c_7 => ?_) (fun c_7 => ?_)
      · exact absurd c_7 (by omega)
      · refine A_aload_n0 d_M_findRow_10 ?_
        refine A_getf (kf := 46) d_M_findRow_11 hM.o ok_8 (by decide) q_1095 rfl ?_
        refine A_iload_n2 d_M_findRow_14 ?_
        refine A_iconst (v := nI 3) d_M_findRow_15 (by decide) ?_
        refine A_st46 hM d_M_findRow_16 (by omega) (fun h hM => ?_)
        obtain ⟨S5, hM, e46, f46, x46⟩ := opa46 hM
        first | refine A_iinc2 d_M_findRow_17 (nI_1 _) trivial ?_ | refine A_iinc2 d_M_findRow_17 rfl trivial ?_
        refine A_goto (tgt := 2) d_M_findRow_20 (by decide) ?_
        refine ih _ _ hM (hb.tr ⟨f46, fun k q1 q2 q3 => x46 k q3⟩) (fun k hk => ?_)
        rw [e46]
        by_cases r : k = i
        · rw [r, fup_eq]
        · rw [fup_ne _ _ r]; exact hr k (by omega)
  refine Ctr.of (by decide +kernel) (by simp) (Nat.le_of_ble_eq_true rfl) (L0 := [some (.ref m), some (.int (Int32.ofInt zM)), none, none]) rfl ?_
  refine A_iconst (v := nI 0) d_M_findRow_0 (by decide) ?_
  refine A_istore2 d_M_findRow_1 trivial ?_
  exact key0 0 (Nat.zero_le _) _ _ hM (SBR.rf S) (fun k hk => absurd hk (Nat.not_lt_zero k))
