/-- the class's own rows for its sums -/
def SCR (h : AH) (n : Nat) : Prop := (∃ f, h (n + 78) = some (.inl (0, 20, .inl f))) ∧ (∃ f, h (n + 79) = some (.inl (0, 48, .inl f))) ∧ (∃ f, h (n + 80) = some (.inl (0, 6, .inl f))) ∧ ∃ f, h (n + 81) = some (.inl (0, 6, .inl f))
/-- an answer; nothing but these rows has changed -/
def SX (h : AH) (n : Nat) (r : Int32) : Option Value → AH → Prop := fun v h1 => v = some (.int r) ∧ SCR h1 n ∧ ∀ i, (i < n + 78 ∨ n + 82 ≤ i) → h1 i = h i
theorem sx0 {h : AH} {n : Nat} {r r' : Int32} (hs : SCR h n) (e : r' = r) : SX h n r (some (.int r')) h := ⟨by rw [e], hs, fun _ _ => rfl⟩
theorem SCR.s78 {h : AH} {n : Nat} (hs : SCR h n) (f : Nat → Int32) : SCR (hset h (n + 78) (.inl (0, 20, .inl f))) n := by
  obtain ⟨_, ⟨f2, h2⟩, ⟨f3, h3⟩, ⟨f4, h4⟩⟩ := hs
  exact ⟨⟨f, hset_eq _ _ _⟩, ⟨f2, by rw [hset_ne (by omega)]; exact h2⟩, ⟨f3, by rw [hset_ne (by omega)]; exact h3⟩, ⟨f4, by rw [hset_ne (by omega)]; exact h4⟩⟩
theorem SCR.s79 {h : AH} {n : Nat} (hs : SCR h n) (f : Nat → Int32) : SCR (hset h (n + 79) (.inl (0, 48, .inl f))) n := by
  obtain ⟨⟨f1, h1⟩, _, ⟨f3, h3⟩, ⟨f4, h4⟩⟩ := hs
  exact ⟨⟨f1, by rw [hset_ne (by omega)]; exact h1⟩, ⟨f, hset_eq _ _ _⟩, ⟨f3, by rw [hset_ne (by omega)]; exact h3⟩, ⟨f4, by rw [hset_ne (by omega)]; exact h4⟩⟩
theorem sx78 {h : AH} {n : Nat} {r r' : Int32} (hs : SCR h n) (f : Nat → Int32) (e : r' = r) : SX h n r (some (.int r')) (hset h (n + 78) (.inl (0, 20, .inl f))) := ⟨by rw [e], hs.s78 f, fun _ _ => hset_ne (by omega)⟩
theorem sx79 {h : AH} {n : Nat} {r r' : Int32} (hs : SCR h n) (f : Nat → Int32) (e : r' = r) : SX h n r (some (.int r')) (hset h (n + 79) (.inl (0, 48, .inl f))) := ⟨by rw [e], hs.s79 f, fun _ _ => hset_ne (by omega)⟩
theorem BI.nI {k n : Nat} (h : k < 2 ^ n) (hn : n ≤ 30) : BI (nI k) n := fun i a b => by
  show (BitVec.ofNat 32 k).getLsbD i = false
  rw [BitVec.getLsbD_ofNat, Nat.testBit_lt_two_pow (Nat.lt_of_lt_of_le h (Nat.pow_le_pow_right (by decide) a)), Bool.and_false]
def sttV (V t : Nat → Nat) (b : Bool) : Int32 := match roundsN V t 60 0 (toldI V) with
  | none => -1
  | some q => if b = true then nI q.1 else q.2
set_option maxHeartbeats 4000000 in
set_option maxRecDepth 100000 in
theorem c_N_settled {G : GE} {h : AH} {n a : Nat} (hO : h n = some (.inr (7, nfs n))) (hn : 1000 ≤ n) {D : LD} (hA : LAt h a D) {V : Nat → Nat} (hV : LVr D V) (ha : a + 9 ≤ n + 78) {t : Nat → Nat} (hk : LKd n V t h) (b : Bool)  : Ctr G y_N_settled b_N_settled 6 (some .int) r_N_settled [.ref n, .ref a, .int (bI b)] h (Pu (.int (sttV V t b)) h) := by
  refine Ctr.of (by decide +kernel) (by simp) (Nat.le_of_ble_eq_true rfl) (L0 := [some (.ref n), some (.ref a), some (.int (bI b)), none, none, none]) rfl ?_
  have hV0 := hV
  obtain ⟨ok, ⟨f0, f1, f2, f3, f4, f9⟩, hP, hBe, hTo⟩ := hV
  have hH := ok.1
  have h4 := ok.2.2.2.2.1
  obtain ⟨j, hj60, hq, hno⟩ := settles (w := t) ok (BI.told4 h4)
  have key : ∀ i, i ≤ j → WA G y_N_settled b_N_settled 6 (some .int) r_N_settled 0 0 (Pu (.int (sttV V t b)) h) 0 0 8 [some (.ref n), some (.ref a), some (.int (bI b)), some (.int (itR V t (toldI V) i)), some (.int (nI i)), none] [] h := by
    refine down ?_ (fun i hi ih => ?_)
    · have hR := roundsN_at j 60 0 (toldI V) hj60 hno hq
      refine A_iload4 d_N_settled_8 ?_
      refine A_bipush (v := nI 60) d_N_settled_10 (by decide) ?_
      first | refine A_icmp_gtN (tgt := 49) d_N_settled_12 (by decide) (by with_reducible rfl) (by with_reducible rfl) (by omega) (by omega) (fun c_12 => ?_) (fun c_12 => ?_) | refine A_icmp_gt (tgt := 49) d_N_settled_12 (by decide) (fun c_12 => ?_) (fun c_12 => ?_)
      · exact absurd c_12 (by omega)
      · refine A_aload_n0 d_N_settled_15 ?_
        refine A_aload_n1 d_N_settled_16 ?_
        refine A_iload_n3 d_N_settled_17 ?_
        refine A_callVP d_N_settled_18 (c_N_afterRound hO hn hA hV0 ha hk _ (itR_BI h4 j _ (BI.told4 h4))) hO rfl q_936 q_938 qs_9 mk_N_afterRound rfl (by decide) rfl (Nat.le_of_ble_eq_true rfl) ⟨Nat.le_of_ble_eq_true rfl, Nat.le_of_ble_eq_true rfl⟩ ⟨rfl, rfl⟩ ?_
        refine A_istore5 d_N_settled_21 trivial ?_
        skip
        refine A_iload5 d_N_settled_23 ?_
        refine A_iload_n3 d_N_settled_25 ?_
        refine A_icmp_ne (tgt := 40) d_N_settled_26 (by decide) (fun c => absurd ((quiet_iff h4).mp hq) c) (fun c_26 => ?_)
        refine A_iload_n2 d_N_settled_29 ?_
        refine A_if_eqB (tgt := 38) d_N_settled_30 (by decide) (fun c_30 => ?_) (fun c_30 => ?_)
        · refine A_iload_n3 d_N_settled_38 ?_
          refine A_iret d_N_settled_39 rfl ⟨Nat.zero_le _, Nat.zero_le _⟩ ?_
          exact pu (by
            unfold sttV
            rw [hR, Nat.zero_add]
            first
              | (rw [c_30]; rfl)
              | (rw [c_30]; exact congrArg Value.int ((quiet_iff h4).mp hq)))
        · refine A_iload4 d_N_settled_33 ?_
          refine A_goto (tgt := 39) d_N_settled_35 (by decide) ?_
          refine A_iret d_N_settled_39 rfl ⟨Nat.zero_le _, Nat.zero_le _⟩ ?_
          exact pu (by
            unfold sttV
            rw [hR, Nat.zero_add]
            first
              | (rw [c_30]; rfl)
              | (rw [c_30]; exact congrArg Value.int ((quiet_iff h4).mp hq)))
    · refine A_iload4 d_N_settled_8 ?_
      refine A_bipush (v := nI 60) d_N_settled_10 (by decide) ?_
      first | refine A_icmp_gtN (tgt := 49) d_N_settled_12 (by decide) (by with_reducible rfl) (by with_reducible rfl) (by omega) (by omega) (fun c_12 => ?_) (fun c_12 => ?_) | refine A_icmp_gt (tgt := 49) d_N_settled_12 (by decide) (fun c_12 => ?_) (fun c_12 => ?_)
      · exact absurd c_12 (by omega)
      · refine A_aload_n0 d_N_settled_15 ?_
        refine A_aload_n1 d_N_settled_16 ?_
        refine A_iload_n3 d_N_settled_17 ?_
        refine A_callVP d_N_settled_18 (c_N_afterRound hO hn hA hV0 ha hk _ (itR_BI h4 i _ (BI.told4 h4))) hO rfl q_936 q_938 qs_9 mk_N_afterRound rfl (by decide) rfl (Nat.le_of_ble_eq_true rfl) ⟨Nat.le_of_ble_eq_true rfl, Nat.le_of_ble_eq_true rfl⟩ ⟨rfl, rfl⟩ ?_
        refine A_istore5 d_N_settled_21 trivial ?_
        refine A_iload5 d_N_settled_23 ?_
        refine A_iload_n3 d_N_settled_25 ?_
        refine A_icmp_ne (tgt := 40) d_N_settled_26 (by decide) (fun c_26 => ?_) (fun c => (hno i hi ((quiet_iff h4).mpr c)).elim)
        refine A_iload5 d_N_settled_40 ?_
        refine A_istore3 d_N_settled_42 trivial ?_
        first | refine A_iinc4 d_N_settled_43 (nI_1 _) trivial ?_ | refine A_iinc4 d_N_settled_43 rfl trivial ?_
        refine A_goto (tgt := 8) d_N_settled_46 (by decide) ?_
        rw [itR_s] at ih
        exact A_drop5 ih
  refine A_aload_n1 d_N_settled_0 ?_
  refine A_callVP d_N_settled_1 (c_Ld_livingAsTold hA hV0) hA.o rfl q_914 q_915 q_916 mk_Ld_livingAsTold rfl (by decide) rfl (Nat.le_of_ble_eq_true rfl) ⟨Nat.le_of_ble_eq_true rfl, Nat.le_of_ble_eq_true rfl⟩ ⟨rfl, rfl⟩ ?_
  refine A_istore3 d_N_settled_4 trivial ?_
  refine A_iconst (v := nI 0) d_N_settled_5 (by decide) ?_
  refine A_istore4 d_N_settled_6 trivial ?_
  exact key 0 (Nat.zero_le _)
theorem scan_cnt {cq : Nat → Bool} : ∀ r i, i + r < 2 ^ 31 → scanN cq (-1) r i (sumN (fun k => if cq k = true then 1 else 0) i) = nI (sumN (fun k => if cq k = true then 1 else 0) (i + r))
  | 0, i, _ => if_pos rfl
  | r + 1, i, h => by
    have hl := sumN_le (f := fun k => if cq k = true then 1 else 0) (c := 1) i (fun k _ => by split <;> omega)
    have ih := scan_cnt (cq := cq) r (i + 1) (by omega)
    rw [sumN_s] at ih
    rw [show i + (r + 1) = i + 1 + r by omega, ← ih]
    unfold scanN
    by_cases q : cq i = true
    · rw [if_pos q, if_pos q, if_neg (fun z => nI_nm1 (by omega) z)]
      cases r <;> rfl
    · rw [if_neg q, if_neg q]
      cases r <;> rfl
set_option maxHeartbeats 4000000 in
set_option maxRecDepth 100000 in
theorem c_N_countRests {G : GE} {h : AH} {n a : Nat} (hO : h n = some (.inr (7, nfs n))) (hn : 1000 ≤ n) {D : LD} (hA : LAt h a D) {V : Nat → Nat} (hV : LVr D V) (ha : a + 9 ≤ n + 78) {t : Nat → Nat} (hk : LKd n V t h)  : Ctr G y_N_countRests b_N_countRests 4 (some .int) r_N_countRests [.ref n, .ref a] h (Pu (.int (restV V t (-1))) h) := by
  refine Ctr.of (by decide +kernel) (by simp) (Nat.le_of_ble_eq_true rfl) (L0 := [some (.ref n), some (.ref a), none, none]) rfl ?_
  have hV0 := hV
  obtain ⟨ok, ⟨f0, f1, f2, f3, f4, f9⟩, hP, hBe, hTo⟩ := hV
  have hH := ok.1
  have h4 := ok.2.2.2.2.1
  have h2p : 2 ^ V 4 ≤ 2 ^ 10 := Nat.pow_le_pow_right (by decide) h4
  have h2q : 1 ≤ 2 ^ V 4 := Nat.one_le_two_pow
  have key : ∀ i, i ≤ 2 ^ V 4 → WA G y_N_countRests b_N_countRests 4 (some .int) r_N_countRests 0 0 (Pu (.int (restV V t (-1))) h) 0 0 4 [some (.ref n), some (.ref a), some (.int (nI (sumN (fun i => if restB V t (nI i) = true then 1 else 0) i))), some (.int (nI i))] [] h := by
    refine down ?_ (fun i hi ih => ?_)
    · refine A_iload_n3 d_N_countRests_4 ?_
      refine A_aload_n1 d_N_countRests_5 ?_
      refine A_callVP d_N_countRests_6 (c_Ld_everybody hA hV0) hA.o rfl q_745 q_746 q_747 mk_Ld_everybody rfl (by decide) rfl (Nat.le_of_ble_eq_true rfl) ⟨Nat.le_of_ble_eq_true rfl, Nat.le_of_ble_eq_true rfl⟩ ⟨rfl, rfl⟩ ?_
      refine A_topI (allI_N (V 4) (by omega)) ?_
      first | refine A_icmp_gtN (tgt := 30) d_N_countRests_9 (by decide) (by with_reducible rfl) (by with_reducible rfl) (by omega) (by omega) (fun c_9 => ?_) (fun c_9 => ?_) | refine A_icmp_gt (tgt := 30) d_N_countRests_9 (by decide) (fun c_9 => ?_) (fun c_9 => ?_)
      · refine A_iload_n2 d_N_countRests_30 ?_
        refine A_iret d_N_countRests_31 rfl ⟨Nat.zero_le _, Nat.zero_le _⟩ ?_
        exact pu (by
          have e := scan_cnt (cq := fun i => restB V t (nI i)) (2 ^ V 4) 0 (by omega)
          rw [Nat.zero_add] at e
          exact congrArg Value.int e.symm)
      · exact absurd c_9 (by omega)
    · refine A_iload_n3 d_N_countRests_4 ?_
      refine A_aload_n1 d_N_countRests_5 ?_
      refine A_callVP d_N_countRests_6 (c_Ld_everybody hA hV0) hA.o rfl q_745 q_746 q_747 mk_Ld_everybody rfl (by decide) rfl (Nat.le_of_ble_eq_true rfl) ⟨Nat.le_of_ble_eq_true rfl, Nat.le_of_ble_eq_true rfl⟩ ⟨rfl, rfl⟩ ?_
      refine A_topI (allI_N (V 4) (by omega)) ?_
      first | refine A_icmp_gtN (tgt := 30) d_N_countRests_9 (by decide) (by with_reducible rfl) (by with_reducible rfl) (by omega) (by omega) (fun c_9 => ?_) (fun c_9 => ?_) | refine A_icmp_gt (tgt := 30) d_N_countRests_9 (by decide) (fun c_9 => ?_) (fun c_9 => ?_)
      · exact absurd c_9 (by omega)
      · refine A_iload_n2 d_N_countRests_12 ?_
        refine A_aload_n0 d_N_countRests_13 ?_
        refine A_aload_n1 d_N_countRests_14 ?_
        refine A_iload_n3 d_N_countRests_15 ?_
        refine A_callVP d_N_countRests_16 (c_N_isRest hO hn hA hV0 ha hk _ (BI.nI (by omega) (by omega))) hO rfl q_948 q_950 qs_12 mk_N_isRest rfl (by decide) rfl (Nat.le_of_ble_eq_true rfl) ⟨Nat.le_of_ble_eq_true rfl, Nat.le_of_ble_eq_true rfl⟩ ⟨rfl, rfl⟩ ?_
        refine A_callSP d_N_countRests_19 (c_N_oneB _ _) q_692 q_591 mk_N_oneIf rfl (by decide) rfl (Nat.le_of_ble_eq_true rfl) ⟨Nat.le_of_ble_eq_true rfl, Nat.le_of_ble_eq_true rfl⟩ ⟨rfl, rfl⟩ ?_
        refine A_topI (bI_n _) ?_
        first | refine A_iaddN d_N_countRests_22 (by with_reducible rfl) (by with_reducible rfl) ?_ | refine A_iadd d_N_countRests_22 ?_
        refine A_istore2 d_N_countRests_23 trivial ?_
        first | refine A_iinc3 d_N_countRests_24 (nI_1 _) trivial ?_ | refine A_iinc3 d_N_countRests_24 rfl trivial ?_
        refine A_goto (tgt := 4) d_N_countRests_27 (by decide) ?_
        exact ih
  refine A_iconst (v := nI 0) d_N_countRests_0 (by decide) ?_
  refine A_istore2 d_N_countRests_1 trivial ?_
  refine A_iconst (v := nI 0) d_N_countRests_2 (by decide) ?_
  refine A_istore3 d_N_countRests_3 trivial ?_
  exact key 0 (Nat.zero_le _)
theorem nI_dec {k : Nat} (h : 0 < k) : nI k + Int32.ofInt (-1) = nI (k - 1) := by
  obtain ⟨j, rfl⟩ : ∃ j, k = j + 1 := ⟨k - 1, by omega⟩
  rw [Nat.add_sub_cancel, ← nI_add, Int32.add_assoc, show nI 1 + Int32.ofInt (-1) = 0 by decide, Int32.add_zero]
set_option maxHeartbeats 4000000 in
set_option maxRecDepth 100000 in
theorem c_N_restNumber {G : GE} {h : AH} {n a : Nat} (hO : h n = some (.inr (7, nfs n))) (hn : 1000 ≤ n) {D : LD} (hA : LAt h a D) {V : Nat → Nat} (hV : LVr D V) (ha : a + 9 ≤ n + 78) {t : Nat → Nat} (hk : LKd n V t h) (kk : Nat) (hkk : kk < 2 ^ 31)  : Ctr G y_N_restNumber b_N_restNumber 5 (some .int) r_N_restNumber [.ref n, .ref a, .int (nI kk)] h (Pu (.int (restV V t (nI kk))) h) := by
  refine Ctr.of (by decide +kernel) (by simp) (Nat.le_of_ble_eq_true rfl) (L0 := [some (.ref n), some (.ref a), some (.int (nI kk)), none, none]) rfl ?_
  have hV0 := hV
  obtain ⟨ok, ⟨f0, f1, f2, f3, f4, f9⟩, hP, hBe, hTo⟩ := hV
  have hH := ok.1
  have h4 := ok.2.2.2.2.1
  have h2p : 2 ^ V 4 ≤ 2 ^ 10 := Nat.pow_le_pow_right (by decide) h4
  have h2q : 1 ≤ 2 ^ V 4 := Nat.one_le_two_pow
  have key : ∀ i, i ≤ 2 ^ V 4 → sumN (fun i => if restB V t (nI i) = true then 1 else 0) i ≤ kk → WA G y_N_restNumber b_N_restNumber 5 (some .int) r_N_restNumber 0 0 (Pu (.int (scanN (fun i => restB V t (nI i)) (nI kk) (2 ^ V 4 - i) i (sumN (fun i => if restB V t (nI i) = true then 1 else 0) i))) h) 0 0 5 [some (.ref n), some (.ref a), some (.int (nI kk)), some (.int (nI (kk - sumN (fun i => if restB V t (nI i) = true then 1 else 0) i))), some (.int (nI i))] [] h := by
    refine down ?_ (fun i hi ih => ?_)
    · intro hsk
      refine A_iload4 d_N_restNumber_5 ?_
      refine A_aload_n1 d_N_restNumber_7 ?_
      refine A_callVP d_N_restNumber_8 (c_Ld_everybody hA hV0) hA.o rfl q_745 q_746 q_747 mk_Ld_everybody rfl (by decide) rfl (Nat.le_of_ble_eq_true rfl) ⟨Nat.le_of_ble_eq_true rfl, Nat.le_of_ble_eq_true rfl⟩ ⟨rfl, rfl⟩ ?_
      refine A_topI (allI_N (V 4) (by omega)) ?_
      first | refine A_icmp_gtN (tgt := 40) d_N_restNumber_11 (by decide) (by with_reducible rfl) (by with_reducible rfl) (by omega) (by omega) (fun c_11 => ?_) (fun c_11 => ?_) | refine A_icmp_gt (tgt := 40) d_N_restNumber_11 (by decide) (fun c_11 => ?_) (fun c_11 => ?_)
      · refine A_iconst (v := (-1)) d_N_restNumber_40 (by decide) ?_
        refine A_iret d_N_restNumber_41 rfl ⟨Nat.zero_le _, Nat.zero_le _⟩ ?_
        exact pu (by rw [Nat.sub_self]; exact congrArg Value.int (if_neg (nI_nm1 hkk)).symm)
      · exact absurd c_11 (by omega)
    · intro hsk
      rw [show 2 ^ V 4 - i = 2 ^ V 4 - (i + 1) + 1 by omega]
      have hsl := sumN_le (f := (fun i => if restB V t (nI i) = true then 1 else 0)) (c := 1) i (fun k _ => by split <;> omega)
      refine A_iload4 d_N_restNumber_5 ?_
      refine A_aload_n1 d_N_restNumber_7 ?_
      refine A_callVP d_N_restNumber_8 (c_Ld_everybody hA hV0) hA.o rfl q_745 q_746 q_747 mk_Ld_everybody rfl (by decide) rfl (Nat.le_of_ble_eq_true rfl) ⟨Nat.le_of_ble_eq_true rfl, Nat.le_of_ble_eq_true rfl⟩ ⟨rfl, rfl⟩ ?_
      refine A_topI (allI_N (V 4) (by omega)) ?_
      first | refine A_icmp_gtN (tgt := 40) d_N_restNumber_11 (by decide) (by with_reducible rfl) (by with_reducible rfl) (by omega) (by omega) (fun c_11 => ?_) (fun c_11 => ?_) | refine A_icmp_gt (tgt := 40) d_N_restNumber_11 (by decide) (fun c_11 => ?_) (fun c_11 => ?_)
      · exact absurd c_11 (by omega)
      · refine A_aload_n0 d_N_restNumber_14 ?_
        refine A_aload_n1 d_N_restNumber_15 ?_
        refine A_iload4 d_N_restNumber_16 ?_
        refine A_callVP d_N_restNumber_18 (c_N_isRest hO hn hA hV0 ha hk _ (BI.nI (by omega) (by omega))) hO rfl q_948 q_950 qs_12 mk_N_isRest rfl (by decide) rfl (Nat.le_of_ble_eq_true rfl) ⟨Nat.le_of_ble_eq_true rfl, Nat.le_of_ble_eq_true rfl⟩ ⟨rfl, rfl⟩ ?_
        refine A_if_eqB (tgt := 34) d_N_restNumber_21 (by decide) (fun c_21 => ?_) (fun c_21 => ?_)
        · first | refine A_iinc4 d_N_restNumber_34 (nI_1 _) trivial ?_ | refine A_iinc4 d_N_restNumber_34 rfl trivial ?_
          refine A_goto (tgt := 5) d_N_restNumber_37 (by decide) ?_
          first
            | (have es : sumN (fun i => if restB V t (nI i) = true then 1 else 0) (i + 1) = sumN (fun i => if restB V t (nI i) = true then 1 else 0) i + 1 := by rw [sumN_s, if_pos c_21]
               rw [es] at ih
               unfold scanN
               rw [if_pos c_21, if_neg (fun z => absurd ((nI_eq (by omega) hkk).mp z) (by omega))]
               refine A_loc ?_ (ih (by omega))
               rw [nI_dec (show 0 < kk - sumN (fun i => if restB V t (nI i) = true then 1 else 0) i by omega), show kk - (sumN (fun i => if restB V t (nI i) = true then 1 else 0) i + 1) = kk - sumN (fun i => if restB V t (nI i) = true then 1 else 0) i - 1 by omega]
               done)
            | (have es : sumN (fun i => if restB V t (nI i) = true then 1 else 0) (i + 1) = sumN (fun i => if restB V t (nI i) = true then 1 else 0) i := by rw [sumN_s, if_neg (by rw [c_21]; decide)]; rfl
               rw [es] at ih
               unfold scanN
               rw [if_neg (by rw [c_21]; decide)]
               exact ih (by omega))
        · refine A_iload_n3 d_N_restNumber_24 ?_
          first | refine A_if_neN (tgt := 31) d_N_restNumber_25 (by decide) (by with_reducible rfl) (by omega) (fun c_25 => ?_) (fun c_25 => ?_) | refine A_if_ne (tgt := 31) d_N_restNumber_25 (by decide) (fun c_25 => ?_) (fun c_25 => ?_)
          · skip
            refine A_iinc3 d_N_restNumber_31 rfl trivial ?_
            first | refine A_iinc4 d_N_restNumber_34 (nI_1 _) trivial ?_ | refine A_iinc4 d_N_restNumber_34 rfl trivial ?_
            refine A_goto (tgt := 5) d_N_restNumber_37 (by decide) ?_
            first
              | (have es : sumN (fun i => if restB V t (nI i) = true then 1 else 0) (i + 1) = sumN (fun i => if restB V t (nI i) = true then 1 else 0) i + 1 := by rw [sumN_s, if_pos c_21]
                 rw [es] at ih
                 unfold scanN
                 rw [if_pos c_21, if_neg (fun z => absurd ((nI_eq (by omega) hkk).mp z) (by omega))]
                 refine A_loc ?_ (ih (by omega))
                 rw [nI_dec (show 0 < kk - sumN (fun i => if restB V t (nI i) = true then 1 else 0) i by omega), show kk - (sumN (fun i => if restB V t (nI i) = true then 1 else 0) i + 1) = kk - sumN (fun i => if restB V t (nI i) = true then 1 else 0) i - 1 by omega]
                 done)
              | (have es : sumN (fun i => if restB V t (nI i) = true then 1 else 0) (i + 1) = sumN (fun i => if restB V t (nI i) = true then 1 else 0) i := by rw [sumN_s, if_neg (by rw [c_21]; decide)]; rfl
                 rw [es] at ih
                 unfold scanN
                 rw [if_neg (by rw [c_21]; decide)]
                 exact ih (by omega))
          · refine A_iload4 d_N_restNumber_28 ?_
            refine A_iret d_N_restNumber_30 rfl ⟨Nat.zero_le _, Nat.zero_le _⟩ ?_
            exact pu (by
              unfold scanN
              rw [if_pos c_21, if_pos (congrArg nI (by omega))])
  refine A_iload_n2 d_N_restNumber_0 ?_
  refine A_istore3 d_N_restNumber_1 trivial ?_
  refine A_iconst (v := nI 0) d_N_restNumber_2 (by decide) ?_
  refine A_istore4 d_N_restNumber_3 trivial ?_
  exact key 0 (Nat.zero_le _) (Nat.zero_le _)
