theorem bt_nI {k i : Nat} (hi : i < 32) : bt (nI k) i = k.testBit i := by
  show (BitVec.ofNat 32 k).getLsbD i = _
  rw [BitVec.getLsbD_ofNat, decide_eq_true hi, Bool.true_and]
theorem hasB_tb {k i : Nat} (hi : i < 32) : hasB (nI k) (nI i) = k.testBit i := by rw [hasB_bt _ hi, bt_nI hi]
theorem nI_xor (a b : Nat) : nI a ^^^ nI b = nI (a ^^^ b) := b_ext fun i hi => by rw [b_xor, bt_nI hi, bt_nI hi, bt_nI hi, Nat.testBit_xor]
theorem nI_shr {a j : Nat} (ha : a < 2 ^ 31) (hj : j < 32) : nI a >>> (nI j &&& 31) = nI (a >>> j) := b_ext fun i hi => by
  have tb31 : a.testBit 31 = false := Nat.testBit_lt_two_pow ha
  rw [b_sshr j hj _ hi, bt_nI hi, Nat.testBit_shiftRight]
  split
  · rw [bt_nI (by omega)]
  · rw [bt_nI (by omega), tb31, Nat.testBit_lt_two_pow (Nat.lt_of_lt_of_le ha (Nat.pow_le_pow_right (by decide) (by omega)))]
/-- from a number to the next one: the low bits change up to one, no others -/
theorem next_bits : ∀ j k, (if ((k + 1) ^^^ k) >>> j = 0 then ∀ i, j ≤ i → (k + 1).testBit i = k.testBit i else (k + 1).testBit j = !k.testBit j)
  | 0, k => by
    rw [Nat.shiftRight_zero]
    split
    · rename_i h
      intro i _
      have : ((k + 1) ^^^ k).testBit i = false := by rw [h]; exact Nat.zero_testBit i
      rw [Nat.testBit_xor] at this
      revert this
      generalize (k + 1).testBit i = a
      generalize k.testBit i = b
      cases a <;> cases b <;> decide
    · rw [Nat.testBit_zero, Nat.testBit_zero]
      rcases (show k % 2 = 0 ∨ k % 2 = 1 by omega) with e | e
      · rw [show (k + 1) % 2 = 1 by omega, e]; decide
      · rw [show (k + 1) % 2 = 0 by omega, e]; decide
  | j + 1, k => by
    have e2 : ((k + 1) ^^^ k) >>> (j + 1) = (((k + 1) / 2) ^^^ (k / 2)) >>> j := by
      apply Nat.eq_of_testBit_eq
      intro i
      rw [Nat.testBit_shiftRight, Nat.testBit_shiftRight, Nat.testBit_xor, Nat.testBit_xor, show j + 1 + i = j + i + 1 by omega, Nat.testBit_succ, Nat.testBit_succ]
    rcases (show k % 2 = 0 ∨ k % 2 = 1 by omega) with e | e
    · -- only the lowest bit has changed
      have e3 : (k + 1) / 2 = k / 2 := by omega
      rw [e2, e3, Nat.xor_self, Nat.zero_shiftRight, if_pos rfl]
      intro i hi
      obtain ⟨i', rfl⟩ : ∃ i', i = i' + 1 := ⟨i - 1, by omega⟩
      rw [Nat.testBit_succ, Nat.testBit_succ, e3]
    · have ih := next_bits j (k / 2)
      have e3 : (k + 1) / 2 = k / 2 + 1 := by omega
      rw [e2, e3]
      split at ih
      · rename_i h
        rw [if_pos h]
        intro i hi
        obtain ⟨i', rfl⟩ : ∃ i', i = i' + 1 := ⟨i - 1, by omega⟩
        rw [Nat.testBit_succ, Nat.testBit_succ, e3]
        exact ih i' (by omega)
      · rename_i h
        rw [if_neg h, Nat.testBit_succ, Nat.testBit_succ, e3]
        exact ih
theorem sumN_upd {f g : Nat → Nat} {j : Nat} : ∀ n, (∀ i, i ≠ j → f i = g i) → sumN f n + (if j < n then g j else 0) = sumN g n + (if j < n then f j else 0)
  | 0, _ => by rw [if_neg (Nat.not_lt_zero _), if_neg (Nat.not_lt_zero _)]; rfl
  | n + 1, h => by
    have ih := sumN_upd n h
    rw [sumN_s, sumN_s]
    by_cases z : n = j
    · subst z
      rw [if_neg (Nat.lt_irrefl _), if_neg (Nat.lt_irrefl _)] at ih
      rw [if_pos (Nat.lt_succ_self _), if_pos (Nat.lt_succ_self _)]
      omega
    · rw [h n z]
      by_cases y : j < n
      · rw [if_pos y, if_pos y] at ih
        rw [if_pos (by omega), if_pos (by omega)]
        omega
      · rw [if_neg y, if_neg y] at ih
        rw [if_neg (by omega), if_neg (by omega)]
        omega
/-- between the sums of a cut and of the next one: j hours are the next one's -/
def mxB (V : Nat → Nat) (k j : Nat) : Nat := sumN (fun x => if (if x < j then k + 1 else k).testBit x = true then likedInN V 1 x else 0) (V 0)
def mxO (V : Nat → Nat) (k j : Nat) : Nat := sumN (fun x => if (if x < j then k + 1 else k).testBit x = true then 0 else likedInN V 0 x) (V 0)
theorem byE_t {V : Nat → Nat} (k : Nat) (h : V 0 ≤ 24) : byE V k (V 0) = sumN (fun x => if k.testBit x = true then likedInN V 1 x else 0) (V 0) := sumN_congr _ (fun i hi => by rw [hasB_tb (by omega)])
theorem otE_t {V : Nat → Nat} (k : Nat) (h : V 0 ≤ 24) : otE V k (V 0) = sumN (fun x => if k.testBit x = true then 0 else likedInN V 0 x) (V 0) := sumN_congr _ (fun i hi => by rw [hasB_tb (by omega)])
theorem mx_0 {V : Nat → Nat} (k : Nat) (h : V 0 ≤ 24) : mxB V k 0 = byE V k (V 0) ∧ mxO V k 0 = otE V k (V 0) := by
  rw [byE_t k h, otE_t k h]
  exact ⟨sumN_congr _ (fun i _ => by rw [if_neg (Nat.not_lt_zero i)]), sumN_congr _ (fun i _ => by rw [if_neg (Nat.not_lt_zero i)])⟩
theorem mx_e {V : Nat → Nat} {k j : Nat} (h : V 0 ≤ 24) (hj : V 0 ≤ j ∨ ((k + 1) ^^^ k) >>> j = 0) : mxB V k j = byE V (k + 1) (V 0) ∧ mxO V k j = otE V (k + 1) (V 0) := by
  rw [byE_t _ h, otE_t _ h]
  have e : ∀ i, i < V 0 → (if i < j then k + 1 else k).testBit i = (k + 1).testBit i := fun i hi => by
    by_cases q : i < j
    · rw [if_pos q]
    · rw [if_neg q]
      rcases hj with z | z
      · omega
      · have := next_bits j k
        rw [if_pos z] at this
        exact (this i (by omega)).symm
  exact ⟨sumN_congr _ (fun i hi => by rw [e i hi]), sumN_congr _ (fun i hi => by rw [e i hi])⟩
theorem mx_s {V : Nat → Nat} {k j : Nat} (hj : j < V 0) (hz : ¬ ((k + 1) ^^^ k) >>> j = 0) :
    (if (k + 1).testBit j = true then mxB V k (j + 1) = mxB V k j + likedInN V 1 j ∧ mxO V k (j + 1) + likedInN V 0 j = mxO V k j else mxB V k (j + 1) + likedInN V 1 j = mxB V k j ∧ mxO V k (j + 1) = mxO V k j + likedInN V 0 j) := by
  have hb := next_bits j k
  rw [if_neg hz] at hb
  have e : ∀ i, i ≠ j → (if i < j + 1 then k + 1 else k) = if i < j then k + 1 else k := fun i hi => by
    by_cases q : i < j
    · rw [if_pos q, if_pos (by omega)]
    · rw [if_neg q, if_neg (by omega)]
  have uB := sumN_upd (f := fun x => if (if x < j + 1 then k + 1 else k).testBit x = true then likedInN V 1 x else 0) (g := fun x => if (if x < j then k + 1 else k).testBit x = true then likedInN V 1 x else 0) (j := j) (V 0) (fun i hi => by rw [e i hi])
  have uO := sumN_upd (f := fun x => if (if x < j + 1 then k + 1 else k).testBit x = true then 0 else likedInN V 0 x) (g := fun x => if (if x < j then k + 1 else k).testBit x = true then 0 else likedInN V 0 x) (j := j) (V 0) (fun i hi => by rw [e i hi])
  rw [if_pos hj, if_pos hj, if_neg (Nat.lt_irrefl j), if_pos (Nat.lt_succ_self j)] at uB uO
  unfold mxB mxO
  cases hk : k.testBit j
  · rw [hk, Bool.not_false] at hb
    rw [hk, hb, if_neg (by decide), if_pos rfl] at uB uO
    rw [hb, if_pos rfl]
    exact ⟨by omega, by omega⟩
  · rw [hk, Bool.not_true] at hb
    rw [hk, hb, if_pos rfl, if_neg (by decide)] at uB uO
    rw [hb, if_neg (by decide)]
    exact ⟨by omega, by omega⟩
theorem otE_all {V : Nat → Nat} (h : V 0 ≤ 24) : worthN V 0 (allI (V 0)) = otE V 0 (V 0) := by
  rw [otE_t _ h]
  exact sumN_congr _ (fun i hi => by
    rw [hasB_bt _ (by omega), b_all _ (by omega) i (by omega), decide_eq_true hi, if_pos rfl, Nat.zero_testBit, if_neg (by decide)])
theorem sgP {x y : Nat} : nI x + -1 * nI (x - y) = nI x - nI (x - y) := by grind
theorem sg_add {x y w : Nat} (h : y + w = x) : nI x + -1 * nI w = nI y := by
  rw [← h, ← nI_add]
  grind
theorem sg_sub {x w : Nat} : nI x - -1 * nI w = nI (x + w) := by
  rw [← nI_add]
  grind
/-- what the hours are worth to either city, weighed -/
def HWq (V : Nat → Nat) (f : Nat → Int32) (i : Nat) : Prop := ∀ q, q < i → f q = nI (likedInN V 0 q) ∧ f (24 + q) = nI (likedInN V 1 q)
theorem HWq.step {V : Nat → Nat} {f : Nat → Int32} {i : Nat} (hi : i < 24) (k : HWq V f i) : HWq V (fup (fup f i (nI (likedInN V 0 i))) (24 + i) (nI (likedInN V 1 i))) (i + 1) := fun p hp => by
  by_cases z : p = i
  · subst z
    exact ⟨by rw [fup_ne _ _ (by omega), fup_eq], fup_eq _ _ _⟩
  · rw [fup_ne _ _ (by omega), fup_ne _ _ (by omega), fup_ne _ _ (by omega), fup_ne _ _ (by omega)]
    exact k p (by omega)
set_option maxHeartbeats 4000000 in
set_option maxRecDepth 100000 in
theorem c_N_weighHours {G : GE} {h : AH} {n a : Nat} (hO : h n = some (.inr (7, nfs n))) (hn : 1000 ≤ n) {D : LD} (hA : LAt h a D) {V : Nat → Nat} (hV : LVr D V) (ha : a + 9 ≤ n + 78) {f0' : Nat → Int32} (hL : h (n + 79) = some (.inl (0, 48, .inl f0')))  : Ctr G y_N_weighHours b_N_weighHours 3 none r_N_weighHours [.ref n, .ref a] h (fun v h1 => v = none ∧ ∃ f, h1 = (hset h (n + 79) (.inl (0, 48, .inl f))) ∧ HWq V f (V 0)) := by
  refine Ctr.of (by decide +kernel) (by simp) (Nat.le_of_ble_eq_true rfl) (L0 := [some (.ref n), some (.ref a), none]) rfl ?_
  have hV0 := hV
  obtain ⟨ok, ⟨f0, f1, f2, f3, f4, f9⟩, hP, hBe, hTo⟩ := hV
  have hH := ok.1
  have h4 := ok.2.2.2.2.1
  have key : ∀ i, i ≤ V 0 → ∀ f, HWq V f i → WA G y_N_weighHours b_N_weighHours 3 none r_N_weighHours 0 0 (fun v h1 => v = none ∧ ∃ f, h1 = (hset h (n + 79) (.inl (0, 48, .inl f))) ∧ HWq V f (V 0)) 0 0 2 [some (.ref n), some (.ref a), some (.int (nI i))] [] (hset h (n + 79) (.inl (0, 48, .inl f))) := by
    refine down ?_ (fun i hi ih => ?_)
    · intro f hk
      refine A_iload_n2 d_N_weighHours_2 ?_
      refine A_aload_n1 d_N_weighHours_3 ?_
      refine A_getf (kf := 0) d_N_weighHours_4 (hA.hs (by omega)).o ok_1 (by decide) q_49 rfl ?_
      refine A_topI f0 ?_
      first | refine A_icmp_geN (tgt := 47) d_N_weighHours_7 (by decide) (by with_reducible rfl) (by with_reducible rfl) (by omega) (by omega) (fun c_7 => ?_) (fun c_7 => ?_) | refine A_icmp_ge (tgt := 47) d_N_weighHours_7 (by decide) (fun c_7 => ?_) (fun c_7 => ?_)
      · refine A_vret d_N_weighHours_47 rfl ⟨Nat.zero_le _, Nat.zero_le _⟩ ?_
        exact ⟨rfl, f, rfl, hk⟩
      · exact absurd c_7 (by omega)
    · intro f hk
      refine A_iload_n2 d_N_weighHours_2 ?_
      refine A_aload_n1 d_N_weighHours_3 ?_
      refine A_getf (kf := 0) d_N_weighHours_4 (hA.hs (by omega)).o ok_1 (by decide) q_49 rfl ?_
      refine A_topI f0 ?_
      first | refine A_icmp_geN (tgt := 47) d_N_weighHours_7 (by decide) (by with_reducible rfl) (by with_reducible rfl) (by omega) (by omega) (fun c_7 => ?_) (fun c_7 => ?_) | refine A_icmp_ge (tgt := 47) d_N_weighHours_7 (by decide) (fun c_7 => ?_) (fun c_7 => ?_)
      · exact absurd c_7 (by omega)
      · refine A_aload_n0 d_N_weighHours_10 ?_
        refine A_getf (kf := 5) d_N_weighHours_11 ((hset_ne (by omega)).trans hO) ok_7 (by decide) q_373 rfl ?_
        refine A_iload_n2 d_N_weighHours_14 ?_
        refine A_aload_n1 d_N_weighHours_15 ?_
        refine A_iconst (v := nI 0) d_N_weighHours_16 (by decide) ?_
        refine A_iconst (v := nI 1) d_N_weighHours_17 (by decide) ?_
        refine A_iload_n2 d_N_weighHours_18 ?_
        refine A_ishl d_N_weighHours_19 ?_
        refine A_callVP d_N_weighHours_20 (c_Ld_worthOf (hA.hs (by omega)) hV0 0 (by decide) (nI 1 <<< (nI i &&& 31))) (hA.hs (by omega)).o rfl q_871 q_803 q_804 mk_Ld_worthOf rfl (by decide) rfl (Nat.le_of_ble_eq_true rfl) ⟨Nat.le_of_ble_eq_true rfl, Nat.le_of_ble_eq_true rfl⟩ ⟨rfl, rfl⟩ ?_
        refine A_topI (congrArg nI (worthN_1 0 hi (by omega))) ?_
        refine A_iastN d_N_weighHours_23 (hset_eq _ _ _) ⟨by omega, by decide⟩ (by omega) ?_
        rw [hset_hset]
        refine A_aload_n0 d_N_weighHours_24 ?_
        refine A_getf (kf := 5) d_N_weighHours_25 ((hset_ne (by omega)).trans hO) ok_7 (by decide) q_373 rfl ?_
        refine A_bipush (v := nI 24) d_N_weighHours_28 (by decide) ?_
        refine A_iload_n2 d_N_weighHours_30 ?_
        first | refine A_iaddN d_N_weighHours_31 (by with_reducible rfl) (by with_reducible rfl) ?_ | refine A_iadd d_N_weighHours_31 ?_
        refine A_aload_n1 d_N_weighHours_32 ?_
        refine A_iconst (v := nI 1) d_N_weighHours_33 (by decide) ?_
        refine A_iconst (v := nI 1) d_N_weighHours_34 (by decide) ?_
        refine A_iload_n2 d_N_weighHours_35 ?_
        refine A_ishl d_N_weighHours_36 ?_
        refine A_callVP d_N_weighHours_37 (c_Ld_worthOf (hA.hs (by omega)) hV0 1 (by decide) (nI 1 <<< (nI i &&& 31))) (hA.hs (by omega)).o rfl q_871 q_803 q_804 mk_Ld_worthOf rfl (by decide) rfl (Nat.le_of_ble_eq_true rfl) ⟨Nat.le_of_ble_eq_true rfl, Nat.le_of_ble_eq_true rfl⟩ ⟨rfl, rfl⟩ ?_
        refine A_topI (congrArg nI (worthN_1 1 hi (by omega))) ?_
        refine A_iastN d_N_weighHours_40 (hset_eq _ _ _) ⟨by omega, by decide⟩ (by omega) ?_
        rw [hset_hset]
        first | refine A_iinc2 d_N_weighHours_41 (nI_1 _) trivial ?_ | refine A_iinc2 d_N_weighHours_41 rfl trivial ?_
        refine A_goto (tgt := 2) d_N_weighHours_44 (by decide) ?_
        exact ih _ (hk.step (by omega))
  refine A_iconst (v := nI 0) d_N_weighHours_0 (by decide) ?_
  refine A_istore2 d_N_weighHours_1 trivial ?_
  have k0 := key 0 (Nat.zero_le _) f0' (fun p hp => absurd hp (Nat.not_lt_zero p))
  rw [hset_same hL] at k0
  exact k0
