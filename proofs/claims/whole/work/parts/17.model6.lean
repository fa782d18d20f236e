set_option maxHeartbeats 4000000 in
set_option maxRecDepth 100000 in
theorem c_M_person {G : GE} {h0 h : AH} {m : Nat} {S : MS} (hM : MW h0 h m S) {c : Nat → Nat} {VL WT BK SG GM : Nat → Nat → Nat} (hp : MP S c VL WT BK SG GM) (la pa x : Int32) : Ctr G y_M_person b_M_person 4 (some .int) r_M_person [.ref m, .int la, .int pa, .int x] h (TK h0 m S (.int (pick (c 0) la (fun k => pick (VL k 4) pa (fun p => personV (VL k) p x) (-1)) (-1)))) := by
  have hc0 := (hp.1 0 (by decide)).2
  refine Ctr.of (by decide +kernel) (by simp) (Nat.le_of_ble_eq_true rfl) (L0 := [some (.ref m), some (.int la), some (.int pa), some (.int x)]) rfl ?_
  refine A_aload_n0 d_M_person_0 ?_
  refine A_iconst (v := nI 0) d_M_person_1 (by decide) ?_
  refine A_putM hM (kf := 0) (ty := .int) d_M_person_2 (by decide) q_1049 rfl (by decide +kernel) (by first | rfl | exact bI_nar _) rfl (Nat.le_of_ble_eq_true rfl) rfl (fun h hM => ?_)
  have hp := hp.keep (Keep.sf _ 0 (nI 0))
  refine A_aload_n0 d_M_person_5 ?_
  refine A_iload_n1 d_M_person_6 ?_
  refine A_callV d_M_person_7 (c_M_hand hM (hp.1 0 (by decide)).1 (hp.1 0 (by decide)).2 hp.2.1 la) hM.o rfl q_1339 q_1341 qs_35 mk_M_hand rfl (by decide) rfl (Nat.le_of_ble_eq_true rfl) ⟨Nat.le_of_ble_eq_true rfl, Nat.le_of_ble_eq_true rfl⟩ (fun v h1 hv => ?_)
  rcases hv with ⟨l', rfl, hl, rfl, hM⟩ | ⟨q, rfl, rfl⟩
  · have hVl := hp.2.1 l' hl
    have hS := HS_hand hVl
    have hok := hVl.2.1
    obtain ⟨b0, b1, b2, b3, b4, b5, bp, bb, bt⟩ := hVl.2.1
    refine A_if_eqB (tgt := 21) d_M_person_10 (by decide) (fun c => absurd c (by decide)) (fun c_10 => ?_)
    refine A_aload_n0 d_M_person_13 ?_
    refine A_iload_n2 d_M_person_14 ?_
    refine A_callVP d_M_person_15 (c_M_isOne hM pa) hM.o rfl q_1351 q_1353 qs_37 mk_M_isOne rfl (by decide) rfl (Nat.le_of_ble_eq_true rfl) ⟨Nat.le_of_ble_eq_true rfl, Nat.le_of_ble_eq_true rfl⟩ ⟨rfl, rfl⟩ ?_
    refine A_topI (by rw [hS.people]) ?_
    refine A_if_neB (tgt := 23) d_M_person_18 (by decide) (fun c_18 => ?_) (fun c_18 => ?_)
    · have hP := hok.2.2.2.2.1
      obtain ⟨p, rfl, hpp⟩ := inB_nat (by omega) c_18
      refine A_iload_n3 d_M_person_23 ?_
      refine A_iconst (v := nI 0) d_M_person_24 (by decide) ?_
      refine A_iconst (v := nI 2) d_M_person_25 (by decide) ?_
      refine A_callSP d_M_person_26 (c_M_in _ _ _ _) q_1231 q_1232 mk_M_in rfl (by decide) rfl (Nat.le_of_ble_eq_true rfl) ⟨Nat.le_of_ble_eq_true rfl, Nat.le_of_ble_eq_true rfl⟩ ⟨rfl, rfl⟩ ?_
      refine A_if_eqB (tgt := 41) d_M_person_29 (by decide) (fun c_29 => ?_) (fun c_29 => ?_)
      · refine A_iload_n3 d_M_person_41 ?_
        refine A_bipush (v := nI 10) d_M_person_42 (by decide) ?_
        refine A_bipush (v := nI 9) d_M_person_44 (by decide) ?_
        refine A_aload_n0 d_M_person_46 ?_
        refine A_getf (kf := 27) d_M_person_47 hM.o ok_8 (by decide) q_1076 rfl ?_
        refine A_topI hS.hours ?_
        first | refine A_iaddN d_M_person_50 (by with_reducible rfl) (by with_reducible rfl) ?_ | refine A_iadd d_M_person_50 ?_
        refine A_callSP d_M_person_51 (c_M_in _ _ _ _) q_1231 q_1232 mk_M_in rfl (by decide) rfl (Nat.le_of_ble_eq_true rfl) ⟨Nat.le_of_ble_eq_true rfl, Nat.le_of_ble_eq_true rfl⟩ ⟨rfl, rfl⟩ ?_
        refine A_if_eqB (tgt := 69) d_M_person_54 (by decide) (fun c_54 => ?_) (fun c_54 => ?_)
        · refine A_iconst (v := (-1)) d_M_person_69 (by decide) ?_
          refine A_iret d_M_person_70 rfl ⟨Nat.zero_le _, Nat.zero_le _⟩ ?_
          first | exact tk hM (fun _ _ => rfl) (by rw [pick_in hl (by omega), pick_in hpp (by omega), personV, rg_out c_29, rg_out c_54]) | exact tk hM (fun _ _ => rfl) (by rw [pick_in hl (by omega), pick_in hpp (by omega), personV, rg_out c_29, rg_in ⟨hk1, hk2⟩ (by omega)]) | exact tk hM (fun _ _ => rfl) (by rw [pick_in hl (by omega), pick_in hpp (by omega), personV, rg_in ⟨hk1, hk2⟩ (by decide)])
        · obtain ⟨k, rfl, hk1, hk2⟩ := inB_ex (by omega) c_54
          refine A_aload_n0 d_M_person_57 ?_
          refine A_iload_n2 d_M_person_58 ?_
          refine A_iload_n3 d_M_person_59 ?_
          refine A_bipush (v := nI 10) d_M_person_60 (by decide) ?_
          first | refine A_isubN d_M_person_62 (by with_reducible rfl) (by with_reducible rfl) (by omega) ?_ | refine A_isub d_M_person_62 ?_
          refine A_callVP d_M_person_63 (c_M_likeOf hM hS p (k - 10) (by omega)) hM.o rfl q_1359 q_1361 qs_39 mk_M_likeOf rfl (by decide) rfl (Nat.le_of_ble_eq_true rfl) ⟨Nat.le_of_ble_eq_true rfl, Nat.le_of_ble_eq_true rfl⟩ ⟨rfl, rfl⟩ ?_
          refine A_goto (tgt := 70) d_M_person_66 (by decide) ?_
          refine A_iret d_M_person_70 rfl ⟨Nat.zero_le _, Nat.zero_le _⟩ ?_
          first | exact tk hM (fun _ _ => rfl) (by rw [pick_in hl (by omega), pick_in hpp (by omega), personV, rg_out c_29, rg_out c_54]) | exact tk hM (fun _ _ => rfl) (by rw [pick_in hl (by omega), pick_in hpp (by omega), personV, rg_out c_29, rg_in ⟨hk1, hk2⟩ (by omega)]) | exact tk hM (fun _ _ => rfl) (by rw [pick_in hl (by omega), pick_in hpp (by omega), personV, rg_in ⟨hk1, hk2⟩ (by decide)])
      · obtain ⟨k, rfl, hk1, hk2⟩ := inB_ex (by decide) c_29
        refine A_aload_n0 d_M_person_32 ?_
        refine A_iload_n2 d_M_person_33 ?_
        refine A_iload_n3 d_M_person_34 ?_
        refine A_callVP d_M_person_35 (c_M_ofOne hM hS p k (by omega)) hM.o rfl q_1355 q_1357 qs_38 mk_M_ofOne rfl (by decide) rfl (Nat.le_of_ble_eq_true rfl) ⟨Nat.le_of_ble_eq_true rfl, Nat.le_of_ble_eq_true rfl⟩ ⟨rfl, rfl⟩ ?_
        refine A_goto (tgt := 70) d_M_person_38 (by decide) ?_
        refine A_iret d_M_person_70 rfl ⟨Nat.zero_le _, Nat.zero_le _⟩ ?_
        first | exact tk hM (fun _ _ => rfl) (by rw [pick_in hl (by omega), pick_in hpp (by omega), personV, rg_out c_29, rg_out c_54]) | exact tk hM (fun _ _ => rfl) (by rw [pick_in hl (by omega), pick_in hpp (by omega), personV, rg_out c_29, rg_in ⟨hk1, hk2⟩ (by omega)]) | exact tk hM (fun _ _ => rfl) (by rw [pick_in hl (by omega), pick_in hpp (by omega), personV, rg_in ⟨hk1, hk2⟩ (by decide)])
    · refine A_iconst (v := (-1)) d_M_person_21 (by decide) ?_
      refine A_iret d_M_person_22 rfl ⟨Nat.zero_le _, Nat.zero_le _⟩ ?_
      first | exact tk hM (Keep.sf _ _ _) (by rw [pick_out q]) | exact tk hM (fun _ _ => rfl) (by rw [pick_in hl (by omega), pick_out c_18])
  · refine A_if_eqB (tgt := 21) d_M_person_10 (by decide) (fun c_10 => ?_) (fun c => absurd c (by decide))
    refine A_iconst (v := (-1)) d_M_person_21 (by decide) ?_
    refine A_iret d_M_person_22 rfl ⟨Nat.zero_le _, Nat.zero_le _⟩ ?_
    first | exact tk hM (Keep.sf _ _ _) (by rw [pick_out q]) | exact tk hM (fun _ _ => rfl) (by rw [pick_in hl (by omega), pick_out c_18])
def worthN (V : Nat → Nat) (cc : Nat) (x : Int32) : Nat := sumN (fun h => if hasB x (nI h) = true then likedInN V cc h else 0) (V 0)
theorem worthN_le {V : Nat → Nat} (ok : VOK V) (cc : Nat) (x : Int32) : worthN V cc x ≤ 2160 := by
  have h0 := ok.1
  have := sumN_le (f := fun h => if hasB x (nI h) = true then likedInN V cc h else 0) (c := 90) (V 0) (fun i hi => by
    have := likedInN_le ok cc (h := i) (by omega)
    split <;> omega)
  unfold worthN
  omega
theorem nI_max {a b : Nat} (ha : a < 2 ^ 31) (hb : b < 2 ^ 31) : (if nI a ≤ nI b then nI b else nI a) = nI (max a b) := by
  simp only [nI_leI ha hb]
  split <;> congr 1 <;> omega
theorem nI_min {a b : Nat} (ha : a < 2 ^ 31) (hb : b < 2 ^ 31) : (if nI b ≤ nI a then nI b else nI a) = nI (min a b) := by
  simp only [nI_leI hb ha]
  split <;> congr 1 <;> omega
/-- the least cost of a bearer; 0 without -/
def cheapN (V : Nat → Nat) : Nat := foldN (fun b x => min x (V (30 + 2 * b))) (if V 5 = 0 then 0 else 1000000) (V 5)
set_option maxHeartbeats 4000000 in
set_option maxRecDepth 100000 in
theorem c_M_worthOf {G : GE} {h0 h : AH} {m : Nat} {S : MS} (hM : MW h0 h m S) {l : Nat} {V : Nat → Nat} (hS : HS S l V) (cc : Nat) (hcc : cc < 2 ^ 31) (x : Int32) : Ctr G y_M_worthOf b_M_worthOf 5 (some .int) r_M_worthOf [.ref m, .int (nI cc), .int x] h (Pu (.int (nI (worthN V cc x))) h) := by
  have hH := hS.ok.1
  generalize hf : (fun h => if hasB x (nI h) = true then likedInN V cc h else 0) = f
  have key : ∀ i, i ≤ V 0 → WA G y_M_worthOf b_M_worthOf 5 (some .int) r_M_worthOf 0 0 (Pu (.int (nI (worthN V cc x))) h) 0 0 5 [some (.ref m), some (.int (nI cc)), some (.int x), some (.int (nI (sumN f i))), some (.int (nI i))] [] h := by
    refine down ?_ (fun i hi ih => ?_)
    · refine A_iload4 d_M_worthOf_5 ?_
      refine A_aload_n0 d_M_worthOf_7 ?_
      refine A_getf (kf := 27) d_M_worthOf_8 hM.o ok_8 (by decide) q_1076 rfl ?_
      refine A_topI hS.hours ?_
      first | refine A_icmp_geN (tgt := 43) d_M_worthOf_11 (by decide) (by with_reducible rfl) (by with_reducible rfl) (by omega) (by omega) (fun c_11 => ?_) (fun c_11 => ?_) | refine A_icmp_ge (tgt := 43) d_M_worthOf_11 (by decide) (fun c_11 => ?_) (fun c_11 => ?_)
      · refine A_iload_n3 d_M_worthOf_43 ?_
        refine A_iret d_M_worthOf_44 rfl ⟨Nat.zero_le _, Nat.zero_le _⟩ ?_
        exact pu (by rw [worthN, hf])
      · exact absurd c_11 (by omega)
    · refine A_iload4 d_M_worthOf_5 ?_
      refine A_aload_n0 d_M_worthOf_7 ?_
      refine A_getf (kf := 27) d_M_worthOf_8 hM.o ok_8 (by decide) q_1076 rfl ?_
      refine A_topI hS.hours ?_
      first | refine A_icmp_geN (tgt := 43) d_M_worthOf_11 (by decide) (by with_reducible rfl) (by with_reducible rfl) (by omega) (by omega) (fun c_11 => ?_) (fun c_11 => ?_) | refine A_icmp_ge (tgt := 43) d_M_worthOf_11 (by decide) (fun c_11 => ?_) (fun c_11 => ?_)
      · exact absurd c_11 (by omega)
      · refine A_iload_n3 d_M_worthOf_14 ?_
        refine A_iload_n2 d_M_worthOf_15 ?_
        refine A_iload4 d_M_worthOf_16 ?_
        refine A_callSP d_M_worthOf_18 (c_M_has _ _ _) q_1553 q_1554 mk_M_has rfl (by decide) rfl (Nat.le_of_ble_eq_true rfl) ⟨Nat.le_of_ble_eq_true rfl, Nat.le_of_ble_eq_true rfl⟩ ⟨rfl, rfl⟩ ?_
        refine A_if_eqB (tgt := 34) d_M_worthOf_21 (by decide) (fun c_21 => ?_) (fun c_21 => ?_)
        · refine A_iconst (v := nI 0) d_M_worthOf_34 (by decide) ?_
          first | refine A_iaddN d_M_worthOf_35 (by with_reducible rfl) (by with_reducible rfl) ?_ | refine A_iadd d_M_worthOf_35 ?_
          refine A_istore3 d_M_worthOf_36 trivial ?_
          first | refine A_iinc4 d_M_worthOf_37 (nI_1 _) trivial ?_ | refine A_iinc4 d_M_worthOf_37 rfl trivial ?_
          refine A_goto (tgt := 5) d_M_worthOf_40 (by decide) ?_
          exact A_loc (by simp only [sumN, ← hf, c_11, c_21, reduceIte, Bool.false_eq_true]) ih
        · refine A_aload_n0 d_M_worthOf_24 ?_
          refine A_iload_n1 d_M_worthOf_25 ?_
          refine A_iload4 d_M_worthOf_26 ?_
          refine A_callVP d_M_worthOf_28 (c_M_likedIn hM hS cc i hcc (by omega)) hM.o rfl q_1379 q_1381 qs_42 mk_M_likedIn rfl (by decide) rfl (Nat.le_of_ble_eq_true rfl) ⟨Nat.le_of_ble_eq_true rfl, Nat.le_of_ble_eq_true rfl⟩ ⟨rfl, rfl⟩ ?_
          refine A_goto (tgt := 35) d_M_worthOf_31 (by decide) ?_
          first | refine A_iaddN d_M_worthOf_35 (by with_reducible rfl) (by with_reducible rfl) ?_ | refine A_iadd d_M_worthOf_35 ?_
          refine A_istore3 d_M_worthOf_36 trivial ?_
          first | refine A_iinc4 d_M_worthOf_37 (nI_1 _) trivial ?_ | refine A_iinc4 d_M_worthOf_37 rfl trivial ?_
          refine A_goto (tgt := 5) d_M_worthOf_40 (by decide) ?_
          exact A_loc (by simp only [sumN, ← hf, c_11, c_21, reduceIte, Bool.false_eq_true]) ih
  refine Ctr.of (by decide +kernel) (by simp) (Nat.le_of_ble_eq_true rfl) (L0 := [some (.ref m), some (.int (nI cc)), some (.int x), none, none]) rfl ?_
  refine A_iconst (v := nI 0) d_M_worthOf_0 (by decide) ?_
  refine A_istore3 d_M_worthOf_1 trivial ?_
  refine A_iconst (v := nI 0) d_M_worthOf_2 (by decide) ?_
  refine A_istore4 d_M_worthOf_3 trivial ?_
  exact key 0 (Nat.zero_le _)
theorem c_M_lesserN {G : GE} (a b : Nat) (ha : a < 2 ^ 31) (hb : b < 2 ^ 31) (h : AH) : Ctr G y_M_lesser b_M_lesser 2 (some .int) r_M_lesser [.int (nI a), .int (nI b)] h (Pu (.int (nI (min a b))) h) := by
  have := c_M_lesser (G := G) (nI a) (nI b) h
  rwa [nI_min ha hb] at this
theorem c_M_greaterN {G : GE} (a b : Nat) (ha : a < 2 ^ 31) (hb : b < 2 ^ 31) (h : AH) : Ctr G y_M_greater b_M_greater 2 (some .int) r_M_greater [.int (nI a), .int (nI b)] h (Pu (.int (nI (max a b))) h) := by
  have := c_M_greater (G := G) (nI a) (nI b) h
  rwa [nI_max ha hb] at this
set_option maxHeartbeats 4000000 in
set_option maxRecDepth 100000 in
theorem c_M_cheapest {G : GE} {h0 h : AH} {m : Nat} {S : MS} (hM : MW h0 h m S) {l : Nat} {V : Nat → Nat} (hS : HS S l V)  : Ctr G y_M_cheapest b_M_cheapest 3 (some .int) r_M_cheapest [.ref m] h (Pu (.int (nI (cheapN V))) h) := by
  have hB := hS.ok.2.2.2.2.2.1
  generalize hx : (if V 5 = 0 then 0 else 1000000) = x0
  have hx0 : x0 ≤ 1000000 := by rw [← hx]; split <;> omega
  generalize hf : (fun b x => min x (V (30 + 2 * b))) = f
  have hle : ∀ i, foldN f x0 i ≤ 1000000 := by
    intro i
    induction i with
    | zero => exact hx0
    | succ i ih => rw [foldN, ← hf]; rw [← hf] at ih; dsimp only; omega
  have key : ∀ i, i ≤ V 5 → WA G y_M_cheapest b_M_cheapest 3 (some .int) r_M_cheapest 0 0 (Pu (.int (nI (cheapN V))) h) 0 0 17 [some (.ref m), some (.int (nI (foldN f x0 i))), some (.int (nI i))] [] h := by
    refine down ?_ (fun i hi ih => ?_)
    · refine A_iload_n2 d_M_cheapest_17 ?_
      refine A_aload_n0 d_M_cheapest_18 ?_
      refine A_getf (kf := 30) d_M_cheapest_19 hM.o ok_8 (by decide) q_1079 rfl ?_
      refine A_topI hS.bearers ?_
      first | refine A_icmp_geN (tgt := 46) d_M_cheapest_22 (by decide) (by with_reducible rfl) (by with_reducible rfl) (by omega) (by omega) (fun c_22 => ?_) (fun c_22 => ?_) | refine A_icmp_ge (tgt := 46) d_M_cheapest_22 (by decide) (fun c_22 => ?_) (fun c_22 => ?_)
      · refine A_iload_n1 d_M_cheapest_46 ?_
        refine A_iret d_M_cheapest_47 rfl ⟨Nat.zero_le _, Nat.zero_le _⟩ ?_
        exact pu (by rw [cheapN, hf, hx])
      · exact absurd c_22 (by omega)
    · refine A_iload_n2 d_M_cheapest_17 ?_
      refine A_aload_n0 d_M_cheapest_18 ?_
      refine A_getf (kf := 30) d_M_cheapest_19 hM.o ok_8 (by decide) q_1079 rfl ?_
      refine A_topI hS.bearers ?_
      first | refine A_icmp_geN (tgt := 46) d_M_cheapest_22 (by decide) (by with_reducible rfl) (by with_reducible rfl) (by omega) (by omega) (fun c_22 => ?_) (fun c_22 => ?_) | refine A_icmp_ge (tgt := 46) d_M_cheapest_22 (by decide) (fun c_22 => ?_) (fun c_22 => ?_)
      · exact absurd c_22 (by omega)
      · refine A_iload_n1 d_M_cheapest_25 ?_
        refine A_aload_n0 d_M_cheapest_26 ?_
        refine A_bipush (v := nI 30) d_M_cheapest_27 (by decide) ?_
        refine A_iconst (v := nI 2) d_M_cheapest_29 (by decide) ?_
        refine A_iload_n2 d_M_cheapest_30 ?_
        first | refine A_imulN d_M_cheapest_31 (by with_reducible rfl) (by with_reducible rfl) ?_ | refine A_imul d_M_cheapest_31 ?_
        first | refine A_iaddN d_M_cheapest_32 (by with_reducible rfl) (by with_reducible rfl) ?_ | refine A_iadd d_M_cheapest_32 ?_
        refine A_callVP d_M_cheapest_33 (c_M_of hM hS (30 + 2 * i) (by omega)) hM.o rfl q_1343 q_1345 qs_36 mk_M_of rfl (by decide) rfl (Nat.le_of_ble_eq_true rfl) ⟨Nat.le_of_ble_eq_true rfl, Nat.le_of_ble_eq_true rfl⟩ ⟨rfl, rfl⟩ ?_
        refine A_callSP d_M_cheapest_36 (c_M_lesserN _ _ (by have := hle i; omega) (by have := (hS.ok.2.2.2.2.2.2.2.1 i (by omega)).1; omega) _) q_1396 q_1397 mk_M_lesser rfl (by decide) rfl (Nat.le_of_ble_eq_true rfl) ⟨Nat.le_of_ble_eq_true rfl, Nat.le_of_ble_eq_true rfl⟩ ⟨rfl, rfl⟩ ?_
        refine A_istore1 d_M_cheapest_39 trivial ?_
        first | refine A_iinc2 d_M_cheapest_40 (nI_1 _) trivial ?_ | refine A_iinc2 d_M_cheapest_40 rfl trivial ?_
        refine A_goto (tgt := 17) d_M_cheapest_43 (by decide) ?_
        exact A_loc (by simp only [foldN, ← hf]) ih
  refine Ctr.of (by decide +kernel) (by simp) (Nat.le_of_ble_eq_true rfl) (L0 := [some (.ref m), none, none]) rfl ?_
  refine A_aload_n0 d_M_cheapest_0 ?_
  refine A_getf (kf := 30) d_M_cheapest_1 hM.o ok_8 (by decide) q_1079 rfl ?_
  refine A_topI hS.bearers ?_
  first | refine A_if_neN (tgt := 11) d_M_cheapest_4 (by decide) (by with_reducible rfl) (by omega) (fun c_4 => ?_) (fun c_4 => ?_) | refine A_if_ne (tgt := 11) d_M_cheapest_4 (by decide) (fun c_4 => ?_) (fun c_4 => ?_)
  · refine A_ldcw d_M_cheapest_11 q_1395 ?_
    refine A_istore1 d_M_cheapest_14 trivial ?_
    refine A_iconst (v := nI 0) d_M_cheapest_15 (by decide) ?_
    refine A_istore2 d_M_cheapest_16 trivial ?_
    rw [show x0 = _ from hx.symm] at key
    simp only [c_4, reduceIte] at key
    exact key 0 (Nat.zero_le _)
  · refine A_iconst (v := nI 0) d_M_cheapest_7 (by decide) ?_
    refine A_goto (tgt := 14) d_M_cheapest_8 (by decide) ?_
    refine A_istore1 d_M_cheapest_14 trivial ?_
    refine A_iconst (v := nI 0) d_M_cheapest_15 (by decide) ?_
    refine A_istore2 d_M_cheapest_16 trivial ?_
    rw [show x0 = _ from hx.symm] at key
    simp only [c_4, reduceIte] at key
    exact key 0 (Nat.zero_le _)
set_option maxHeartbeats 4000000 in
set_option maxRecDepth 100000 in
theorem c_M_awake {G : GE} {h0 h : AH} {m : Nat} {S : MS} (hM : MW h0 h m S) {l : Nat} {V : Nat → Nat} (hS : HS S l V) {d0 d1 : Nat} (e0 : S.1 32 = nI d0) (e1 : S.1 33 = nI d1) (b0 : d0 ≤ V 0) (b1 : d1 ≤ V 0) : Ctr G y_M_awake b_M_awake 3 (some .int) r_M_awake [.ref m] h (Pu (.int (awakeI V d0 d1)) h) := by
  have hP := hS.ok.2.2.2.2.1
  generalize hf : (fun p x => x ||| (if sleepsB V p (if V (42 + 27 * p + 0) = 0 then d0 else d1) = true then nI 0 else nI 1 <<< (nI p &&& 31))) = f
  have key : ∀ i, i ≤ V 4 → WA G y_M_awake b_M_awake 3 (some .int) r_M_awake 0 0 (Pu (.int (awakeI V d0 d1)) h) 0 0 4 [some (.ref m), some (.int (foldN f (nI 0) i)), some (.int (nI i))] [] h := by
    refine down ?_ (fun i hi ih => ?_)
    · refine A_iload_n2 d_M_awake_4 ?_
      refine A_aload_n0 d_M_awake_5 ?_
      refine A_getf (kf := 29) d_M_awake_6 hM.o ok_8 (by decide) q_1078 rfl ?_
      refine A_topI hS.people ?_
      first | refine A_icmp_geN (tgt := 46) d_M_awake_9 (by decide) (by with_reducible rfl) (by with_reducible rfl) (by omega) (by omega) (fun c_9 => ?_) (fun c_9 => ?_) | refine A_icmp_ge (tgt := 46) d_M_awake_9 (by decide) (fun c_9 => ?_) (fun c_9 => ?_)
      · refine A_iload_n1 d_M_awake_46 ?_
        refine A_iret d_M_awake_47 rfl ⟨Nat.zero_le _, Nat.zero_le _⟩ ?_
        exact pu (by rw [awakeI, hf])
      · exact absurd c_9 (by omega)
    · have hVi := (hS.ok.2.2.2.2.2.2.1 i (by omega)).1
      refine A_iload_n2 d_M_awake_4 ?_
      refine A_aload_n0 d_M_awake_5 ?_
      refine A_getf (kf := 29) d_M_awake_6 hM.o ok_8 (by decide) q_1078 rfl ?_
      refine A_topI hS.people ?_
      first | refine A_icmp_geN (tgt := 46) d_M_awake_9 (by decide) (by with_reducible rfl) (by with_reducible rfl) (by omega) (by omega) (fun c_9 => ?_) (fun c_9 => ?_) | refine A_icmp_ge (tgt := 46) d_M_awake_9 (by decide) (fun c_9 => ?_) (fun c_9 => ?_)
      · exact absurd c_9 (by omega)
      · refine A_iload_n1 d_M_awake_12 ?_
        refine A_aload_n0 d_M_awake_13 ?_
        refine A_iload_n2 d_M_awake_14 ?_
        refine A_aload_n0 d_M_awake_15 ?_
        refine A_aload_n0 d_M_awake_16 ?_
        refine A_iload_n2 d_M_awake_17 ?_
        refine A_iconst (v := nI 0) d_M_awake_18 (by decide) ?_
        refine A_callVP d_M_awake_19 (c_M_ofOne hM hS i 0 (by omega)) hM.o rfl q_1355 q_1357 qs_38 mk_M_ofOne rfl (by decide) rfl (Nat.le_of_ble_eq_true rfl) ⟨Nat.le_of_ble_eq_true rfl, Nat.le_of_ble_eq_true rfl⟩ ⟨rfl, rfl⟩ ?_
        refine A_callVP d_M_awake_22 (c_M_darkOf hM _) hM.o rfl q_1407 q_1409 qs_48 mk_M_darkOf rfl (by decide) rfl (Nat.le_of_ble_eq_true rfl) ⟨Nat.le_of_ble_eq_true rfl, Nat.le_of_ble_eq_true rfl⟩ ⟨rfl, rfl⟩ ?_
        refine A_topN (k := if V (42 + 27 * i + 0) = 0 then d0 else d1) (by simp only [show (nI (V (42 + 27 * i + 0)) = 0) = (V (42 + 27 * i + 0) = 0) from propext (nI_eq (a := V (42 + 27 * i + 0)) (b := 0) (by omega) (by decide)), e0, e1]; split <;> rfl) ?_
        refine A_callVP d_M_awake_25 (c_M_sleeps hM hS i _ (by omega) (by split <;> omega)) hM.o rfl q_1415 q_1417 qs_50 mk_M_sleeps rfl (by decide) rfl (Nat.le_of_ble_eq_true rfl) ⟨Nat.le_of_ble_eq_true rfl, Nat.le_of_ble_eq_true rfl⟩ ⟨rfl, rfl⟩ ?_
        refine A_if_eqB (tgt := 35) d_M_awake_28 (by decide) (fun c_28 => ?_) (fun c_28 => ?_)
        · refine A_iconst (v := nI 1) d_M_awake_35 (by decide) ?_
          refine A_iload_n2 d_M_awake_36 ?_
          refine A_ishl d_M_awake_37 ?_
          refine A_ior d_M_awake_38 ?_
          refine A_istore1 d_M_awake_39 trivial ?_
          first | refine A_iinc2 d_M_awake_40 (nI_1 _) trivial ?_ | refine A_iinc2 d_M_awake_40 rfl trivial ?_
          refine A_goto (tgt := 4) d_M_awake_43 (by decide) ?_
          exact A_loc (by simp only [foldN, ← hf, c_9, c_28, reduceIte, Bool.false_eq_true]) ih
        · refine A_iconst (v := nI 0) d_M_awake_31 (by decide) ?_
          refine A_goto (tgt := 38) d_M_awake_32 (by decide) ?_
          refine A_ior d_M_awake_38 ?_
          refine A_istore1 d_M_awake_39 trivial ?_
          first | refine A_iinc2 d_M_awake_40 (nI_1 _) trivial ?_ | refine A_iinc2 d_M_awake_40 rfl trivial ?_
          refine A_goto (tgt := 4) d_M_awake_43 (by decide) ?_
          exact A_loc (by simp only [foldN, ← hf, c_9, c_28, reduceIte, Bool.false_eq_true]) ih
  refine Ctr.of (by decide +kernel) (by simp) (Nat.le_of_ble_eq_true rfl) (L0 := [some (.ref m), none, none]) rfl ?_
  refine A_iconst (v := nI 0) d_M_awake_0 (by decide) ?_
  refine A_istore1 d_M_awake_1 trivial ?_
  refine A_iconst (v := nI 0) d_M_awake_2 (by decide) ?_
  refine A_istore2 d_M_awake_3 trivial ?_
  exact key 0 (Nat.zero_le _)
