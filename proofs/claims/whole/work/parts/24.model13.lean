def ltB (w : Nat → Nat) (H cc x : Nat) : Bool := !decide (w (x % H) = cc)
def goB (V w : Nat → Nat) (cc x n : Nat) : Bool := foldN (fun k b => b && ltB w (V 0) (1 - cc) (x + V 3 + k)) (ltB w (V 0) cc x && ltB w (V 0) cc (x + 2 * V 3 + n)) n
def errV (V w : Nat → Nat) (p x n : Nat) (wt : Int32) : Int32 := firstU (fun k => goB V w (V (42 + 27 * p + 0)) (x + k) n) (fun k => if wt = 0 then nI (k + n + 2 * V 3) else nI k) (-1) (V 0) 0
def meetV (V w : Nat → Nat) (p q x : Nat) : Int32 := firstU (fun k => ltB w (V 0) (V (42 + 27 * p + 0)) (x + k) && ltB w (V 0) (V (42 + 27 * q + 0)) (x + k)) (fun k => nI k) (-1) (V 0) 0
set_option maxHeartbeats 4000000 in
set_option maxRecDepth 100000 in
theorem c_M_isLight {G : GE} {h0 h : AH} {m : Nat} {S : MS} (hM : MW h0 h m S) {l : Nat} {V : Nat → Nat} (hS : HS S l V) {w : Nat → Nat} (hw : RW S w (V 0)) (cc x : Nat) (hcc : cc < 2 ^ 31) (hx : x < 2 ^ 31) : Ctr G y_M_isLight b_M_isLight 3 (some .boolean) r_M_isLight [.ref m, .int (nI cc), .int (nI x)] h (Pu (.int (bI (ltB w (V 0) cc x))) h) := by
  have hH := hS.ok.1
  have hlt : x % V 0 < V 0 := Nat.mod_lt _ (by omega)
  have hw2 := (hw _ hlt).2
  refine Ctr.of (by decide +kernel) (by simp) (Nat.le_of_ble_eq_true rfl) (L0 := [some (.ref m), some (.int (nI cc)), some (.int (nI x))]) rfl ?_
  refine A_aload_n0 d_M_isLight_0 ?_
  refine A_getf (kf := 31) d_M_isLight_1 hM.o ok_8 (by decide) q_1080 rfl ?_
  refine A_iload_n2 d_M_isLight_4 ?_
  refine A_aload_n0 d_M_isLight_5 ?_
  refine A_getf (kf := 27) d_M_isLight_6 hM.o ok_8 (by decide) q_1076 rfl ?_
  refine A_topI hS.hours ?_
  refine A_iremN d_M_isLight_9 (by with_reducible rfl) (by with_reducible rfl) (by omega) ?_
  refine A_ialdN d_M_isLight_10 hM.a31 ⟨by omega, by decide⟩ ?_
  refine A_topI (hw _ hlt).1 ?_
  refine A_iload_n1 d_M_isLight_11 ?_
  first | refine A_icmp_eqN (tgt := 19) d_M_isLight_12 (by decide) (by with_reducible rfl) (by with_reducible rfl) (by omega) (by omega) (fun c_12 => ?_) (fun c_12 => ?_) | refine A_icmp_eq (tgt := 19) d_M_isLight_12 (by decide) (fun c_12 => ?_) (fun c_12 => ?_)
  · refine A_iconst (v := nI 0) d_M_isLight_19 (by decide) ?_
    refine A_zret d_M_isLight_20 rfl (by first | rfl | exact bI_nar _ | decide) ⟨Nat.zero_le _, Nat.zero_le _⟩ ?_
    exact pu (by simp only [ltB, bI, c_12, decide_true, decide_false, Bool.not_true, Bool.not_false, reduceIte, Bool.false_eq_true])
  · refine A_iconst (v := nI 1) d_M_isLight_15 (by decide) ?_
    refine A_goto (tgt := 20) d_M_isLight_16 (by decide) ?_
    refine A_zret d_M_isLight_20 rfl (by first | rfl | exact bI_nar _ | decide) ⟨Nat.zero_le _, Nat.zero_le _⟩ ?_
    exact pu (by simp only [ltB, bI, c_12, decide_true, decide_false, Bool.not_true, Bool.not_false, reduceIte, Bool.false_eq_true])
set_option maxHeartbeats 4000000 in
set_option maxRecDepth 100000 in
theorem c_M_canGo {G : GE} {h0 h : AH} {m : Nat} {S : MS} (hM : MW h0 h m S) {l : Nat} {V : Nat → Nat} (hS : HS S l V) {w : Nat → Nat} (hw : RW S w (V 0)) (cc x z : Nat) (hcc : cc ≤ 1) (hx : x < 1000) (hz : z ≤ 12) : Ctr G y_M_canGo b_M_canGo 7 (some .boolean) r_M_canGo [.ref m, .int (nI cc), .int (nI x), .int (nI z)] h (Pu (.int (bI (goB V w cc x z))) h) := by
  have hH := hS.ok.1
  have hV3 := hS.ok.2.2.2.1
  generalize hf : (fun k b => b && ltB w (V 0) (1 - cc) (x + V 3 + k)) = f
  generalize hb : (ltB w (V 0) cc x && ltB w (V 0) cc (x + 2 * V 3 + z)) = b0
  have key : ∀ i, i ≤ z → WA G y_M_canGo b_M_canGo 7 (some .boolean) r_M_canGo 0 0 (Pu (.int (bI (goB V w cc x z))) h) 0 0 42 [some (.ref m), some (.int (nI cc)), some (.int (nI x)), some (.int (nI z)), some (.int (nI (V 3))), some (.int (bI (foldN f b0 i))), some (.int (nI i))] [] h := by
    refine down ?_ (fun i hi ih => ?_)
    · refine A_iload6 d_M_canGo_42 ?_
      refine A_iload_n3 d_M_canGo_44 ?_
      first | refine A_icmp_geN (tgt := 83) d_M_canGo_45 (by decide) (by with_reducible rfl) (by with_reducible rfl) (by omega) (by omega) (fun c_45 => ?_) (fun c_45 => ?_) | refine A_icmp_ge (tgt := 83) d_M_canGo_45 (by decide) (fun c_45 => ?_) (fun c_45 => ?_)
      · refine A_iload5 d_M_canGo_83 ?_
        refine A_zret d_M_canGo_85 rfl (by first | rfl | exact bI_nar _ | decide) ⟨Nat.zero_le _, Nat.zero_le _⟩ ?_
        exact pu (by rw [goB, hf, hb])
      · exact absurd c_45 (by omega)
    · refine A_iload6 d_M_canGo_42 ?_
      refine A_iload_n3 d_M_canGo_44 ?_
      first | refine A_icmp_geN (tgt := 83) d_M_canGo_45 (by decide) (by with_reducible rfl) (by with_reducible rfl) (by omega) (by omega) (fun c_45 => ?_) (fun c_45 => ?_) | refine A_icmp_ge (tgt := 83) d_M_canGo_45 (by decide) (fun c_45 => ?_) (fun c_45 => ?_)
      · exact absurd c_45 (by omega)
      · refine A_iload5 d_M_canGo_48 ?_
        refine A_if_eqB (tgt := 74) d_M_canGo_50 (by decide) (fun c_50 => ?_) (fun c_50 => ?_)
        · refine A_iconst (v := nI 0) d_M_canGo_74 (by decide) ?_
          refine A_istore5 d_M_canGo_75 trivial ?_
          first | refine A_iinc6 d_M_canGo_77 (nI_1 _) trivial ?_ | refine A_iinc6 d_M_canGo_77 rfl trivial ?_
          refine A_goto (tgt := 42) d_M_canGo_80 (by decide) ?_
          exact A_loc (by simp only [foldN, ← hf] at *; simp only [c_45, c_50, bI, Bool.false_and, Bool.true_and, reduceIte, Bool.false_eq_true]) ih
        · refine A_aload_n0 d_M_canGo_53 ?_
          refine A_iconst (v := nI 1) d_M_canGo_54 (by decide) ?_
          refine A_iload_n1 d_M_canGo_55 ?_
          first | refine A_isubN d_M_canGo_56 (by with_reducible rfl) (by with_reducible rfl) (by omega) ?_ | refine A_isub d_M_canGo_56 ?_
          refine A_iload_n2 d_M_canGo_57 ?_
          refine A_iload4 d_M_canGo_58 ?_
          first | refine A_iaddN d_M_canGo_60 (by with_reducible rfl) (by with_reducible rfl) ?_ | refine A_iadd d_M_canGo_60 ?_
          refine A_iload6 d_M_canGo_61 ?_
          first | refine A_iaddN d_M_canGo_63 (by with_reducible rfl) (by with_reducible rfl) ?_ | refine A_iadd d_M_canGo_63 ?_
          refine A_callVP d_M_canGo_64 (c_M_isLight hM hS hw _ _ (by omega) (by omega)) hM.o rfl q_1697 q_1699 qs_101 mk_M_isLight rfl (by decide) rfl (Nat.le_of_ble_eq_true rfl) ⟨Nat.le_of_ble_eq_true rfl, Nat.le_of_ble_eq_true rfl⟩ ⟨rfl, rfl⟩ ?_
          refine A_if_eqB (tgt := 74) d_M_canGo_67 (by decide) (fun c_67 => ?_) (fun c_67 => ?_)
          · refine A_iconst (v := nI 0) d_M_canGo_74 (by decide) ?_
            refine A_istore5 d_M_canGo_75 trivial ?_
            first | refine A_iinc6 d_M_canGo_77 (nI_1 _) trivial ?_ | refine A_iinc6 d_M_canGo_77 rfl trivial ?_
            refine A_goto (tgt := 42) d_M_canGo_80 (by decide) ?_
            exact A_loc (by simp only [foldN, ← hf] at *; simp only [c_45, c_50, c_67, bI, Bool.false_and, Bool.true_and, reduceIte, Bool.false_eq_true]) ih
          · refine A_iconst (v := nI 1) d_M_canGo_70 (by decide) ?_
            refine A_goto (tgt := 75) d_M_canGo_71 (by decide) ?_
            refine A_istore5 d_M_canGo_75 trivial ?_
            first | refine A_iinc6 d_M_canGo_77 (nI_1 _) trivial ?_ | refine A_iinc6 d_M_canGo_77 rfl trivial ?_
            refine A_goto (tgt := 42) d_M_canGo_80 (by decide) ?_
            exact A_loc (by simp only [foldN, ← hf] at *; simp only [c_45, c_50, c_67, bI, Bool.false_and, Bool.true_and, reduceIte, Bool.false_eq_true]) ih
  refine Ctr.of (by decide +kernel) (by simp) (Nat.le_of_ble_eq_true rfl) (L0 := [some (.ref m), some (.int (nI cc)), some (.int (nI x)), some (.int (nI z)), none, none, none]) rfl ?_
  refine A_aload_n0 d_M_canGo_0 ?_
  refine A_iconst (v := nI 3) d_M_canGo_1 (by decide) ?_
  refine A_callVP d_M_canGo_2 (c_M_of hM hS 3 (by decide)) hM.o rfl q_1343 q_1345 qs_36 mk_M_of rfl (by decide) rfl (Nat.le_of_ble_eq_true rfl) ⟨Nat.le_of_ble_eq_true rfl, Nat.le_of_ble_eq_true rfl⟩ ⟨rfl, rfl⟩ ?_
  refine A_istore4 d_M_canGo_5 trivial ?_
  refine A_aload_n0 d_M_canGo_7 ?_
  refine A_iload_n1 d_M_canGo_8 ?_
  refine A_iload_n2 d_M_canGo_9 ?_
  refine A_callVP d_M_canGo_10 (c_M_isLight hM hS hw _ _ (by omega) (by omega)) hM.o rfl q_1697 q_1699 qs_101 mk_M_isLight rfl (by decide) rfl (Nat.le_of_ble_eq_true rfl) ⟨Nat.le_of_ble_eq_true rfl, Nat.le_of_ble_eq_true rfl⟩ ⟨rfl, rfl⟩ ?_
  refine A_if_eqB (tgt := 36) d_M_canGo_13 (by decide) (fun c_13 => ?_) (fun c_13 => ?_)
  · refine A_iconst (v := nI 0) d_M_canGo_36 (by decide) ?_
    refine A_istore5 d_M_canGo_37 trivial ?_
    refine A_iconst (v := nI 0) d_M_canGo_39 (by decide) ?_
    refine A_istore6 d_M_canGo_40 trivial ?_
    exact A_loc (by rw [← hb]; simp only [c_13, foldN, bI, Bool.false_and, Bool.true_and, Bool.and_false, reduceIte, Bool.false_eq_true]) (key 0 (Nat.zero_le _))
  · refine A_aload_n0 d_M_canGo_16 ?_
    refine A_iload_n1 d_M_canGo_17 ?_
    refine A_iload_n2 d_M_canGo_18 ?_
    refine A_iconst (v := nI 2) d_M_canGo_19 (by decide) ?_
    refine A_iload4 d_M_canGo_20 ?_
    first | refine A_imulN d_M_canGo_22 (by with_reducible rfl) (by with_reducible rfl) ?_ | refine A_imul d_M_canGo_22 ?_
    first | refine A_iaddN d_M_canGo_23 (by with_reducible rfl) (by with_reducible rfl) ?_ | refine A_iadd d_M_canGo_23 ?_
    refine A_iload_n3 d_M_canGo_24 ?_
    first | refine A_iaddN d_M_canGo_25 (by with_reducible rfl) (by with_reducible rfl) ?_ | refine A_iadd d_M_canGo_25 ?_
    refine A_callVP d_M_canGo_26 (c_M_isLight hM hS hw _ _ (by omega) (by omega)) hM.o rfl q_1697 q_1699 qs_101 mk_M_isLight rfl (by decide) rfl (Nat.le_of_ble_eq_true rfl) ⟨Nat.le_of_ble_eq_true rfl, Nat.le_of_ble_eq_true rfl⟩ ⟨rfl, rfl⟩ ?_
    refine A_if_eqB (tgt := 36) d_M_canGo_29 (by decide) (fun c_29 => ?_) (fun c_29 => ?_)
    · refine A_iconst (v := nI 0) d_M_canGo_36 (by decide) ?_
      refine A_istore5 d_M_canGo_37 trivial ?_
      refine A_iconst (v := nI 0) d_M_canGo_39 (by decide) ?_
      refine A_istore6 d_M_canGo_40 trivial ?_
      exact A_loc (by rw [← hb]; simp only [c_13, c_29, foldN, bI, Bool.false_and, Bool.true_and, Bool.and_false, reduceIte, Bool.false_eq_true]) (key 0 (Nat.zero_le _))
    · refine A_iconst (v := nI 1) d_M_canGo_32 (by decide) ?_
      refine A_goto (tgt := 37) d_M_canGo_33 (by decide) ?_
      refine A_istore5 d_M_canGo_37 trivial ?_
      refine A_iconst (v := nI 0) d_M_canGo_39 (by decide) ?_
      refine A_istore6 d_M_canGo_40 trivial ?_
      exact A_loc (by rw [← hb]; simp only [c_13, c_29, foldN, bI, Bool.false_and, Bool.true_and, Bool.and_false, reduceIte, Bool.false_eq_true]) (key 0 (Nat.zero_le _))
set_option maxHeartbeats 4000000 in
set_option maxRecDepth 100000 in
theorem c_M_errand {G : GE} {h0 h : AH} {m : Nat} {S : MS} (hM : MW h0 h m S) {c : Nat → Nat} {VL WT BK SG GM : Nat → Nat → Nat} (hp : MP S c VL WT BK SG GM) (la ta pa ha na wt : Int32) : Ctr G y_M_errand b_M_errand 8 (some .int) r_M_errand [.ref m, .int la, .int ta, .int pa, .int ha, .int na, .int wt] h (TK h0 m S (.int (rg na 1 12 (fun nn => pick (c 0) la (fun l => pick (c 1) ta (fun t => pick (VL l 4) pa (fun p => pick (VL l 0) ha (fun x => errV (VL l) (WT t) p x nn wt) (-1)) (-1)) (-1)) (-1)) (-1)))) := by
  have hc0 := (hp.1 0 (by decide)).2
  have hc1 := (hp.1 1 (by decide)).2
  refine Ctr.of (by decide +kernel) (by simp) (Nat.le_of_ble_eq_true rfl) (L0 := [some (.ref m), some (.int la), some (.int ta), some (.int pa), some (.int ha), some (.int na), some (.int wt), none]) rfl ?_
  refine A_aload_n0 d_M_errand_0 ?_
  refine A_iconst (v := nI 0) d_M_errand_1 (by decide) ?_
  refine A_putM hM (kf := 0) (ty := .int) d_M_errand_2 (by decide) q_1049 rfl (by decide +kernel) (by first | rfl | exact bI_nar _) rfl (Nat.le_of_ble_eq_true rfl) rfl (fun h hM => ?_)
  have hp := hp.keep (Keep.sf _ 0 (nI 0))
  refine A_iload5 d_M_errand_5 ?_
  refine A_iconst (v := nI 1) d_M_errand_7 (by decide) ?_
  refine A_bipush (v := nI 12) d_M_errand_8 (by decide) ?_
  refine A_callSP d_M_errand_10 (c_M_in _ _ _ _) q_1231 q_1232 mk_M_in rfl (by decide) rfl (Nat.le_of_ble_eq_true rfl) ⟨Nat.le_of_ble_eq_true rfl, Nat.le_of_ble_eq_true rfl⟩ ⟨rfl, rfl⟩ ?_
  refine A_if_eqB (tgt := 42) d_M_errand_13 (by decide) (fun c_13 => ?_) (fun c_13 => ?_)
  · refine A_iconst (v := (-1)) d_M_errand_42 (by decide) ?_
    refine A_iret d_M_errand_43 rfl ⟨Nat.zero_le _, Nat.zero_le _⟩ ?_
    first | exact tk hM (fun _ _ => rfl) (by rw [rg_out c_13]) | exact tk hM (fun k hk2 => hk k hk2) (by rw [rg_in ⟨hn1, hn2⟩ (by decide)]; exact pick2_out q) | exact tk hM (fun k hk2 => hk k hk2) (by rw [rg_in ⟨hn1, hn2⟩ (by decide), pick_in hl (by omega), pick_in ht (by omega), pick_out c_30]) | exact tk hM (fun k hk2 => hk k hk2) (by rw [rg_in ⟨hn1, hn2⟩ (by decide), pick_in hl (by omega), pick_in ht (by omega), pick_in hpp (by omega), pick_out c_39])
  · obtain ⟨nn, rfl, hn1, hn2⟩ := inB_ex (by decide) c_13
    refine A_aload_n0 d_M_errand_16 ?_
    refine A_iload_n1 d_M_errand_17 ?_
    refine A_iload_n2 d_M_errand_18 ?_
    refine A_callV d_M_errand_19 (c_M_layRow hM hp la ta) hM.o rfl q_1371 q_1373 qs_40 mk_M_layRow rfl (by decide) rfl (Nat.le_of_ble_eq_true rfl) ⟨Nat.le_of_ble_eq_true rfl, Nat.le_of_ble_eq_true rfl⟩ (fun v h1 hv => ?_)
    rcases hv with ⟨l', t', rfl, rfl, hl, ht, rfl, S2, hM, hL, hk, hkf⟩ | ⟨q, rfl, S2, hM, hk⟩
    · obtain ⟨hS, hw, e0, e1⟩ := hL
      obtain ⟨b0, b1, b2, b3, b4, b5, bp, bb, bt⟩ := hS.ok
      have hp := hp.keep hk
      refine A_if_eqB (tgt := 42) d_M_errand_22 (by decide) (fun c => absurd c (by decide)) (fun c_22 => ?_)
      refine A_aload_n0 d_M_errand_25 ?_
      refine A_iload_n3 d_M_errand_26 ?_
      refine A_callVP d_M_errand_27 (c_M_isOne hM pa) hM.o rfl q_1351 q_1353 qs_37 mk_M_isOne rfl (by decide) rfl (Nat.le_of_ble_eq_true rfl) ⟨Nat.le_of_ble_eq_true rfl, Nat.le_of_ble_eq_true rfl⟩ ⟨rfl, rfl⟩ ?_
      refine A_topI (by rw [hS.people]) ?_
      refine A_if_eqB (tgt := 42) d_M_errand_30 (by decide) (fun c_30 => ?_) (fun c_30 => ?_)
      · refine A_iconst (v := (-1)) d_M_errand_42 (by decide) ?_
        refine A_iret d_M_errand_43 rfl ⟨Nat.zero_le _, Nat.zero_le _⟩ ?_
        first | exact tk hM (fun _ _ => rfl) (by rw [rg_out c_13]) | exact tk hM (fun k hk2 => hk k hk2) (by rw [rg_in ⟨hn1, hn2⟩ (by decide)]; exact pick2_out q) | exact tk hM (fun k hk2 => hk k hk2) (by rw [rg_in ⟨hn1, hn2⟩ (by decide), pick_in hl (by omega), pick_in ht (by omega), pick_out c_30]) | exact tk hM (fun k hk2 => hk k hk2) (by rw [rg_in ⟨hn1, hn2⟩ (by decide), pick_in hl (by omega), pick_in ht (by omega), pick_in hpp (by omega), pick_out c_39])
      · obtain ⟨p, rfl, hpp⟩ := inB_nat (by omega) c_30
        refine A_aload_n0 d_M_errand_33 ?_
        refine A_iload4 d_M_errand_34 ?_
        refine A_callVP d_M_errand_36 (c_M_isHour hM ha) hM.o rfl q_1661 q_1663 qs_94 mk_M_isHour rfl (by decide) rfl (Nat.le_of_ble_eq_true rfl) ⟨Nat.le_of_ble_eq_true rfl, Nat.le_of_ble_eq_true rfl⟩ ⟨rfl, rfl⟩ ?_
        refine A_topI (by rw [hS.hours]) ?_
        refine A_if_neB (tgt := 44) d_M_errand_39 (by decide) (fun c_39 => ?_) (fun c_39 => ?_)
        · obtain ⟨x, rfl, hxx⟩ := inB_nat (by omega) c_39
          refine A_iconst (v := nI 0) d_M_errand_44 (by decide) ?_
          refine A_istore7 d_M_errand_45 trivial ?_
          rw [rg_in ⟨hn1, hn2⟩ (by decide), pick_in hl (by omega), pick_in ht (by omega), pick_in hpp (by omega), pick_in hxx (by omega), errV]
          have key : ∀ i, i ≤ (VL l') 0 → WA G y_M_errand b_M_errand 8 (some .int) r_M_errand 0 0 (TK h0 m S (.int (firstU (fun k => goB (VL l') (WT t') ((VL l') (42 + 27 * p + 0)) (x + k) nn) (fun k => if wt = 0 then nI (k + nn + 2 * (VL l') 3) else nI k) (-1) ((VL l') 0) i))) 0 0 47 [some (.ref m), some (.int (nI l')), some (.int (nI t')), some (.int (nI p)), some (.int (nI x)), some (.int (nI nn)), some (.int wt), some (.int (nI i))] [] h1 := by
            refine down ?_ (fun i hi ih => ?_)
            · refine A_iload7 d_M_errand_47 ?_
              refine A_aload_n0 d_M_errand_49 ?_
              refine A_getf (kf := 27) d_M_errand_50 hM.o ok_8 (by decide) q_1076 rfl ?_
              refine A_topI hS.hours ?_
              first | refine A_icmp_geN (tgt := 106) d_M_errand_53 (by decide) (by with_reducible rfl) (by with_reducible rfl) (by omega) (by omega) (fun c_53 => ?_) (fun c_53 => ?_) | refine A_icmp_ge (tgt := 106) d_M_errand_53 (by decide) (fun c_53 => ?_) (fun c_53 => ?_)
              · refine A_iconst (v := (-1)) d_M_errand_106 (by decide) ?_
                refine A_iret d_M_errand_107 rfl ⟨Nat.zero_le _, Nat.zero_le _⟩ ?_
                exact tk hM (fun k hk2 => hk k hk2) (by rw [firstU_end])
              · exact absurd c_53 (by omega)
            · refine A_iload7 d_M_errand_47 ?_
              refine A_aload_n0 d_M_errand_49 ?_
              refine A_getf (kf := 27) d_M_errand_50 hM.o ok_8 (by decide) q_1076 rfl ?_
              refine A_topI hS.hours ?_
              first | refine A_icmp_geN (tgt := 106) d_M_errand_53 (by decide) (by with_reducible rfl) (by with_reducible rfl) (by omega) (by omega) (fun c_53 => ?_) (fun c_53 => ?_) | refine A_icmp_ge (tgt := 106) d_M_errand_53 (by decide) (fun c_53 => ?_) (fun c_53 => ?_)
              · exact absurd c_53 (by omega)
              · refine A_aload_n0 d_M_errand_56 ?_
                refine A_aload_n0 d_M_errand_57 ?_
                refine A_iload_n3 d_M_errand_58 ?_
                refine A_iconst (v := nI 0) d_M_errand_59 (by decide) ?_
                refine A_callVP d_M_errand_60 (c_M_ofOne hM hS p 0 (by omega)) hM.o rfl q_1355 q_1357 qs_38 mk_M_ofOne rfl (by decide) rfl (Nat.le_of_ble_eq_true rfl) ⟨Nat.le_of_ble_eq_true rfl, Nat.le_of_ble_eq_true rfl⟩ ⟨rfl, rfl⟩ ?_
                refine A_iload4 d_M_errand_63 ?_
                refine A_iload7 d_M_errand_65 ?_
                first | refine A_iaddN d_M_errand_67 (by with_reducible rfl) (by with_reducible rfl) ?_ | refine A_iadd d_M_errand_67 ?_
                refine A_iload5 d_M_errand_68 ?_
                refine A_callVP d_M_errand_70 (c_M_canGo hM hS hw _ (x + i) nn (bp p (by omega)).1 (by omega) (by omega)) hM.o rfl q_1693 q_1695 qs_100 mk_M_canGo rfl (by decide) rfl (Nat.le_of_ble_eq_true rfl) ⟨Nat.le_of_ble_eq_true rfl, Nat.le_of_ble_eq_true rfl⟩ ⟨rfl, rfl⟩ ?_
                refine A_if_eqB (tgt := 100) d_M_errand_73 (by decide) (fun c_73 => ?_) (fun c_73 => ?_)
                · first | refine A_iinc7 d_M_errand_100 (nI_1 _) trivial ?_ | refine A_iinc7 d_M_errand_100 rfl trivial ?_
                  refine A_goto (tgt := 47) d_M_errand_103 (by decide) ?_
                  rw [firstU_step _ _ _ hi, if_neg (by rw [c_73]; decide)]
                  exact ih
                · refine A_iload6 d_M_errand_76 ?_
                  first | refine A_if_eqN (tgt := 86) d_M_errand_78 (by decide) (by with_reducible rfl) (by omega) (fun c_78 => ?_) (fun c_78 => ?_) | refine A_if_eq (tgt := 86) d_M_errand_78 (by decide) (fun c_78 => ?_) (fun c_78 => ?_)
                  · refine A_iload7 d_M_errand_86 ?_
                    refine A_iload5 d_M_errand_88 ?_
                    first | refine A_iaddN d_M_errand_90 (by with_reducible rfl) (by with_reducible rfl) ?_ | refine A_iadd d_M_errand_90 ?_
                    refine A_iconst (v := nI 2) d_M_errand_91 (by decide) ?_
                    refine A_aload_n0 d_M_errand_92 ?_
                    refine A_iconst (v := nI 3) d_M_errand_93 (by decide) ?_
                    refine A_callVP d_M_errand_94 (c_M_of hM hS 3 (by decide)) hM.o rfl q_1343 q_1345 qs_36 mk_M_of rfl (by decide) rfl (Nat.le_of_ble_eq_true rfl) ⟨Nat.le_of_ble_eq_true rfl, Nat.le_of_ble_eq_true rfl⟩ ⟨rfl, rfl⟩ ?_
                    first | refine A_imulN d_M_errand_97 (by with_reducible rfl) (by with_reducible rfl) ?_ | refine A_imul d_M_errand_97 ?_
                    first | refine A_iaddN d_M_errand_98 (by with_reducible rfl) (by with_reducible rfl) ?_ | refine A_iadd d_M_errand_98 ?_
                    refine A_iret d_M_errand_99 rfl ⟨Nat.zero_le _, Nat.zero_le _⟩ ?_
                    exact tk hM (fun k hk2 => hk k hk2) (by rw [firstU_step _ _ _ hi, if_pos c_73]; first | rw [if_pos c_78] | rw [if_neg c_78])
                  · refine A_iload7 d_M_errand_81 ?_
                    refine A_goto (tgt := 99) d_M_errand_83 (by decide) ?_
                    refine A_iret d_M_errand_99 rfl ⟨Nat.zero_le _, Nat.zero_le _⟩ ?_
                    exact tk hM (fun k hk2 => hk k hk2) (by rw [firstU_step _ _ _ hi, if_pos c_73]; first | rw [if_pos c_78] | rw [if_neg c_78])
          exact key 0 (Nat.zero_le _)
        · refine A_iconst (v := (-1)) d_M_errand_42 (by decide) ?_
          refine A_iret d_M_errand_43 rfl ⟨Nat.zero_le _, Nat.zero_le _⟩ ?_
          first | exact tk hM (fun _ _ => rfl) (by rw [rg_out c_13]) | exact tk hM (fun k hk2 => hk k hk2) (by rw [rg_in ⟨hn1, hn2⟩ (by decide)]; exact pick2_out q) | exact tk hM (fun k hk2 => hk k hk2) (by rw [rg_in ⟨hn1, hn2⟩ (by decide), pick_in hl (by omega), pick_in ht (by omega), pick_out c_30]) | exact tk hM (fun k hk2 => hk k hk2) (by rw [rg_in ⟨hn1, hn2⟩ (by decide), pick_in hl (by omega), pick_in ht (by omega), pick_in hpp (by omega), pick_out c_39])
    · have hp := hp.keep hk
      refine A_if_eqB (tgt := 42) d_M_errand_22 (by decide) (fun c_22 => ?_) (fun c => absurd c (by decide))
      refine A_iconst (v := (-1)) d_M_errand_42 (by decide) ?_
      refine A_iret d_M_errand_43 rfl ⟨Nat.zero_le _, Nat.zero_le _⟩ ?_
      first | exact tk hM (fun _ _ => rfl) (by rw [rg_out c_13]) | exact tk hM (fun k hk2 => hk k hk2) (by rw [rg_in ⟨hn1, hn2⟩ (by decide)]; exact pick2_out q) | exact tk hM (fun k hk2 => hk k hk2) (by rw [rg_in ⟨hn1, hn2⟩ (by decide), pick_in hl (by omega), pick_in ht (by omega), pick_out c_30]) | exact tk hM (fun k hk2 => hk k hk2) (by rw [rg_in ⟨hn1, hn2⟩ (by decide), pick_in hl (by omega), pick_in ht (by omega), pick_in hpp (by omega), pick_out c_39])
set_option maxHeartbeats 4000000 in
set_option maxRecDepth 100000 in
theorem c_M_meet {G : GE} {h0 h : AH} {m : Nat} {S : MS} (hM : MW h0 h m S) {c : Nat → Nat} {VL WT BK SG GM : Nat → Nat → Nat} (hp : MP S c VL WT BK SG GM) (la ta pa qa ha : Int32) : Ctr G y_M_meet b_M_meet 7 (some .int) r_M_meet [.ref m, .int la, .int ta, .int pa, .int qa, .int ha] h (TK h0 m S (.int (pick (c 0) la (fun l => pick (c 1) ta (fun t => pick (VL l 4) pa (fun p => pick (VL l 4) qa (fun p2 => pick (VL l 0) ha (fun x => meetV (VL l) (WT t) p p2 x) (-1)) (-1)) (-1)) (-1)) (-1)))) := by
  have hc0 := (hp.1 0 (by decide)).2
  have hc1 := (hp.1 1 (by decide)).2
  refine Ctr.of (by decide +kernel) (by simp) (Nat.le_of_ble_eq_true rfl) (L0 := [some (.ref m), some (.int la), some (.int ta), some (.int pa), some (.int qa), some (.int ha), none]) rfl ?_
  refine A_aload_n0 d_M_meet_0 ?_
  refine A_iconst (v := nI 0) d_M_meet_1 (by decide) ?_
  refine A_putM hM (kf := 0) (ty := .int) d_M_meet_2 (by decide) q_1049 rfl (by decide +kernel) (by first | rfl | exact bI_nar _) rfl (Nat.le_of_ble_eq_true rfl) rfl (fun h hM => ?_)
  have hp := hp.keep (Keep.sf _ 0 (nI 0))
  refine A_aload_n0 d_M_meet_5 ?_
  refine A_iload_n1 d_M_meet_6 ?_
  refine A_iload_n2 d_M_meet_7 ?_
  refine A_callV d_M_meet_8 (c_M_layRow hM hp la ta) hM.o rfl q_1371 q_1373 qs_40 mk_M_layRow rfl (by decide) rfl (Nat.le_of_ble_eq_true rfl) ⟨Nat.le_of_ble_eq_true rfl, Nat.le_of_ble_eq_true rfl⟩ (fun v h1 hv => ?_)
  rcases hv with ⟨l', t', rfl, rfl, hl, ht, rfl, S2, hM, hL, hk, hkf⟩ | ⟨q, rfl, S2, hM, hk⟩
  · obtain ⟨hS, hw, e0, e1⟩ := hL
    obtain ⟨b0, b1, b2, b3, b4, b5, bp, bb, bt⟩ := hS.ok
    have hp := hp.keep hk
    refine A_if_eqB (tgt := 40) d_M_meet_11 (by decide) (fun c => absurd c (by decide)) (fun c_11 => ?_)
    refine A_aload_n0 d_M_meet_14 ?_
    refine A_iload_n3 d_M_meet_15 ?_
    refine A_callVP d_M_meet_16 (c_M_isOne hM pa) hM.o rfl q_1351 q_1353 qs_37 mk_M_isOne rfl (by decide) rfl (Nat.le_of_ble_eq_true rfl) ⟨Nat.le_of_ble_eq_true rfl, Nat.le_of_ble_eq_true rfl⟩ ⟨rfl, rfl⟩ ?_
    refine A_topI (by rw [hS.people]) ?_
    refine A_if_eqB (tgt := 40) d_M_meet_19 (by decide) (fun c_19 => ?_) (fun c_19 => ?_)
    · refine A_iconst (v := (-1)) d_M_meet_40 (by decide) ?_
      refine A_iret d_M_meet_41 rfl ⟨Nat.zero_le _, Nat.zero_le _⟩ ?_
      first | exact tk hM (fun k hk2 => hk k hk2) (pick2_out q) | exact tk hM (fun k hk2 => hk k hk2) (by rw [pick_in hl (by omega), pick_in ht (by omega), pick_out c_19]) | exact tk hM (fun k hk2 => hk k hk2) (by rw [pick_in hl (by omega), pick_in ht (by omega), pick_in hpp (by omega), pick_out c_28]) | exact tk hM (fun k hk2 => hk k hk2) (by rw [pick_in hl (by omega), pick_in ht (by omega), pick_in hpp (by omega), pick_in hpq (by omega), pick_out c_37])
    · obtain ⟨p, rfl, hpp⟩ := inB_nat (by omega) c_19
      refine A_aload_n0 d_M_meet_22 ?_
      refine A_iload4 d_M_meet_23 ?_
      refine A_callVP d_M_meet_25 (c_M_isOne hM qa) hM.o rfl q_1351 q_1353 qs_37 mk_M_isOne rfl (by decide) rfl (Nat.le_of_ble_eq_true rfl) ⟨Nat.le_of_ble_eq_true rfl, Nat.le_of_ble_eq_true rfl⟩ ⟨rfl, rfl⟩ ?_
      refine A_topI (by rw [hS.people]) ?_
      refine A_if_eqB (tgt := 40) d_M_meet_28 (by decide) (fun c_28 => ?_) (fun c_28 => ?_)
      · refine A_iconst (v := (-1)) d_M_meet_40 (by decide) ?_
        refine A_iret d_M_meet_41 rfl ⟨Nat.zero_le _, Nat.zero_le _⟩ ?_
        first | exact tk hM (fun k hk2 => hk k hk2) (pick2_out q) | exact tk hM (fun k hk2 => hk k hk2) (by rw [pick_in hl (by omega), pick_in ht (by omega), pick_out c_19]) | exact tk hM (fun k hk2 => hk k hk2) (by rw [pick_in hl (by omega), pick_in ht (by omega), pick_in hpp (by omega), pick_out c_28]) | exact tk hM (fun k hk2 => hk k hk2) (by rw [pick_in hl (by omega), pick_in ht (by omega), pick_in hpp (by omega), pick_in hpq (by omega), pick_out c_37])
      · obtain ⟨p2, rfl, hpq⟩ := inB_nat (by omega) c_28
        refine A_aload_n0 d_M_meet_31 ?_
        refine A_iload5 d_M_meet_32 ?_
        refine A_callVP d_M_meet_34 (c_M_isHour hM ha) hM.o rfl q_1661 q_1663 qs_94 mk_M_isHour rfl (by decide) rfl (Nat.le_of_ble_eq_true rfl) ⟨Nat.le_of_ble_eq_true rfl, Nat.le_of_ble_eq_true rfl⟩ ⟨rfl, rfl⟩ ?_
        refine A_topI (by rw [hS.hours]) ?_
        refine A_if_neB (tgt := 42) d_M_meet_37 (by decide) (fun c_37 => ?_) (fun c_37 => ?_)
        · obtain ⟨x, rfl, hxx⟩ := inB_nat (by omega) c_37
          refine A_iconst (v := nI 0) d_M_meet_42 (by decide) ?_
          refine A_istore6 d_M_meet_43 trivial ?_
          rw [pick_in hl (by omega), pick_in ht (by omega), pick_in hpp (by omega), pick_in hpq (by omega), pick_in hxx (by omega), meetV]
          have hb1 := (bp p (by omega)).1
          have hb2 := (bp p2 (by omega)).1
          have key : ∀ i, i ≤ (VL l') 0 → WA G y_M_meet b_M_meet 7 (some .int) r_M_meet 0 0 (TK h0 m S (.int (firstU (fun k => ltB (WT t') ((VL l') 0) ((VL l') (42 + 27 * p + 0)) (x + k) && ltB (WT t') ((VL l') 0) ((VL l') (42 + 27 * p2 + 0)) (x + k)) (fun k => nI k) (-1) ((VL l') 0) i))) 0 0 45 [some (.ref m), some (.int (nI l')), some (.int (nI t')), some (.int (nI p)), some (.int (nI p2)), some (.int (nI x)), some (.int (nI i))] [] h1 := by
            refine down ?_ (fun i hi ih => ?_)
            · refine A_iload6 d_M_meet_45 ?_
              refine A_aload_n0 d_M_meet_47 ?_
              refine A_getf (kf := 27) d_M_meet_48 hM.o ok_8 (by decide) q_1076 rfl ?_
              refine A_topI hS.hours ?_
              first | refine A_icmp_geN (tgt := 100) d_M_meet_51 (by decide) (by with_reducible rfl) (by with_reducible rfl) (by omega) (by omega) (fun c_51 => ?_) (fun c_51 => ?_) | refine A_icmp_ge (tgt := 100) d_M_meet_51 (by decide) (fun c_51 => ?_) (fun c_51 => ?_)
              · refine A_iconst (v := (-1)) d_M_meet_100 (by decide) ?_
                refine A_iret d_M_meet_101 rfl ⟨Nat.zero_le _, Nat.zero_le _⟩ ?_
                exact tk hM (fun k hk2 => hk k hk2) (by rw [firstU_end])
              · exact absurd c_51 (by omega)
            · refine A_iload6 d_M_meet_45 ?_
              refine A_aload_n0 d_M_meet_47 ?_
              refine A_getf (kf := 27) d_M_meet_48 hM.o ok_8 (by decide) q_1076 rfl ?_
              refine A_topI hS.hours ?_
              first | refine A_icmp_geN (tgt := 100) d_M_meet_51 (by decide) (by with_reducible rfl) (by with_reducible rfl) (by omega) (by omega) (fun c_51 => ?_) (fun c_51 => ?_) | refine A_icmp_ge (tgt := 100) d_M_meet_51 (by decide) (fun c_51 => ?_) (fun c_51 => ?_)
              · exact absurd c_51 (by omega)
              · refine A_aload_n0 d_M_meet_54 ?_
                refine A_aload_n0 d_M_meet_55 ?_
                refine A_iload_n3 d_M_meet_56 ?_
                refine A_iconst (v := nI 0) d_M_meet_57 (by decide) ?_
                refine A_callVP d_M_meet_58 (c_M_ofOne hM hS p 0 (by omega)) hM.o rfl q_1355 q_1357 qs_38 mk_M_ofOne rfl (by decide) rfl (Nat.le_of_ble_eq_true rfl) ⟨Nat.le_of_ble_eq_true rfl, Nat.le_of_ble_eq_true rfl⟩ ⟨rfl, rfl⟩ ?_
                refine A_iload5 d_M_meet_61 ?_
                refine A_iload6 d_M_meet_63 ?_
                first | refine A_iaddN d_M_meet_65 (by with_reducible rfl) (by with_reducible rfl) ?_ | refine A_iadd d_M_meet_65 ?_
                refine A_callVP d_M_meet_66 (c_M_isLight hM hS hw _ (x + i) (by omega) (by omega)) hM.o rfl q_1697 q_1699 qs_101 mk_M_isLight rfl (by decide) rfl (Nat.le_of_ble_eq_true rfl) ⟨Nat.le_of_ble_eq_true rfl, Nat.le_of_ble_eq_true rfl⟩ ⟨rfl, rfl⟩ ?_
                refine A_if_eqB (tgt := 94) d_M_meet_69 (by decide) (fun c_69 => ?_) (fun c_69 => ?_)
                · first | refine A_iinc6 d_M_meet_94 (nI_1 _) trivial ?_ | refine A_iinc6 d_M_meet_94 rfl trivial ?_
                  refine A_goto (tgt := 45) d_M_meet_97 (by decide) ?_
                  rw [firstU_step _ _ _ hi, if_neg (by simp only [c_51, c_69, Bool.false_and, Bool.and_false] <;> decide)]
                  exact ih
                · refine A_aload_n0 d_M_meet_72 ?_
                  refine A_aload_n0 d_M_meet_73 ?_
                  refine A_iload4 d_M_meet_74 ?_
                  refine A_iconst (v := nI 0) d_M_meet_76 (by decide) ?_
                  refine A_callVP d_M_meet_77 (c_M_ofOne hM hS p2 0 (by omega)) hM.o rfl q_1355 q_1357 qs_38 mk_M_ofOne rfl (by decide) rfl (Nat.le_of_ble_eq_true rfl) ⟨Nat.le_of_ble_eq_true rfl, Nat.le_of_ble_eq_true rfl⟩ ⟨rfl, rfl⟩ ?_
                  refine A_iload5 d_M_meet_80 ?_
                  refine A_iload6 d_M_meet_82 ?_
                  first | refine A_iaddN d_M_meet_84 (by with_reducible rfl) (by with_reducible rfl) ?_ | refine A_iadd d_M_meet_84 ?_
                  refine A_callVP d_M_meet_85 (c_M_isLight hM hS hw _ (x + i) (by omega) (by omega)) hM.o rfl q_1697 q_1699 qs_101 mk_M_isLight rfl (by decide) rfl (Nat.le_of_ble_eq_true rfl) ⟨Nat.le_of_ble_eq_true rfl, Nat.le_of_ble_eq_true rfl⟩ ⟨rfl, rfl⟩ ?_
                  refine A_if_eqB (tgt := 94) d_M_meet_88 (by decide) (fun c_88 => ?_) (fun c_88 => ?_)
                  · first | refine A_iinc6 d_M_meet_94 (nI_1 _) trivial ?_ | refine A_iinc6 d_M_meet_94 rfl trivial ?_
                    refine A_goto (tgt := 45) d_M_meet_97 (by decide) ?_
                    rw [firstU_step _ _ _ hi, if_neg (by simp only [c_51, c_69, c_88, Bool.false_and, Bool.and_false] <;> decide)]
                    exact ih
                  · refine A_iload6 d_M_meet_91 ?_
                    refine A_iret d_M_meet_93 rfl ⟨Nat.zero_le _, Nat.zero_le _⟩ ?_
                    exact tk hM (fun k hk2 => hk k hk2) (by rw [firstU_step _ _ _ hi, if_pos (by rw [c_69, c_88]; rfl)])
          exact key 0 (Nat.zero_le _)
        · refine A_iconst (v := (-1)) d_M_meet_40 (by decide) ?_
          refine A_iret d_M_meet_41 rfl ⟨Nat.zero_le _, Nat.zero_le _⟩ ?_
          first | exact tk hM (fun k hk2 => hk k hk2) (pick2_out q) | exact tk hM (fun k hk2 => hk k hk2) (by rw [pick_in hl (by omega), pick_in ht (by omega), pick_out c_19]) | exact tk hM (fun k hk2 => hk k hk2) (by rw [pick_in hl (by omega), pick_in ht (by omega), pick_in hpp (by omega), pick_out c_28]) | exact tk hM (fun k hk2 => hk k hk2) (by rw [pick_in hl (by omega), pick_in ht (by omega), pick_in hpp (by omega), pick_in hpq (by omega), pick_out c_37])
  · have hp := hp.keep hk
    refine A_if_eqB (tgt := 40) d_M_meet_11 (by decide) (fun c_11 => ?_) (fun c => absurd c (by decide))
    refine A_iconst (v := (-1)) d_M_meet_40 (by decide) ?_
    refine A_iret d_M_meet_41 rfl ⟨Nat.zero_le _, Nat.zero_le _⟩ ?_
    first | exact tk hM (fun k hk2 => hk k hk2) (pick2_out q) | exact tk hM (fun k hk2 => hk k hk2) (by rw [pick_in hl (by omega), pick_in ht (by omega), pick_out c_19]) | exact tk hM (fun k hk2 => hk k hk2) (by rw [pick_in hl (by omega), pick_in ht (by omega), pick_in hpp (by omega), pick_out c_28]) | exact tk hM (fun k hk2 => hk k hk2) (by rw [pick_in hl (by omega), pick_in ht (by omega), pick_in hpp (by omega), pick_in hpq (by omega), pick_out c_37])
