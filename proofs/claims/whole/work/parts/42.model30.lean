def byE (V : Nat → Nat) (x : Nat) : Nat → Nat := sumN (fun h => if hasB (nI x) (nI h) = true then likedInN V 1 h else 0)
def otE (V : Nat → Nat) (x : Nat) : Nat → Nat := sumN (fun h => if hasB (nI x) (nI h) = true then 0 else likedInN V 0 h)
theorem byE_le {V : Nat → Nat} (ok : VOK V) (x : Nat) {n : Nat} (hn : n ≤ 24) : byE V x n ≤ 2160 := by
  have := sumN_le (f := fun h => if hasB (nI x) (nI h) = true then likedInN V 1 h else 0) (c := 90) n (fun i hi => by
    have := likedInN_le ok 1 (h := i) (by omega)
    split <;> omega)
  unfold byE
  omega
theorem otE_le {V : Nat → Nat} (ok : VOK V) (x : Nat) {n : Nat} (hn : n ≤ 24) : otE V x n ≤ 2160 := by
  have := sumN_le (f := fun h => if hasB (nI x) (nI h) = true then 0 else likedInN V 0 h) (c := 90) n (fun i hi => by
    have := likedInN_le ok 0 (h := i) (by omega)
    split <;> omega)
  unfold otE
  omega
/-- the lesser of both -/
def evF (V : Nat → Nat) (x : Nat) : Nat := min (byE V x (V 0)) (otE V x (V 0))
theorem byE_0 (V : Nat → Nat) : ∀ n, n ≤ 24 → byE V 0 n = 0
  | 0, _ => rfl
  | n + 1, hn => by
    show byE V 0 n + (if hasB (nI 0) (nI n) = true then likedInN V 1 n else 0) = 0
    rw [byE_0 V n (by omega), hasB_bt _ (by omega), show nI 0 = 0 from rfl, b_0]
    rfl
theorem evF_0 {V : Nat → Nat} (h : V 0 ≤ 24) : evF V 0 = 0 := by unfold evF; rw [byE_0 V _ h, Nat.zero_min]
def evS (V : Nat → Nat) : Nat → Nat × Nat
  | 0 => (0, 0)
  | c + 1 => if (evS V c).2 < evF V c then (c, evF V c) else evS V c
theorem evS_le {V : Nat → Nat} (ok : VOK V) : ∀ c, (evS V c).2 ≤ 2160 ∧ (evS V c).1 ≤ c
  | 0 => ⟨Nat.zero_le _, Nat.le_refl _⟩
  | c + 1 => by
    have h := evS_le ok c
    have h2 := byE_le ok c (n := V 0) ok.1.2
    have h3 : evF V c ≤ 2160 := by unfold evF; omega
    show (if (evS V c).2 < evF V c then (c, evF V c) else evS V c).2 ≤ 2160 ∧ (if (evS V c).2 < evF V c then (c, evF V c) else evS V c).1 ≤ c + 1
    split
    · exact ⟨h3, Nat.le_succ c⟩
    · exact ⟨h.1, by omega⟩
def evenV (V : Nat → Nat) : Int32 := nI (evS V (2 ^ V 0)).1
def eI (c x : Nat) : Int32 := if c = 0 then -1 else nI x
theorem eI_p {c x : Nat} (h : ¬ c = 0) : eI c x = nI x := if_neg h
theorem m1_le {n : Nat} (h : n < 2 ^ 31) : ¬ nI n ≤ -1 := fun z => by
  rw [Int32.le_iff_toInt_le, nI_toInt h] at z
  have : (-1 : Int32).toInt = -1 := rfl
  omega
theorem m1_le2 {n : Nat} (h : n < 2 ^ 31) : (-1 : Int32) ≤ nI n := by
  rw [Int32.le_iff_toInt_le, nI_toInt h]
  have : (-1 : Int32).toInt = -1 := rfl
  omega
set_option maxHeartbeats 4000000 in
set_option maxRecDepth 100000 in
theorem c_M_even2 {G : GE} {h0 h : AH} {m : Nat} {S : MS} (hM : MW h0 h m S) {l : Nat} {V : Nat → Nat} (hS : HS S l V) (hN : ND S V) {K : Option Value → AH → Prop} {x : Nat} {a1 a2 : Int32} (hk : WA G y_M_evenly b_M_evenly 7 (some .int) r_M_evenly 0 0 K 0 0 91 [some (.ref m), some (.int a1), some (.int a2), some (.int (nI x)), some (.int (nI (byE V x (V 0)))), some (.int (nI (otE V x (V 0)))), none] [] h) : ∀ i, i ≤ V 0 → WA G y_M_evenly b_M_evenly 7 (some .int) r_M_evenly 0 0 K 0 0 23 [some (.ref m), some (.int a1), some (.int a2), some (.int (nI x)), some (.int (nI (byE V x i))), some (.int (nI (otE V x i))), some (.int (nI i))] [] h := by
  have ok := hS.ok
  have hH := ok.1
  refine down ?_ (fun i hi ih => ?_)
  · refine A_iload6 d_M_evenly_23 ?_
    refine A_aload_n0 d_M_evenly_25 ?_
    refine A_getf (kf := 27) d_M_evenly_26 hM.o ok_8 (by decide) q_1076 rfl ?_
    refine A_topI hS.hours ?_
    first | refine A_icmp_geN (tgt := 91) d_M_evenly_29 (by decide) (by with_reducible rfl) (by with_reducible rfl) (by omega) (by omega) (fun c_29 => ?_) (fun c_29 => ?_) | refine A_icmp_ge (tgt := 91) d_M_evenly_29 (by decide) (fun c_29 => ?_) (fun c_29 => ?_)
    · exact A_drop6 hk
    · exact absurd c_29 (by omega)
  · refine A_iload6 d_M_evenly_23 ?_
    refine A_aload_n0 d_M_evenly_25 ?_
    refine A_getf (kf := 27) d_M_evenly_26 hM.o ok_8 (by decide) q_1076 rfl ?_
    refine A_topI hS.hours ?_
    first | refine A_icmp_geN (tgt := 91) d_M_evenly_29 (by decide) (by with_reducible rfl) (by with_reducible rfl) (by omega) (by omega) (fun c_29 => ?_) (fun c_29 => ?_) | refine A_icmp_ge (tgt := 91) d_M_evenly_29 (by decide) (fun c_29 => ?_) (fun c_29 => ?_)
    · exact absurd c_29 (by omega)
    · refine A_iload4 d_M_evenly_32 ?_
      refine A_iload_n3 d_M_evenly_34 ?_
      refine A_iload6 d_M_evenly_35 ?_
      refine A_callSP d_M_evenly_37 (c_M_has (nI x) (nI i) h) q_1553 q_1554 mk_M_has rfl (by decide) rfl (Nat.le_of_ble_eq_true rfl) ⟨Nat.le_of_ble_eq_true rfl, Nat.le_of_ble_eq_true rfl⟩ ⟨rfl, rfl⟩ ?_
      refine A_if_eqB (tgt := 56) d_M_evenly_40 (by decide) (fun c_40 => ?_) (fun c_40 => ?_)
      · refine A_iconst (v := nI 0) d_M_evenly_56 (by decide) ?_
        first | refine A_iaddN d_M_evenly_57 (by with_reducible rfl) (by with_reducible rfl) ?_ | refine A_iadd d_M_evenly_57 ?_
        refine A_istore4 d_M_evenly_58 trivial ?_
        refine A_iload5 d_M_evenly_60 ?_
        refine A_iload_n3 d_M_evenly_62 ?_
        refine A_iload6 d_M_evenly_63 ?_
        refine A_callSP d_M_evenly_65 (c_M_has (nI x) (nI i) h) q_1553 q_1554 mk_M_has rfl (by decide) rfl (Nat.le_of_ble_eq_true rfl) ⟨Nat.le_of_ble_eq_true rfl, Nat.le_of_ble_eq_true rfl⟩ ⟨rfl, rfl⟩ ?_
        refine A_if_eqB (tgt := 75) d_M_evenly_68 (by decide) (fun c_68 => ?_) (fun c => absurd (c_40.symm.trans c) (by decide))
        refine A_aload_n0 d_M_evenly_75 ?_
        refine A_getf (kf := 40) d_M_evenly_76 hM.o ok_8 (by decide) q_1089 rfl ?_
        refine A_iload6 d_M_evenly_79 ?_
        refine A_ialdN d_M_evenly_81 hM.a40 ⟨by omega, by decide⟩ ?_
        refine A_topI (hN.2.2.2.2 i hi).1 ?_
        first | refine A_iaddN d_M_evenly_82 (by with_reducible rfl) (by with_reducible rfl) ?_ | refine A_iadd d_M_evenly_82 ?_
        refine A_istore5 d_M_evenly_83 trivial ?_
        first | refine A_iinc6 d_M_evenly_85 (nI_1 _) trivial ?_ | refine A_iinc6 d_M_evenly_85 rfl trivial ?_
        refine A_goto (tgt := 23) d_M_evenly_88 (by decide) ?_
        refine A_loc ?_ ih
        have e1 : byE V x (i + 1) = byE V x i + (if hasB (nI x) (nI i) = true then likedInN V 1 i else 0) := rfl
        have e2 : otE V x (i + 1) = otE V x i + (if hasB (nI x) (nI i) = true then 0 else likedInN V 0 i) := rfl
        first | (rw [e1, e2, if_pos c_40, if_pos c_40]; done) | (rw [e1, e2, c_40, if_neg (by decide), if_neg (by decide)]; done)
      · refine A_aload_n0 d_M_evenly_43 ?_
        refine A_getf (kf := 40) d_M_evenly_44 hM.o ok_8 (by decide) q_1089 rfl ?_
        refine A_bipush (v := nI 24) d_M_evenly_47 (by decide) ?_
        refine A_iload6 d_M_evenly_49 ?_
        first | refine A_iaddN d_M_evenly_51 (by with_reducible rfl) (by with_reducible rfl) ?_ | refine A_iadd d_M_evenly_51 ?_
        refine A_ialdN d_M_evenly_52 hM.a40 ⟨by omega, by decide⟩ ?_
        refine A_topI (hN.2.2.2.2 i hi).2 ?_
        refine A_goto (tgt := 57) d_M_evenly_53 (by decide) ?_
        first | refine A_iaddN d_M_evenly_57 (by with_reducible rfl) (by with_reducible rfl) ?_ | refine A_iadd d_M_evenly_57 ?_
        refine A_istore4 d_M_evenly_58 trivial ?_
        refine A_iload5 d_M_evenly_60 ?_
        refine A_iload_n3 d_M_evenly_62 ?_
        refine A_iload6 d_M_evenly_63 ?_
        refine A_callSP d_M_evenly_65 (c_M_has (nI x) (nI i) h) q_1553 q_1554 mk_M_has rfl (by decide) rfl (Nat.le_of_ble_eq_true rfl) ⟨Nat.le_of_ble_eq_true rfl, Nat.le_of_ble_eq_true rfl⟩ ⟨rfl, rfl⟩ ?_
        refine A_if_eqB (tgt := 75) d_M_evenly_68 (by decide) (fun c => absurd (c_40.symm.trans c) (by decide)) (fun c_68 => ?_)
        refine A_iconst (v := nI 0) d_M_evenly_71 (by decide) ?_
        refine A_goto (tgt := 82) d_M_evenly_72 (by decide) ?_
        first | refine A_iaddN d_M_evenly_82 (by with_reducible rfl) (by with_reducible rfl) ?_ | refine A_iadd d_M_evenly_82 ?_
        refine A_istore5 d_M_evenly_83 trivial ?_
        first | refine A_iinc6 d_M_evenly_85 (nI_1 _) trivial ?_ | refine A_iinc6 d_M_evenly_85 rfl trivial ?_
        refine A_goto (tgt := 23) d_M_evenly_88 (by decide) ?_
        refine A_loc ?_ ih
        have e1 : byE V x (i + 1) = byE V x i + (if hasB (nI x) (nI i) = true then likedInN V 1 i else 0) := rfl
        have e2 : otE V x (i + 1) = otE V x i + (if hasB (nI x) (nI i) = true then 0 else likedInN V 0 i) := rfl
        first | (rw [e1, e2, if_pos c_40, if_pos c_40]; done) | (rw [e1, e2, c_40, if_neg (by decide), if_neg (by decide)]; done)
set_option maxHeartbeats 4000000 in
set_option maxRecDepth 100000 in
theorem c_M_evenly {G : GE} {h0 h : AH} {m : Nat} {S : MS} (hM : MW h0 h m S) {l : Nat} {V : Nat → Nat} (hS : HS S l V) (hN : ND S V) (h14 : V 0 ≤ 14) : Ctr G y_M_evenly b_M_evenly 7 (some .int) r_M_evenly [.ref m] h (Pu (.int (evenV V)) h) := by
  have ok := hS.ok
  have hH := ok.1
  have hpw : 1 ≤ 2 ^ V 0 := Nat.one_le_two_pow
  have hpw2 : 2 ^ V 0 ≤ 2 ^ 14 := Nat.pow_le_pow_right (by decide) h14
  have key : ∀ x, x ≤ 2 ^ V 0 → WA G y_M_evenly b_M_evenly 7 (some .int) r_M_evenly 0 0 (Pu (.int (evenV V)) h) 0 0 6 [some (.ref m), some (.int (eI x (evS V x).1)), some (.int (eI x (evS V x).2)), some (.int (nI x)), none, none, none] [] h := by
    refine down ?_ (fun x hx ih => ?_)
    · refine A_iload_n3 d_M_evenly_6 ?_
      refine A_aload_n0 d_M_evenly_7 ?_
      refine A_callVP d_M_evenly_8 (c_M_allHours hM) hM.o rfl q_1564 q_1566 qs_79 mk_M_allHours rfl (by decide) rfl (Nat.le_of_ble_eq_true rfl) ⟨Nat.le_of_ble_eq_true rfl, Nat.le_of_ble_eq_true rfl⟩ ⟨rfl, rfl⟩ ?_
      refine A_topI (show nI 1 <<< (S.1 27 &&& 31) - nI 1 = nI (2 ^ V 0 - 1) by rw [hS.hours]; exact allI_N _ (by omega)) ?_
      first | refine A_icmp_gtN (tgt := 126) d_M_evenly_11 (by decide) (by with_reducible rfl) (by with_reducible rfl) (by omega) (by omega) (fun c_11 => ?_) (fun c_11 => ?_) | refine A_icmp_gt (tgt := 126) d_M_evenly_11 (by decide) (fun c_11 => ?_) (fun c_11 => ?_)
      · refine A_iload_n1 d_M_evenly_126 ?_
        refine A_iret d_M_evenly_127 rfl ⟨Nat.zero_le _, Nat.zero_le _⟩ ?_
        exact pu (by rw [eI_p (by omega)]; rfl)
      · exact absurd c_11 (by omega)
    · refine A_iload_n3 d_M_evenly_6 ?_
      refine A_aload_n0 d_M_evenly_7 ?_
      refine A_callVP d_M_evenly_8 (c_M_allHours hM) hM.o rfl q_1564 q_1566 qs_79 mk_M_allHours rfl (by decide) rfl (Nat.le_of_ble_eq_true rfl) ⟨Nat.le_of_ble_eq_true rfl, Nat.le_of_ble_eq_true rfl⟩ ⟨rfl, rfl⟩ ?_
      refine A_topI (show nI 1 <<< (S.1 27 &&& 31) - nI 1 = nI (2 ^ V 0 - 1) by rw [hS.hours]; exact allI_N _ (by omega)) ?_
      first | refine A_icmp_gtN (tgt := 126) d_M_evenly_11 (by decide) (by with_reducible rfl) (by with_reducible rfl) (by omega) (by omega) (fun c_11 => ?_) (fun c_11 => ?_) | refine A_icmp_gt (tgt := 126) d_M_evenly_11 (by decide) (fun c_11 => ?_) (fun c_11 => ?_)
      · exact absurd c_11 (by omega)
      · refine A_iconst (v := nI 0) d_M_evenly_14 (by decide) ?_
        refine A_istore4 d_M_evenly_15 trivial ?_
        refine A_iconst (v := nI 0) d_M_evenly_17 (by decide) ?_
        refine A_istore5 d_M_evenly_18 trivial ?_
        refine A_iconst (v := nI 0) d_M_evenly_20 (by decide) ?_
        refine A_istore6 d_M_evenly_21 trivial ?_
        have hb1 := byE_le ok x (n := V 0) hH.2
        have hb2 := otE_le ok x (n := V 0) hH.2
        have hb3 := evS_le ok x
        have hst : evS V (x + 1) = if (evS V x).2 < min (byE V x (V 0)) (otE V x (V 0)) then (x, min (byE V x (V 0)) (otE V x (V 0))) else evS V x := rfl
        refine c_M_even2 hM hS hN ?_ 0 (Nat.zero_le _)
        by_cases hx0 : x = 0
        · subst hx0
          have hf0 : min (byE V 0 (V 0)) (otE V 0 (V 0)) = 0 := evF_0 hH.2
          have hs1 : evS V (0 + 1) = (0, 0) := by rw [hst, hf0]; rfl
          refine A_iload4 d_M_evenly_91 ?_
          refine A_iload5 d_M_evenly_93 ?_
          refine A_callSP d_M_evenly_95 (c_M_lesser _ _ _) q_1396 q_1397 mk_M_lesser rfl (by decide) rfl (Nat.le_of_ble_eq_true rfl) ⟨Nat.le_of_ble_eq_true rfl, Nat.le_of_ble_eq_true rfl⟩ ⟨rfl, rfl⟩ ?_
          refine A_topI ((nI_min (by omega) (by omega)).trans (congrArg nI hf0)) ?_
          refine A_iload_n2 d_M_evenly_98 ?_
          refine A_icmp_le (tgt := 106) d_M_evenly_99 (by decide) (fun c => absurd c (m1_le (by decide))) (fun c_99 => ?_)
          refine A_iload_n3 d_M_evenly_102 ?_
          refine A_goto (tgt := 107) d_M_evenly_103 (by decide) ?_
          refine A_istore1 d_M_evenly_107 trivial ?_
          refine A_iload_n2 d_M_evenly_108 ?_
          refine A_iload4 d_M_evenly_109 ?_
          refine A_iload5 d_M_evenly_111 ?_
          refine A_callSP d_M_evenly_113 (c_M_lesser _ _ _) q_1396 q_1397 mk_M_lesser rfl (by decide) rfl (Nat.le_of_ble_eq_true rfl) ⟨Nat.le_of_ble_eq_true rfl, Nat.le_of_ble_eq_true rfl⟩ ⟨rfl, rfl⟩ ?_
          refine A_topI ((nI_min (by omega) (by omega)).trans (congrArg nI hf0)) ?_
          refine A_callSP d_M_evenly_116 (c_M_greater _ _ _) q_1294 q_1295 mk_M_greater rfl (by decide) rfl (Nat.le_of_ble_eq_true rfl) ⟨Nat.le_of_ble_eq_true rfl, Nat.le_of_ble_eq_true rfl⟩ ⟨rfl, rfl⟩ ?_
          refine A_topI (if_pos (m1_le2 (by decide))) ?_
          refine A_istore2 d_M_evenly_119 trivial ?_
          first | refine A_iinc3 d_M_evenly_120 (nI_1 _) trivial ?_ | refine A_iinc3 d_M_evenly_120 rfl trivial ?_
          refine A_goto (tgt := 6) d_M_evenly_123 (by decide) ?_
          refine A_drop4 (A_drop5 (A_loc ?_ ih))
          rw [hs1]
          rfl
        rw [eI_p hx0, eI_p hx0]
        refine A_iload4 d_M_evenly_91 ?_
        refine A_iload5 d_M_evenly_93 ?_
        refine A_callSP d_M_evenly_95 (c_M_lesser _ _ _) q_1396 q_1397 mk_M_lesser rfl (by decide) rfl (Nat.le_of_ble_eq_true rfl) ⟨Nat.le_of_ble_eq_true rfl, Nat.le_of_ble_eq_true rfl⟩ ⟨rfl, rfl⟩ ?_
        refine A_topI (nI_min (by omega) (by omega)) ?_
        refine A_iload_n2 d_M_evenly_98 ?_
        first | refine A_icmp_leN (tgt := 106) d_M_evenly_99 (by decide) (by with_reducible rfl) (by with_reducible rfl) (by omega) (by omega) (fun c_99 => ?_) (fun c_99 => ?_) | refine A_icmp_le (tgt := 106) d_M_evenly_99 (by decide) (fun c_99 => ?_) (fun c_99 => ?_)
        · refine A_iload_n1 d_M_evenly_106 ?_
          refine A_istore1 d_M_evenly_107 trivial ?_
          refine A_iload_n2 d_M_evenly_108 ?_
          refine A_iload4 d_M_evenly_109 ?_
          refine A_iload5 d_M_evenly_111 ?_
          refine A_callSP d_M_evenly_113 (c_M_lesser _ _ _) q_1396 q_1397 mk_M_lesser rfl (by decide) rfl (Nat.le_of_ble_eq_true rfl) ⟨Nat.le_of_ble_eq_true rfl, Nat.le_of_ble_eq_true rfl⟩ ⟨rfl, rfl⟩ ?_
          refine A_topI (nI_min (by omega) (by omega)) ?_
          refine A_callSP d_M_evenly_116 (c_M_greater _ _ _) q_1294 q_1295 mk_M_greater rfl (by decide) rfl (Nat.le_of_ble_eq_true rfl) ⟨Nat.le_of_ble_eq_true rfl, Nat.le_of_ble_eq_true rfl⟩ ⟨rfl, rfl⟩ ?_
          refine A_topI (nI_max (by omega) (by omega)) ?_
          refine A_istore2 d_M_evenly_119 trivial ?_
          first | refine A_iinc3 d_M_evenly_120 (nI_1 _) trivial ?_ | refine A_iinc3 d_M_evenly_120 rfl trivial ?_
          refine A_goto (tgt := 6) d_M_evenly_123 (by decide) ?_
          refine A_drop4 (A_drop5 (A_loc ?_ ih))
          rw [eI_p (Nat.succ_ne_zero x), eI_p (Nat.succ_ne_zero x), hst]
          first
            | (rw [if_pos c_99, show max (evS V x).2 (min (byE V x (V 0)) (otE V x (V 0))) = min (byE V x (V 0)) (otE V x (V 0)) by omega]; done)
            | (rw [if_neg (by omega), show max (evS V x).2 (min (byE V x (V 0)) (otE V x (V 0))) = (evS V x).2 by omega]; done)
        · refine A_iload_n3 d_M_evenly_102 ?_
          refine A_goto (tgt := 107) d_M_evenly_103 (by decide) ?_
          refine A_istore1 d_M_evenly_107 trivial ?_
          refine A_iload_n2 d_M_evenly_108 ?_
          refine A_iload4 d_M_evenly_109 ?_
          refine A_iload5 d_M_evenly_111 ?_
          refine A_callSP d_M_evenly_113 (c_M_lesser _ _ _) q_1396 q_1397 mk_M_lesser rfl (by decide) rfl (Nat.le_of_ble_eq_true rfl) ⟨Nat.le_of_ble_eq_true rfl, Nat.le_of_ble_eq_true rfl⟩ ⟨rfl, rfl⟩ ?_
          refine A_topI (nI_min (by omega) (by omega)) ?_
          refine A_callSP d_M_evenly_116 (c_M_greater _ _ _) q_1294 q_1295 mk_M_greater rfl (by decide) rfl (Nat.le_of_ble_eq_true rfl) ⟨Nat.le_of_ble_eq_true rfl, Nat.le_of_ble_eq_true rfl⟩ ⟨rfl, rfl⟩ ?_
          refine A_topI (nI_max (by omega) (by omega)) ?_
          refine A_istore2 d_M_evenly_119 trivial ?_
          first | refine A_iinc3 d_M_evenly_120 (nI_1 _) trivial ?_ | refine A_iinc3 d_M_evenly_120 rfl trivial ?_
          refine A_goto (tgt := 6) d_M_evenly_123 (by decide) ?_
          refine A_drop4 (A_drop5 (A_loc ?_ ih))
          rw [eI_p (Nat.succ_ne_zero x), eI_p (Nat.succ_ne_zero x), hst]
          first
            | (rw [if_pos c_99, show max (evS V x).2 (min (byE V x (V 0)) (otE V x (V 0))) = min (byE V x (V 0)) (otE V x (V 0)) by omega]; done)
            | (rw [if_neg (by omega), show max (evS V x).2 (min (byE V x (V 0)) (otE V x (V 0))) = (evS V x).2 by omega]; done)
  refine Ctr.of (by decide +kernel) (by simp) (Nat.le_of_ble_eq_true rfl) (L0 := [some (.ref m), none, none, none, none, none, none]) rfl ?_
  refine A_iconst (v := (-1)) d_M_evenly_0 (by decide) ?_
  refine A_istore1 d_M_evenly_1 trivial ?_
  refine A_iconst (v := (-1)) d_M_evenly_2 (by decide) ?_
  refine A_istore2 d_M_evenly_3 trivial ?_
  refine A_iconst (v := nI 0) d_M_evenly_4 (by decide) ?_
  refine A_istore3 d_M_evenly_5 trivial ?_
  exact key 0 (Nat.zero_le _)
def cutV (V : Nat → Nat) (how city : Int32) : Int32 := rg how 0 2 (fun k => if k = 2 then (if V 0 ≤ 14 then evenV V else -1) else rg city 0 1 (fun cc => if k = 0 then turnsV V cc else knifeV V cc) (-1)) (-1)
set_option maxHeartbeats 4000000 in
set_option maxRecDepth 100000 in
theorem c_M_cut {G : GE} {h0 h : AH} {m : Nat} {S : MS} (hM : MW h0 h m S) {c : Nat → Nat} {VL WT BK SG GM : Nat → Nat → Nat} (hp : MP S c VL WT BK SG GM) (la ha ca : Int32) : Ctr G y_M_cut b_M_cut 4 (some .int) r_M_cut [.ref m, .int la, .int ha, .int ca] h (TK h0 m S (.int (pick (c 0) la (fun l => cutV (VL l) ha ca) (-1)))) := by
  have hc0 := (hp.1 0 (by decide)).2
  refine Ctr.of (by decide +kernel) (by simp) (Nat.le_of_ble_eq_true rfl) (L0 := [some (.ref m), some (.int la), some (.int ha), some (.int ca)]) rfl ?_
  refine A_aload_n0 d_M_cut_0 ?_
  refine A_iconst (v := nI 0) d_M_cut_1 (by decide) ?_
  refine A_putM hM (kf := 0) (ty := .int) d_M_cut_2 (by decide) q_1049 rfl (by decide +kernel) (by first | rfl | exact bI_nar _) rfl (Nat.le_of_ble_eq_true rfl) rfl (fun h hM => ?_)
  have hp := hp.keep (Keep.sf _ 0 (nI 0))
  refine A_aload_n0 d_M_cut_5 ?_
  refine A_iload_n1 d_M_cut_6 ?_
  refine A_callV d_M_cut_7 (c_M_hand hM (hp.1 0 (by decide)).1 (hp.1 0 (by decide)).2 hp.2.1 la) hM.o rfl q_1339 q_1341 qs_35 mk_M_hand rfl (by decide) rfl (Nat.le_of_ble_eq_true rfl) ⟨Nat.le_of_ble_eq_true rfl, Nat.le_of_ble_eq_true rfl⟩ (fun v h1 hv => ?_)
  rcases hv with ⟨l', rfl, hl, rfl, hM⟩ | ⟨q, rfl, rfl⟩
  · have hVl := hp.2.1 l' hl
    have hS := HS_hand hVl
    obtain ⟨b0, b1, b2, b3, b4, b5, bp, bb, bt⟩ := hVl.2.1
    refine A_if_eqB (tgt := 50) d_M_cut_10 (by decide) (fun c => absurd c (by decide)) (fun c_10 => ?_)
    refine A_iload_n2 d_M_cut_13 ?_
    refine A_iconst (v := nI 0) d_M_cut_14 (by decide) ?_
    refine A_iconst (v := nI 2) d_M_cut_15 (by decide) ?_
    refine A_callSP d_M_cut_16 (c_M_in _ _ _ _) q_1231 q_1232 mk_M_in rfl (by decide) rfl (Nat.le_of_ble_eq_true rfl) ⟨Nat.le_of_ble_eq_true rfl, Nat.le_of_ble_eq_true rfl⟩ ⟨rfl, rfl⟩ ?_
    refine A_if_eqB (tgt := 50) d_M_cut_19 (by decide) (fun c_19 => ?_) (fun c_19 => ?_)
    · refine A_iconst (v := (-1)) d_M_cut_50 (by decide) ?_
      refine A_iret d_M_cut_51 rfl ⟨Nat.zero_le _, Nat.zero_le _⟩ ?_
      first
        | exact tk hM (fun _ _ => rfl) (by rw [pick_out q])
        | exact tk hM (fun _ _ => rfl) (by rw [pick_in hl (by omega), cutV, rg_out c_19])
        | exact tk hM (fun _ _ => rfl) (by rw [pick_in hl (by omega), cutV, rg_in ⟨hk1, hk2⟩ (by decide), if_neg (by omega), rg_out c_33])
        | exact tk hM (fun _ _ => rfl) (by rw [pick_in hl (by omega), cutV, rg_in ⟨hk1, hk2⟩ (by decide), if_pos (by omega), if_neg (by omega)])
        | exact tk hM (fun k hk => (ha k (by omega)).trans rfl) (by rw [pick_in hl (by omega), cutV, rg_in ⟨hk1, hk2⟩ (by decide), if_neg (by omega), rg_in ⟨hc1, hc2⟩ (by decide), if_pos (by omega)])
        | exact tk hM (fun k hk => (ha k (by omega)).trans rfl) (by rw [pick_in hl (by omega), cutV, rg_in ⟨hk1, hk2⟩ (by decide), if_neg (by omega), rg_in ⟨hc1, hc2⟩ (by decide), if_neg (by omega)])
        | exact tk hM (fun k hk => (ha k (by omega)).trans rfl) (by rw [pick_in hl (by omega), cutV, rg_in ⟨hk1, hk2⟩ (by decide), if_pos (by omega), if_pos (by omega)])
        | (exfalso; omega)
    · obtain ⟨k, rfl, hk1, hk2⟩ := inB_ex (by decide) c_19
      refine A_iload_n2 d_M_cut_22 ?_
      refine A_iconst (v := nI 2) d_M_cut_23 (by decide) ?_
      first | refine A_icmp_geN (tgt := 36) d_M_cut_24 (by decide) (by with_reducible rfl) (by with_reducible rfl) (by omega) (by omega) (fun c_24 => ?_) (fun c_24 => ?_) | refine A_icmp_ge (tgt := 36) d_M_cut_24 (by decide) (fun c_24 => ?_) (fun c_24 => ?_)
      · first
          | obtain ⟨cc, rfl, hc1, hc2⟩ := inB_ex (by decide) c_33
          | skip
        refine A_iload_n2 d_M_cut_36 ?_
        refine A_iconst (v := nI 2) d_M_cut_37 (by decide) ?_
        refine A_icmp_ne (tgt := 52) d_M_cut_38 (by decide) (fun c => absurd ((nI_eq (by omega) (by decide)).mpr (by omega)) c) (fun c_38 => ?_)
        refine A_aload_n0 d_M_cut_41 ?_
        refine A_getf (kf := 27) d_M_cut_42 hM.o ok_8 (by decide) q_1076 rfl ?_
        refine A_topI hS.hours ?_
        refine A_bipush (v := nI 14) d_M_cut_45 (by decide) ?_
        first | refine A_icmp_leN (tgt := 52) d_M_cut_47 (by decide) (by with_reducible rfl) (by with_reducible rfl) (by omega) (by omega) (fun c_47 => ?_) (fun c_47 => ?_) | refine A_icmp_le (tgt := 52) d_M_cut_47 (by decide) (fun c_47 => ?_) (fun c_47 => ?_)
        · refine A_aload_n0 d_M_cut_52 ?_
          refine A_callV d_M_cut_53 (c_M_layNeeds hM hS) hM.o rfl q_1464 q_1466 qs_58 mk_M_layNeeds rfl (by decide) rfl (Nat.le_of_ble_eq_true rfl) ⟨Nat.le_of_ble_eq_true rfl, Nat.le_of_ble_eq_true rfl⟩ (fun v h1 hv => ?_)
          obtain ⟨rfl, S2, hM, hN, hf, ha⟩ := hv
          have hS2 := HS.keepF (fun k hk => ha k (by omega)) (fun j a b => hf j (by omega)) hS
          refine A_iload_n2 d_M_cut_56 ?_
          refine A_if_ne (tgt := 68) d_M_cut_57 (by decide) (fun c_57 => ?_) (fun c => absurd ((nI_eq (b := 0) (by omega) (by decide)).mp c) (by omega))
          refine A_iload_n2 d_M_cut_68 ?_
          refine A_iconst (v := nI 1) d_M_cut_69 (by decide) ?_
          refine A_icmp_ne (tgt := 81) d_M_cut_70 (by decide) (fun c_70 => ?_) (fun c => absurd ((nI_eq (by omega) (by decide)).mp c) (by omega))
          refine A_aload_n0 d_M_cut_81 ?_
          refine A_callVP d_M_cut_82 (c_M_evenly hM hS2 hN (by omega)) hM.o rfl q_1575 q_1577 qs_81 mk_M_evenly rfl (by decide) rfl (Nat.le_of_ble_eq_true rfl) ⟨Nat.le_of_ble_eq_true rfl, Nat.le_of_ble_eq_true rfl⟩ ⟨rfl, rfl⟩ ?_
          refine A_iret d_M_cut_85 rfl ⟨Nat.zero_le _, Nat.zero_le _⟩ ?_
          first
            | exact tk hM (fun _ _ => rfl) (by rw [pick_out q])
            | exact tk hM (fun _ _ => rfl) (by rw [pick_in hl (by omega), cutV, rg_out c_19])
            | exact tk hM (fun _ _ => rfl) (by rw [pick_in hl (by omega), cutV, rg_in ⟨hk1, hk2⟩ (by decide), if_neg (by omega), rg_out c_33])
            | exact tk hM (fun _ _ => rfl) (by rw [pick_in hl (by omega), cutV, rg_in ⟨hk1, hk2⟩ (by decide), if_pos (by omega), if_neg (by omega)])
            | exact tk hM (fun k hk => (ha k (by omega)).trans rfl) (by rw [pick_in hl (by omega), cutV, rg_in ⟨hk1, hk2⟩ (by decide), if_neg (by omega), rg_in ⟨hc1, hc2⟩ (by decide), if_pos (by omega)])
            | exact tk hM (fun k hk => (ha k (by omega)).trans rfl) (by rw [pick_in hl (by omega), cutV, rg_in ⟨hk1, hk2⟩ (by decide), if_neg (by omega), rg_in ⟨hc1, hc2⟩ (by decide), if_neg (by omega)])
            | exact tk hM (fun k hk => (ha k (by omega)).trans rfl) (by rw [pick_in hl (by omega), cutV, rg_in ⟨hk1, hk2⟩ (by decide), if_pos (by omega), if_pos (by omega)])
            | (exfalso; omega)
        · refine A_iconst (v := (-1)) d_M_cut_50 (by decide) ?_
          refine A_iret d_M_cut_51 rfl ⟨Nat.zero_le _, Nat.zero_le _⟩ ?_
          first
            | exact tk hM (fun _ _ => rfl) (by rw [pick_out q])
            | exact tk hM (fun _ _ => rfl) (by rw [pick_in hl (by omega), cutV, rg_out c_19])
            | exact tk hM (fun _ _ => rfl) (by rw [pick_in hl (by omega), cutV, rg_in ⟨hk1, hk2⟩ (by decide), if_neg (by omega), rg_out c_33])
            | exact tk hM (fun _ _ => rfl) (by rw [pick_in hl (by omega), cutV, rg_in ⟨hk1, hk2⟩ (by decide), if_pos (by omega), if_neg (by omega)])
            | exact tk hM (fun k hk => (ha k (by omega)).trans rfl) (by rw [pick_in hl (by omega), cutV, rg_in ⟨hk1, hk2⟩ (by decide), if_neg (by omega), rg_in ⟨hc1, hc2⟩ (by decide), if_pos (by omega)])
            | exact tk hM (fun k hk => (ha k (by omega)).trans rfl) (by rw [pick_in hl (by omega), cutV, rg_in ⟨hk1, hk2⟩ (by decide), if_neg (by omega), rg_in ⟨hc1, hc2⟩ (by decide), if_neg (by omega)])
            | exact tk hM (fun k hk => (ha k (by omega)).trans rfl) (by rw [pick_in hl (by omega), cutV, rg_in ⟨hk1, hk2⟩ (by decide), if_pos (by omega), if_pos (by omega)])
            | (exfalso; omega)
      · refine A_iload_n3 d_M_cut_27 ?_
        refine A_iconst (v := nI 0) d_M_cut_28 (by decide) ?_
        refine A_iconst (v := nI 1) d_M_cut_29 (by decide) ?_
        refine A_callSP d_M_cut_30 (c_M_in _ _ _ _) q_1231 q_1232 mk_M_in rfl (by decide) rfl (Nat.le_of_ble_eq_true rfl) ⟨Nat.le_of_ble_eq_true rfl, Nat.le_of_ble_eq_true rfl⟩ ⟨rfl, rfl⟩ ?_
        refine A_if_eqB (tgt := 50) d_M_cut_33 (by decide) (fun c_33 => ?_) (fun c_33 => ?_)
        · refine A_iconst (v := (-1)) d_M_cut_50 (by decide) ?_
          refine A_iret d_M_cut_51 rfl ⟨Nat.zero_le _, Nat.zero_le _⟩ ?_
          first
            | exact tk hM (fun _ _ => rfl) (by rw [pick_out q])
            | exact tk hM (fun _ _ => rfl) (by rw [pick_in hl (by omega), cutV, rg_out c_19])
            | exact tk hM (fun _ _ => rfl) (by rw [pick_in hl (by omega), cutV, rg_in ⟨hk1, hk2⟩ (by decide), if_neg (by omega), rg_out c_33])
            | exact tk hM (fun _ _ => rfl) (by rw [pick_in hl (by omega), cutV, rg_in ⟨hk1, hk2⟩ (by decide), if_pos (by omega), if_neg (by omega)])
            | exact tk hM (fun k hk => (ha k (by omega)).trans rfl) (by rw [pick_in hl (by omega), cutV, rg_in ⟨hk1, hk2⟩ (by decide), if_neg (by omega), rg_in ⟨hc1, hc2⟩ (by decide), if_pos (by omega)])
            | exact tk hM (fun k hk => (ha k (by omega)).trans rfl) (by rw [pick_in hl (by omega), cutV, rg_in ⟨hk1, hk2⟩ (by decide), if_neg (by omega), rg_in ⟨hc1, hc2⟩ (by decide), if_neg (by omega)])
            | exact tk hM (fun k hk => (ha k (by omega)).trans rfl) (by rw [pick_in hl (by omega), cutV, rg_in ⟨hk1, hk2⟩ (by decide), if_pos (by omega), if_pos (by omega)])
            | (exfalso; omega)
        · first
            | obtain ⟨cc, rfl, hc1, hc2⟩ := inB_ex (by decide) c_33
            | skip
          refine A_iload_n2 d_M_cut_36 ?_
          refine A_iconst (v := nI 2) d_M_cut_37 (by decide) ?_
          refine A_icmp_ne (tgt := 52) d_M_cut_38 (by decide) (fun c_38 => ?_) (fun c => absurd ((nI_eq (by omega) (by decide)).mp c) (by omega))
          refine A_aload_n0 d_M_cut_52 ?_
          refine A_callV d_M_cut_53 (c_M_layNeeds hM hS) hM.o rfl q_1464 q_1466 qs_58 mk_M_layNeeds rfl (by decide) rfl (Nat.le_of_ble_eq_true rfl) ⟨Nat.le_of_ble_eq_true rfl, Nat.le_of_ble_eq_true rfl⟩ (fun v h1 hv => ?_)
          obtain ⟨rfl, S2, hM, hN, hf, ha⟩ := hv
          have hS2 := HS.keepF (fun k hk => ha k (by omega)) (fun j a b => hf j (by omega)) hS
          refine A_iload_n2 d_M_cut_56 ?_
          first | refine A_if_neN (tgt := 68) d_M_cut_57 (by decide) (by with_reducible rfl) (by omega) (fun c_57 => ?_) (fun c_57 => ?_) | refine A_if_ne (tgt := 68) d_M_cut_57 (by decide) (fun c_57 => ?_) (fun c_57 => ?_)
          · refine A_iload_n2 d_M_cut_68 ?_
            refine A_iconst (v := nI 1) d_M_cut_69 (by decide) ?_
            refine A_icmp_ne (tgt := 81) d_M_cut_70 (by decide) (fun c => absurd ((nI_eq (by omega) (by decide)).mpr (by omega)) c) (fun c_70 => ?_)
            refine A_aload_n0 d_M_cut_73 ?_
            refine A_iload_n3 d_M_cut_74 ?_
            refine A_callVP d_M_cut_75 (c_M_byKnife hM hS2 cc (by omega)) hM.o rfl q_1568 q_1570 qs_80 mk_M_byKnife rfl (by decide) rfl (Nat.le_of_ble_eq_true rfl) ⟨Nat.le_of_ble_eq_true rfl, Nat.le_of_ble_eq_true rfl⟩ ⟨rfl, rfl⟩ ?_
            refine A_goto (tgt := 85) d_M_cut_78 (by decide) ?_
            refine A_iret d_M_cut_85 rfl ⟨Nat.zero_le _, Nat.zero_le _⟩ ?_
            first
              | exact tk hM (fun _ _ => rfl) (by rw [pick_out q])
              | exact tk hM (fun _ _ => rfl) (by rw [pick_in hl (by omega), cutV, rg_out c_19])
              | exact tk hM (fun _ _ => rfl) (by rw [pick_in hl (by omega), cutV, rg_in ⟨hk1, hk2⟩ (by decide), if_neg (by omega), rg_out c_33])
              | exact tk hM (fun _ _ => rfl) (by rw [pick_in hl (by omega), cutV, rg_in ⟨hk1, hk2⟩ (by decide), if_pos (by omega), if_neg (by omega)])
              | exact tk hM (fun k hk => (ha k (by omega)).trans rfl) (by rw [pick_in hl (by omega), cutV, rg_in ⟨hk1, hk2⟩ (by decide), if_neg (by omega), rg_in ⟨hc1, hc2⟩ (by decide), if_pos (by omega)])
              | exact tk hM (fun k hk => (ha k (by omega)).trans rfl) (by rw [pick_in hl (by omega), cutV, rg_in ⟨hk1, hk2⟩ (by decide), if_neg (by omega), rg_in ⟨hc1, hc2⟩ (by decide), if_neg (by omega)])
              | exact tk hM (fun k hk => (ha k (by omega)).trans rfl) (by rw [pick_in hl (by omega), cutV, rg_in ⟨hk1, hk2⟩ (by decide), if_pos (by omega), if_pos (by omega)])
              | (exfalso; omega)
          · skip
            refine A_aload_n0 d_M_cut_60 ?_
            refine A_iload_n3 d_M_cut_61 ?_
            refine A_callVP d_M_cut_62 (c_M_byTurns hM hS2 cc (by omega)) hM.o rfl q_1560 q_1562 qs_78 mk_M_byTurns rfl (by decide) rfl (Nat.le_of_ble_eq_true rfl) ⟨Nat.le_of_ble_eq_true rfl, Nat.le_of_ble_eq_true rfl⟩ ⟨rfl, rfl⟩ ?_
            refine A_goto (tgt := 85) d_M_cut_65 (by decide) ?_
            refine A_iret d_M_cut_85 rfl ⟨Nat.zero_le _, Nat.zero_le _⟩ ?_
            first
              | exact tk hM (fun _ _ => rfl) (by rw [pick_out q])
              | exact tk hM (fun _ _ => rfl) (by rw [pick_in hl (by omega), cutV, rg_out c_19])
              | exact tk hM (fun _ _ => rfl) (by rw [pick_in hl (by omega), cutV, rg_in ⟨hk1, hk2⟩ (by decide), if_neg (by omega), rg_out c_33])
              | exact tk hM (fun _ _ => rfl) (by rw [pick_in hl (by omega), cutV, rg_in ⟨hk1, hk2⟩ (by decide), if_pos (by omega), if_neg (by omega)])
              | exact tk hM (fun k hk => (ha k (by omega)).trans rfl) (by rw [pick_in hl (by omega), cutV, rg_in ⟨hk1, hk2⟩ (by decide), if_neg (by omega), rg_in ⟨hc1, hc2⟩ (by decide), if_pos (by omega)])
              | exact tk hM (fun k hk => (ha k (by omega)).trans rfl) (by rw [pick_in hl (by omega), cutV, rg_in ⟨hk1, hk2⟩ (by decide), if_neg (by omega), rg_in ⟨hc1, hc2⟩ (by decide), if_neg (by omega)])
              | exact tk hM (fun k hk => (ha k (by omega)).trans rfl) (by rw [pick_in hl (by omega), cutV, rg_in ⟨hk1, hk2⟩ (by decide), if_pos (by omega), if_pos (by omega)])
              | (exfalso; omega)
  · refine A_if_eqB (tgt := 50) d_M_cut_10 (by decide) (fun c_10 => ?_) (fun c => absurd c (by decide))
    refine A_iconst (v := (-1)) d_M_cut_50 (by decide) ?_
    refine A_iret d_M_cut_51 rfl ⟨Nat.zero_le _, Nat.zero_le _⟩ ?_
    first
      | exact tk hM (fun _ _ => rfl) (by rw [pick_out q])
      | exact tk hM (fun _ _ => rfl) (by rw [pick_in hl (by omega), cutV, rg_out c_19])
      | exact tk hM (fun _ _ => rfl) (by rw [pick_in hl (by omega), cutV, rg_in ⟨hk1, hk2⟩ (by decide), if_neg (by omega), rg_out c_33])
      | exact tk hM (fun _ _ => rfl) (by rw [pick_in hl (by omega), cutV, rg_in ⟨hk1, hk2⟩ (by decide), if_pos (by omega), if_neg (by omega)])
      | exact tk hM (fun k hk => (ha k (by omega)).trans rfl) (by rw [pick_in hl (by omega), cutV, rg_in ⟨hk1, hk2⟩ (by decide), if_neg (by omega), rg_in ⟨hc1, hc2⟩ (by decide), if_pos (by omega)])
      | exact tk hM (fun k hk => (ha k (by omega)).trans rfl) (by rw [pick_in hl (by omega), cutV, rg_in ⟨hk1, hk2⟩ (by decide), if_neg (by omega), rg_in ⟨hc1, hc2⟩ (by decide), if_neg (by omega)])
      | exact tk hM (fun k hk => (ha k (by omega)).trans rfl) (by rw [pick_in hl (by omega), cutV, rg_in ⟨hk1, hk2⟩ (by decide), if_pos (by omega), if_pos (by omega)])
      | (exfalso; omega)
