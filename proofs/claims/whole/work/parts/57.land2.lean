theorem sumN_s (f : Nat → Nat) (i : Nat) : sumN f (i + 1) = sumN f i + f i := rfl
theorem prodN_s (f : Nat → Nat) (i : Nat) : prodN f (i + 1) = prodN f i * f i := rfl
theorem foldN_s {α : Type} (f : Nat → α → α) (a : α) (i : Nat) : foldN f a (i + 1) = f i (foldN f a i) := rfl
def lkdN (V t : Nat → Nat) (p cc : Nat) : Nat := sumN (fun x => if t x = cc then V (42 + 27 * p + (3 + x)) else 0) (V 0)
def valC (V t : Nat → Nat) : Nat := sumN (fun p => lkdN V t p (V (42 + 27 * p + 0))) (V 4)
theorem and1 (x : Int32) {k : Nat} (hk : k < 32) : (x >>> (nI k &&& 31)) &&& nI 1 = nI (if hasB x (nI k) = true then 1 else 0) := by
  cases hb : hasB x (nI k)
  · rw [if_neg (by decide)]
    rw [hasB_bt x hk] at hb
    apply b_ext
    intro i hi
    rw [b_and, b_1 i hi]
    by_cases q : i = 0
    · subst q
      rw [b_sshr k hk x (by decide), if_pos (by omega), Nat.add_zero, hb]
      rfl
    · rw [decide_eq_false q, Bool.and_false]
      exact (b_0 i).symm
  · rw [if_pos rfl]
    unfold hasB at hb
    exact of_decide_eq_true hb
theorem shl1 : ∀ k, k < 31 → nI 1 <<< (nI k &&& 31) = nI (2 ^ k) := by decide +kernel
theorem shl0 : ∀ k, k < 31 → nI 0 <<< (nI k &&& 31) = nI 0 := by decide +kernel
theorem hasB_nI {x k : Nat} {z : Int32} (h : (nI x >>> (nI k &&& 31)) &&& nI 1 = z) (hz : z = nI 1) : hasB (nI x) (nI k) = true := decide_eq_true (h.trans hz)
set_option maxHeartbeats 4000000 in
set_option maxRecDepth 100000 in
theorem c_Ld_carryings {G : GE} {h : AH} {a : Nat} {D : LD} (hA : LAt h a D) {V : Nat → Nat} (hV : LVr D V) {w : Nat} {t : Nat → Nat} (hT : TAt h w t)  : Ctr G y_Ld_carryings b_Ld_carryings 4 (some .int) r_Ld_carryings [.ref a, .ref w] h (Pu (.int (nI (carryN t (V 0)))) h) := by
  have hV0 := hV
  obtain ⟨ok, ⟨f0, f1, f2, f3, f4, f9⟩, hP, hBe, hTo⟩ := hV
  have hH := ok.1
  have hT0 := hT
  obtain ⟨g, hg, ht⟩ := hT
  have key : ∀ i, i ≤ V 0 → WA G y_Ld_carryings b_Ld_carryings 4 (some .int) r_Ld_carryings 0 0 (Pu (.int (nI (carryN t (V 0)))) h) 0 0 4 [some (.ref a), some (.ref w), some (.int (nI (sumN (fun h => if comesB t (V 0) h = true then 1 else 0) i))), some (.int (nI i))] [] h := by
    refine down ?_ (fun i hi ih => ?_)
    · refine A_iload_n3 d_Ld_carryings_4 ?_
      refine A_aload_n0 d_Ld_carryings_5 ?_
      refine A_getf (kf := 0) d_Ld_carryings_6 hA.o ok_1 (by decide) q_45 rfl ?_
      refine A_topI f0 ?_
      first | refine A_icmp_geN (tgt := 30) d_Ld_carryings_9 (by decide) (by with_reducible rfl) (by with_reducible rfl) (by omega) (by omega) (fun c_9 => ?_) (fun c_9 => ?_) | refine A_icmp_ge (tgt := 30) d_Ld_carryings_9 (by decide) (fun c_9 => ?_) (fun c_9 => ?_)
      · refine A_iload_n2 d_Ld_carryings_30 ?_
        refine A_iret d_Ld_carryings_31 rfl ⟨Nat.zero_le _, Nat.zero_le _⟩ ?_
        exact pu rfl
      · exact absurd c_9 (by omega)
    · refine A_iload_n3 d_Ld_carryings_4 ?_
      refine A_aload_n0 d_Ld_carryings_5 ?_
      refine A_getf (kf := 0) d_Ld_carryings_6 hA.o ok_1 (by decide) q_45 rfl ?_
      refine A_topI f0 ?_
      first | refine A_icmp_geN (tgt := 30) d_Ld_carryings_9 (by decide) (by with_reducible rfl) (by with_reducible rfl) (by omega) (by omega) (fun c_9 => ?_) (fun c_9 => ?_) | refine A_icmp_ge (tgt := 30) d_Ld_carryings_9 (by decide) (fun c_9 => ?_) (fun c_9 => ?_)
      · exact absurd c_9 (by omega)
      · refine A_iload_n2 d_Ld_carryings_12 ?_
        refine A_aload_n0 d_Ld_carryings_13 ?_
        refine A_aload_n1 d_Ld_carryings_14 ?_
        refine A_iload_n3 d_Ld_carryings_15 ?_
        refine A_callVP d_Ld_carryings_16 (c_Ld_arrives hA hV0 hT0 i hi) hA.o rfl q_697 q_698 q_699 mk_Ld_arrives rfl (by decide) rfl (Nat.le_of_ble_eq_true rfl) ⟨Nat.le_of_ble_eq_true rfl, Nat.le_of_ble_eq_true rfl⟩ ⟨rfl, rfl⟩ ?_
        refine A_callSNP d_Ld_carryings_19 (c_N_oneB _ _) q_701 q_591 mk_N_oneIf rfl (by decide) rfl (Nat.le_of_ble_eq_true rfl) ⟨Nat.le_of_ble_eq_true rfl, Nat.le_of_ble_eq_true rfl⟩ ⟨rfl, rfl⟩ ?_
        refine A_topI (bI_n _) ?_
        first | refine A_iaddN d_Ld_carryings_22 (by with_reducible rfl) (by with_reducible rfl) ?_ | refine A_iadd d_Ld_carryings_22 ?_
        refine A_istore2 d_Ld_carryings_23 trivial ?_
        first | refine A_iinc3 d_Ld_carryings_24 (nI_1 _) trivial ?_ | refine A_iinc3 d_Ld_carryings_24 rfl trivial ?_
        refine A_goto (tgt := 4) d_Ld_carryings_27 (by decide) ?_
        exact ih
  refine Ctr.of (by decide +kernel) (by simp) (Nat.le_of_ble_eq_true rfl) (L0 := [some (.ref a), some (.ref w), none, none]) rfl ?_
  refine A_iconst (v := nI 0) d_Ld_carryings_0 (by decide) ?_
  refine A_istore2 d_Ld_carryings_1 trivial ?_
  refine A_iconst (v := nI 0) d_Ld_carryings_2 (by decide) ?_
  refine A_istore3 d_Ld_carryings_3 trivial ?_
  exact key 0 (Nat.zero_le _)
set_option maxHeartbeats 4000000 in
set_option maxRecDepth 100000 in
theorem c_Ld_dark {G : GE} {h : AH} {a : Nat} {D : LD} (hA : LAt h a D) {V : Nat → Nat} (hV : LVr D V) {w : Nat} {t : Nat → Nat} (hT : TAt h w t) (cc : Nat) (hcc : cc < 2 ^ 31) : Ctr G y_Ld_dark b_Ld_dark 5 (some .int) r_Ld_dark [.ref a, .ref w, .int (nI cc)] h (Pu (.int (nI (darkN t cc (V 0)))) h) := by
  have hV0 := hV
  obtain ⟨ok, ⟨f0, f1, f2, f3, f4, f9⟩, hP, hBe, hTo⟩ := hV
  have hH := ok.1
  have hT0 := hT
  obtain ⟨g, hg, ht⟩ := hT
  have key : ∀ i, i ≤ V 0 → WA G y_Ld_dark b_Ld_dark 5 (some .int) r_Ld_dark 0 0 (Pu (.int (nI (darkN t cc (V 0)))) h) 0 0 5 [some (.ref a), some (.ref w), some (.int (nI cc)), some (.int (nI (sumN (fun h => if t h = cc then 1 else 0) i))), some (.int (nI i))] [] h := by
    refine down ?_ (fun i hi ih => ?_)
    · refine A_iload4 d_Ld_dark_5 ?_
      refine A_aload_n0 d_Ld_dark_7 ?_
      refine A_getf (kf := 0) d_Ld_dark_8 hA.o ok_1 (by decide) q_45 rfl ?_
      refine A_topI f0 ?_
      first | refine A_icmp_geN (tgt := 39) d_Ld_dark_11 (by decide) (by with_reducible rfl) (by with_reducible rfl) (by omega) (by omega) (fun c_11 => ?_) (fun c_11 => ?_) | refine A_icmp_ge (tgt := 39) d_Ld_dark_11 (by decide) (fun c_11 => ?_) (fun c_11 => ?_)
      · refine A_iload_n3 d_Ld_dark_39 ?_
        refine A_iret d_Ld_dark_40 rfl ⟨Nat.zero_le _, Nat.zero_le _⟩ ?_
        exact pu rfl
      · exact absurd c_11 (by omega)
    · refine A_iload4 d_Ld_dark_5 ?_
      refine A_aload_n0 d_Ld_dark_7 ?_
      refine A_getf (kf := 0) d_Ld_dark_8 hA.o ok_1 (by decide) q_45 rfl ?_
      refine A_topI f0 ?_
      first | refine A_icmp_geN (tgt := 39) d_Ld_dark_11 (by decide) (by with_reducible rfl) (by with_reducible rfl) (by omega) (by omega) (fun c_11 => ?_) (fun c_11 => ?_) | refine A_icmp_ge (tgt := 39) d_Ld_dark_11 (by decide) (fun c_11 => ?_) (fun c_11 => ?_)
      · exact absurd c_11 (by omega)
      · refine A_iload_n3 d_Ld_dark_14 ?_
        refine A_aload_n1 d_Ld_dark_15 ?_
        refine A_iload4 d_Ld_dark_16 ?_
        refine A_ialdN d_Ld_dark_18 hg ⟨by omega, by decide⟩ ?_
        refine A_topI (ht (i) (by omega)).1 ?_
        have hti2 := (ht i (by omega)).2
        refine A_iload_n2 d_Ld_dark_19 ?_
        first | refine A_icmp_neN (tgt := 27) d_Ld_dark_20 (by decide) (by with_reducible rfl) (by with_reducible rfl) (by omega) (by omega) (fun c_20 => ?_) (fun c_20 => ?_) | refine A_icmp_ne (tgt := 27) d_Ld_dark_20 (by decide) (fun c_20 => ?_) (fun c_20 => ?_)
        · refine A_iconst (v := nI 0) d_Ld_dark_27 (by decide) ?_
          refine A_callSNP d_Ld_dark_28 (c_N_one0 _) q_701 q_591 mk_N_oneIf rfl (by decide) rfl (Nat.le_of_ble_eq_true rfl) ⟨Nat.le_of_ble_eq_true rfl, Nat.le_of_ble_eq_true rfl⟩ ⟨rfl, rfl⟩ ?_
          first | refine A_iaddN d_Ld_dark_31 (by with_reducible rfl) (by with_reducible rfl) ?_ | refine A_iadd d_Ld_dark_31 ?_
          refine A_istore3 d_Ld_dark_32 trivial ?_
          first | refine A_iinc4 d_Ld_dark_33 (nI_1 _) trivial ?_ | refine A_iinc4 d_Ld_dark_33 rfl trivial ?_
          refine A_goto (tgt := 5) d_Ld_dark_36 (by decide) ?_
          refine A_loc ?_ ih
          rw [sumN_s]
          first | (rw [if_pos c_20]; done) | (rw [if_neg c_20]; done)
        · refine A_iconst (v := nI 1) d_Ld_dark_23 (by decide) ?_
          refine A_goto (tgt := 28) d_Ld_dark_24 (by decide) ?_
          refine A_callSNP d_Ld_dark_28 (c_N_one1 _) q_701 q_591 mk_N_oneIf rfl (by decide) rfl (Nat.le_of_ble_eq_true rfl) ⟨Nat.le_of_ble_eq_true rfl, Nat.le_of_ble_eq_true rfl⟩ ⟨rfl, rfl⟩ ?_
          first | refine A_iaddN d_Ld_dark_31 (by with_reducible rfl) (by with_reducible rfl) ?_ | refine A_iadd d_Ld_dark_31 ?_
          refine A_istore3 d_Ld_dark_32 trivial ?_
          first | refine A_iinc4 d_Ld_dark_33 (nI_1 _) trivial ?_ | refine A_iinc4 d_Ld_dark_33 rfl trivial ?_
          refine A_goto (tgt := 5) d_Ld_dark_36 (by decide) ?_
          refine A_loc ?_ ih
          rw [sumN_s]
          first | (rw [if_pos c_20]; done) | (rw [if_neg c_20]; done)
  refine Ctr.of (by decide +kernel) (by simp) (Nat.le_of_ble_eq_true rfl) (L0 := [some (.ref a), some (.ref w), some (.int (nI cc)), none, none]) rfl ?_
  refine A_iconst (v := nI 0) d_Ld_dark_0 (by decide) ?_
  refine A_istore3 d_Ld_dark_1 trivial ?_
  refine A_iconst (v := nI 0) d_Ld_dark_2 (by decide) ?_
  refine A_istore4 d_Ld_dark_3 trivial ?_
  exact key 0 (Nat.zero_le _)
set_option maxHeartbeats 4000000 in
set_option maxRecDepth 100000 in
theorem c_Ld_sleepless {G : GE} {h : AH} {a : Nat} {D : LD} (hA : LAt h a D) {V : Nat → Nat} (hV : LVr D V) (d0 d1 : Nat) (hd0 : d0 ≤ V 0) (hd1 : d1 ≤ V 0) : Ctr G y_Ld_sleepless b_Ld_sleepless 6 (some .int) r_Ld_sleepless [.ref a, .int (nI d0), .int (nI d1)] h (Pu (.int (awakeI V d0 d1)) h) := by
  have hV0 := hV
  obtain ⟨ok, ⟨f0, f1, f2, f3, f4, f9⟩, hP, hBe, hTo⟩ := hV
  have hH := ok.1
  have b4 := ok.2.2.2.2.1
  have b5 := ok.2.2.2.2.2.1
  have bp := ok.2.2.2.2.2.2.1
  have bb := ok.2.2.2.2.2.2.2.1
  have key : ∀ i, i ≤ V 4 → WA G y_Ld_sleepless b_Ld_sleepless 6 (some .int) r_Ld_sleepless 0 0 (Pu (.int (awakeI V d0 d1)) h) 0 0 5 [some (.ref a), some (.int (nI d0)), some (.int (nI d1)), some (.int (foldN (fun p x => x ||| (if sleepsB V p (if V (42 + 27 * p + 0) = 0 then d0 else d1) = true then nI 0 else nI 1 <<< (nI p &&& 31))) (nI 0) i)), some (.int (nI i)), none] [] h := by
    refine down ?_ (fun i hi ih => ?_)
    · refine A_iload4 d_Ld_sleepless_5 ?_
      refine A_aload_n0 d_Ld_sleepless_7 ?_
      refine A_getf (kf := 4) d_Ld_sleepless_8 hA.o ok_1 (by decide) q_60 rfl ?_
      refine A_topI f4 ?_
      first | refine A_icmp_geN (tgt := 73) d_Ld_sleepless_11 (by decide) (by with_reducible rfl) (by with_reducible rfl) (by omega) (by omega) (fun c_11 => ?_) (fun c_11 => ?_) | refine A_icmp_ge (tgt := 73) d_Ld_sleepless_11 (by decide) (fun c_11 => ?_) (fun c_11 => ?_)
      · refine A_iload_n3 d_Ld_sleepless_73 ?_
        refine A_iret d_Ld_sleepless_74 rfl ⟨Nat.zero_le _, Nat.zero_le _⟩ ?_
        exact pu rfl
      · exact absurd c_11 (by omega)
    · refine A_iload4 d_Ld_sleepless_5 ?_
      refine A_aload_n0 d_Ld_sleepless_7 ?_
      refine A_getf (kf := 4) d_Ld_sleepless_8 hA.o ok_1 (by decide) q_60 rfl ?_
      refine A_topI f4 ?_
      first | refine A_icmp_geN (tgt := 73) d_Ld_sleepless_11 (by decide) (by with_reducible rfl) (by with_reducible rfl) (by omega) (by omega) (fun c_11 => ?_) (fun c_11 => ?_) | refine A_icmp_ge (tgt := 73) d_Ld_sleepless_11 (by decide) (fun c_11 => ?_) (fun c_11 => ?_)
      · exact absurd c_11 (by omega)
      · refine A_aload_n0 d_Ld_sleepless_14 ?_
        refine A_getf (kf := 5) d_Ld_sleepless_15 hA.o ok_1 (by decide) q_63 rfl ?_
        refine A_iload4 d_Ld_sleepless_18 ?_
        refine A_ialdN d_Ld_sleepless_20 hA.a5 ⟨by omega, by decide⟩ ?_
        refine A_topI (hP i (by omega)).1 ?_
        have hci := (bp i (by omega)).1
        first | refine A_if_neN (tgt := 28) d_Ld_sleepless_21 (by decide) (by with_reducible rfl) (by omega) (fun c_21 => ?_) (fun c_21 => ?_) | refine A_if_ne (tgt := 28) d_Ld_sleepless_21 (by decide) (fun c_21 => ?_) (fun c_21 => ?_)
        · refine A_iload_n2 d_Ld_sleepless_28 ?_
          refine A_istore5 d_Ld_sleepless_29 trivial ?_
          refine A_iload5 d_Ld_sleepless_31 ?_
          refine A_aload_n0 d_Ld_sleepless_33 ?_
          refine A_getf (kf := 6) d_Ld_sleepless_34 hA.o ok_1 (by decide) q_67 rfl ?_
          refine A_iload4 d_Ld_sleepless_37 ?_
          refine A_ialdN d_Ld_sleepless_39 hA.a6 ⟨by omega, by decide⟩ ?_
          refine A_topI (hP i (by omega)).2.1 ?_
          have hne := (bp i (by omega)).2.1
          first | refine A_icmp_ltN (tgt := 60) d_Ld_sleepless_40 (by decide) (by with_reducible rfl) (by with_reducible rfl) (by omega) (by omega) (fun c_40 => ?_) (fun c_40 => ?_) | refine A_icmp_lt (tgt := 60) d_Ld_sleepless_40 (by decide) (fun c_40 => ?_) (fun c_40 => ?_)
          · refine A_iload_n3 d_Ld_sleepless_60 ?_
            refine A_iconst (v := nI 1) d_Ld_sleepless_61 (by decide) ?_
            refine A_iload4 d_Ld_sleepless_62 ?_
            refine A_ishl d_Ld_sleepless_64 ?_
            refine A_ior d_Ld_sleepless_65 ?_
            refine A_istore3 d_Ld_sleepless_66 trivial ?_
            first | refine A_iinc4 d_Ld_sleepless_67 (nI_1 _) trivial ?_ | refine A_iinc4 d_Ld_sleepless_67 rfl trivial ?_
            refine A_goto (tgt := 5) d_Ld_sleepless_70 (by decide) ?_
            refine A_drop5 (A_loc ?_ ih)
            rw [foldN_s]
            first | rw [if_pos c_21] | rw [if_neg c_21]
            first
              | (rw [show sleepsB V i d0 = true by unfold sleepsB; rw [decide_eq_true (by omega), decide_eq_true (by omega)]; rfl, if_pos rfl, or_nI0]; done)
              | (rw [show sleepsB V i d0 = false by unfold sleepsB; first | (rw [decide_eq_false (p := V (42 + 27 * i + 1) ≤ d0) (by omega)]; rfl) | (rw [decide_eq_false (p := V (42 + 27 * i + 2) ≤ V 0 - d0) (by omega), Bool.and_false]), if_neg (by decide)]; done)
              | (rw [show sleepsB V i d1 = true by unfold sleepsB; rw [decide_eq_true (by omega), decide_eq_true (by omega)]; rfl, if_pos rfl, or_nI0]; done)
              | (rw [show sleepsB V i d1 = false by unfold sleepsB; first | (rw [decide_eq_false (p := V (42 + 27 * i + 1) ≤ d1) (by omega)]; rfl) | (rw [decide_eq_false (p := V (42 + 27 * i + 2) ≤ V 0 - d1) (by omega), Bool.and_false]), if_neg (by decide)]; done)
          · refine A_aload_n0 d_Ld_sleepless_43 ?_
            refine A_getf (kf := 0) d_Ld_sleepless_44 hA.o ok_1 (by decide) q_45 rfl ?_
            refine A_topI f0 ?_
            refine A_iload5 d_Ld_sleepless_47 ?_
            first | refine A_isubN d_Ld_sleepless_49 (by with_reducible rfl) (by with_reducible rfl) (by omega) ?_ | refine A_isub d_Ld_sleepless_49 ?_
            refine A_aload_n0 d_Ld_sleepless_50 ?_
            refine A_getf (kf := 7) d_Ld_sleepless_51 hA.o ok_1 (by decide) q_70 rfl ?_
            refine A_iload4 d_Ld_sleepless_54 ?_
            refine A_ialdN d_Ld_sleepless_56 hA.a7 ⟨by omega, by decide⟩ ?_
            refine A_topI (hP i (by omega)).2.2.1 ?_
            have hli := (bp i (by omega)).2.2.1
            first | refine A_icmp_geN (tgt := 67) d_Ld_sleepless_57 (by decide) (by with_reducible rfl) (by with_reducible rfl) (by omega) (by omega) (fun c_57 => ?_) (fun c_57 => ?_) | refine A_icmp_ge (tgt := 67) d_Ld_sleepless_57 (by decide) (fun c_57 => ?_) (fun c_57 => ?_)
            · first | refine A_iinc4 d_Ld_sleepless_67 (nI_1 _) trivial ?_ | refine A_iinc4 d_Ld_sleepless_67 rfl trivial ?_
              refine A_goto (tgt := 5) d_Ld_sleepless_70 (by decide) ?_
              refine A_drop5 (A_loc ?_ ih)
              rw [foldN_s]
              first | rw [if_pos c_21] | rw [if_neg c_21]
              first
                | (rw [show sleepsB V i d0 = true by unfold sleepsB; rw [decide_eq_true (by omega), decide_eq_true (by omega)]; rfl, if_pos rfl, or_nI0]; done)
                | (rw [show sleepsB V i d0 = false by unfold sleepsB; first | (rw [decide_eq_false (p := V (42 + 27 * i + 1) ≤ d0) (by omega)]; rfl) | (rw [decide_eq_false (p := V (42 + 27 * i + 2) ≤ V 0 - d0) (by omega), Bool.and_false]), if_neg (by decide)]; done)
                | (rw [show sleepsB V i d1 = true by unfold sleepsB; rw [decide_eq_true (by omega), decide_eq_true (by omega)]; rfl, if_pos rfl, or_nI0]; done)
                | (rw [show sleepsB V i d1 = false by unfold sleepsB; first | (rw [decide_eq_false (p := V (42 + 27 * i + 1) ≤ d1) (by omega)]; rfl) | (rw [decide_eq_false (p := V (42 + 27 * i + 2) ≤ V 0 - d1) (by omega), Bool.and_false]), if_neg (by decide)]; done)
            · refine A_iload_n3 d_Ld_sleepless_60 ?_
              refine A_iconst (v := nI 1) d_Ld_sleepless_61 (by decide) ?_
              refine A_iload4 d_Ld_sleepless_62 ?_
              refine A_ishl d_Ld_sleepless_64 ?_
              refine A_ior d_Ld_sleepless_65 ?_
              refine A_istore3 d_Ld_sleepless_66 trivial ?_
              first | refine A_iinc4 d_Ld_sleepless_67 (nI_1 _) trivial ?_ | refine A_iinc4 d_Ld_sleepless_67 rfl trivial ?_
              refine A_goto (tgt := 5) d_Ld_sleepless_70 (by decide) ?_
              refine A_drop5 (A_loc ?_ ih)
              rw [foldN_s]
              first | rw [if_pos c_21] | rw [if_neg c_21]
              first
                | (rw [show sleepsB V i d0 = true by unfold sleepsB; rw [decide_eq_true (by omega), decide_eq_true (by omega)]; rfl, if_pos rfl, or_nI0]; done)
                | (rw [show sleepsB V i d0 = false by unfold sleepsB; first | (rw [decide_eq_false (p := V (42 + 27 * i + 1) ≤ d0) (by omega)]; rfl) | (rw [decide_eq_false (p := V (42 + 27 * i + 2) ≤ V 0 - d0) (by omega), Bool.and_false]), if_neg (by decide)]; done)
                | (rw [show sleepsB V i d1 = true by unfold sleepsB; rw [decide_eq_true (by omega), decide_eq_true (by omega)]; rfl, if_pos rfl, or_nI0]; done)
                | (rw [show sleepsB V i d1 = false by unfold sleepsB; first | (rw [decide_eq_false (p := V (42 + 27 * i + 1) ≤ d1) (by omega)]; rfl) | (rw [decide_eq_false (p := V (42 + 27 * i + 2) ≤ V 0 - d1) (by omega), Bool.and_false]), if_neg (by decide)]; done)
        · refine A_iload_n1 d_Ld_sleepless_24 ?_
          refine A_goto (tgt := 29) d_Ld_sleepless_25 (by decide) ?_
          refine A_istore5 d_Ld_sleepless_29 trivial ?_
          refine A_iload5 d_Ld_sleepless_31 ?_
          refine A_aload_n0 d_Ld_sleepless_33 ?_
          refine A_getf (kf := 6) d_Ld_sleepless_34 hA.o ok_1 (by decide) q_67 rfl ?_
          refine A_iload4 d_Ld_sleepless_37 ?_
          refine A_ialdN d_Ld_sleepless_39 hA.a6 ⟨by omega, by decide⟩ ?_
          refine A_topI (hP i (by omega)).2.1 ?_
          have hne := (bp i (by omega)).2.1
          first | refine A_icmp_ltN (tgt := 60) d_Ld_sleepless_40 (by decide) (by with_reducible rfl) (by with_reducible rfl) (by omega) (by omega) (fun c_40 => ?_) (fun c_40 => ?_) | refine A_icmp_lt (tgt := 60) d_Ld_sleepless_40 (by decide) (fun c_40 => ?_) (fun c_40 => ?_)
          · refine A_iload_n3 d_Ld_sleepless_60 ?_
            refine A_iconst (v := nI 1) d_Ld_sleepless_61 (by decide) ?_
            refine A_iload4 d_Ld_sleepless_62 ?_
            refine A_ishl d_Ld_sleepless_64 ?_
            refine A_ior d_Ld_sleepless_65 ?_
            refine A_istore3 d_Ld_sleepless_66 trivial ?_
            first | refine A_iinc4 d_Ld_sleepless_67 (nI_1 _) trivial ?_ | refine A_iinc4 d_Ld_sleepless_67 rfl trivial ?_
            refine A_goto (tgt := 5) d_Ld_sleepless_70 (by decide) ?_
            refine A_drop5 (A_loc ?_ ih)
            rw [foldN_s]
            first | rw [if_pos c_21] | rw [if_neg c_21]
            first
              | (rw [show sleepsB V i d0 = true by unfold sleepsB; rw [decide_eq_true (by omega), decide_eq_true (by omega)]; rfl, if_pos rfl, or_nI0]; done)
              | (rw [show sleepsB V i d0 = false by unfold sleepsB; first | (rw [decide_eq_false (p := V (42 + 27 * i + 1) ≤ d0) (by omega)]; rfl) | (rw [decide_eq_false (p := V (42 + 27 * i + 2) ≤ V 0 - d0) (by omega), Bool.and_false]), if_neg (by decide)]; done)
              | (rw [show sleepsB V i d1 = true by unfold sleepsB; rw [decide_eq_true (by omega), decide_eq_true (by omega)]; rfl, if_pos rfl, or_nI0]; done)
              | (rw [show sleepsB V i d1 = false by unfold sleepsB; first | (rw [decide_eq_false (p := V (42 + 27 * i + 1) ≤ d1) (by omega)]; rfl) | (rw [decide_eq_false (p := V (42 + 27 * i + 2) ≤ V 0 - d1) (by omega), Bool.and_false]), if_neg (by decide)]; done)
          · refine A_aload_n0 d_Ld_sleepless_43 ?_
            refine A_getf (kf := 0) d_Ld_sleepless_44 hA.o ok_1 (by decide) q_45 rfl ?_
            refine A_topI f0 ?_
            refine A_iload5 d_Ld_sleepless_47 ?_
            first | refine A_isubN d_Ld_sleepless_49 (by with_reducible rfl) (by with_reducible rfl) (by omega) ?_ | refine A_isub d_Ld_sleepless_49 ?_
            refine A_aload_n0 d_Ld_sleepless_50 ?_
            refine A_getf (kf := 7) d_Ld_sleepless_51 hA.o ok_1 (by decide) q_70 rfl ?_
            refine A_iload4 d_Ld_sleepless_54 ?_
            refine A_ialdN d_Ld_sleepless_56 hA.a7 ⟨by omega, by decide⟩ ?_
            refine A_topI (hP i (by omega)).2.2.1 ?_
            have hli := (bp i (by omega)).2.2.1
            first | refine A_icmp_geN (tgt := 67) d_Ld_sleepless_57 (by decide) (by with_reducible rfl) (by with_reducible rfl) (by omega) (by omega) (fun c_57 => ?_) (fun c_57 => ?_) | refine A_icmp_ge (tgt := 67) d_Ld_sleepless_57 (by decide) (fun c_57 => ?_) (fun c_57 => ?_)
            · first | refine A_iinc4 d_Ld_sleepless_67 (nI_1 _) trivial ?_ | refine A_iinc4 d_Ld_sleepless_67 rfl trivial ?_
              refine A_goto (tgt := 5) d_Ld_sleepless_70 (by decide) ?_
              refine A_drop5 (A_loc ?_ ih)
              rw [foldN_s]
              first | rw [if_pos c_21] | rw [if_neg c_21]
              first
                | (rw [show sleepsB V i d0 = true by unfold sleepsB; rw [decide_eq_true (by omega), decide_eq_true (by omega)]; rfl, if_pos rfl, or_nI0]; done)
                | (rw [show sleepsB V i d0 = false by unfold sleepsB; first | (rw [decide_eq_false (p := V (42 + 27 * i + 1) ≤ d0) (by omega)]; rfl) | (rw [decide_eq_false (p := V (42 + 27 * i + 2) ≤ V 0 - d0) (by omega), Bool.and_false]), if_neg (by decide)]; done)
                | (rw [show sleepsB V i d1 = true by unfold sleepsB; rw [decide_eq_true (by omega), decide_eq_true (by omega)]; rfl, if_pos rfl, or_nI0]; done)
                | (rw [show sleepsB V i d1 = false by unfold sleepsB; first | (rw [decide_eq_false (p := V (42 + 27 * i + 1) ≤ d1) (by omega)]; rfl) | (rw [decide_eq_false (p := V (42 + 27 * i + 2) ≤ V 0 - d1) (by omega), Bool.and_false]), if_neg (by decide)]; done)
            · refine A_iload_n3 d_Ld_sleepless_60 ?_
              refine A_iconst (v := nI 1) d_Ld_sleepless_61 (by decide) ?_
              refine A_iload4 d_Ld_sleepless_62 ?_
              refine A_ishl d_Ld_sleepless_64 ?_
              refine A_ior d_Ld_sleepless_65 ?_
              refine A_istore3 d_Ld_sleepless_66 trivial ?_
              first | refine A_iinc4 d_Ld_sleepless_67 (nI_1 _) trivial ?_ | refine A_iinc4 d_Ld_sleepless_67 rfl trivial ?_
              refine A_goto (tgt := 5) d_Ld_sleepless_70 (by decide) ?_
              refine A_drop5 (A_loc ?_ ih)
              rw [foldN_s]
              first | rw [if_pos c_21] | rw [if_neg c_21]
              first
                | (rw [show sleepsB V i d0 = true by unfold sleepsB; rw [decide_eq_true (by omega), decide_eq_true (by omega)]; rfl, if_pos rfl, or_nI0]; done)
                | (rw [show sleepsB V i d0 = false by unfold sleepsB; first | (rw [decide_eq_false (p := V (42 + 27 * i + 1) ≤ d0) (by omega)]; rfl) | (rw [decide_eq_false (p := V (42 + 27 * i + 2) ≤ V 0 - d0) (by omega), Bool.and_false]), if_neg (by decide)]; done)
                | (rw [show sleepsB V i d1 = true by unfold sleepsB; rw [decide_eq_true (by omega), decide_eq_true (by omega)]; rfl, if_pos rfl, or_nI0]; done)
                | (rw [show sleepsB V i d1 = false by unfold sleepsB; first | (rw [decide_eq_false (p := V (42 + 27 * i + 1) ≤ d1) (by omega)]; rfl) | (rw [decide_eq_false (p := V (42 + 27 * i + 2) ≤ V 0 - d1) (by omega), Bool.and_false]), if_neg (by decide)]; done)
  refine Ctr.of (by decide +kernel) (by simp) (Nat.le_of_ble_eq_true rfl) (L0 := [some (.ref a), some (.int (nI d0)), some (.int (nI d1)), none, none, none]) rfl ?_
  refine A_iconst (v := nI 0) d_Ld_sleepless_0 (by decide) ?_
  refine A_istore3 d_Ld_sleepless_1 trivial ?_
  refine A_iconst (v := nI 0) d_Ld_sleepless_2 (by decide) ?_
  refine A_istore4 d_Ld_sleepless_3 trivial ?_
  exact key 0 (Nat.zero_le _)
theorem needF_le {V : Nat → Nat} (ok : VOK V) (cc : Nat) : ∀ n, n ≤ 10 → foldN (fun p x => if V (42 + 27 * p + 0) = cc then max x (V (42 + 27 * p + 1)) else x) 0 n ≤ 12
  | 0, _ => Nat.zero_le _
  | n + 1, hn => by
    have ih := needF_le ok cc n (by omega)
    have hv := (ok.2.2.2.2.2.2.1 n (by omega)).2.1
    rw [foldN_s]
    split
    · exact Nat.max_le.mpr ⟨ih, hv⟩
    · exact ih
set_option maxHeartbeats 4000000 in
set_option maxRecDepth 100000 in
theorem c_Ld_greatestNeed {G : GE} {h : AH} {a : Nat} {D : LD} (hA : LAt h a D) {V : Nat → Nat} (hV : LVr D V) (cc : Nat) (hcc : cc < 2 ^ 31) : Ctr G y_Ld_greatestNeed b_Ld_greatestNeed 4 (some .int) r_Ld_greatestNeed [.ref a, .int (nI cc)] h (Pu (.int (nI (needN V cc))) h) := by
  have hV0 := hV
  obtain ⟨ok, ⟨f0, f1, f2, f3, f4, f9⟩, hP, hBe, hTo⟩ := hV
  have hH := ok.1
  have b4 := ok.2.2.2.2.1
  have b5 := ok.2.2.2.2.2.1
  have bp := ok.2.2.2.2.2.2.1
  have bb := ok.2.2.2.2.2.2.2.1
  have key : ∀ i, i ≤ V 4 → WA G y_Ld_greatestNeed b_Ld_greatestNeed 4 (some .int) r_Ld_greatestNeed 0 0 (Pu (.int (nI (needN V cc))) h) 0 0 4 [some (.ref a), some (.int (nI cc)), some (.int (nI (foldN (fun p x => if V (42 + 27 * p + 0) = cc then max x (V (42 + 27 * p + 1)) else x) 0 i))), some (.int (nI i))] [] h := by
    refine down ?_ (fun i hi ih => ?_)
    · refine A_iload_n3 d_Ld_greatestNeed_4 ?_
      refine A_aload_n0 d_Ld_greatestNeed_5 ?_
      refine A_getf (kf := 4) d_Ld_greatestNeed_6 hA.o ok_1 (by decide) q_60 rfl ?_
      refine A_topI f4 ?_
      first | refine A_icmp_geN (tgt := 39) d_Ld_greatestNeed_9 (by decide) (by with_reducible rfl) (by with_reducible rfl) (by omega) (by omega) (fun c_9 => ?_) (fun c_9 => ?_) | refine A_icmp_ge (tgt := 39) d_Ld_greatestNeed_9 (by decide) (fun c_9 => ?_) (fun c_9 => ?_)
      · refine A_iload_n2 d_Ld_greatestNeed_39 ?_
        refine A_iret d_Ld_greatestNeed_40 rfl ⟨Nat.zero_le _, Nat.zero_le _⟩ ?_
        exact pu rfl
      · exact absurd c_9 (by omega)
    · refine A_iload_n3 d_Ld_greatestNeed_4 ?_
      refine A_aload_n0 d_Ld_greatestNeed_5 ?_
      refine A_getf (kf := 4) d_Ld_greatestNeed_6 hA.o ok_1 (by decide) q_60 rfl ?_
      refine A_topI f4 ?_
      first | refine A_icmp_geN (tgt := 39) d_Ld_greatestNeed_9 (by decide) (by with_reducible rfl) (by with_reducible rfl) (by omega) (by omega) (fun c_9 => ?_) (fun c_9 => ?_) | refine A_icmp_ge (tgt := 39) d_Ld_greatestNeed_9 (by decide) (fun c_9 => ?_) (fun c_9 => ?_)
      · exact absurd c_9 (by omega)
      · refine A_aload_n0 d_Ld_greatestNeed_12 ?_
        refine A_getf (kf := 5) d_Ld_greatestNeed_13 hA.o ok_1 (by decide) q_63 rfl ?_
        refine A_iload_n3 d_Ld_greatestNeed_16 ?_
        refine A_ialdN d_Ld_greatestNeed_17 hA.a5 ⟨by omega, by decide⟩ ?_
        refine A_topI (hP i (by omega)).1 ?_
        have hci := (bp i (by omega)).1
        refine A_iload_n1 d_Ld_greatestNeed_18 ?_
        first | refine A_icmp_neN (tgt := 33) d_Ld_greatestNeed_19 (by decide) (by with_reducible rfl) (by with_reducible rfl) (by omega) (by omega) (fun c_19 => ?_) (fun c_19 => ?_) | refine A_icmp_ne (tgt := 33) d_Ld_greatestNeed_19 (by decide) (fun c_19 => ?_) (fun c_19 => ?_)
        · first | refine A_iinc3 d_Ld_greatestNeed_33 (nI_1 _) trivial ?_ | refine A_iinc3 d_Ld_greatestNeed_33 rfl trivial ?_
          refine A_goto (tgt := 4) d_Ld_greatestNeed_36 (by decide) ?_
          refine A_loc ?_ ih
          rw [foldN_s]
          first | (rw [if_pos c_19]; done) | (rw [if_neg c_19]; done)
        · refine A_iload_n2 d_Ld_greatestNeed_22 ?_
          refine A_aload_n0 d_Ld_greatestNeed_23 ?_
          refine A_getf (kf := 6) d_Ld_greatestNeed_24 hA.o ok_1 (by decide) q_67 rfl ?_
          refine A_iload_n3 d_Ld_greatestNeed_27 ?_
          refine A_ialdN d_Ld_greatestNeed_28 hA.a6 ⟨by omega, by decide⟩ ?_
          refine A_topI (hP i (by omega)).2.1 ?_
          have hne := (bp i (by omega)).2.1
          have hfn := needF_le ok cc i (by omega)
          refine A_callSP d_Ld_greatestNeed_29 (c_JM_max_0 _ _ _) q_790 q_580 mk_JM_max_0 rfl (by decide) rfl (Nat.le_of_ble_eq_true rfl) ⟨Nat.le_of_ble_eq_true rfl, Nat.le_of_ble_eq_true rfl⟩ ⟨rfl, rfl⟩ ?_
          refine A_topI (nI_maxJ (by omega) (by omega)) ?_
          refine A_istore2 d_Ld_greatestNeed_32 trivial ?_
          first | refine A_iinc3 d_Ld_greatestNeed_33 (nI_1 _) trivial ?_ | refine A_iinc3 d_Ld_greatestNeed_33 rfl trivial ?_
          refine A_goto (tgt := 4) d_Ld_greatestNeed_36 (by decide) ?_
          refine A_loc ?_ ih
          rw [foldN_s]
          first | (rw [if_pos c_19]; done) | (rw [if_neg c_19]; done)
  refine Ctr.of (by decide +kernel) (by simp) (Nat.le_of_ble_eq_true rfl) (L0 := [some (.ref a), some (.int (nI cc)), none, none]) rfl ?_
  refine A_iconst (v := nI 0) d_Ld_greatestNeed_0 (by decide) ?_
  refine A_istore2 d_Ld_greatestNeed_1 trivial ?_
  refine A_iconst (v := nI 0) d_Ld_greatestNeed_2 (by decide) ?_
  refine A_istore3 d_Ld_greatestNeed_3 trivial ?_
  exact key 0 (Nat.zero_le _)
set_option maxHeartbeats 4000000 in
set_option maxRecDepth 100000 in
theorem c_Ld_likedDark {G : GE} {h : AH} {a : Nat} {D : LD} (hA : LAt h a D) {V : Nat → Nat} (hV : LVr D V) {w : Nat} {t : Nat → Nat} (hT : TAt h w t) (p cc : Nat) (hp : p < V 4) (hcc : cc < 2 ^ 31) : Ctr G y_Ld_likedDark b_Ld_likedDark 6 (some .int) r_Ld_likedDark [.ref a, .int (nI p), .ref w, .int (nI cc)] h (Pu (.int (nI (lkdN V t p cc))) h) := by
  have hV0 := hV
  obtain ⟨ok, ⟨f0, f1, f2, f3, f4, f9⟩, hP, hBe, hTo⟩ := hV
  have hH := ok.1
  have hT0 := hT
  obtain ⟨g, hg, ht⟩ := hT
  have b4 := ok.2.2.2.2.1
  have b5 := ok.2.2.2.2.2.1
  have bp := ok.2.2.2.2.2.2.1
  have bb := ok.2.2.2.2.2.2.2.1
  have key : ∀ i, i ≤ V 0 → WA G y_Ld_likedDark b_Ld_likedDark 6 (some .int) r_Ld_likedDark 0 0 (Pu (.int (nI (lkdN V t p cc))) h) 0 0 6 [some (.ref a), some (.int (nI p)), some (.ref w), some (.int (nI cc)), some (.int (nI (sumN (fun x => if t x = cc then V (42 + 27 * p + (3 + x)) else 0) i))), some (.int (nI i))] [] h := by
    refine down ?_ (fun i hi ih => ?_)
    · refine A_iload5 d_Ld_likedDark_6 ?_
      refine A_aload_n0 d_Ld_likedDark_8 ?_
      refine A_getf (kf := 0) d_Ld_likedDark_9 hA.o ok_1 (by decide) q_45 rfl ?_
      refine A_topI f0 ?_
      first | refine A_icmp_geN (tgt := 46) d_Ld_likedDark_12 (by decide) (by with_reducible rfl) (by with_reducible rfl) (by omega) (by omega) (fun c_12 => ?_) (fun c_12 => ?_) | refine A_icmp_ge (tgt := 46) d_Ld_likedDark_12 (by decide) (fun c_12 => ?_) (fun c_12 => ?_)
      · refine A_iload4 d_Ld_likedDark_46 ?_
        refine A_iret d_Ld_likedDark_48 rfl ⟨Nat.zero_le _, Nat.zero_le _⟩ ?_
        exact pu rfl
      · exact absurd c_12 (by omega)
    · refine A_iload5 d_Ld_likedDark_6 ?_
      refine A_aload_n0 d_Ld_likedDark_8 ?_
      refine A_getf (kf := 0) d_Ld_likedDark_9 hA.o ok_1 (by decide) q_45 rfl ?_
      refine A_topI f0 ?_
      first | refine A_icmp_geN (tgt := 46) d_Ld_likedDark_12 (by decide) (by with_reducible rfl) (by with_reducible rfl) (by omega) (by omega) (fun c_12 => ?_) (fun c_12 => ?_) | refine A_icmp_ge (tgt := 46) d_Ld_likedDark_12 (by decide) (fun c_12 => ?_) (fun c_12 => ?_)
      · exact absurd c_12 (by omega)
      · refine A_aload_n2 d_Ld_likedDark_15 ?_
        refine A_iload5 d_Ld_likedDark_16 ?_
        refine A_ialdN d_Ld_likedDark_18 hg ⟨by omega, by decide⟩ ?_
        refine A_topI (ht (i) (by omega)).1 ?_
        have hti2 := (ht i (by omega)).2
        refine A_iload_n3 d_Ld_likedDark_19 ?_
        first | refine A_icmp_neN (tgt := 40) d_Ld_likedDark_20 (by decide) (by with_reducible rfl) (by with_reducible rfl) (by omega) (by omega) (fun c_20 => ?_) (fun c_20 => ?_) | refine A_icmp_ne (tgt := 40) d_Ld_likedDark_20 (by decide) (fun c_20 => ?_) (fun c_20 => ?_)
        · first | refine A_iinc5 d_Ld_likedDark_40 (nI_1 _) trivial ?_ | refine A_iinc5 d_Ld_likedDark_40 rfl trivial ?_
          refine A_goto (tgt := 6) d_Ld_likedDark_43 (by decide) ?_
          refine A_loc ?_ ih
          rw [sumN_s]
          first | (rw [if_pos c_20]; done) | (rw [if_neg c_20]; rfl)
        · refine A_iload4 d_Ld_likedDark_23 ?_
          refine A_aload_n0 d_Ld_likedDark_25 ?_
          refine A_getf (kf := 8) d_Ld_likedDark_26 hA.o ok_1 (by decide) q_73 rfl ?_
          refine A_iload_n1 d_Ld_likedDark_29 ?_
          refine A_bipush (v := nI 24) d_Ld_likedDark_30 (by decide) ?_
          first | refine A_imulN d_Ld_likedDark_32 (by with_reducible rfl) (by with_reducible rfl) ?_ | refine A_imul d_Ld_likedDark_32 ?_
          refine A_iload5 d_Ld_likedDark_33 ?_
          first | refine A_iaddN d_Ld_likedDark_35 (by with_reducible rfl) (by with_reducible rfl) ?_ | refine A_iadd d_Ld_likedDark_35 ?_
          refine A_ialdN d_Ld_likedDark_36 hA.a8 ⟨by omega, by decide⟩ ?_
          refine A_topI ((hP p (by omega)).2.2.2 i (by omega)) ?_
          first | refine A_iaddN d_Ld_likedDark_37 (by with_reducible rfl) (by with_reducible rfl) ?_ | refine A_iadd d_Ld_likedDark_37 ?_
          refine A_istore4 d_Ld_likedDark_38 trivial ?_
          first | refine A_iinc5 d_Ld_likedDark_40 (nI_1 _) trivial ?_ | refine A_iinc5 d_Ld_likedDark_40 rfl trivial ?_
          refine A_goto (tgt := 6) d_Ld_likedDark_43 (by decide) ?_
          refine A_loc ?_ ih
          rw [sumN_s]
          first | (rw [if_pos c_20]; done) | (rw [if_neg c_20]; rfl)
  refine Ctr.of (by decide +kernel) (by simp) (Nat.le_of_ble_eq_true rfl) (L0 := [some (.ref a), some (.int (nI p)), some (.ref w), some (.int (nI cc)), none, none]) rfl ?_
  refine A_iconst (v := nI 0) d_Ld_likedDark_0 (by decide) ?_
  refine A_istore4 d_Ld_likedDark_1 trivial ?_
  refine A_iconst (v := nI 0) d_Ld_likedDark_3 (by decide) ?_
  refine A_istore5 d_Ld_likedDark_4 trivial ?_
  exact key 0 (Nat.zero_le _)
set_option maxHeartbeats 4000000 in
set_option maxRecDepth 100000 in
theorem c_Ld_valueOf {G : GE} {h : AH} {a : Nat} {D : LD} (hA : LAt h a D) {V : Nat → Nat} (hV : LVr D V) {w : Nat} {t : Nat → Nat} (hT : TAt h w t)  : Ctr G y_Ld_valueOf b_Ld_valueOf 4 (some .int) r_Ld_valueOf [.ref a, .ref w] h (Pu (.int (nI (valC V t))) h) := by
  have hV0 := hV
  obtain ⟨ok, ⟨f0, f1, f2, f3, f4, f9⟩, hP, hBe, hTo⟩ := hV
  have hH := ok.1
  have hT0 := hT
  obtain ⟨g, hg, ht⟩ := hT
  have b4 := ok.2.2.2.2.1
  have b5 := ok.2.2.2.2.2.1
  have bp := ok.2.2.2.2.2.2.1
  have bb := ok.2.2.2.2.2.2.2.1
  have key : ∀ i, i ≤ V 4 → WA G y_Ld_valueOf b_Ld_valueOf 4 (some .int) r_Ld_valueOf 0 0 (Pu (.int (nI (valC V t))) h) 0 0 4 [some (.ref a), some (.ref w), some (.int (nI (sumN (fun p => lkdN V t p (V (42 + 27 * p + 0))) i))), some (.int (nI i))] [] h := by
    refine down ?_ (fun i hi ih => ?_)
    · refine A_iload_n3 d_Ld_valueOf_4 ?_
      refine A_aload_n0 d_Ld_valueOf_5 ?_
      refine A_getf (kf := 4) d_Ld_valueOf_6 hA.o ok_1 (by decide) q_60 rfl ?_
      refine A_topI f4 ?_
      first | refine A_icmp_geN (tgt := 33) d_Ld_valueOf_9 (by decide) (by with_reducible rfl) (by with_reducible rfl) (by omega) (by omega) (fun c_9 => ?_) (fun c_9 => ?_) | refine A_icmp_ge (tgt := 33) d_Ld_valueOf_9 (by decide) (fun c_9 => ?_) (fun c_9 => ?_)
      · refine A_iload_n2 d_Ld_valueOf_33 ?_
        refine A_iret d_Ld_valueOf_34 rfl ⟨Nat.zero_le _, Nat.zero_le _⟩ ?_
        exact pu rfl
      · exact absurd c_9 (by omega)
    · refine A_iload_n3 d_Ld_valueOf_4 ?_
      refine A_aload_n0 d_Ld_valueOf_5 ?_
      refine A_getf (kf := 4) d_Ld_valueOf_6 hA.o ok_1 (by decide) q_60 rfl ?_
      refine A_topI f4 ?_
      first | refine A_icmp_geN (tgt := 33) d_Ld_valueOf_9 (by decide) (by with_reducible rfl) (by with_reducible rfl) (by omega) (by omega) (fun c_9 => ?_) (fun c_9 => ?_) | refine A_icmp_ge (tgt := 33) d_Ld_valueOf_9 (by decide) (fun c_9 => ?_) (fun c_9 => ?_)
      · exact absurd c_9 (by omega)
      · refine A_iload_n2 d_Ld_valueOf_12 ?_
        refine A_aload_n0 d_Ld_valueOf_13 ?_
        refine A_iload_n3 d_Ld_valueOf_14 ?_
        refine A_aload_n1 d_Ld_valueOf_15 ?_
        refine A_aload_n0 d_Ld_valueOf_16 ?_
        refine A_getf (kf := 5) d_Ld_valueOf_17 hA.o ok_1 (by decide) q_63 rfl ?_
        refine A_iload_n3 d_Ld_valueOf_20 ?_
        refine A_ialdN d_Ld_valueOf_21 hA.a5 ⟨by omega, by decide⟩ ?_
        refine A_topI (hP i (by omega)).1 ?_
        have hci := (bp i (by omega)).1
        refine A_callVP d_Ld_valueOf_22 (c_Ld_likedDark hA hV0 hT0 i _ hi (by omega)) hA.o rfl q_714 q_715 q_716 mk_Ld_likedDark rfl (by decide) rfl (Nat.le_of_ble_eq_true rfl) ⟨Nat.le_of_ble_eq_true rfl, Nat.le_of_ble_eq_true rfl⟩ ⟨rfl, rfl⟩ ?_
        first | refine A_iaddN d_Ld_valueOf_25 (by with_reducible rfl) (by with_reducible rfl) ?_ | refine A_iadd d_Ld_valueOf_25 ?_
        refine A_istore2 d_Ld_valueOf_26 trivial ?_
        first | refine A_iinc3 d_Ld_valueOf_27 (nI_1 _) trivial ?_ | refine A_iinc3 d_Ld_valueOf_27 rfl trivial ?_
        refine A_goto (tgt := 4) d_Ld_valueOf_30 (by decide) ?_
        exact ih
  refine Ctr.of (by decide +kernel) (by simp) (Nat.le_of_ble_eq_true rfl) (L0 := [some (.ref a), some (.ref w), none, none]) rfl ?_
  refine A_iconst (v := nI 0) d_Ld_valueOf_0 (by decide) ?_
  refine A_istore2 d_Ld_valueOf_1 trivial ?_
  refine A_iconst (v := nI 0) d_Ld_valueOf_2 (by decide) ?_
  refine A_istore3 d_Ld_valueOf_3 trivial ?_
  exact key 0 (Nat.zero_le _)
theorem cheapF_le {V : Nat → Nat} : ∀ n z, foldN (fun b x => min x (V (30 + 2 * b))) z n ≤ z
  | 0, z => Nat.le_refl _
  | n + 1, z => by
    rw [foldN_s]
    exact Nat.le_trans (Nat.min_le_left _ _) (cheapF_le n z)
set_option maxHeartbeats 4000000 in
set_option maxRecDepth 100000 in
theorem c_Ld_feeAt {G : GE} {h : AH} {a : Nat} {D : LD} (hA : LAt h a D) {V : Nat → Nat} (hV : LVr D V) (x : Nat) (hx : x < 24) : Ctr G y_Ld_feeAt b_Ld_feeAt 4 (some .int) r_Ld_feeAt [.ref a, .int (nI x)] h (Pu (.int (nI (V (6 + x) + cheapN V))) h) := by
  have hV0 := hV
  obtain ⟨ok, ⟨f0, f1, f2, f3, f4, f9⟩, hP, hBe, hTo⟩ := hV
  have hH := ok.1
  have b4 := ok.2.2.2.2.1
  have b5 := ok.2.2.2.2.2.1
  have bp := ok.2.2.2.2.2.2.1
  have bb := ok.2.2.2.2.2.2.2.1
  by_cases h5 : V 5 = 0
  · skip
    refine Ctr.of (by decide +kernel) (by simp) (Nat.le_of_ble_eq_true rfl) (L0 := [some (.ref a), some (.int (nI x)), none, none]) rfl ?_
    refine A_aload_n0 d_Ld_feeAt_0 ?_
    refine A_getf (kf := 9) d_Ld_feeAt_1 hA.o ok_1 (by decide) q_76 rfl ?_
    refine A_topI f9 ?_
    refine A_if_le (tgt := 16) d_Ld_feeAt_4 (by decide) (fun c_4 => ?_) (fun c => absurd c (by rw [h5]; decide))
    refine A_iconst (v := nI 0) d_Ld_feeAt_16 (by decide) ?_
    refine A_istore2 d_Ld_feeAt_17 trivial ?_
    refine A_iconst (v := nI 1) d_Ld_feeAt_18 (by decide) ?_
    refine A_istore3 d_Ld_feeAt_19 trivial ?_
    refine A_iload_n3 d_Ld_feeAt_20 ?_
    refine A_aload_n0 d_Ld_feeAt_21 ?_
    refine A_getf (kf := 9) d_Ld_feeAt_22 hA.o ok_1 (by decide) q_76 rfl ?_
    refine A_topI f9 ?_
    refine A_icmp_ge (tgt := 45) d_Ld_feeAt_25 (by decide) (fun c_25 => ?_) (fun c => absurd (show nI (V 5) ≤ nI 1 by rw [h5]; decide) c)
    refine A_aload_n0 d_Ld_feeAt_45 ?_
    refine A_getf (kf := 12) d_Ld_feeAt_46 hA.o ok_1 (by decide) q_85 rfl ?_
    refine A_iload_n1 d_Ld_feeAt_49 ?_
    refine A_ialdN d_Ld_feeAt_50 hA.a12 ⟨by omega, by decide⟩ ?_
    refine A_topI (hTo x (by omega)) ?_
    refine A_iload_n2 d_Ld_feeAt_51 ?_
    first | refine A_iaddN d_Ld_feeAt_52 (by with_reducible rfl) (by with_reducible rfl) ?_ | refine A_iadd d_Ld_feeAt_52 ?_
    refine A_iret d_Ld_feeAt_53 rfl ⟨Nat.zero_le _, Nat.zero_le _⟩ ?_
    exact pu (by unfold cheapN; rw [h5, if_pos rfl]; rfl)
  have hcq : cheapN V = foldN (fun b x => min x (V (30 + 2 * b))) 1000000 (V 5 - 1 + 1) := by unfold cheapN; rw [if_neg h5, show V 5 - 1 + 1 = V 5 by omega]
  have key : ∀ i, i ≤ V 5 - 1 → WA G y_Ld_feeAt b_Ld_feeAt 4 (some .int) r_Ld_feeAt 0 0 (Pu (.int (nI (V (6 + x) + cheapN V))) h) 0 0 20 [some (.ref a), some (.int (nI x)), some (.int (nI (foldN (fun b x => min x (V (30 + 2 * b))) 1000000 (i + 1)))), some (.int (nI (i + 1)))] [] h := by
    refine down ?_ (fun i hi ih => ?_)
    · refine A_iload_n3 d_Ld_feeAt_20 ?_
      refine A_aload_n0 d_Ld_feeAt_21 ?_
      refine A_getf (kf := 9) d_Ld_feeAt_22 hA.o ok_1 (by decide) q_76 rfl ?_
      refine A_topI f9 ?_
      first | refine A_icmp_geN (tgt := 45) d_Ld_feeAt_25 (by decide) (by with_reducible rfl) (by with_reducible rfl) (by omega) (by omega) (fun c_25 => ?_) (fun c_25 => ?_) | refine A_icmp_ge (tgt := 45) d_Ld_feeAt_25 (by decide) (fun c_25 => ?_) (fun c_25 => ?_)
      · refine A_aload_n0 d_Ld_feeAt_45 ?_
        refine A_getf (kf := 12) d_Ld_feeAt_46 hA.o ok_1 (by decide) q_85 rfl ?_
        refine A_iload_n1 d_Ld_feeAt_49 ?_
        refine A_ialdN d_Ld_feeAt_50 hA.a12 ⟨by omega, by decide⟩ ?_
        refine A_topI (hTo x (by omega)) ?_
        refine A_iload_n2 d_Ld_feeAt_51 ?_
        first | refine A_iaddN d_Ld_feeAt_52 (by with_reducible rfl) (by with_reducible rfl) ?_ | refine A_iadd d_Ld_feeAt_52 ?_
        refine A_iret d_Ld_feeAt_53 rfl ⟨Nat.zero_le _, Nat.zero_le _⟩ ?_
        exact pu (by rw [hcq])
      · exact absurd c_25 (by omega)
    · refine A_iload_n3 d_Ld_feeAt_20 ?_
      refine A_aload_n0 d_Ld_feeAt_21 ?_
      refine A_getf (kf := 9) d_Ld_feeAt_22 hA.o ok_1 (by decide) q_76 rfl ?_
      refine A_topI f9 ?_
      first | refine A_icmp_geN (tgt := 45) d_Ld_feeAt_25 (by decide) (by with_reducible rfl) (by with_reducible rfl) (by omega) (by omega) (fun c_25 => ?_) (fun c_25 => ?_) | refine A_icmp_ge (tgt := 45) d_Ld_feeAt_25 (by decide) (fun c_25 => ?_) (fun c_25 => ?_)
      · exact absurd c_25 (by omega)
      · refine A_iload_n2 d_Ld_feeAt_28 ?_
        refine A_aload_n0 d_Ld_feeAt_29 ?_
        refine A_getf (kf := 10) d_Ld_feeAt_30 hA.o ok_1 (by decide) q_79 rfl ?_
        refine A_iload_n3 d_Ld_feeAt_33 ?_
        refine A_ialdN d_Ld_feeAt_34 hA.a10 ⟨by omega, by decide⟩ ?_
        refine A_topI (hBe (i + 1) (by omega)).1 ?_
        have hco := (bb (i + 1) (by omega)).1
        refine A_callSP d_Ld_feeAt_35 (c_JM_min _ _ _) q_726 q_438 mk_JM_min rfl (by decide) rfl (Nat.le_of_ble_eq_true rfl) ⟨Nat.le_of_ble_eq_true rfl, Nat.le_of_ble_eq_true rfl⟩ ⟨rfl, rfl⟩ ?_
        have hcl := cheapF_le (V := V) (i + 1) 1000000
        refine A_topI (nI_minJ (by omega) (by omega)) ?_
        refine A_istore2 d_Ld_feeAt_38 trivial ?_
        first | refine A_iinc3 d_Ld_feeAt_39 (nI_1 _) trivial ?_ | refine A_iinc3 d_Ld_feeAt_39 rfl trivial ?_
        refine A_goto (tgt := 20) d_Ld_feeAt_42 (by decide) ?_
        exact ih
  refine Ctr.of (by decide +kernel) (by simp) (Nat.le_of_ble_eq_true rfl) (L0 := [some (.ref a), some (.int (nI x)), none, none]) rfl ?_
  refine A_aload_n0 d_Ld_feeAt_0 ?_
  refine A_getf (kf := 9) d_Ld_feeAt_1 hA.o ok_1 (by decide) q_76 rfl ?_
  refine A_topI f9 ?_
  refine A_if_le (tgt := 16) d_Ld_feeAt_4 (by decide) (fun c => absurd c (nI_nle (by omega) (by omega))) (fun c_4 => ?_)
  refine A_aload_n0 d_Ld_feeAt_7 ?_
  refine A_getf (kf := 10) d_Ld_feeAt_8 hA.o ok_1 (by decide) q_79 rfl ?_
  refine A_iconst (v := nI 0) d_Ld_feeAt_11 (by decide) ?_
  refine A_ialdN d_Ld_feeAt_12 hA.a10 ⟨by omega, by decide⟩ ?_
  refine A_topI (hBe 0 (by omega)).1 ?_
  have hco := (bb 0 (by omega)).1
  refine A_goto (tgt := 17) d_Ld_feeAt_13 (by decide) ?_
  refine A_istore2 d_Ld_feeAt_17 trivial ?_
  refine A_iconst (v := nI 1) d_Ld_feeAt_18 (by decide) ?_
  refine A_istore3 d_Ld_feeAt_19 trivial ?_
  refine A_loc ?_ (key 0 (Nat.zero_le _))
  rw [show foldN (fun b x => min x (V (30 + 2 * b))) 1000000 (0 + 1) = V (30 + 2 * 0) from Nat.min_eq_right (by show V (30 + 2 * 0) ≤ 1000000; omega)]
set_option maxHeartbeats 4000000 in
set_option maxRecDepth 100000 in
theorem c_Ld_priceOf {G : GE} {h : AH} {a : Nat} {D : LD} (hA : LAt h a D) {V : Nat → Nat} (hV : LVr D V) {w : Nat} {t : Nat → Nat} (hT : TAt h w t)  : Ctr G y_Ld_priceOf b_Ld_priceOf 4 (some .int) r_Ld_priceOf [.ref a, .ref w] h (Pu (.int (nI (priceN V t))) h) := by
  have hV0 := hV
  obtain ⟨ok, ⟨f0, f1, f2, f3, f4, f9⟩, hP, hBe, hTo⟩ := hV
  have hH := ok.1
  have hT0 := hT
  obtain ⟨g, hg, ht⟩ := hT
  have b4 := ok.2.2.2.2.1
  have b5 := ok.2.2.2.2.2.1
  have bp := ok.2.2.2.2.2.2.1
  have bb := ok.2.2.2.2.2.2.2.1
  have key : ∀ i, i ≤ V 0 → WA G y_Ld_priceOf b_Ld_priceOf 4 (some .int) r_Ld_priceOf 0 0 (Pu (.int (nI (priceN V t))) h) 0 0 4 [some (.ref a), some (.ref w), some (.int (nI (sumN (fun h => if comesB t (V 0) h = true then V (6 + h) + cheapN V else 0) i))), some (.int (nI i))] [] h := by
    refine down ?_ (fun i hi ih => ?_)
    · refine A_iload_n3 d_Ld_priceOf_4 ?_
      refine A_aload_n0 d_Ld_priceOf_5 ?_
      refine A_getf (kf := 0) d_Ld_priceOf_6 hA.o ok_1 (by decide) q_45 rfl ?_
      refine A_topI f0 ?_
      first | refine A_icmp_geN (tgt := 35) d_Ld_priceOf_9 (by decide) (by with_reducible rfl) (by with_reducible rfl) (by omega) (by omega) (fun c_9 => ?_) (fun c_9 => ?_) | refine A_icmp_ge (tgt := 35) d_Ld_priceOf_9 (by decide) (fun c_9 => ?_) (fun c_9 => ?_)
      · refine A_iload_n2 d_Ld_priceOf_35 ?_
        refine A_iret d_Ld_priceOf_36 rfl ⟨Nat.zero_le _, Nat.zero_le _⟩ ?_
        exact pu rfl
      · exact absurd c_9 (by omega)
    · refine A_iload_n3 d_Ld_priceOf_4 ?_
      refine A_aload_n0 d_Ld_priceOf_5 ?_
      refine A_getf (kf := 0) d_Ld_priceOf_6 hA.o ok_1 (by decide) q_45 rfl ?_
      refine A_topI f0 ?_
      first | refine A_icmp_geN (tgt := 35) d_Ld_priceOf_9 (by decide) (by with_reducible rfl) (by with_reducible rfl) (by omega) (by omega) (fun c_9 => ?_) (fun c_9 => ?_) | refine A_icmp_ge (tgt := 35) d_Ld_priceOf_9 (by decide) (fun c_9 => ?_) (fun c_9 => ?_)
      · exact absurd c_9 (by omega)
      · refine A_aload_n0 d_Ld_priceOf_12 ?_
        refine A_aload_n1 d_Ld_priceOf_13 ?_
        refine A_iload_n3 d_Ld_priceOf_14 ?_
        refine A_callVP d_Ld_priceOf_15 (c_Ld_arrives hA hV0 hT0 i hi) hA.o rfl q_697 q_698 q_699 mk_Ld_arrives rfl (by decide) rfl (Nat.le_of_ble_eq_true rfl) ⟨Nat.le_of_ble_eq_true rfl, Nat.le_of_ble_eq_true rfl⟩ ⟨rfl, rfl⟩ ?_
        refine A_if_eqB (tgt := 29) d_Ld_priceOf_18 (by decide) (fun c_18 => ?_) (fun c_18 => ?_)
        · first | refine A_iinc3 d_Ld_priceOf_29 (nI_1 _) trivial ?_ | refine A_iinc3 d_Ld_priceOf_29 rfl trivial ?_
          refine A_goto (tgt := 4) d_Ld_priceOf_32 (by decide) ?_
          refine A_loc ?_ ih
          rw [sumN_s]
          first | (rw [if_pos c_18]; done) | (rw [c_18, if_neg (by decide)]; rfl)
        · refine A_iload_n2 d_Ld_priceOf_21 ?_
          refine A_aload_n0 d_Ld_priceOf_22 ?_
          refine A_iload_n3 d_Ld_priceOf_23 ?_
          refine A_callVP d_Ld_priceOf_24 (c_Ld_feeAt hA hV0 i (by omega)) hA.o rfl q_722 q_723 q_724 mk_Ld_feeAt rfl (by decide) rfl (Nat.le_of_ble_eq_true rfl) ⟨Nat.le_of_ble_eq_true rfl, Nat.le_of_ble_eq_true rfl⟩ ⟨rfl, rfl⟩ ?_
          first | refine A_iaddN d_Ld_priceOf_27 (by with_reducible rfl) (by with_reducible rfl) ?_ | refine A_iadd d_Ld_priceOf_27 ?_
          refine A_istore2 d_Ld_priceOf_28 trivial ?_
          first | refine A_iinc3 d_Ld_priceOf_29 (nI_1 _) trivial ?_ | refine A_iinc3 d_Ld_priceOf_29 rfl trivial ?_
          refine A_goto (tgt := 4) d_Ld_priceOf_32 (by decide) ?_
          refine A_loc ?_ ih
          rw [sumN_s]
          first | (rw [if_pos c_18]; done) | (rw [c_18, if_neg (by decide)]; rfl)
  refine Ctr.of (by decide +kernel) (by simp) (Nat.le_of_ble_eq_true rfl) (L0 := [some (.ref a), some (.ref w), none, none]) rfl ?_
  refine A_iconst (v := nI 0) d_Ld_priceOf_0 (by decide) ?_
  refine A_istore2 d_Ld_priceOf_1 trivial ?_
  refine A_iconst (v := nI 0) d_Ld_priceOf_2 (by decide) ?_
  refine A_istore3 d_Ld_priceOf_3 trivial ?_
  exact key 0 (Nat.zero_le _)
set_option maxHeartbeats 4000000 in
set_option maxRecDepth 100000 in
theorem c_Ld_worth2 {G : GE} {h : AH} {a : Nat} {D : LD} (hA : LAt h a D) {V : Nat → Nat} (hV : LVr D V) {K : Option Value → AH → Prop} {cc x s0 : Nat} {y0 : Int32} (hcc : cc < 2 ^ 31) (hx : x < 24) (hk : WA G y_Ld_worthOf b_Ld_worthOf 6 (some .int) r_Ld_worthOf 0 0 (K) 0 0 73 [some (.ref a), some (.int (nI cc)), some (.int y0), some (.int (nI (s0 + likedInN V cc x))), some (.int (nI x)), none] [] h) : ∀ i, i ≤ V 4 → WA G y_Ld_worthOf b_Ld_worthOf 6 (some .int) r_Ld_worthOf 0 0 (K) 0 0 27 [some (.ref a), some (.int (nI cc)), some (.int y0), some (.int (nI (s0 + sumN (fun p => if V (42 + 27 * p + 0) = cc then V (42 + 27 * p + (3 + x)) else 0) i))), some (.int (nI x)), some (.int (nI i))] [] h := by
  have hV0 := hV
  obtain ⟨ok, ⟨f0, f1, f2, f3, f4, f9⟩, hP, hBe, hTo⟩ := hV
  have hH := ok.1
  have b4 := ok.2.2.2.2.1
  have b5 := ok.2.2.2.2.2.1
  have bp := ok.2.2.2.2.2.2.1
  have bb := ok.2.2.2.2.2.2.2.1
  refine down ?_ (fun i hi ih => ?_)
  · refine A_iload5 d_Ld_worthOf_27 ?_
    refine A_aload_n0 d_Ld_worthOf_29 ?_
    refine A_getf (kf := 4) d_Ld_worthOf_30 hA.o ok_1 (by decide) q_60 rfl ?_
    refine A_topI f4 ?_
    first | refine A_icmp_geN (tgt := 73) d_Ld_worthOf_33 (by decide) (by with_reducible rfl) (by with_reducible rfl) (by omega) (by omega) (fun c_33 => ?_) (fun c_33 => ?_) | refine A_icmp_ge (tgt := 73) d_Ld_worthOf_33 (by decide) (fun c_33 => ?_) (fun c_33 => ?_)
    · exact A_drop5 hk
    · exact absurd c_33 (by omega)
  · refine A_iload5 d_Ld_worthOf_27 ?_
    refine A_aload_n0 d_Ld_worthOf_29 ?_
    refine A_getf (kf := 4) d_Ld_worthOf_30 hA.o ok_1 (by decide) q_60 rfl ?_
    refine A_topI f4 ?_
    first | refine A_icmp_geN (tgt := 73) d_Ld_worthOf_33 (by decide) (by with_reducible rfl) (by with_reducible rfl) (by omega) (by omega) (fun c_33 => ?_) (fun c_33 => ?_) | refine A_icmp_ge (tgt := 73) d_Ld_worthOf_33 (by decide) (fun c_33 => ?_) (fun c_33 => ?_)
    · exact absurd c_33 (by omega)
    · refine A_iload_n3 d_Ld_worthOf_36 ?_
      refine A_aload_n0 d_Ld_worthOf_37 ?_
      refine A_getf (kf := 5) d_Ld_worthOf_38 hA.o ok_1 (by decide) q_63 rfl ?_
      refine A_iload5 d_Ld_worthOf_41 ?_
      refine A_ialdN d_Ld_worthOf_43 hA.a5 ⟨by omega, by decide⟩ ?_
      refine A_topI (hP i (by omega)).1 ?_
      have hci := (bp i (by omega)).1
      refine A_iload_n1 d_Ld_worthOf_44 ?_
      first | refine A_icmp_neN (tgt := 64) d_Ld_worthOf_45 (by decide) (by with_reducible rfl) (by with_reducible rfl) (by omega) (by omega) (fun c_45 => ?_) (fun c_45 => ?_) | refine A_icmp_ne (tgt := 64) d_Ld_worthOf_45 (by decide) (fun c_45 => ?_) (fun c_45 => ?_)
      · refine A_iconst (v := nI 0) d_Ld_worthOf_64 (by decide) ?_
        first | refine A_iaddN d_Ld_worthOf_65 (by with_reducible rfl) (by with_reducible rfl) ?_ | refine A_iadd d_Ld_worthOf_65 ?_
        refine A_istore3 d_Ld_worthOf_66 trivial ?_
        first | refine A_iinc5 d_Ld_worthOf_67 (nI_1 _) trivial ?_ | refine A_iinc5 d_Ld_worthOf_67 rfl trivial ?_
        refine A_goto (tgt := 27) d_Ld_worthOf_70 (by decide) ?_
        refine A_loc ?_ ih
        rw [sumN_s]
        first | (rw [if_pos c_45, Nat.add_assoc]; done) | (rw [if_neg c_45]; rfl)
      · refine A_aload_n0 d_Ld_worthOf_48 ?_
        refine A_getf (kf := 8) d_Ld_worthOf_49 hA.o ok_1 (by decide) q_73 rfl ?_
        refine A_iload5 d_Ld_worthOf_52 ?_
        refine A_bipush (v := nI 24) d_Ld_worthOf_54 (by decide) ?_
        first | refine A_imulN d_Ld_worthOf_56 (by with_reducible rfl) (by with_reducible rfl) ?_ | refine A_imul d_Ld_worthOf_56 ?_
        refine A_iload4 d_Ld_worthOf_57 ?_
        first | refine A_iaddN d_Ld_worthOf_59 (by with_reducible rfl) (by with_reducible rfl) ?_ | refine A_iadd d_Ld_worthOf_59 ?_
        refine A_ialdN d_Ld_worthOf_60 hA.a8 ⟨by omega, by decide⟩ ?_
        refine A_topI ((hP i (by omega)).2.2.2 x (by omega)) ?_
        refine A_goto (tgt := 65) d_Ld_worthOf_61 (by decide) ?_
        first | refine A_iaddN d_Ld_worthOf_65 (by with_reducible rfl) (by with_reducible rfl) ?_ | refine A_iadd d_Ld_worthOf_65 ?_
        refine A_istore3 d_Ld_worthOf_66 trivial ?_
        first | refine A_iinc5 d_Ld_worthOf_67 (nI_1 _) trivial ?_ | refine A_iinc5 d_Ld_worthOf_67 rfl trivial ?_
        refine A_goto (tgt := 27) d_Ld_worthOf_70 (by decide) ?_
        refine A_loc ?_ ih
        rw [sumN_s]
        first | (rw [if_pos c_45, Nat.add_assoc]; done) | (rw [if_neg c_45]; rfl)
set_option maxHeartbeats 4000000 in
set_option maxRecDepth 100000 in
theorem c_Ld_worthOf {G : GE} {h : AH} {a : Nat} {D : LD} (hA : LAt h a D) {V : Nat → Nat} (hV : LVr D V) (cc : Nat) (hcc : cc < 2 ^ 31) (y0 : Int32) : Ctr G y_Ld_worthOf b_Ld_worthOf 6 (some .int) r_Ld_worthOf [.ref a, .int (nI cc), .int y0] h (Pu (.int (nI (worthN V cc y0))) h) := by
  have hV0 := hV
  obtain ⟨ok, ⟨f0, f1, f2, f3, f4, f9⟩, hP, hBe, hTo⟩ := hV
  have hH := ok.1
  have b4 := ok.2.2.2.2.1
  have b5 := ok.2.2.2.2.2.1
  have bp := ok.2.2.2.2.2.2.1
  have bb := ok.2.2.2.2.2.2.2.1
  have key : ∀ i, i ≤ V 0 → WA G y_Ld_worthOf b_Ld_worthOf 6 (some .int) r_Ld_worthOf 0 0 (Pu (.int (nI (worthN V cc y0))) h) 0 0 5 [some (.ref a), some (.int (nI cc)), some (.int y0), some (.int (nI (sumN (fun h => if hasB y0 (nI h) = true then likedInN V cc h else 0) i))), some (.int (nI i)), none] [] h := by
    refine down ?_ (fun i hi ih => ?_)
    · refine A_iload4 d_Ld_worthOf_5 ?_
      refine A_aload_n0 d_Ld_worthOf_7 ?_
      refine A_getf (kf := 0) d_Ld_worthOf_8 hA.o ok_1 (by decide) q_45 rfl ?_
      refine A_topI f0 ?_
      first | refine A_icmp_geN (tgt := 79) d_Ld_worthOf_11 (by decide) (by with_reducible rfl) (by with_reducible rfl) (by omega) (by omega) (fun c_11 => ?_) (fun c_11 => ?_) | refine A_icmp_ge (tgt := 79) d_Ld_worthOf_11 (by decide) (fun c_11 => ?_) (fun c_11 => ?_)
      · refine A_iload_n3 d_Ld_worthOf_79 ?_
        refine A_iret d_Ld_worthOf_80 rfl ⟨Nat.zero_le _, Nat.zero_le _⟩ ?_
        exact pu rfl
      · exact absurd c_11 (by omega)
    · refine A_iload4 d_Ld_worthOf_5 ?_
      refine A_aload_n0 d_Ld_worthOf_7 ?_
      refine A_getf (kf := 0) d_Ld_worthOf_8 hA.o ok_1 (by decide) q_45 rfl ?_
      refine A_topI f0 ?_
      first | refine A_icmp_geN (tgt := 79) d_Ld_worthOf_11 (by decide) (by with_reducible rfl) (by with_reducible rfl) (by omega) (by omega) (fun c_11 => ?_) (fun c_11 => ?_) | refine A_icmp_ge (tgt := 79) d_Ld_worthOf_11 (by decide) (fun c_11 => ?_) (fun c_11 => ?_)
      · exact absurd c_11 (by omega)
      · refine A_iload_n2 d_Ld_worthOf_14 ?_
        refine A_iload4 d_Ld_worthOf_15 ?_
        refine A_ishr d_Ld_worthOf_17 ?_
        refine A_iconst (v := nI 1) d_Ld_worthOf_18 (by decide) ?_
        refine A_iand d_Ld_worthOf_19 ?_
        refine A_iconst (v := nI 1) d_Ld_worthOf_20 (by decide) ?_
        first | refine A_icmp_neN (tgt := 73) d_Ld_worthOf_21 (by decide) (by with_reducible rfl) (by with_reducible rfl) (by omega) (by omega) (fun c_21 => ?_) (fun c_21 => ?_) | refine A_icmp_ne (tgt := 73) d_Ld_worthOf_21 (by decide) (fun c_21 => ?_) (fun c_21 => ?_)
        · first | refine A_iinc4 d_Ld_worthOf_73 (nI_1 _) trivial ?_ | refine A_iinc4 d_Ld_worthOf_73 rfl trivial ?_
          refine A_goto (tgt := 5) d_Ld_worthOf_76 (by decide) ?_
          refine A_loc ?_ ih
          have hb : hasB y0 (nI i) = false := decide_eq_false c_21
          rw [sumN_s, hb, if_neg (by decide)]
          rfl
        · refine A_iconst (v := nI 0) d_Ld_worthOf_24 (by decide) ?_
          refine A_istore5 d_Ld_worthOf_25 trivial ?_
          have hb : hasB y0 (nI i) = true := decide_eq_true c_21
          refine c_Ld_worth2 hA hV0 hcc (by omega) (s0 := sumN (fun h => if hasB y0 (nI h) = true then likedInN V cc h else 0) i) (x := i) ?_ 0 (Nat.zero_le _)
          refine A_iinc4 d_Ld_worthOf_73 (nI_1 _) trivial ?_
          refine A_goto (tgt := 5) d_Ld_worthOf_76 (by decide) ?_
          refine A_loc ?_ ih
          rw [sumN_s, if_pos hb]
  refine Ctr.of (by decide +kernel) (by simp) (Nat.le_of_ble_eq_true rfl) (L0 := [some (.ref a), some (.int (nI cc)), some (.int y0), none, none, none]) rfl ?_
  refine A_iconst (v := nI 0) d_Ld_worthOf_0 (by decide) ?_
  refine A_istore3 d_Ld_worthOf_1 trivial ?_
  refine A_iconst (v := nI 0) d_Ld_worthOf_2 (by decide) ?_
  refine A_istore4 d_Ld_worthOf_3 trivial ?_
  exact key 0 (Nat.zero_le _)
set_option maxHeartbeats 4000000 in
set_option maxRecDepth 100000 in
theorem c_Ld_livingAsTold {G : GE} {h : AH} {a : Nat} {D : LD} (hA : LAt h a D) {V : Nat → Nat} (hV : LVr D V)  : Ctr G y_Ld_livingAsTold b_Ld_livingAsTold 3 (some .int) r_Ld_livingAsTold [.ref a] h (Pu (.int (toldI V)) h) := by
  have hV0 := hV
  obtain ⟨ok, ⟨f0, f1, f2, f3, f4, f9⟩, hP, hBe, hTo⟩ := hV
  have hH := ok.1
  have b4 := ok.2.2.2.2.1
  have b5 := ok.2.2.2.2.2.1
  have bp := ok.2.2.2.2.2.2.1
  have bb := ok.2.2.2.2.2.2.2.1
  have key : ∀ i, i ≤ V 4 → WA G y_Ld_livingAsTold b_Ld_livingAsTold 3 (some .int) r_Ld_livingAsTold 0 0 (Pu (.int (toldI V)) h) 0 0 4 [some (.ref a), some (.int (foldN (fun p x => x ||| nI (if V (42 + 27 * p + 0) = 1 then 2 ^ p else 0)) (nI 0) i)), some (.int (nI i))] [] h := by
    refine down ?_ (fun i hi ih => ?_)
    · refine A_iload_n2 d_Ld_livingAsTold_4 ?_
      refine A_aload_n0 d_Ld_livingAsTold_5 ?_
      refine A_getf (kf := 4) d_Ld_livingAsTold_6 hA.o ok_1 (by decide) q_60 rfl ?_
      refine A_topI f4 ?_
      first | refine A_icmp_geN (tgt := 29) d_Ld_livingAsTold_9 (by decide) (by with_reducible rfl) (by with_reducible rfl) (by omega) (by omega) (fun c_9 => ?_) (fun c_9 => ?_) | refine A_icmp_ge (tgt := 29) d_Ld_livingAsTold_9 (by decide) (fun c_9 => ?_) (fun c_9 => ?_)
      · refine A_iload_n1 d_Ld_livingAsTold_29 ?_
        refine A_iret d_Ld_livingAsTold_30 rfl ⟨Nat.zero_le _, Nat.zero_le _⟩ ?_
        exact pu rfl
      · exact absurd c_9 (by omega)
    · refine A_iload_n2 d_Ld_livingAsTold_4 ?_
      refine A_aload_n0 d_Ld_livingAsTold_5 ?_
      refine A_getf (kf := 4) d_Ld_livingAsTold_6 hA.o ok_1 (by decide) q_60 rfl ?_
      refine A_topI f4 ?_
      first | refine A_icmp_geN (tgt := 29) d_Ld_livingAsTold_9 (by decide) (by with_reducible rfl) (by with_reducible rfl) (by omega) (by omega) (fun c_9 => ?_) (fun c_9 => ?_) | refine A_icmp_ge (tgt := 29) d_Ld_livingAsTold_9 (by decide) (fun c_9 => ?_) (fun c_9 => ?_)
      · exact absurd c_9 (by omega)
      · refine A_iload_n1 d_Ld_livingAsTold_12 ?_
        refine A_aload_n0 d_Ld_livingAsTold_13 ?_
        refine A_getf (kf := 5) d_Ld_livingAsTold_14 hA.o ok_1 (by decide) q_63 rfl ?_
        refine A_iload_n2 d_Ld_livingAsTold_17 ?_
        refine A_ialdN d_Ld_livingAsTold_18 hA.a5 ⟨by omega, by decide⟩ ?_
        refine A_topI (hP i (by omega)).1 ?_
        have hci := (bp i (by omega)).1
        refine A_iload_n2 d_Ld_livingAsTold_19 ?_
        refine A_ishl d_Ld_livingAsTold_20 ?_
        refine A_topI (show nI (V (42 + 27 * i + 0)) <<< (nI i &&& 31) = nI (if V (42 + 27 * i + 0) = 1 then 2 ^ i else 0) from by
          by_cases z : V (42 + 27 * i + 0) = 1
          · rw [z, if_pos rfl]; exact shl1 i (by omega)
          · rw [if_neg z, show V (42 + 27 * i + 0) = 0 by omega]; exact shl0 i (by omega)) ?_
        refine A_ior d_Ld_livingAsTold_21 ?_
        refine A_istore1 d_Ld_livingAsTold_22 trivial ?_
        first | refine A_iinc2 d_Ld_livingAsTold_23 (nI_1 _) trivial ?_ | refine A_iinc2 d_Ld_livingAsTold_23 rfl trivial ?_
        refine A_goto (tgt := 4) d_Ld_livingAsTold_26 (by decide) ?_
        exact ih
  refine Ctr.of (by decide +kernel) (by simp) (Nat.le_of_ble_eq_true rfl) (L0 := [some (.ref a), none, none]) rfl ?_
  refine A_iconst (v := nI 0) d_Ld_livingAsTold_0 (by decide) ?_
  refine A_istore1 d_Ld_livingAsTold_1 trivial ?_
  refine A_iconst (v := nI 0) d_Ld_livingAsTold_2 (by decide) ?_
  refine A_istore2 d_Ld_livingAsTold_3 trivial ?_
  exact key 0 (Nat.zero_le _)
set_option maxHeartbeats 4000000 in
set_option maxRecDepth 100000 in
theorem c_Ld_costOf {G : GE} {h : AH} {a : Nat} {D : LD} (hA : LAt h a D) {V : Nat → Nat} (hV : LVr D V) (x : Nat) : Ctr G y_Ld_costOf b_Ld_costOf 4 (some .int) r_Ld_costOf [.ref a, .int (nI x)] h (Pu (.int (nI (cosH V x (V 5)))) h) := by
  have hV0 := hV
  obtain ⟨ok, ⟨f0, f1, f2, f3, f4, f9⟩, hP, hBe, hTo⟩ := hV
  have hH := ok.1
  have b4 := ok.2.2.2.2.1
  have b5 := ok.2.2.2.2.2.1
  have bp := ok.2.2.2.2.2.2.1
  have bb := ok.2.2.2.2.2.2.2.1
  have key : ∀ i, i ≤ V 5 → WA G y_Ld_costOf b_Ld_costOf 4 (some .int) r_Ld_costOf 0 0 (Pu (.int (nI (cosH V x (V 5)))) h) 0 0 4 [some (.ref a), some (.int (nI x)), some (.int (nI (sumN (fun b => if hasB (nI x) (nI b) = true then V (30 + 2 * b) else 0) i))), some (.int (nI i))] [] h := by
    refine down ?_ (fun i hi ih => ?_)
    · refine A_iload_n3 d_Ld_costOf_4 ?_
      refine A_aload_n0 d_Ld_costOf_5 ?_
      refine A_getf (kf := 9) d_Ld_costOf_6 hA.o ok_1 (by decide) q_76 rfl ?_
      refine A_topI f9 ?_
      first | refine A_icmp_geN (tgt := 33) d_Ld_costOf_9 (by decide) (by with_reducible rfl) (by with_reducible rfl) (by omega) (by omega) (fun c_9 => ?_) (fun c_9 => ?_) | refine A_icmp_ge (tgt := 33) d_Ld_costOf_9 (by decide) (fun c_9 => ?_) (fun c_9 => ?_)
      · refine A_iload_n2 d_Ld_costOf_33 ?_
        refine A_iret d_Ld_costOf_34 rfl ⟨Nat.zero_le _, Nat.zero_le _⟩ ?_
        exact pu rfl
      · exact absurd c_9 (by omega)
    · refine A_iload_n3 d_Ld_costOf_4 ?_
      refine A_aload_n0 d_Ld_costOf_5 ?_
      refine A_getf (kf := 9) d_Ld_costOf_6 hA.o ok_1 (by decide) q_76 rfl ?_
      refine A_topI f9 ?_
      first | refine A_icmp_geN (tgt := 33) d_Ld_costOf_9 (by decide) (by with_reducible rfl) (by with_reducible rfl) (by omega) (by omega) (fun c_9 => ?_) (fun c_9 => ?_) | refine A_icmp_ge (tgt := 33) d_Ld_costOf_9 (by decide) (fun c_9 => ?_) (fun c_9 => ?_)
      · exact absurd c_9 (by omega)
      · refine A_iload_n2 d_Ld_costOf_12 ?_
        refine A_iload_n1 d_Ld_costOf_13 ?_
        refine A_iload_n3 d_Ld_costOf_14 ?_
        refine A_ishr d_Ld_costOf_15 ?_
        refine A_iconst (v := nI 1) d_Ld_costOf_16 (by decide) ?_
        refine A_iand d_Ld_costOf_17 ?_
        refine A_topI (and1 _ (by omega)) ?_
        refine A_aload_n0 d_Ld_costOf_18 ?_
        refine A_getf (kf := 10) d_Ld_costOf_19 hA.o ok_1 (by decide) q_79 rfl ?_
        refine A_iload_n3 d_Ld_costOf_22 ?_
        refine A_ialdN d_Ld_costOf_23 hA.a10 ⟨by omega, by decide⟩ ?_
        refine A_topI (hBe i (by omega)).1 ?_
        have hco := (bb i (by omega)).1
        first | refine A_imulN d_Ld_costOf_24 (by with_reducible rfl) (by with_reducible rfl) ?_ | refine A_imul d_Ld_costOf_24 ?_
        first | refine A_iaddN d_Ld_costOf_25 (by with_reducible rfl) (by with_reducible rfl) ?_ | refine A_iadd d_Ld_costOf_25 ?_
        refine A_istore2 d_Ld_costOf_26 trivial ?_
        first | refine A_iinc3 d_Ld_costOf_27 (nI_1 _) trivial ?_ | refine A_iinc3 d_Ld_costOf_27 rfl trivial ?_
        refine A_goto (tgt := 4) d_Ld_costOf_30 (by decide) ?_
        refine A_loc ?_ ih
        rw [sumN_s]
        cases hasB (nI x) (nI i)
        · simp
        · simp
  refine Ctr.of (by decide +kernel) (by simp) (Nat.le_of_ble_eq_true rfl) (L0 := [some (.ref a), some (.int (nI x)), none, none]) rfl ?_
  refine A_iconst (v := nI 0) d_Ld_costOf_0 (by decide) ?_
  refine A_istore2 d_Ld_costOf_1 trivial ?_
  refine A_iconst (v := nI 0) d_Ld_costOf_2 (by decide) ?_
  refine A_istore3 d_Ld_costOf_3 trivial ?_
  exact key 0 (Nat.zero_le _)
set_option maxHeartbeats 4000000 in
set_option maxRecDepth 100000 in
theorem c_Ld_putsDownWithin {G : GE} {h : AH} {a : Nat} {D : LD} (hA : LAt h a D) {V : Nat → Nat} (hV : LVr D V) (x cc : Nat) (hcc : cc ≤ 100) : Ctr G y_Ld_putsDownWithin b_Ld_putsDownWithin 6 (some .boolean) r_Ld_putsDownWithin [.ref a, .int (nI x), .int (nI cc)] h (Pu (.int (bI (okH V cc x))) h) := by
  have hV0 := hV
  obtain ⟨ok, ⟨f0, f1, f2, f3, f4, f9⟩, hP, hBe, hTo⟩ := hV
  have hH := ok.1
  have b4 := ok.2.2.2.2.1
  have b5 := ok.2.2.2.2.2.1
  have bp := ok.2.2.2.2.2.2.1
  have bb := ok.2.2.2.2.2.2.2.1
  have key : ∀ i, i ≤ V 5 → WA G y_Ld_putsDownWithin b_Ld_putsDownWithin 6 (some .boolean) r_Ld_putsDownWithin 0 0 (Pu (.int (bI (okH V cc x))) h) 0 0 8 [some (.ref a), some (.int (nI x)), some (.int (nI cc)), some (.int (nI (tirH V x i))), some (.int (nI (allH x i))), some (.int (nI i))] [] h := by
    refine down ?_ (fun i hi ih => ?_)
    · refine A_iload5 d_Ld_putsDownWithin_8 ?_
      refine A_aload_n0 d_Ld_putsDownWithin_10 ?_
      refine A_getf (kf := 9) d_Ld_putsDownWithin_11 hA.o ok_1 (by decide) q_76 rfl ?_
      refine A_topI f9 ?_
      first | refine A_icmp_geN (tgt := 50) d_Ld_putsDownWithin_14 (by decide) (by with_reducible rfl) (by with_reducible rfl) (by omega) (by omega) (fun c_14 => ?_) (fun c_14 => ?_) | refine A_icmp_ge (tgt := 50) d_Ld_putsDownWithin_14 (by decide) (fun c_14 => ?_) (fun c_14 => ?_)
      · refine A_iload_n3 d_Ld_putsDownWithin_50 ?_
        refine A_bipush (v := nI 100) d_Ld_putsDownWithin_51 (by decide) ?_
        have q1 := allH_le x (V 5)
        have q2 := tirH_le ok x (V 5) b5
        have q3 : 10 ^ V 5 ≤ 10 ^ 6 := Nat.pow_le_pow_right (by decide) b5
        have q4 : cc * allH x (V 5) ≤ 100 * 10 ^ 6 := Nat.mul_le_mul hcc (by omega)
        first | refine A_imulN d_Ld_putsDownWithin_53 (by with_reducible rfl) (by with_reducible rfl) ?_ | refine A_imul d_Ld_putsDownWithin_53 ?_
        refine A_iload_n2 d_Ld_putsDownWithin_54 ?_
        refine A_iload4 d_Ld_putsDownWithin_55 ?_
        first | refine A_imulN d_Ld_putsDownWithin_57 (by with_reducible rfl) (by with_reducible rfl) ?_ | refine A_imul d_Ld_putsDownWithin_57 ?_
        first | refine A_icmp_gtN (tgt := 65) d_Ld_putsDownWithin_58 (by decide) (by with_reducible rfl) (by with_reducible rfl) (by omega) (by omega) (fun c_58 => ?_) (fun c_58 => ?_) | refine A_icmp_gt (tgt := 65) d_Ld_putsDownWithin_58 (by decide) (fun c_58 => ?_) (fun c_58 => ?_)
        · refine A_iconst (v := nI 0) d_Ld_putsDownWithin_65 (by decide) ?_
          refine A_zret d_Ld_putsDownWithin_66 rfl (by first | rfl | exact bI_nar _ | decide) ⟨Nat.zero_le _, Nat.zero_le _⟩ ?_
          exact pu (by unfold okH; first | (rw [decide_eq_true (by omega)]; rfl) | (rw [decide_eq_false (by omega)]; rfl))
        · refine A_iconst (v := nI 1) d_Ld_putsDownWithin_61 (by decide) ?_
          refine A_goto (tgt := 66) d_Ld_putsDownWithin_62 (by decide) ?_
          refine A_zret d_Ld_putsDownWithin_66 rfl (by first | rfl | exact bI_nar _ | decide) ⟨Nat.zero_le _, Nat.zero_le _⟩ ?_
          exact pu (by unfold okH; first | (rw [decide_eq_true (by omega)]; rfl) | (rw [decide_eq_false (by omega)]; rfl))
      · exact absurd c_14 (by omega)
    · refine A_iload5 d_Ld_putsDownWithin_8 ?_
      refine A_aload_n0 d_Ld_putsDownWithin_10 ?_
      refine A_getf (kf := 9) d_Ld_putsDownWithin_11 hA.o ok_1 (by decide) q_76 rfl ?_
      refine A_topI f9 ?_
      first | refine A_icmp_geN (tgt := 50) d_Ld_putsDownWithin_14 (by decide) (by with_reducible rfl) (by with_reducible rfl) (by omega) (by omega) (fun c_14 => ?_) (fun c_14 => ?_) | refine A_icmp_ge (tgt := 50) d_Ld_putsDownWithin_14 (by decide) (fun c_14 => ?_) (fun c_14 => ?_)
      · exact absurd c_14 (by omega)
      · refine A_iload_n1 d_Ld_putsDownWithin_17 ?_
        refine A_iload5 d_Ld_putsDownWithin_18 ?_
        refine A_ishr d_Ld_putsDownWithin_20 ?_
        refine A_iconst (v := nI 1) d_Ld_putsDownWithin_21 (by decide) ?_
        refine A_iand d_Ld_putsDownWithin_22 ?_
        refine A_iconst (v := nI 1) d_Ld_putsDownWithin_23 (by decide) ?_
        first | refine A_icmp_neN (tgt := 44) d_Ld_putsDownWithin_24 (by decide) (by with_reducible rfl) (by with_reducible rfl) (by omega) (by omega) (fun c_24 => ?_) (fun c_24 => ?_) | refine A_icmp_ne (tgt := 44) d_Ld_putsDownWithin_24 (by decide) (fun c_24 => ?_) (fun c_24 => ?_)
        · first | refine A_iinc5 d_Ld_putsDownWithin_44 (nI_1 _) trivial ?_ | refine A_iinc5 d_Ld_putsDownWithin_44 rfl trivial ?_
          refine A_goto (tgt := 8) d_Ld_putsDownWithin_47 (by decide) ?_
          refine A_loc ?_ ih
          have e1 : tirH V x (i + 1) = tirH V x i * (if hasB (nI x) (nI i) = true then V (30 + 2 * i + 1) else 1) := rfl
          have e2 : allH x (i + 1) = allH x i * (if hasB (nI x) (nI i) = true then 10 else 1) := rfl
          first
            | (have hb : hasB (nI x) (nI i) = true := decide_eq_true c_24
               rw [e1, e2, hb, if_pos rfl, if_pos rfl]
               done)
            | (have hb : hasB (nI x) (nI i) = false := decide_eq_false c_24
               rw [e1, e2, hb, if_neg (by decide), if_neg (by decide), Nat.mul_one, Nat.mul_one]
               done)
        · refine A_iload_n3 d_Ld_putsDownWithin_27 ?_
          refine A_aload_n0 d_Ld_putsDownWithin_28 ?_
          refine A_getf (kf := 11) d_Ld_putsDownWithin_29 hA.o ok_1 (by decide) q_82 rfl ?_
          refine A_iload5 d_Ld_putsDownWithin_32 ?_
          refine A_ialdN d_Ld_putsDownWithin_34 hA.a11 ⟨by omega, by decide⟩ ?_
          refine A_topI (hBe i (by omega)).2 ?_
          have hti := (bb i (by omega)).2
          first | refine A_imulN d_Ld_putsDownWithin_35 (by with_reducible rfl) (by with_reducible rfl) ?_ | refine A_imul d_Ld_putsDownWithin_35 ?_
          refine A_istore3 d_Ld_putsDownWithin_36 trivial ?_
          refine A_iload4 d_Ld_putsDownWithin_37 ?_
          refine A_bipush (v := nI 10) d_Ld_putsDownWithin_39 (by decide) ?_
          first | refine A_imulN d_Ld_putsDownWithin_41 (by with_reducible rfl) (by with_reducible rfl) ?_ | refine A_imul d_Ld_putsDownWithin_41 ?_
          refine A_istore4 d_Ld_putsDownWithin_42 trivial ?_
          first | refine A_iinc5 d_Ld_putsDownWithin_44 (nI_1 _) trivial ?_ | refine A_iinc5 d_Ld_putsDownWithin_44 rfl trivial ?_
          refine A_goto (tgt := 8) d_Ld_putsDownWithin_47 (by decide) ?_
          refine A_loc ?_ ih
          have e1 : tirH V x (i + 1) = tirH V x i * (if hasB (nI x) (nI i) = true then V (30 + 2 * i + 1) else 1) := rfl
          have e2 : allH x (i + 1) = allH x i * (if hasB (nI x) (nI i) = true then 10 else 1) := rfl
          first
            | (have hb : hasB (nI x) (nI i) = true := decide_eq_true c_24
               rw [e1, e2, hb, if_pos rfl, if_pos rfl]
               done)
            | (have hb : hasB (nI x) (nI i) = false := decide_eq_false c_24
               rw [e1, e2, hb, if_neg (by decide), if_neg (by decide), Nat.mul_one, Nat.mul_one]
               done)
  refine Ctr.of (by decide +kernel) (by simp) (Nat.le_of_ble_eq_true rfl) (L0 := [some (.ref a), some (.int (nI x)), some (.int (nI cc)), none, none, none]) rfl ?_
  refine A_iconst (v := nI 1) d_Ld_putsDownWithin_0 (by decide) ?_
  refine A_istore3 d_Ld_putsDownWithin_1 trivial ?_
  refine A_iconst (v := nI 1) d_Ld_putsDownWithin_2 (by decide) ?_
  refine A_istore4 d_Ld_putsDownWithin_3 trivial ?_
  refine A_iconst (v := nI 0) d_Ld_putsDownWithin_5 (by decide) ?_
  refine A_istore5 d_Ld_putsDownWithin_6 trivial ?_
  exact key 0 (Nat.zero_le _)
set_option maxHeartbeats 4000000 in
set_option maxRecDepth 100000 in
theorem c_Ld_hoursFrom {G : GE} {h : AH} {a : Nat} {D : LD} (hA : LAt h a D) {V : Nat → Nat} (hV : LVr D V) (fr z : Nat) (hfr : fr < 2 ^ 30) (hz : z < 2 ^ 30) : Ctr G y_Ld_hoursFrom b_Ld_hoursFrom 5 (some .int) r_Ld_hoursFrom [.ref a, .int (nI fr), .int (nI z)] h (Pu (.int (awayI (V 0) fr z)) h) := by
  have hV0 := hV
  obtain ⟨ok, ⟨f0, f1, f2, f3, f4, f9⟩, hP, hBe, hTo⟩ := hV
  have hH := ok.1
  have key : ∀ i, i ≤ z → WA G y_Ld_hoursFrom b_Ld_hoursFrom 5 (some .int) r_Ld_hoursFrom 0 0 (Pu (.int (awayI (V 0) fr z)) h) 0 0 5 [some (.ref a), some (.int (nI fr)), some (.int (nI z)), some (.int (foldN (fun k x => x ||| nI (2 ^ ((fr + k) % V 0))) (nI 0) i)), some (.int (nI i))] [] h := by
    refine down ?_ (fun i hi ih => ?_)
    · refine A_iload4 d_Ld_hoursFrom_5 ?_
      refine A_iload_n2 d_Ld_hoursFrom_7 ?_
      first | refine A_icmp_geN (tgt := 38) d_Ld_hoursFrom_8 (by decide) (by with_reducible rfl) (by with_reducible rfl) (by omega) (by omega) (fun c_8 => ?_) (fun c_8 => ?_) | refine A_icmp_ge (tgt := 38) d_Ld_hoursFrom_8 (by decide) (fun c_8 => ?_) (fun c_8 => ?_)
      · refine A_iload_n3 d_Ld_hoursFrom_38 ?_
        refine A_iret d_Ld_hoursFrom_39 rfl ⟨Nat.zero_le _, Nat.zero_le _⟩ ?_
        exact pu rfl
      · exact absurd c_8 (by omega)
    · refine A_iload4 d_Ld_hoursFrom_5 ?_
      refine A_iload_n2 d_Ld_hoursFrom_7 ?_
      first | refine A_icmp_geN (tgt := 38) d_Ld_hoursFrom_8 (by decide) (by with_reducible rfl) (by with_reducible rfl) (by omega) (by omega) (fun c_8 => ?_) (fun c_8 => ?_) | refine A_icmp_ge (tgt := 38) d_Ld_hoursFrom_8 (by decide) (fun c_8 => ?_) (fun c_8 => ?_)
      · exact absurd c_8 (by omega)
      · refine A_aload_n0 d_Ld_hoursFrom_11 ?_
        refine A_getf (kf := 0) d_Ld_hoursFrom_12 hA.o ok_1 (by decide) q_45 rfl ?_
        refine A_topI f0 ?_
        refine A_if_le (tgt := 38) d_Ld_hoursFrom_15 (by decide) (fun c => absurd c (nI_nle (by omega) (by omega))) (fun c_15 => ?_)
        refine A_iload_n3 d_Ld_hoursFrom_18 ?_
        refine A_iconst (v := nI 1) d_Ld_hoursFrom_19 (by decide) ?_
        refine A_iload_n1 d_Ld_hoursFrom_20 ?_
        refine A_iload4 d_Ld_hoursFrom_21 ?_
        first | refine A_iaddN d_Ld_hoursFrom_23 (by with_reducible rfl) (by with_reducible rfl) ?_ | refine A_iadd d_Ld_hoursFrom_23 ?_
        refine A_aload_n0 d_Ld_hoursFrom_24 ?_
        refine A_getf (kf := 0) d_Ld_hoursFrom_25 hA.o ok_1 (by decide) q_45 rfl ?_
        refine A_topI f0 ?_
        refine A_iremN d_Ld_hoursFrom_28 (by with_reducible rfl) (by with_reducible rfl) (by omega) ?_
        refine A_ishl d_Ld_hoursFrom_29 ?_
        have hm := Nat.mod_lt (fr + i) (show 0 < V 0 by omega)
        refine A_topI (shl1 _ (by omega)) ?_
        refine A_ior d_Ld_hoursFrom_30 ?_
        refine A_istore3 d_Ld_hoursFrom_31 trivial ?_
        first | refine A_iinc4 d_Ld_hoursFrom_32 (nI_1 _) trivial ?_ | refine A_iinc4 d_Ld_hoursFrom_32 rfl trivial ?_
        refine A_goto (tgt := 5) d_Ld_hoursFrom_35 (by decide) ?_
        exact ih
  refine Ctr.of (by decide +kernel) (by simp) (Nat.le_of_ble_eq_true rfl) (L0 := [some (.ref a), some (.int (nI fr)), some (.int (nI z)), none, none]) rfl ?_
  refine A_iconst (v := nI 0) d_Ld_hoursFrom_0 (by decide) ?_
  refine A_istore3 d_Ld_hoursFrom_1 trivial ?_
  refine A_iconst (v := nI 0) d_Ld_hoursFrom_2 (by decide) ?_
  refine A_istore4 d_Ld_hoursFrom_3 trivial ?_
  exact key 0 (Nat.zero_le _)
