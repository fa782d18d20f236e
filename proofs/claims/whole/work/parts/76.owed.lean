set_option maxHeartbeats 4000000 in
set_option maxRecDepth 100000 in
theorem c_N_owed {G : GE} {h : AH} {a b w : Nat} {D E : LD} (hA : LAt h a D) {V : Nat → Nat} (hV : LVr D V) (hB : BAt h b E) {bk : Nat → Nat} (hK : BVr E bk) {t : Nat → Nat} (hT : TAt h w t) (cc : Nat) (hcc : cc < 2 ^ 31) (x : Int32) (hx : x - nI 1 = nI cc) : Ctr G y_N_owed b_N_owed 6 (some .int) r_N_owed [.ref a, .ref b, .ref w, .int (nI cc)] h (Pu (.int (brF V t (wentB bk) x (totB bk)).2) h) := by
  have hV0 := hV
  have hT0 := hT
  have hK0 := hK
  obtain ⟨ok, ⟨f0, f1, f2, f3, f4, f9⟩, hP, hBe, hTo⟩ := hV
  obtain ⟨g, hg, ht⟩ := hT
  obtain ⟨okb, b0, b1, hS, hW⟩ := hK
  have hH := ok.1
  have htot := okb.tot
  have key : ∀ i, i ≤ totB bk → WA G y_N_owed b_N_owed 6 (some .int) r_N_owed 0 0 (Pu (.int (brF V t (wentB bk) x (totB bk)).2) h) 0 0 6 [some (.ref a), some (.ref b), some (.ref w), some (.int (nI cc)), some (.int (brF V t (wentB bk) x i).2), some (.int (nI i))] [] h := by
    refine down ?_ (fun i hi ih => ?_)
    · refine A_iload5 d_N_owed_6 ?_
      refine A_aload_n1 d_N_owed_8 ?_
      refine A_callVP d_N_owed_9 (c_Bk_trackHours hB hK0) hB.o rfl q_760 q_740 q_741 mk_Bk_trackHours rfl (by decide) rfl (Nat.le_of_ble_eq_true rfl) ⟨Nat.le_of_ble_eq_true rfl, Nat.le_of_ble_eq_true rfl⟩ ⟨rfl, rfl⟩ ?_
      first | refine A_icmp_geN (tgt := 65) d_N_owed_12 (by decide) (by with_reducible rfl) (by with_reducible rfl) (by omega) (by omega) (fun c_12 => ?_) (fun c_12 => ?_) | refine A_icmp_ge (tgt := 65) d_N_owed_12 (by decide) (fun c_12 => ?_) (fun c_12 => ?_)
      · refine A_iload4 d_N_owed_65 ?_
        refine A_iret d_N_owed_67 rfl ⟨Nat.zero_le _, Nat.zero_le _⟩ ?_
        exact pu rfl
      · exact absurd c_12 (by omega)
    · refine A_iload5 d_N_owed_6 ?_
      refine A_aload_n1 d_N_owed_8 ?_
      refine A_callVP d_N_owed_9 (c_Bk_trackHours hB hK0) hB.o rfl q_760 q_740 q_741 mk_Bk_trackHours rfl (by decide) rfl (Nat.le_of_ble_eq_true rfl) ⟨Nat.le_of_ble_eq_true rfl, Nat.le_of_ble_eq_true rfl⟩ ⟨rfl, rfl⟩ ?_
      first | refine A_icmp_geN (tgt := 65) d_N_owed_12 (by decide) (by with_reducible rfl) (by with_reducible rfl) (by omega) (by omega) (fun c_12 => ?_) (fun c_12 => ?_) | refine A_icmp_ge (tgt := 65) d_N_owed_12 (by decide) (fun c_12 => ?_) (fun c_12 => ?_)
      · exact absurd c_12 (by omega)
      · refine A_iload4 d_N_owed_15 ?_
        refine A_aload_n0 d_N_owed_17 ?_
        refine A_aload_n2 d_N_owed_18 ?_
        refine A_iload5 d_N_owed_19 ?_
        refine A_callVP d_N_owed_21 (c_Ld_at hA hV0 hT0 i (by omega)) hA.o rfl q_761 q_685 q_686 mk_Ld_at rfl (by decide) rfl (Nat.le_of_ble_eq_true rfl) ⟨Nat.le_of_ble_eq_true rfl, Nat.le_of_ble_eq_true rfl⟩ ⟨rfl, rfl⟩ ?_
        have hti := (ht (i % V 0) (Nat.lt_of_lt_of_le (Nat.mod_lt _ (by omega)) (by omega))).2
        refine A_iload_n3 d_N_owed_24 ?_
        first | refine A_icmp_neN (tgt := 32) d_N_owed_25 (by decide) (by with_reducible rfl) (by with_reducible rfl) (by omega) (by omega) (fun c_25 => ?_) (fun c_25 => ?_) | refine A_icmp_ne (tgt := 32) d_N_owed_25 (by decide) (fun c_25 => ?_) (fun c_25 => ?_)
        · refine A_iconst (v := nI 0) d_N_owed_32 (by decide) ?_
          refine A_callSP d_N_owed_33 (c_N_one0 _) q_692 q_591 mk_N_oneIf rfl (by decide) rfl (Nat.le_of_ble_eq_true rfl) ⟨Nat.le_of_ble_eq_true rfl, Nat.le_of_ble_eq_true rfl⟩ ⟨rfl, rfl⟩ ?_
          refine A_aload_n1 d_N_owed_36 ?_
          refine A_getf (kf := 4) d_N_owed_37 hB.o ok_0 (by decide) q_157 rfl ?_
          refine A_iload5 d_N_owed_40 ?_
          refine A_ialdN d_N_owed_42 hB.a4 ⟨by omega, by decide⟩ ?_
          refine A_topI (hW i hi) ?_
          have hwl := okb.le i
          refine A_iload_n3 d_N_owed_43 ?_
          first | refine A_icmp_neN (tgt := 51) d_N_owed_44 (by decide) (by with_reducible rfl) (by with_reducible rfl) (by omega) (by omega) (fun c_44 => ?_) (fun c_44 => ?_) | refine A_icmp_ne (tgt := 51) d_N_owed_44 (by decide) (fun c_44 => ?_) (fun c_44 => ?_)
          · refine A_iconst (v := nI 0) d_N_owed_51 (by decide) ?_
            refine A_callSP d_N_owed_52 (c_N_one0 _) q_692 q_591 mk_N_oneIf rfl (by decide) rfl (Nat.le_of_ble_eq_true rfl) ⟨Nat.le_of_ble_eq_true rfl, Nat.le_of_ble_eq_true rfl⟩ ⟨rfl, rfl⟩ ?_
            first | refine A_isubN d_N_owed_55 (by with_reducible rfl) (by with_reducible rfl) (by omega) ?_ | refine A_isub d_N_owed_55 ?_
            first | refine A_iaddN d_N_owed_56 (by with_reducible rfl) (by with_reducible rfl) ?_ | refine A_iadd d_N_owed_56 ?_
            refine A_istore4 d_N_owed_57 trivial ?_
            first | refine A_iinc5 d_N_owed_59 (nI_1 _) trivial ?_ | refine A_iinc5 d_N_owed_59 rfl trivial ?_
            refine A_goto (tgt := 6) d_N_owed_62 (by decide) ?_
            refine A_loc ?_ ih
            have e : (brF V t (wentB bk) x (i + 1)).2 = (brF V t (wentB bk) x i).2 + ((if nI (t (i % V 0)) = x - nI 1 then nI 1 else nI 0) - (if nI (wentB bk i) = x - nI 1 then nI 1 else nI 0)) := rfl
            rw [e, hx]
            have q1 : (nI (t (i % V 0)) = nI cc) = (t (i % V 0) = cc) := propext ⟨fun e => by have := congrArg Int32.toInt e; rw [nI_toInt (by omega), nI_toInt (by omega)] at this; omega, congrArg nI⟩
            have q2 : (nI (wentB bk i) = nI cc) = (wentB bk i = cc) := propext ⟨fun e => by have := congrArg Int32.toInt e; rw [nI_toInt (by omega), nI_toInt (by omega)] at this; omega, congrArg nI⟩
            simp only [q1, q2]
            repeat (first | rw [if_pos (by assumption)] | rw [if_neg (by assumption)])
            first
              | done
              | (rw [show nI (0 - 0) = nI 0 - nI 0 by decide]; done)
              | (rw [show nI (1 - 0) = nI 1 - nI 0 by decide]; done)
              | (rw [show nI (1 - 1) = nI 1 - nI 1 by decide]; done)
              | rfl
          · refine A_iconst (v := nI 1) d_N_owed_47 (by decide) ?_
            refine A_goto (tgt := 52) d_N_owed_48 (by decide) ?_
            refine A_callSP d_N_owed_52 (c_N_one1 _) q_692 q_591 mk_N_oneIf rfl (by decide) rfl (Nat.le_of_ble_eq_true rfl) ⟨Nat.le_of_ble_eq_true rfl, Nat.le_of_ble_eq_true rfl⟩ ⟨rfl, rfl⟩ ?_
            first | refine A_isubN d_N_owed_55 (by with_reducible rfl) (by with_reducible rfl) (by omega) ?_ | refine A_isub d_N_owed_55 ?_
            first | refine A_iaddN d_N_owed_56 (by with_reducible rfl) (by with_reducible rfl) ?_ | refine A_iadd d_N_owed_56 ?_
            refine A_istore4 d_N_owed_57 trivial ?_
            first | refine A_iinc5 d_N_owed_59 (nI_1 _) trivial ?_ | refine A_iinc5 d_N_owed_59 rfl trivial ?_
            refine A_goto (tgt := 6) d_N_owed_62 (by decide) ?_
            refine A_loc ?_ ih
            have e : (brF V t (wentB bk) x (i + 1)).2 = (brF V t (wentB bk) x i).2 + ((if nI (t (i % V 0)) = x - nI 1 then nI 1 else nI 0) - (if nI (wentB bk i) = x - nI 1 then nI 1 else nI 0)) := rfl
            rw [e, hx]
            have q1 : (nI (t (i % V 0)) = nI cc) = (t (i % V 0) = cc) := propext ⟨fun e => by have := congrArg Int32.toInt e; rw [nI_toInt (by omega), nI_toInt (by omega)] at this; omega, congrArg nI⟩
            have q2 : (nI (wentB bk i) = nI cc) = (wentB bk i = cc) := propext ⟨fun e => by have := congrArg Int32.toInt e; rw [nI_toInt (by omega), nI_toInt (by omega)] at this; omega, congrArg nI⟩
            simp only [q1, q2]
            repeat (first | rw [if_pos (by assumption)] | rw [if_neg (by assumption)])
            first
              | done
              | (rw [show nI (0 - 0) = nI 0 - nI 0 by decide]; done)
              | (rw [show nI (1 - 0) = nI 1 - nI 0 by decide]; done)
              | (rw [show nI (1 - 1) = nI 1 - nI 1 by decide]; done)
              | rfl
        · refine A_iconst (v := nI 1) d_N_owed_28 (by decide) ?_
          refine A_goto (tgt := 33) d_N_owed_29 (by decide) ?_
          refine A_callSP d_N_owed_33 (c_N_one1 _) q_692 q_591 mk_N_oneIf rfl (by decide) rfl (Nat.le_of_ble_eq_true rfl) ⟨Nat.le_of_ble_eq_true rfl, Nat.le_of_ble_eq_true rfl⟩ ⟨rfl, rfl⟩ ?_
          refine A_aload_n1 d_N_owed_36 ?_
          refine A_getf (kf := 4) d_N_owed_37 hB.o ok_0 (by decide) q_157 rfl ?_
          refine A_iload5 d_N_owed_40 ?_
          refine A_ialdN d_N_owed_42 hB.a4 ⟨by omega, by decide⟩ ?_
          refine A_topI (hW i hi) ?_
          have hwl := okb.le i
          refine A_iload_n3 d_N_owed_43 ?_
          first | refine A_icmp_neN (tgt := 51) d_N_owed_44 (by decide) (by with_reducible rfl) (by with_reducible rfl) (by omega) (by omega) (fun c_44 => ?_) (fun c_44 => ?_) | refine A_icmp_ne (tgt := 51) d_N_owed_44 (by decide) (fun c_44 => ?_) (fun c_44 => ?_)
          · refine A_iconst (v := nI 0) d_N_owed_51 (by decide) ?_
            refine A_callSP d_N_owed_52 (c_N_one0 _) q_692 q_591 mk_N_oneIf rfl (by decide) rfl (Nat.le_of_ble_eq_true rfl) ⟨Nat.le_of_ble_eq_true rfl, Nat.le_of_ble_eq_true rfl⟩ ⟨rfl, rfl⟩ ?_
            first | refine A_isubN d_N_owed_55 (by with_reducible rfl) (by with_reducible rfl) (by omega) ?_ | refine A_isub d_N_owed_55 ?_
            first | refine A_iaddN d_N_owed_56 (by with_reducible rfl) (by with_reducible rfl) ?_ | refine A_iadd d_N_owed_56 ?_
            refine A_istore4 d_N_owed_57 trivial ?_
            first | refine A_iinc5 d_N_owed_59 (nI_1 _) trivial ?_ | refine A_iinc5 d_N_owed_59 rfl trivial ?_
            refine A_goto (tgt := 6) d_N_owed_62 (by decide) ?_
            refine A_loc ?_ ih
            have e : (brF V t (wentB bk) x (i + 1)).2 = (brF V t (wentB bk) x i).2 + ((if nI (t (i % V 0)) = x - nI 1 then nI 1 else nI 0) - (if nI (wentB bk i) = x - nI 1 then nI 1 else nI 0)) := rfl
            rw [e, hx]
            have q1 : (nI (t (i % V 0)) = nI cc) = (t (i % V 0) = cc) := propext ⟨fun e => by have := congrArg Int32.toInt e; rw [nI_toInt (by omega), nI_toInt (by omega)] at this; omega, congrArg nI⟩
            have q2 : (nI (wentB bk i) = nI cc) = (wentB bk i = cc) := propext ⟨fun e => by have := congrArg Int32.toInt e; rw [nI_toInt (by omega), nI_toInt (by omega)] at this; omega, congrArg nI⟩
            simp only [q1, q2]
            repeat (first | rw [if_pos (by assumption)] | rw [if_neg (by assumption)])
            first
              | done
              | (rw [show nI (0 - 0) = nI 0 - nI 0 by decide]; done)
              | (rw [show nI (1 - 0) = nI 1 - nI 0 by decide]; done)
              | (rw [show nI (1 - 1) = nI 1 - nI 1 by decide]; done)
              | rfl
          · refine A_iconst (v := nI 1) d_N_owed_47 (by decide) ?_
            refine A_goto (tgt := 52) d_N_owed_48 (by decide) ?_
            refine A_callSP d_N_owed_52 (c_N_one1 _) q_692 q_591 mk_N_oneIf rfl (by decide) rfl (Nat.le_of_ble_eq_true rfl) ⟨Nat.le_of_ble_eq_true rfl, Nat.le_of_ble_eq_true rfl⟩ ⟨rfl, rfl⟩ ?_
            first | refine A_isubN d_N_owed_55 (by with_reducible rfl) (by with_reducible rfl) (by omega) ?_ | refine A_isub d_N_owed_55 ?_
            first | refine A_iaddN d_N_owed_56 (by with_reducible rfl) (by with_reducible rfl) ?_ | refine A_iadd d_N_owed_56 ?_
            refine A_istore4 d_N_owed_57 trivial ?_
            first | refine A_iinc5 d_N_owed_59 (nI_1 _) trivial ?_ | refine A_iinc5 d_N_owed_59 rfl trivial ?_
            refine A_goto (tgt := 6) d_N_owed_62 (by decide) ?_
            refine A_loc ?_ ih
            have e : (brF V t (wentB bk) x (i + 1)).2 = (brF V t (wentB bk) x i).2 + ((if nI (t (i % V 0)) = x - nI 1 then nI 1 else nI 0) - (if nI (wentB bk i) = x - nI 1 then nI 1 else nI 0)) := rfl
            rw [e, hx]
            have q1 : (nI (t (i % V 0)) = nI cc) = (t (i % V 0) = cc) := propext ⟨fun e => by have := congrArg Int32.toInt e; rw [nI_toInt (by omega), nI_toInt (by omega)] at this; omega, congrArg nI⟩
            have q2 : (nI (wentB bk i) = nI cc) = (wentB bk i = cc) := propext ⟨fun e => by have := congrArg Int32.toInt e; rw [nI_toInt (by omega), nI_toInt (by omega)] at this; omega, congrArg nI⟩
            simp only [q1, q2]
            repeat (first | rw [if_pos (by assumption)] | rw [if_neg (by assumption)])
            first
              | done
              | (rw [show nI (0 - 0) = nI 0 - nI 0 by decide]; done)
              | (rw [show nI (1 - 0) = nI 1 - nI 0 by decide]; done)
              | (rw [show nI (1 - 1) = nI 1 - nI 1 by decide]; done)
              | rfl
  refine Ctr.of (by decide +kernel) (by simp) (Nat.le_of_ble_eq_true rfl) (L0 := [some (.ref a), some (.ref b), some (.ref w), some (.int (nI cc)), none, none]) rfl ?_
  refine A_iconst (v := nI 0) d_N_owed_0 (by decide) ?_
  refine A_istore4 d_N_owed_1 trivial ?_
  refine A_iconst (v := nI 0) d_N_owed_3 (by decide) ?_
  refine A_istore5 d_N_owed_4 trivial ?_
  exact key 0 (Nat.zero_le _)
