theorem nI_nm1 {k : Nat} (hk : k < 2 ^ 31) : ¬ nI k = -1 := fun e => by
  have := congrArg Int32.toInt e
  rw [nI_toInt hk] at this
  have z : (-1 : Int32).toInt = -1 := rfl
  omega
theorem brF_s1 (V w tw : Nat → Nat) (x : Int32) (i : Nat) : (brF V w tw x (i + 1)).1 = if (brF V w tw x i).1 = -1 then (if tw i = w (i % V 0) then (brF V w tw x i).1 else nI i) else (brF V w tw x i).1 := rfl
theorem brF_stay {V w tw : Nat → Nat} {x : Int32} {i k : Nat} (h : (brF V w tw x i).1 = nI k) (hk : k < 2 ^ 31) : ∀ d, (brF V w tw x (i + d)).1 = nI k
  | 0 => h
  | d + 1 => by
    have ih := brF_stay h hk d
    rw [← Nat.add_assoc, brF_s1, ih, if_neg (nI_nm1 hk)]
set_option maxHeartbeats 4000000 in
set_option maxRecDepth 100000 in
theorem c_N_firstBreach {G : GE} {h : AH} {a b w : Nat} {D E : LD} (hA : LAt h a D) {V : Nat → Nat} (hV : LVr D V) (hB : BAt h b E) {bk : Nat → Nat} (hK : BVr E bk) {t : Nat → Nat} (hT : TAt h w t) (x : Int32) : Ctr G y_N_firstBreach b_N_firstBreach 4 (some .int) r_N_firstBreach [.ref a, .ref b, .ref w] h (Pu (.int (brF V t (wentB bk) x (totB bk)).1) h) := by
  have hV0 := hV
  have hT0 := hT
  have hK0 := hK
  obtain ⟨ok, ⟨f0, f1, f2, f3, f4, f9⟩, hP, hBe, hTo⟩ := hV
  obtain ⟨g, hg, ht⟩ := hT
  obtain ⟨okb, b0, b1, hS, hW⟩ := hK
  have hH := ok.1
  have htot := okb.tot
  have key : ∀ i, i ≤ totB bk → (brF V t (wentB bk) x i).1 = -1 → WA G y_N_firstBreach b_N_firstBreach 4 (some .int) r_N_firstBreach 0 0 (Pu (.int (brF V t (wentB bk) x (totB bk)).1) h) 0 0 2 [some (.ref a), some (.ref b), some (.ref w), some (.int (nI i))] [] h := by
    refine down ?_ (fun i hi ih => ?_)
    · intro hb1
      refine A_iload_n3 d_N_firstBreach_2 ?_
      refine A_aload_n1 d_N_firstBreach_3 ?_
      refine A_callVP d_N_firstBreach_4 (c_Bk_trackHours hB hK0) hB.o rfl q_760 q_740 q_741 mk_Bk_trackHours rfl (by decide) rfl (Nat.le_of_ble_eq_true rfl) ⟨Nat.le_of_ble_eq_true rfl, Nat.le_of_ble_eq_true rfl⟩ ⟨rfl, rfl⟩ ?_
      first | refine A_icmp_geN (tgt := 33) d_N_firstBreach_7 (by decide) (by with_reducible rfl) (by with_reducible rfl) (by omega) (by omega) (fun c_7 => ?_) (fun c_7 => ?_) | refine A_icmp_ge (tgt := 33) d_N_firstBreach_7 (by decide) (fun c_7 => ?_) (fun c_7 => ?_)
      · refine A_iconst (v := (-1)) d_N_firstBreach_33 (by decide) ?_
        refine A_iret d_N_firstBreach_34 rfl ⟨Nat.zero_le _, Nat.zero_le _⟩ ?_
        exact pu (by rw [hb1])
      · exact absurd c_7 (by omega)
    · intro hb1
      refine A_iload_n3 d_N_firstBreach_2 ?_
      refine A_aload_n1 d_N_firstBreach_3 ?_
      refine A_callVP d_N_firstBreach_4 (c_Bk_trackHours hB hK0) hB.o rfl q_760 q_740 q_741 mk_Bk_trackHours rfl (by decide) rfl (Nat.le_of_ble_eq_true rfl) ⟨Nat.le_of_ble_eq_true rfl, Nat.le_of_ble_eq_true rfl⟩ ⟨rfl, rfl⟩ ?_
      first | refine A_icmp_geN (tgt := 33) d_N_firstBreach_7 (by decide) (by with_reducible rfl) (by with_reducible rfl) (by omega) (by omega) (fun c_7 => ?_) (fun c_7 => ?_) | refine A_icmp_ge (tgt := 33) d_N_firstBreach_7 (by decide) (fun c_7 => ?_) (fun c_7 => ?_)
      · exact absurd c_7 (by omega)
      · refine A_aload_n1 d_N_firstBreach_10 ?_
        refine A_getf (kf := 4) d_N_firstBreach_11 hB.o ok_0 (by decide) q_157 rfl ?_
        refine A_iload_n3 d_N_firstBreach_14 ?_
        refine A_ialdN d_N_firstBreach_15 hB.a4 ⟨by omega, by decide⟩ ?_
        refine A_topI (hW i hi) ?_
        have hwl := okb.le i
        refine A_aload_n0 d_N_firstBreach_16 ?_
        refine A_aload_n2 d_N_firstBreach_17 ?_
        refine A_iload_n3 d_N_firstBreach_18 ?_
        refine A_callVP d_N_firstBreach_19 (c_Ld_at hA hV0 hT0 i (by omega)) hA.o rfl q_761 q_685 q_686 mk_Ld_at rfl (by decide) rfl (Nat.le_of_ble_eq_true rfl) ⟨Nat.le_of_ble_eq_true rfl, Nat.le_of_ble_eq_true rfl⟩ ⟨rfl, rfl⟩ ?_
        have hti := (ht (i % V 0) (Nat.lt_of_lt_of_le (Nat.mod_lt _ (by omega)) (by omega))).2
        first | refine A_icmp_eqN (tgt := 27) d_N_firstBreach_22 (by decide) (by with_reducible rfl) (by with_reducible rfl) (by omega) (by omega) (fun c_22 => ?_) (fun c_22 => ?_) | refine A_icmp_eq (tgt := 27) d_N_firstBreach_22 (by decide) (fun c_22 => ?_) (fun c_22 => ?_)
        · first | refine A_iinc3 d_N_firstBreach_27 (nI_1 _) trivial ?_ | refine A_iinc3 d_N_firstBreach_27 rfl trivial ?_
          refine A_goto (tgt := 2) d_N_firstBreach_30 (by decide) ?_
          exact ih (by rw [brF_s1, if_pos hb1, if_pos (by omega)]; exact hb1)
        · refine A_iload_n3 d_N_firstBreach_25 ?_
          refine A_iret d_N_firstBreach_26 rfl ⟨Nat.zero_le _, Nat.zero_le _⟩ ?_
          have z : (brF V t (wentB bk) x (i + 1)).1 = nI i := by rw [brF_s1, if_pos hb1, if_neg (by omega)]
          have z2 := brF_stay z (by omega) (totB bk - (i + 1))
          rw [show i + 1 + (totB bk - (i + 1)) = totB bk by omega] at z2
          exact pu (by rw [z2])
  refine Ctr.of (by decide +kernel) (by simp) (Nat.le_of_ble_eq_true rfl) (L0 := [some (.ref a), some (.ref b), some (.ref w), none]) rfl ?_
  refine A_iconst (v := nI 0) d_N_firstBreach_0 (by decide) ?_
  refine A_istore3 d_N_firstBreach_1 trivial ?_
  exact key 0 (Nat.zero_le _) rfl
