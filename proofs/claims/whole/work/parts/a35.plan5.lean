def bcD (V : Nat → Nat) (Z : PC) (first s : Nat) (x : Int64) (n : Nat) : Int64 := foldN (fun d x => maxL x (bnE V Z first s d (carD V))) x n
def bcS (V : Nat → Nat) (Z : PC) (first n : Nat) : Int64 := foldN (fun s x => if goesB (V 1) s first = true then bcD V Z first s x (V 0 + 1) else x) NTH n
theorem goes_k {C s f : Nat} : goesB C s f = true ↔ nextN C s 0 = f ∨ s < 2 ∧ nextN C s 1 = f := by
  unfold goesB
  rw [Bool.or_eq_true, Bool.and_eq_true, decide_eq_true_iff, decide_eq_true_iff, decide_eq_true_iff]
set_option maxHeartbeats 4000000 in
set_option maxRecDepth 100000 in
theorem c_Pl_bestClosed {G : GE} {h : AH} {r rx ry : Nat} {Z : PC} (hP : PlAt h r rx ry Z) {a : Nat} {D : LD} (hA : LAt h a D) {V : Nat → Nat} (hV : LVr D V) (hI1 : PRI V Z.1) {first : Nat} (hfi : first < 2 + 2 * V 1) (hD : ∀ s d, s < 2 + 2 * V 1 → goesB (V 1) s first = true → d ≤ V 0 → ∀ k, k < carD V → ¬ Z.2.2.1 (clN (V 0) (carD V) s d k) = NTH → d + V 1 * (k + carN s first) ≤ V 0)  : Ctr G y_Pl_bestClosed b_Pl_bestClosed 7 (some .long) r_Pl_bestClosed [.ref r, .ref a, .int (nI first)] h (Pu (.long (bcS V Z first (2 + 2 * V 1))) h) := by
  refine Ctr.of (by decide +kernel) (by simp) (Nat.le_of_ble_eq_true rfl) (L0 := [some (.ref r), some (.ref a), some (.int (nI first)), none, none, none, none]) rfl ?_
  have hV0 := hV
  obtain ⟨ok, -⟩ := hV0
  have hH := ok.1.2
  have h4 := ok.1.1
  have hC3 := ok.2.1
  have key : ∀ s, s ≤ 2 + 2 * V 1 → ∀ x6, WA G y_Pl_bestClosed b_Pl_bestClosed 7 (some .long) r_Pl_bestClosed 0 0 (Pu (.long (bcS V Z first (2 + 2 * V 1))) h) 0 0 7 [some (.ref r), some (.ref a), some (.int (nI first)), some (.long (bcS V Z first s)), none, some (.int (nI s)), x6] [] h := by
    refine down ?_ (fun s hs ih => ?_)
    · intro x6
      refine A_iload5 d_Pl_bestClosed_7 ?_
      refine A_aload_n0 d_Pl_bestClosed_9 ?_
      refine A_getf (kf := 7) d_Pl_bestClosed_10 hP.o ok_2 (by decide) q_340 rfl ?_
      refine A_topI hI1.2.2.1 ?_
      first | refine A_icmp_geN (tgt := 75) d_Pl_bestClosed_13 (by decide) (by with_reducible rfl) (by with_reducible rfl) (by omega) (by omega) (fun c_13 => ?_) (fun c_13 => ?_) | refine A_icmp_ge (tgt := 75) d_Pl_bestClosed_13 (by decide) (fun c_13 => ?_) (fun c_13 => ?_)
      · refine A_lload_n3 d_Pl_bestClosed_75 ?_
        refine A_lret d_Pl_bestClosed_76 rfl ⟨Nat.zero_le _, Nat.zero_le _⟩ ?_
        exact pu rfl
      · exfalso
        omega
    · intro x6
      have hn0 := nextN_lt (way := 0) hs
      have hn1 := nextN_lt (way := 1) hs
      by_cases hg : goesB (V 1) s first = true
      · have key2 : ∀ d, d ≤ V 0 + 1 → WA G y_Pl_bestClosed b_Pl_bestClosed 7 (some .long) r_Pl_bestClosed 0 0 (Pu (.long (bcS V Z first (2 + 2 * V 1))) h) 0 0 39 [some (.ref r), some (.ref a), some (.int (nI first)), some (.long (bcD V Z first s (bcS V Z first s) d)), none, some (.int (nI s)), some (.int (nI d))] [] h := by
          refine down ?_ (fun d hd ih2 => ?_)
          · skip
            refine A_iload6 d_Pl_bestClosed_39 ?_
            refine A_aload_n0 d_Pl_bestClosed_41 ?_
            refine A_getf (kf := 5) d_Pl_bestClosed_42 hP.o ok_2 (by decide) q_338 rfl ?_
            refine A_topI hI1.1 ?_
            first | refine A_icmp_gtN (tgt := 69) d_Pl_bestClosed_45 (by decide) (by with_reducible rfl) (by with_reducible rfl) (by omega) (by omega) (fun c_45 => ?_) (fun c_45 => ?_) | refine A_icmp_gt (tgt := 69) d_Pl_bestClosed_45 (by decide) (fun c_45 => ?_) (fun c_45 => ?_)
            · first | refine A_iinc5 d_Pl_bestClosed_69 (nI_1 _) trivial ?_ | refine A_iinc5 d_Pl_bestClosed_69 rfl trivial ?_
              refine A_goto (tgt := 7) d_Pl_bestClosed_72 (by decide) ?_
              have e : bcS V Z first (s + 1) = bcD V Z first s (bcS V Z first s) (V 0 + 1) := if_pos hg
              rw [e] at ih
              exact ih _
            · exfalso
              omega
          · skip
            refine A_iload6 d_Pl_bestClosed_39 ?_
            refine A_aload_n0 d_Pl_bestClosed_41 ?_
            refine A_getf (kf := 5) d_Pl_bestClosed_42 hP.o ok_2 (by decide) q_338 rfl ?_
            refine A_topI hI1.1 ?_
            first | refine A_icmp_gtN (tgt := 69) d_Pl_bestClosed_45 (by decide) (by with_reducible rfl) (by with_reducible rfl) (by omega) (by omega) (fun c_45 => ?_) (fun c_45 => ?_) | refine A_icmp_gt (tgt := 69) d_Pl_bestClosed_45 (by decide) (fun c_45 => ?_) (fun c_45 => ?_)
            · exfalso
              omega
            · refine A_lload_n3 d_Pl_bestClosed_48 ?_
              refine A_aload_n0 d_Pl_bestClosed_49 ?_
              refine A_aload_n1 d_Pl_bestClosed_50 ?_
              refine A_iload_n2 d_Pl_bestClosed_51 ?_
              refine A_iload5 d_Pl_bestClosed_52 ?_
              refine A_iload6 d_Pl_bestClosed_54 ?_
              refine A_callVP d_Pl_bestClosed_56 (c_Pl_bestEnd hP hA hV hI1 hfi (s := s) (d := d) (by omega) (by omega) (hD s d (by omega) hg (by omega))) hP.o rfl q_851 q_852 q_853 mk_Pl_bestEnd rfl (by decide) rfl (Nat.le_of_ble_eq_true rfl) ⟨Nat.le_of_ble_eq_true rfl, Nat.le_of_ble_eq_true rfl⟩ ⟨rfl, rfl⟩ ?_
              refine A_callSP d_Pl_bestClosed_59 (c_JM_max_1 _ _ _) q_840 q_841 mk_JM_max_1 rfl (by decide) rfl (Nat.le_of_ble_eq_true rfl) ⟨Nat.le_of_ble_eq_true rfl, Nat.le_of_ble_eq_true rfl⟩ ⟨rfl, rfl⟩ ?_
              refine A_lstore3 d_Pl_bestClosed_62 trivial ?_
              first | refine A_iinc6 d_Pl_bestClosed_63 (nI_1 _) trivial ?_ | refine A_iinc6 d_Pl_bestClosed_63 rfl trivial ?_
              refine A_goto (tgt := 39) d_Pl_bestClosed_66 (by decide) ?_
              exact ih2
        by_cases h0 : nextN (V 1) s 0 = first
        · refine A_iload5 d_Pl_bestClosed_7 ?_
          refine A_aload_n0 d_Pl_bestClosed_9 ?_
          refine A_getf (kf := 7) d_Pl_bestClosed_10 hP.o ok_2 (by decide) q_340 rfl ?_
          refine A_topI hI1.2.2.1 ?_
          first | refine A_icmp_geN (tgt := 75) d_Pl_bestClosed_13 (by decide) (by with_reducible rfl) (by with_reducible rfl) (by omega) (by omega) (fun c_13 => ?_) (fun c_13 => ?_) | refine A_icmp_ge (tgt := 75) d_Pl_bestClosed_13 (by decide) (fun c_13 => ?_) (fun c_13 => ?_)
          · exfalso
            omega
          · refine A_aload_n0 d_Pl_bestClosed_16 ?_
            refine A_iload5 d_Pl_bestClosed_17 ?_
            refine A_callVP d_Pl_bestClosed_19 (c_Pl_onward hP ok.2.1 hI1.2.1 s (by omega)) hP.o rfl q_829 q_830 q_831 mk_Pl_onward rfl (by decide) rfl (Nat.le_of_ble_eq_true rfl) ⟨Nat.le_of_ble_eq_true rfl, Nat.le_of_ble_eq_true rfl⟩ ⟨rfl, rfl⟩ ?_
            refine A_iload_n2 d_Pl_bestClosed_22 ?_
            refine A_icmp_eq (tgt := 36) d_Pl_bestClosed_23 (by decide) (fun c_23 => ?_) (fun c => absurd ((nI_eq (by omega) (by omega)).mpr h0) c)
            refine A_iconst (v := nI 0) d_Pl_bestClosed_36 (by decide) ?_
            refine A_istore6 d_Pl_bestClosed_37 trivial ?_
            exact key2 0 (Nat.zero_le _)
        · have h1 : s < 2 ∧ nextN (V 1) s 1 = first := (goes_k.mp hg).resolve_left h0
          refine A_iload5 d_Pl_bestClosed_7 ?_
          refine A_aload_n0 d_Pl_bestClosed_9 ?_
          refine A_getf (kf := 7) d_Pl_bestClosed_10 hP.o ok_2 (by decide) q_340 rfl ?_
          refine A_topI hI1.2.2.1 ?_
          first | refine A_icmp_geN (tgt := 75) d_Pl_bestClosed_13 (by decide) (by with_reducible rfl) (by with_reducible rfl) (by omega) (by omega) (fun c_13 => ?_) (fun c_13 => ?_) | refine A_icmp_ge (tgt := 75) d_Pl_bestClosed_13 (by decide) (fun c_13 => ?_) (fun c_13 => ?_)
          · exfalso
            omega
          · refine A_aload_n0 d_Pl_bestClosed_16 ?_
            refine A_iload5 d_Pl_bestClosed_17 ?_
            refine A_callVP d_Pl_bestClosed_19 (c_Pl_onward hP ok.2.1 hI1.2.1 s (by omega)) hP.o rfl q_829 q_830 q_831 mk_Pl_onward rfl (by decide) rfl (Nat.le_of_ble_eq_true rfl) ⟨Nat.le_of_ble_eq_true rfl, Nat.le_of_ble_eq_true rfl⟩ ⟨rfl, rfl⟩ ?_
            refine A_iload_n2 d_Pl_bestClosed_22 ?_
            refine A_icmp_eq (tgt := 36) d_Pl_bestClosed_23 (by decide) (fun c => absurd ((nI_eq (by omega) (by omega)).mp c) h0) (fun c_23 => ?_)
            refine A_aload_n0 d_Pl_bestClosed_26 ?_
            refine A_iload5 d_Pl_bestClosed_27 ?_
            refine A_callVP d_Pl_bestClosed_29 (c_Pl_leaving hP ok.2.1 hI1.2.1 s (by omega)) hP.o rfl q_843 q_844 q_845 mk_Pl_leaving rfl (by decide) rfl (Nat.le_of_ble_eq_true rfl) ⟨Nat.le_of_ble_eq_true rfl, Nat.le_of_ble_eq_true rfl⟩ ⟨rfl, rfl⟩ ?_
            refine A_topI (if_neg (by have := h1.1; omega)) ?_
            refine A_iload_n2 d_Pl_bestClosed_32 ?_
            refine A_icmp_ne (tgt := 69) d_Pl_bestClosed_33 (by decide) (fun c => absurd ((nI_eq (by omega) (by omega)).mpr h1.2) c) (fun c_33 => ?_)
            refine A_iconst (v := nI 0) d_Pl_bestClosed_36 (by decide) ?_
            refine A_istore6 d_Pl_bestClosed_37 trivial ?_
            exact key2 0 (Nat.zero_le _)
      · have h0 : ¬ nextN (V 1) s 0 = first := fun z => hg (goes_k.mpr (.inl z))
        by_cases h2 : 2 ≤ s
        · refine A_iload5 d_Pl_bestClosed_7 ?_
          refine A_aload_n0 d_Pl_bestClosed_9 ?_
          refine A_getf (kf := 7) d_Pl_bestClosed_10 hP.o ok_2 (by decide) q_340 rfl ?_
          refine A_topI hI1.2.2.1 ?_
          first | refine A_icmp_geN (tgt := 75) d_Pl_bestClosed_13 (by decide) (by with_reducible rfl) (by with_reducible rfl) (by omega) (by omega) (fun c_13 => ?_) (fun c_13 => ?_) | refine A_icmp_ge (tgt := 75) d_Pl_bestClosed_13 (by decide) (fun c_13 => ?_) (fun c_13 => ?_)
          · exfalso
            omega
          · refine A_aload_n0 d_Pl_bestClosed_16 ?_
            refine A_iload5 d_Pl_bestClosed_17 ?_
            refine A_callVP d_Pl_bestClosed_19 (c_Pl_onward hP ok.2.1 hI1.2.1 s (by omega)) hP.o rfl q_829 q_830 q_831 mk_Pl_onward rfl (by decide) rfl (Nat.le_of_ble_eq_true rfl) ⟨Nat.le_of_ble_eq_true rfl, Nat.le_of_ble_eq_true rfl⟩ ⟨rfl, rfl⟩ ?_
            refine A_iload_n2 d_Pl_bestClosed_22 ?_
            refine A_icmp_eq (tgt := 36) d_Pl_bestClosed_23 (by decide) (fun c => absurd ((nI_eq (by omega) (by omega)).mp c) h0) (fun c_23 => ?_)
            refine A_aload_n0 d_Pl_bestClosed_26 ?_
            refine A_iload5 d_Pl_bestClosed_27 ?_
            refine A_callVP d_Pl_bestClosed_29 (c_Pl_leaving hP ok.2.1 hI1.2.1 s (by omega)) hP.o rfl q_843 q_844 q_845 mk_Pl_leaving rfl (by decide) rfl (Nat.le_of_ble_eq_true rfl) ⟨Nat.le_of_ble_eq_true rfl, Nat.le_of_ble_eq_true rfl⟩ ⟨rfl, rfl⟩ ?_
            refine A_topI (if_pos h2) ?_
            refine A_iload_n2 d_Pl_bestClosed_32 ?_
            refine A_icmp_ne (tgt := 69) d_Pl_bestClosed_33 (by decide) (fun c_33 => ?_) (fun c => absurd c.symm (nI_neM1 (by omega)))
            first | refine A_iinc5 d_Pl_bestClosed_69 (nI_1 _) trivial ?_ | refine A_iinc5 d_Pl_bestClosed_69 rfl trivial ?_
            refine A_goto (tgt := 7) d_Pl_bestClosed_72 (by decide) ?_
            have e : bcS V Z first (s + 1) = bcS V Z first s := if_neg hg
            rw [e] at ih
            exact ih _
        · have h1 : ¬ nextN (V 1) s 1 = first := fun z => hg (goes_k.mpr (.inr ⟨by omega, z⟩))
          refine A_iload5 d_Pl_bestClosed_7 ?_
          refine A_aload_n0 d_Pl_bestClosed_9 ?_
          refine A_getf (kf := 7) d_Pl_bestClosed_10 hP.o ok_2 (by decide) q_340 rfl ?_
          refine A_topI hI1.2.2.1 ?_
          first | refine A_icmp_geN (tgt := 75) d_Pl_bestClosed_13 (by decide) (by with_reducible rfl) (by with_reducible rfl) (by omega) (by omega) (fun c_13 => ?_) (fun c_13 => ?_) | refine A_icmp_ge (tgt := 75) d_Pl_bestClosed_13 (by decide) (fun c_13 => ?_) (fun c_13 => ?_)
          · exfalso
            omega
          · refine A_aload_n0 d_Pl_bestClosed_16 ?_
            refine A_iload5 d_Pl_bestClosed_17 ?_
            refine A_callVP d_Pl_bestClosed_19 (c_Pl_onward hP ok.2.1 hI1.2.1 s (by omega)) hP.o rfl q_829 q_830 q_831 mk_Pl_onward rfl (by decide) rfl (Nat.le_of_ble_eq_true rfl) ⟨Nat.le_of_ble_eq_true rfl, Nat.le_of_ble_eq_true rfl⟩ ⟨rfl, rfl⟩ ?_
            refine A_iload_n2 d_Pl_bestClosed_22 ?_
            refine A_icmp_eq (tgt := 36) d_Pl_bestClosed_23 (by decide) (fun c => absurd ((nI_eq (by omega) (by omega)).mp c) h0) (fun c_23 => ?_)
            refine A_aload_n0 d_Pl_bestClosed_26 ?_
            refine A_iload5 d_Pl_bestClosed_27 ?_
            refine A_callVP d_Pl_bestClosed_29 (c_Pl_leaving hP ok.2.1 hI1.2.1 s (by omega)) hP.o rfl q_843 q_844 q_845 mk_Pl_leaving rfl (by decide) rfl (Nat.le_of_ble_eq_true rfl) ⟨Nat.le_of_ble_eq_true rfl, Nat.le_of_ble_eq_true rfl⟩ ⟨rfl, rfl⟩ ?_
            refine A_topI (if_neg h2) ?_
            refine A_iload_n2 d_Pl_bestClosed_32 ?_
            refine A_icmp_ne (tgt := 69) d_Pl_bestClosed_33 (by decide) (fun c_33 => ?_) (fun c => absurd ((nI_eq (by omega) (by omega)).mp c) h1)
            first | refine A_iinc5 d_Pl_bestClosed_69 (nI_1 _) trivial ?_ | refine A_iinc5 d_Pl_bestClosed_69 rfl trivial ?_
            refine A_goto (tgt := 7) d_Pl_bestClosed_72 (by decide) ?_
            have e : bcS V Z first (s + 1) = bcS V Z first s := if_neg hg
            rw [e] at ih
            exact ih _
  refine A_ldc2 d_Pl_bestClosed_0 q_807 ?_
  refine A_lstore3 d_Pl_bestClosed_3 trivial ?_
  refine A_iconst (v := nI 0) d_Pl_bestClosed_4 (by decide) ?_
  refine A_istore5 d_Pl_bestClosed_5 trivial ?_
  exact key 0 (Nat.zero_le _) none
