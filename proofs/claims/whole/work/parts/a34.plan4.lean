theorem bI_car (s t : Nat) : bI (carB s t) = nI (carN s t) := by
  unfold carN
  cases carB s t <;> rfl
def maxL (a b : Int64) : Int64 := if a < b then b else a
/-- what an end with k carryings brings -/
def bnK (V : Nat → Nat) (Z : PC) (first s d k : Nat) (x : Int64) : Int64 :=
  if Z.2.2.1 (clN (V 0) (carD V) s d k) = NTH then x
  else if fitsB V d (V 0 - d - V 1 * (k + carN s first)) = true then maxL x (Z.2.2.1 (clN (V 0) (carD V) s d k) - (if carB s first = true then (Z.2.2.2.2.2.2 0).toInt64 * Z.2.1 else 0))
  else x
def bnE (V : Nat → Nat) (Z : PC) (first s d n : Nat) : Int64 := foldN (fun k x => bnK V Z first s d k x) NTH n
set_option maxHeartbeats 4000000 in
set_option maxRecDepth 100000 in
theorem c_Pl_bestEnd {G : GE} {h : AH} {r rx ry : Nat} {Z : PC} (hP : PlAt h r rx ry Z) {a : Nat} {D : LD} (hA : LAt h a D) {V : Nat → Nat} (hV : LVr D V) (hI1 : PRI V Z.1) {first s d : Nat} (hfi : first < 2 + 2 * V 1) (hs : s < 2 + 2 * V 1) (hd : d ≤ V 0) (hD : ∀ k, k < carD V → ¬ Z.2.2.1 (clN (V 0) (carD V) s d k) = NTH → d + V 1 * (k + carN s first) ≤ V 0)  : Ctr G y_Pl_bestEnd b_Pl_bestEnd 12 (some .long) r_Pl_bestEnd [.ref r, .ref a, .int (nI first), .int (nI s), .int (nI d)] h (Pu (.long (bnE V Z first s d (carD V))) h) := by
  refine Ctr.of (by decide +kernel) (by simp) (Nat.le_of_ble_eq_true rfl) (L0 := [some (.ref r), some (.ref a), some (.int (nI first)), some (.int (nI s)), some (.int (nI d)), none, none, none, none, none, none, none]) rfl ?_
  have hV0 := hV
  obtain ⟨ok, -⟩ := hV0
  have hH := ok.1.2
  have h4 := ok.1.1
  have hC3 := ok.2.1
  have hcd := carD_le ok
  have key : ∀ k, k ≤ carD V → ∀ x9 x11, WA G y_Pl_bestEnd b_Pl_bestEnd 12 (some .long) r_Pl_bestEnd 0 0 (Pu (.long (bnE V Z first s d (carD V))) h) 0 0 15 [some (.ref r), some (.ref a), some (.int (nI first)), some (.int (nI s)), some (.int (nI d)), some (.int (bI (carB s first))), some (.long (bnE V Z first s d k)), none, some (.int (nI k)), x9, none, x11] [] h := by
    refine down ?_ (fun k hk ih => ?_)
    · intro x9 x11
      refine A_iload8 d_Pl_bestEnd_15 ?_
      refine A_aload_n0 d_Pl_bestEnd_17 ?_
      refine A_getf (kf := 8) d_Pl_bestEnd_18 hP.o ok_2 (by decide) q_341 rfl ?_
      refine A_topI hI1.2.2.2.1 ?_
      first | refine A_icmp_geN (tgt := 120) d_Pl_bestEnd_21 (by decide) (by with_reducible rfl) (by with_reducible rfl) (by omega) (by omega) (fun c_21 => ?_) (fun c_21 => ?_) | refine A_icmp_ge (tgt := 120) d_Pl_bestEnd_21 (by decide) (fun c_21 => ?_) (fun c_21 => ?_)
      · refine A_lload6 d_Pl_bestEnd_120 ?_
        refine A_lret d_Pl_bestEnd_122 rfl ⟨Nat.zero_le _, Nat.zero_le _⟩ ?_
        exact pu rfl
      · exfalso
        omega
    · intro x9 x11
      have hcar := car_le s first
      have hq : V 1 * (k + carN s first) ≤ 3 * 26 := Nat.mul_le_mul hC3 (by omega)
      by_cases hN : Z.2.2.1 (clN (V 0) (carD V) s d k) = NTH
      · refine A_iload8 d_Pl_bestEnd_15 ?_
        refine A_aload_n0 d_Pl_bestEnd_17 ?_
        refine A_getf (kf := 8) d_Pl_bestEnd_18 hP.o ok_2 (by decide) q_341 rfl ?_
        refine A_topI hI1.2.2.2.1 ?_
        first | refine A_icmp_geN (tgt := 120) d_Pl_bestEnd_21 (by decide) (by with_reducible rfl) (by with_reducible rfl) (by omega) (by omega) (fun c_21 => ?_) (fun c_21 => ?_) | refine A_icmp_ge (tgt := 120) d_Pl_bestEnd_21 (by decide) (fun c_21 => ?_) (fun c_21 => ?_)
        · exfalso
          omega
        · refine A_aload_n0 d_Pl_bestEnd_24 ?_
          refine A_getf (kf := 0) d_Pl_bestEnd_25 hP.o ok_2 (by decide) q_333 rfl ?_
          refine A_aload_n0 d_Pl_bestEnd_28 ?_
          refine A_iload_n3 d_Pl_bestEnd_29 ?_
          refine A_iload4 d_Pl_bestEnd_30 ?_
          refine A_iload8 d_Pl_bestEnd_32 ?_
          refine A_callVP d_Pl_bestEnd_34 (c_Pl_cell hP hI1.1 hI1.2.2.2.1 s d k) hP.o rfl q_816 q_817 q_818 mk_Pl_cell rfl (by decide) rfl (Nat.le_of_ble_eq_true rfl) ⟨Nat.le_of_ble_eq_true rfl, Nat.le_of_ble_eq_true rfl⟩ ⟨rfl, rfl⟩ ?_
          refine A_laldN d_Pl_bestEnd_37 hP.be ⟨cl_lt ok (by omega) (by omega) (by omega), by decide⟩ ?_
          refine A_lstore9 d_Pl_bestEnd_38 trivial ?_
          refine A_aload_n0 d_Pl_bestEnd_40 ?_
          refine A_getf (kf := 5) d_Pl_bestEnd_41 hP.o ok_2 (by decide) q_338 rfl ?_
          refine A_topI hI1.1 ?_
          refine A_iload4 d_Pl_bestEnd_44 ?_
          first | refine A_isubN d_Pl_bestEnd_46 (by with_reducible rfl) (by with_reducible rfl) (by omega) ?_ | refine A_isub d_Pl_bestEnd_46 ?_
          refine A_aload_n0 d_Pl_bestEnd_47 ?_
          refine A_getf (kf := 6) d_Pl_bestEnd_48 hP.o ok_2 (by decide) q_339 rfl ?_
          refine A_topI hI1.2.1 ?_
          refine A_iload8 d_Pl_bestEnd_51 ?_
          refine A_iload5 d_Pl_bestEnd_53 ?_
          refine A_callSNP d_Pl_bestEnd_55 (c_N_oneB _ _) q_815 q_591 mk_N_oneIf rfl (by decide) rfl (Nat.le_of_ble_eq_true rfl) ⟨Nat.le_of_ble_eq_true rfl, Nat.le_of_ble_eq_true rfl⟩ ⟨rfl, rfl⟩ ?_
          refine A_topI (bI_car s first) ?_
          first | refine A_iaddN d_Pl_bestEnd_58 (by with_reducible rfl) (by with_reducible rfl) ?_ | refine A_iadd d_Pl_bestEnd_58 ?_
          first | refine A_imulN d_Pl_bestEnd_59 (by with_reducible rfl) (by with_reducible rfl) ?_ | refine A_imul d_Pl_bestEnd_59 ?_
          first | refine A_isubN d_Pl_bestEnd_60 (by with_reducible rfl) (by with_reducible rfl) (by omega) ?_ | refine A_isub d_Pl_bestEnd_60 ?_
          refine A_istore11 d_Pl_bestEnd_61 trivial ?_
          refine A_lload9 d_Pl_bestEnd_63 ?_
          refine A_ldc2 d_Pl_bestEnd_65 q_807 ?_
          refine A_lcmp d_Pl_bestEnd_68 ?_
          refine A_topI (lgc0.mpr hN) ?_
          first | refine A_if_eqN (tgt := 114) d_Pl_bestEnd_69 (by decide) (by with_reducible rfl) (by omega) (fun c_69 => ?_) (fun c_69 => ?_) | refine A_if_eq (tgt := 114) d_Pl_bestEnd_69 (by decide) (fun c_69 => ?_) (fun c_69 => ?_)
          · first | refine A_iinc8 d_Pl_bestEnd_114 (nI_1 _) trivial ?_ | refine A_iinc8 d_Pl_bestEnd_114 rfl trivial ?_
            refine A_goto (tgt := 15) d_Pl_bestEnd_117 (by decide) ?_
            have e : bnE V Z first s d (k + 1) = bnE V Z first s d k := if_pos hN
            rw [e] at ih
            exact ih _ _
          · exact absurd rfl c_69
      · have hle := hD k hk hN
        by_cases hfit : fitsB V d (V 0 - d - V 1 * (k + carN s first)) = true
        · by_cases hc : carB s first = true
          · refine A_iload8 d_Pl_bestEnd_15 ?_
            refine A_aload_n0 d_Pl_bestEnd_17 ?_
            refine A_getf (kf := 8) d_Pl_bestEnd_18 hP.o ok_2 (by decide) q_341 rfl ?_
            refine A_topI hI1.2.2.2.1 ?_
            first | refine A_icmp_geN (tgt := 120) d_Pl_bestEnd_21 (by decide) (by with_reducible rfl) (by with_reducible rfl) (by omega) (by omega) (fun c_21 => ?_) (fun c_21 => ?_) | refine A_icmp_ge (tgt := 120) d_Pl_bestEnd_21 (by decide) (fun c_21 => ?_) (fun c_21 => ?_)
            · exfalso
              omega
            · refine A_aload_n0 d_Pl_bestEnd_24 ?_
              refine A_getf (kf := 0) d_Pl_bestEnd_25 hP.o ok_2 (by decide) q_333 rfl ?_
              refine A_aload_n0 d_Pl_bestEnd_28 ?_
              refine A_iload_n3 d_Pl_bestEnd_29 ?_
              refine A_iload4 d_Pl_bestEnd_30 ?_
              refine A_iload8 d_Pl_bestEnd_32 ?_
              refine A_callVP d_Pl_bestEnd_34 (c_Pl_cell hP hI1.1 hI1.2.2.2.1 s d k) hP.o rfl q_816 q_817 q_818 mk_Pl_cell rfl (by decide) rfl (Nat.le_of_ble_eq_true rfl) ⟨Nat.le_of_ble_eq_true rfl, Nat.le_of_ble_eq_true rfl⟩ ⟨rfl, rfl⟩ ?_
              refine A_laldN d_Pl_bestEnd_37 hP.be ⟨cl_lt ok (by omega) (by omega) (by omega), by decide⟩ ?_
              refine A_lstore9 d_Pl_bestEnd_38 trivial ?_
              refine A_aload_n0 d_Pl_bestEnd_40 ?_
              refine A_getf (kf := 5) d_Pl_bestEnd_41 hP.o ok_2 (by decide) q_338 rfl ?_
              refine A_topI hI1.1 ?_
              refine A_iload4 d_Pl_bestEnd_44 ?_
              first | refine A_isubN d_Pl_bestEnd_46 (by with_reducible rfl) (by with_reducible rfl) (by omega) ?_ | refine A_isub d_Pl_bestEnd_46 ?_
              refine A_aload_n0 d_Pl_bestEnd_47 ?_
              refine A_getf (kf := 6) d_Pl_bestEnd_48 hP.o ok_2 (by decide) q_339 rfl ?_
              refine A_topI hI1.2.1 ?_
              refine A_iload8 d_Pl_bestEnd_51 ?_
              refine A_iload5 d_Pl_bestEnd_53 ?_
              refine A_callSNP d_Pl_bestEnd_55 (c_N_oneB _ _) q_815 q_591 mk_N_oneIf rfl (by decide) rfl (Nat.le_of_ble_eq_true rfl) ⟨Nat.le_of_ble_eq_true rfl, Nat.le_of_ble_eq_true rfl⟩ ⟨rfl, rfl⟩ ?_
              refine A_topI (bI_car s first) ?_
              first | refine A_iaddN d_Pl_bestEnd_58 (by with_reducible rfl) (by with_reducible rfl) ?_ | refine A_iadd d_Pl_bestEnd_58 ?_
              first | refine A_imulN d_Pl_bestEnd_59 (by with_reducible rfl) (by with_reducible rfl) ?_ | refine A_imul d_Pl_bestEnd_59 ?_
              first | refine A_isubN d_Pl_bestEnd_60 (by with_reducible rfl) (by with_reducible rfl) (by omega) ?_ | refine A_isub d_Pl_bestEnd_60 ?_
              refine A_istore11 d_Pl_bestEnd_61 trivial ?_
              refine A_lload9 d_Pl_bestEnd_63 ?_
              refine A_ldc2 d_Pl_bestEnd_65 q_807 ?_
              refine A_lcmp d_Pl_bestEnd_68 ?_
              refine A_if_eq (tgt := 114) d_Pl_bestEnd_69 (by decide) (fun c => absurd (lgc0.mp c) hN) (fun c_69 => ?_)
              refine A_aload_n1 d_Pl_bestEnd_72 ?_
              refine A_iload4 d_Pl_bestEnd_73 ?_
              refine A_iload11 d_Pl_bestEnd_75 ?_
              refine A_callVP d_Pl_bestEnd_77 (c_Ld_sleepless hA hV d (V 0 - d - V 1 * (k + carN s first)) (by omega) (by omega)) hA.o rfl q_855 q_707 q_708 mk_Ld_sleepless rfl (by decide) rfl (Nat.le_of_ble_eq_true rfl) ⟨Nat.le_of_ble_eq_true rfl, Nat.le_of_ble_eq_true rfl⟩ ⟨rfl, rfl⟩ ?_
              refine A_if_ne (tgt := 114) d_Pl_bestEnd_80 (by decide) (fun c => absurd ((awake_0 ok hd (by omega)).mpr hfit) c) (fun c_80 => ?_)
              refine A_lload6 d_Pl_bestEnd_83 ?_
              refine A_lload9 d_Pl_bestEnd_85 ?_
              refine A_iload5 d_Pl_bestEnd_87 ?_
              refine A_topI (congrArg bI (show carB s first = true from hc)) ?_
              refine A_if_eqB (tgt := 107) d_Pl_bestEnd_89 (by decide) (fun c_89 => ?_) (fun c_89 => ?_)
              · exact absurd c_89 (by decide)
              · refine A_aload_n0 d_Pl_bestEnd_92 ?_
                refine A_getf (kf := 4) d_Pl_bestEnd_93 hP.o ok_2 (by decide) q_337 rfl ?_
                refine A_iconst (v := nI 0) d_Pl_bestEnd_96 (by decide) ?_
                refine A_ialdN d_Pl_bestEnd_97 hP.fe ⟨by decide, by decide⟩ ?_
                refine A_i2l d_Pl_bestEnd_98 ?_
                refine A_aload_n0 d_Pl_bestEnd_99 ?_
                refine A_getf (kf := 10) d_Pl_bestEnd_100 hP.o ok_2 (by decide) q_343 rfl ?_
                refine A_lmul d_Pl_bestEnd_103 ?_
                refine A_goto (tgt := 108) d_Pl_bestEnd_104 (by decide) ?_
                refine A_lsub d_Pl_bestEnd_108 ?_
                refine A_callSP d_Pl_bestEnd_109 (c_JM_max_1 _ _ _) q_840 q_841 mk_JM_max_1 rfl (by decide) rfl (Nat.le_of_ble_eq_true rfl) ⟨Nat.le_of_ble_eq_true rfl, Nat.le_of_ble_eq_true rfl⟩ ⟨rfl, rfl⟩ ?_
                refine A_lstore6 d_Pl_bestEnd_112 trivial ?_
                first | refine A_iinc8 d_Pl_bestEnd_114 (nI_1 _) trivial ?_ | refine A_iinc8 d_Pl_bestEnd_114 rfl trivial ?_
                refine A_goto (tgt := 15) d_Pl_bestEnd_117 (by decide) ?_
                have e : bnE V Z first s d (k + 1) = maxL (bnE V Z first s d k) (Z.2.2.1 (clN (V 0) (carD V) s d k) - (if carB s first = true then (Z.2.2.2.2.2.2 0).toInt64 * Z.2.1 else 0)) := (if_neg hN).trans (if_pos hfit)
                rw [e, if_pos hc] at ih
                exact ih _ _
          · refine A_iload8 d_Pl_bestEnd_15 ?_
            refine A_aload_n0 d_Pl_bestEnd_17 ?_
            refine A_getf (kf := 8) d_Pl_bestEnd_18 hP.o ok_2 (by decide) q_341 rfl ?_
            refine A_topI hI1.2.2.2.1 ?_
            first | refine A_icmp_geN (tgt := 120) d_Pl_bestEnd_21 (by decide) (by with_reducible rfl) (by with_reducible rfl) (by omega) (by omega) (fun c_21 => ?_) (fun c_21 => ?_) | refine A_icmp_ge (tgt := 120) d_Pl_bestEnd_21 (by decide) (fun c_21 => ?_) (fun c_21 => ?_)
            · exfalso
              omega
            · refine A_aload_n0 d_Pl_bestEnd_24 ?_
              refine A_getf (kf := 0) d_Pl_bestEnd_25 hP.o ok_2 (by decide) q_333 rfl ?_
              refine A_aload_n0 d_Pl_bestEnd_28 ?_
              refine A_iload_n3 d_Pl_bestEnd_29 ?_
              refine A_iload4 d_Pl_bestEnd_30 ?_
              refine A_iload8 d_Pl_bestEnd_32 ?_
              refine A_callVP d_Pl_bestEnd_34 (c_Pl_cell hP hI1.1 hI1.2.2.2.1 s d k) hP.o rfl q_816 q_817 q_818 mk_Pl_cell rfl (by decide) rfl (Nat.le_of_ble_eq_true rfl) ⟨Nat.le_of_ble_eq_true rfl, Nat.le_of_ble_eq_true rfl⟩ ⟨rfl, rfl⟩ ?_
              refine A_laldN d_Pl_bestEnd_37 hP.be ⟨cl_lt ok (by omega) (by omega) (by omega), by decide⟩ ?_
              refine A_lstore9 d_Pl_bestEnd_38 trivial ?_
              refine A_aload_n0 d_Pl_bestEnd_40 ?_
              refine A_getf (kf := 5) d_Pl_bestEnd_41 hP.o ok_2 (by decide) q_338 rfl ?_
              refine A_topI hI1.1 ?_
              refine A_iload4 d_Pl_bestEnd_44 ?_
              first | refine A_isubN d_Pl_bestEnd_46 (by with_reducible rfl) (by with_reducible rfl) (by omega) ?_ | refine A_isub d_Pl_bestEnd_46 ?_
              refine A_aload_n0 d_Pl_bestEnd_47 ?_
              refine A_getf (kf := 6) d_Pl_bestEnd_48 hP.o ok_2 (by decide) q_339 rfl ?_
              refine A_topI hI1.2.1 ?_
              refine A_iload8 d_Pl_bestEnd_51 ?_
              refine A_iload5 d_Pl_bestEnd_53 ?_
              refine A_callSNP d_Pl_bestEnd_55 (c_N_oneB _ _) q_815 q_591 mk_N_oneIf rfl (by decide) rfl (Nat.le_of_ble_eq_true rfl) ⟨Nat.le_of_ble_eq_true rfl, Nat.le_of_ble_eq_true rfl⟩ ⟨rfl, rfl⟩ ?_
              refine A_topI (bI_car s first) ?_
              first | refine A_iaddN d_Pl_bestEnd_58 (by with_reducible rfl) (by with_reducible rfl) ?_ | refine A_iadd d_Pl_bestEnd_58 ?_
              first | refine A_imulN d_Pl_bestEnd_59 (by with_reducible rfl) (by with_reducible rfl) ?_ | refine A_imul d_Pl_bestEnd_59 ?_
              first | refine A_isubN d_Pl_bestEnd_60 (by with_reducible rfl) (by with_reducible rfl) (by omega) ?_ | refine A_isub d_Pl_bestEnd_60 ?_
              refine A_istore11 d_Pl_bestEnd_61 trivial ?_
              refine A_lload9 d_Pl_bestEnd_63 ?_
              refine A_ldc2 d_Pl_bestEnd_65 q_807 ?_
              refine A_lcmp d_Pl_bestEnd_68 ?_
              refine A_if_eq (tgt := 114) d_Pl_bestEnd_69 (by decide) (fun c => absurd (lgc0.mp c) hN) (fun c_69 => ?_)
              refine A_aload_n1 d_Pl_bestEnd_72 ?_
              refine A_iload4 d_Pl_bestEnd_73 ?_
              refine A_iload11 d_Pl_bestEnd_75 ?_
              refine A_callVP d_Pl_bestEnd_77 (c_Ld_sleepless hA hV d (V 0 - d - V 1 * (k + carN s first)) (by omega) (by omega)) hA.o rfl q_855 q_707 q_708 mk_Ld_sleepless rfl (by decide) rfl (Nat.le_of_ble_eq_true rfl) ⟨Nat.le_of_ble_eq_true rfl, Nat.le_of_ble_eq_true rfl⟩ ⟨rfl, rfl⟩ ?_
              refine A_if_ne (tgt := 114) d_Pl_bestEnd_80 (by decide) (fun c => absurd ((awake_0 ok hd (by omega)).mpr hfit) c) (fun c_80 => ?_)
              refine A_lload6 d_Pl_bestEnd_83 ?_
              refine A_lload9 d_Pl_bestEnd_85 ?_
              refine A_iload5 d_Pl_bestEnd_87 ?_
              refine A_topI (congrArg bI (show carB s first = false from Bool.eq_false_iff.mpr hc)) ?_
              refine A_if_eqB (tgt := 107) d_Pl_bestEnd_89 (by decide) (fun c_89 => ?_) (fun c_89 => ?_)
              · refine A_lconst (v := 0) d_Pl_bestEnd_107 (by decide) ?_
                refine A_lsub d_Pl_bestEnd_108 ?_
                refine A_callSP d_Pl_bestEnd_109 (c_JM_max_1 _ _ _) q_840 q_841 mk_JM_max_1 rfl (by decide) rfl (Nat.le_of_ble_eq_true rfl) ⟨Nat.le_of_ble_eq_true rfl, Nat.le_of_ble_eq_true rfl⟩ ⟨rfl, rfl⟩ ?_
                refine A_lstore6 d_Pl_bestEnd_112 trivial ?_
                first | refine A_iinc8 d_Pl_bestEnd_114 (nI_1 _) trivial ?_ | refine A_iinc8 d_Pl_bestEnd_114 rfl trivial ?_
                refine A_goto (tgt := 15) d_Pl_bestEnd_117 (by decide) ?_
                have e : bnE V Z first s d (k + 1) = maxL (bnE V Z first s d k) (Z.2.2.1 (clN (V 0) (carD V) s d k) - (if carB s first = true then (Z.2.2.2.2.2.2 0).toInt64 * Z.2.1 else 0)) := (if_neg hN).trans (if_pos hfit)
                rw [e, if_neg hc] at ih
                exact ih _ _
              · exact absurd c_89 (by decide)
        · refine A_iload8 d_Pl_bestEnd_15 ?_
          refine A_aload_n0 d_Pl_bestEnd_17 ?_
          refine A_getf (kf := 8) d_Pl_bestEnd_18 hP.o ok_2 (by decide) q_341 rfl ?_
          refine A_topI hI1.2.2.2.1 ?_
          first | refine A_icmp_geN (tgt := 120) d_Pl_bestEnd_21 (by decide) (by with_reducible rfl) (by with_reducible rfl) (by omega) (by omega) (fun c_21 => ?_) (fun c_21 => ?_) | refine A_icmp_ge (tgt := 120) d_Pl_bestEnd_21 (by decide) (fun c_21 => ?_) (fun c_21 => ?_)
          · exfalso
            omega
          · refine A_aload_n0 d_Pl_bestEnd_24 ?_
            refine A_getf (kf := 0) d_Pl_bestEnd_25 hP.o ok_2 (by decide) q_333 rfl ?_
            refine A_aload_n0 d_Pl_bestEnd_28 ?_
            refine A_iload_n3 d_Pl_bestEnd_29 ?_
            refine A_iload4 d_Pl_bestEnd_30 ?_
            refine A_iload8 d_Pl_bestEnd_32 ?_
            refine A_callVP d_Pl_bestEnd_34 (c_Pl_cell hP hI1.1 hI1.2.2.2.1 s d k) hP.o rfl q_816 q_817 q_818 mk_Pl_cell rfl (by decide) rfl (Nat.le_of_ble_eq_true rfl) ⟨Nat.le_of_ble_eq_true rfl, Nat.le_of_ble_eq_true rfl⟩ ⟨rfl, rfl⟩ ?_
            refine A_laldN d_Pl_bestEnd_37 hP.be ⟨cl_lt ok (by omega) (by omega) (by omega), by decide⟩ ?_
            refine A_lstore9 d_Pl_bestEnd_38 trivial ?_
            refine A_aload_n0 d_Pl_bestEnd_40 ?_
            refine A_getf (kf := 5) d_Pl_bestEnd_41 hP.o ok_2 (by decide) q_338 rfl ?_
            refine A_topI hI1.1 ?_
            refine A_iload4 d_Pl_bestEnd_44 ?_
            first | refine A_isubN d_Pl_bestEnd_46 (by with_reducible rfl) (by with_reducible rfl) (by omega) ?_ | refine A_isub d_Pl_bestEnd_46 ?_
            refine A_aload_n0 d_Pl_bestEnd_47 ?_
            refine A_getf (kf := 6) d_Pl_bestEnd_48 hP.o ok_2 (by decide) q_339 rfl ?_
            refine A_topI hI1.2.1 ?_
            refine A_iload8 d_Pl_bestEnd_51 ?_
            refine A_iload5 d_Pl_bestEnd_53 ?_
            refine A_callSNP d_Pl_bestEnd_55 (c_N_oneB _ _) q_815 q_591 mk_N_oneIf rfl (by decide) rfl (Nat.le_of_ble_eq_true rfl) ⟨Nat.le_of_ble_eq_true rfl, Nat.le_of_ble_eq_true rfl⟩ ⟨rfl, rfl⟩ ?_
            refine A_topI (bI_car s first) ?_
            first | refine A_iaddN d_Pl_bestEnd_58 (by with_reducible rfl) (by with_reducible rfl) ?_ | refine A_iadd d_Pl_bestEnd_58 ?_
            first | refine A_imulN d_Pl_bestEnd_59 (by with_reducible rfl) (by with_reducible rfl) ?_ | refine A_imul d_Pl_bestEnd_59 ?_
            first | refine A_isubN d_Pl_bestEnd_60 (by with_reducible rfl) (by with_reducible rfl) (by omega) ?_ | refine A_isub d_Pl_bestEnd_60 ?_
            refine A_istore11 d_Pl_bestEnd_61 trivial ?_
            refine A_lload9 d_Pl_bestEnd_63 ?_
            refine A_ldc2 d_Pl_bestEnd_65 q_807 ?_
            refine A_lcmp d_Pl_bestEnd_68 ?_
            refine A_if_eq (tgt := 114) d_Pl_bestEnd_69 (by decide) (fun c => absurd (lgc0.mp c) hN) (fun c_69 => ?_)
            refine A_aload_n1 d_Pl_bestEnd_72 ?_
            refine A_iload4 d_Pl_bestEnd_73 ?_
            refine A_iload11 d_Pl_bestEnd_75 ?_
            refine A_callVP d_Pl_bestEnd_77 (c_Ld_sleepless hA hV d (V 0 - d - V 1 * (k + carN s first)) (by omega) (by omega)) hA.o rfl q_855 q_707 q_708 mk_Ld_sleepless rfl (by decide) rfl (Nat.le_of_ble_eq_true rfl) ⟨Nat.le_of_ble_eq_true rfl, Nat.le_of_ble_eq_true rfl⟩ ⟨rfl, rfl⟩ ?_
            refine A_if_ne (tgt := 114) d_Pl_bestEnd_80 (by decide) (fun c_80 => ?_) (fun c => absurd ((awake_0 ok hd (by omega)).mp c) hfit)
            first | refine A_iinc8 d_Pl_bestEnd_114 (nI_1 _) trivial ?_ | refine A_iinc8 d_Pl_bestEnd_114 rfl trivial ?_
            refine A_goto (tgt := 15) d_Pl_bestEnd_117 (by decide) ?_
            have e : bnE V Z first s d (k + 1) = bnE V Z first s d k := (if_neg hN).trans (if_neg hfit)
            rw [e] at ih
            exact ih _ _
  refine A_iload_n3 d_Pl_bestEnd_0 ?_
  refine A_iload_n2 d_Pl_bestEnd_1 ?_
  refine A_callSP d_Pl_bestEnd_2 (c_Pl_isArrival s first (by omega) (by omega)) q_837 q_838 mk_Pl_isArrival rfl (by decide) rfl (Nat.le_of_ble_eq_true rfl) ⟨Nat.le_of_ble_eq_true rfl, Nat.le_of_ble_eq_true rfl⟩ ⟨rfl, rfl⟩ ?_
  refine A_istore5 d_Pl_bestEnd_5 trivial ?_
  refine A_ldc2 d_Pl_bestEnd_7 q_807 ?_
  refine A_lstore6 d_Pl_bestEnd_10 trivial ?_
  refine A_iconst (v := nI 0) d_Pl_bestEnd_12 (by decide) ?_
  refine A_istore8 d_Pl_bestEnd_13 trivial ?_
  exact key 0 (Nat.zero_le _) none none
