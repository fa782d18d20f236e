def NTH : Int64 := -9223372036854775807
theorem lgc0 {a b : Int64} : lg_cmp a b = nI 0 ↔ a = b := by
  unfold lg_cmp
  constructor
  · intro h
    by_cases q : a = b
    · exact q
    · split at h
      · exact absurd h (by decide)
      · exact absurd h (by decide)
  · rintro rfl
    rw [if_neg (Int64.lt_irrefl), if_pos rfl]
    rfl
/-- one state's both ways on -/
def adS (V : Nat → Nat) (Z : PC) (hr s d k : Nat) (L : Nat → Int64) : Nat → Int64 :=
  if Z.2.2.1 (clN (V 0) (carD V) s d k) = NTH then L
  else if 2 ≤ s then enT L (V 0) (carD V) (nextN (V 1) s 0) (d + moN (nextN (V 1) s 0) 0) (k + enA (V 1) s (nextN (V 1) s 0)) (enV Z s (nextN (V 1) s 0) hr (Z.2.2.1 (clN (V 0) (carD V) s d k)))
  else enT (enT L (V 0) (carD V) (nextN (V 1) s 0) (d + moN (nextN (V 1) s 0) 0) (k + enA (V 1) s (nextN (V 1) s 0)) (enV Z s (nextN (V 1) s 0) hr (Z.2.2.1 (clN (V 0) (carD V) s d k)))) (V 0) (carD V) (nextN (V 1) s 1) (d + moN (nextN (V 1) s 1) 0) (k + enA (V 1) s (nextN (V 1) s 1)) (enV Z s (nextN (V 1) s 1) hr (Z.2.2.1 (clN (V 0) (carD V) s d k)))
def adK (V : Nat → Nat) (Z : PC) (hr s d : Nat) (L : Nat → Int64) (n : Nat) : Nat → Int64 := foldN (fun k L => adS V Z hr s d k L) L n
def adD (V : Nat → Nat) (Z : PC) (hr s : Nat) (L : Nat → Int64) (n : Nat) : Nat → Int64 := foldN (fun d L => adK V Z hr s d L (carD V)) L n
def adA (V : Nat → Nat) (Z : PC) (hr : Nat) (L : Nat → Int64) (n : Nat) : Nat → Int64 := foldN (fun s L => adD V Z hr s L (hr + 1)) L n
def zTh (Z : PC) (L : Nat → Int64) : PC := (Z.1, Z.2.1, Z.2.2.1, L, Z.2.2.2.2)
set_option maxHeartbeats 4000000 in
set_option maxRecDepth 100000 in
theorem c_Pl_advance {G : GE} {h : AH} {r rx ry : Nat} {Z : PC} (hP : PlAt h r rx ry Z) {V : Nat → Nat} (ok : VOK V) (hI1 : PRI V Z.1) {hr : Nat} (hhr : hr < V 0)  : Ctr G y_Pl_advance b_Pl_advance 7 none r_Pl_advance [.ref r, .int (nI hr)] h (fun v' h1 => v' = none ∧ PlW h h1 r rx ry (zTh Z (adA V Z hr Z.2.2.2.1 (2 + 2 * V 1)))) := by
  refine Ctr.of (by decide +kernel) (by simp) (Nat.le_of_ble_eq_true rfl) (L0 := [some (.ref r), some (.int (nI hr)), none, none, none, none, none]) rfl ?_
  have hH := ok.1.2
  have h4 := ok.1.1
  have hC3 := ok.2.1
  have hcd := carD_le ok
  have key1 : ∀ s, s ≤ 2 + 2 * V 1 → ∀ h' x3 x4 x5, PlW h h' r rx ry (zTh Z (adA V Z hr Z.2.2.2.1 s)) → WA G y_Pl_advance b_Pl_advance 7 none r_Pl_advance 0 0 (fun v' h1 => v' = none ∧ PlW h h1 r rx ry (zTh Z (adA V Z hr Z.2.2.2.1 (2 + 2 * V 1)))) 0 0 2 [some (.ref r), some (.int (nI hr)), some (.int (nI s)), x3, x4, x5, none] [] h' := by
    refine down ?_ (fun s hs ih1 => ?_)
    · intro h' x3 x4 x5 M
      refine A_iload_n2 d_Pl_advance_2 ?_
      refine A_aload_n0 d_Pl_advance_3 ?_
      refine A_getf (kf := 7) d_Pl_advance_4 M.1.o ok_2 (by decide) q_340 rfl ?_
      refine A_topI hI1.2.2.1 ?_
      first | refine A_icmp_geN (tgt := 103) d_Pl_advance_7 (by decide) (by with_reducible rfl) (by with_reducible rfl) (by omega) (by omega) (fun c_7 => ?_) (fun c_7 => ?_) | refine A_icmp_ge (tgt := 103) d_Pl_advance_7 (by decide) (fun c_7 => ?_) (fun c_7 => ?_)
      · refine A_vret d_Pl_advance_103 rfl ⟨Nat.zero_le _, Nat.zero_le _⟩ ?_
        exact ⟨rfl, M⟩
      · exfalso
        omega
    · have key2 : ∀ d, d ≤ hr + 1 → ∀ h' x4 x5, PlW h h' r rx ry (zTh Z (adD V Z hr s (adA V Z hr Z.2.2.2.1 s) d)) → WA G y_Pl_advance b_Pl_advance 7 none r_Pl_advance 0 0 (fun v' h1 => v' = none ∧ PlW h h1 r rx ry (zTh Z (adA V Z hr Z.2.2.2.1 (2 + 2 * V 1)))) 0 0 12 [some (.ref r), some (.int (nI hr)), some (.int (nI s)), some (.int (nI d)), x4, x5, none] [] h' := by
        refine down ?_ (fun d hd ih2 => ?_)
        · intro h' x4 x5 M
          refine A_iload_n3 d_Pl_advance_12 ?_
          refine A_iload_n1 d_Pl_advance_13 ?_
          first | refine A_icmp_gtN (tgt := 97) d_Pl_advance_14 (by decide) (by with_reducible rfl) (by with_reducible rfl) (by omega) (by omega) (fun c_14 => ?_) (fun c_14 => ?_) | refine A_icmp_gt (tgt := 97) d_Pl_advance_14 (by decide) (fun c_14 => ?_) (fun c_14 => ?_)
          · first | refine A_iinc2 d_Pl_advance_97 (nI_1 _) trivial ?_ | refine A_iinc2 d_Pl_advance_97 rfl trivial ?_
            refine A_goto (tgt := 2) d_Pl_advance_100 (by decide) ?_
            exact ih1 _ _ _ _ M
          · exfalso
            omega
        · have key3 : ∀ k, k ≤ carD V → ∀ h' x5, PlW h h' r rx ry (zTh Z (adK V Z hr s d (adD V Z hr s (adA V Z hr Z.2.2.2.1 s) d) k)) → WA G y_Pl_advance b_Pl_advance 7 none r_Pl_advance 0 0 (fun v' h1 => v' = none ∧ PlW h h1 r rx ry (zTh Z (adA V Z hr Z.2.2.2.1 (2 + 2 * V 1)))) 0 0 20 [some (.ref r), some (.int (nI hr)), some (.int (nI s)), some (.int (nI d)), some (.int (nI k)), x5, none] [] h' := by
            refine down ?_ (fun k hk ih3 => ?_)
            · intro h' x5 M
              refine A_iload4 d_Pl_advance_20 ?_
              refine A_aload_n0 d_Pl_advance_22 ?_
              refine A_getf (kf := 8) d_Pl_advance_23 M.1.o ok_2 (by decide) q_341 rfl ?_
              refine A_topI hI1.2.2.2.1 ?_
              first | refine A_icmp_geN (tgt := 91) d_Pl_advance_26 (by decide) (by with_reducible rfl) (by with_reducible rfl) (by omega) (by omega) (fun c_26 => ?_) (fun c_26 => ?_) | refine A_icmp_ge (tgt := 91) d_Pl_advance_26 (by decide) (fun c_26 => ?_) (fun c_26 => ?_)
              · first | refine A_iinc3 d_Pl_advance_91 (nI_1 _) trivial ?_ | refine A_iinc3 d_Pl_advance_91 rfl trivial ?_
                refine A_goto (tgt := 12) d_Pl_advance_94 (by decide) ?_
                exact ih2 _ _ _ M
              · exfalso
                omega
            · intro h' x5 M
              by_cases hN : Z.2.2.1 (clN (V 0) (carD V) s d k) = NTH
              · refine A_iload4 d_Pl_advance_20 ?_
                refine A_aload_n0 d_Pl_advance_22 ?_
                refine A_getf (kf := 8) d_Pl_advance_23 M.1.o ok_2 (by decide) q_341 rfl ?_
                refine A_topI hI1.2.2.2.1 ?_
                first | refine A_icmp_geN (tgt := 91) d_Pl_advance_26 (by decide) (by with_reducible rfl) (by with_reducible rfl) (by omega) (by omega) (fun c_26 => ?_) (fun c_26 => ?_) | refine A_icmp_ge (tgt := 91) d_Pl_advance_26 (by decide) (fun c_26 => ?_) (fun c_26 => ?_)
                · exfalso
                  omega
                · refine A_aload_n0 d_Pl_advance_29 ?_
                  refine A_getf (kf := 0) d_Pl_advance_30 M.1.o ok_2 (by decide) q_333 rfl ?_
                  refine A_aload_n0 d_Pl_advance_33 ?_
                  refine A_iload_n2 d_Pl_advance_34 ?_
                  refine A_iload_n3 d_Pl_advance_35 ?_
                  refine A_iload4 d_Pl_advance_36 ?_
                  refine A_callVP d_Pl_advance_38 (c_Pl_cell M.1 hI1.1 hI1.2.2.2.1 s d k) M.1.o rfl q_816 q_817 q_818 mk_Pl_cell rfl (by decide) rfl (Nat.le_of_ble_eq_true rfl) ⟨Nat.le_of_ble_eq_true rfl, Nat.le_of_ble_eq_true rfl⟩ ⟨rfl, rfl⟩ ?_
                  refine A_laldN d_Pl_advance_41 M.1.be ⟨cl_lt ok (by omega) (by omega) (by omega), by decide⟩ ?_
                  refine A_lstore5 d_Pl_advance_42 trivial ?_
                  refine A_lload5 d_Pl_advance_44 ?_
                  refine A_ldc2 d_Pl_advance_46 q_807 ?_
                  refine A_lcmp d_Pl_advance_49 ?_
                  refine A_topI (lgc0.mpr hN) ?_
                  first | refine A_if_eqN (tgt := 85) d_Pl_advance_50 (by decide) (by with_reducible rfl) (by omega) (fun c_50 => ?_) (fun c_50 => ?_) | refine A_if_eq (tgt := 85) d_Pl_advance_50 (by decide) (fun c_50 => ?_) (fun c_50 => ?_)
                  · first | refine A_iinc4 d_Pl_advance_85 (nI_1 _) trivial ?_ | refine A_iinc4 d_Pl_advance_85 rfl trivial ?_
                    refine A_goto (tgt := 20) d_Pl_advance_88 (by decide) ?_
                    have e : adK V Z hr s d (adD V Z hr s (adA V Z hr Z.2.2.2.1 s) d) (k + 1) = adK V Z hr s d (adD V Z hr s (adA V Z hr Z.2.2.2.1 s) d) k := if_pos hN
                    rw [e] at ih3
                    exact ih3 _ _ M
                  · exact absurd rfl c_50
              · by_cases h2 : 2 ≤ s
                · refine A_iload4 d_Pl_advance_20 ?_
                  refine A_aload_n0 d_Pl_advance_22 ?_
                  refine A_getf (kf := 8) d_Pl_advance_23 M.1.o ok_2 (by decide) q_341 rfl ?_
                  refine A_topI hI1.2.2.2.1 ?_
                  first | refine A_icmp_geN (tgt := 91) d_Pl_advance_26 (by decide) (by with_reducible rfl) (by with_reducible rfl) (by omega) (by omega) (fun c_26 => ?_) (fun c_26 => ?_) | refine A_icmp_ge (tgt := 91) d_Pl_advance_26 (by decide) (fun c_26 => ?_) (fun c_26 => ?_)
                  · exfalso
                    omega
                  · refine A_aload_n0 d_Pl_advance_29 ?_
                    refine A_getf (kf := 0) d_Pl_advance_30 M.1.o ok_2 (by decide) q_333 rfl ?_
                    refine A_aload_n0 d_Pl_advance_33 ?_
                    refine A_iload_n2 d_Pl_advance_34 ?_
                    refine A_iload_n3 d_Pl_advance_35 ?_
                    refine A_iload4 d_Pl_advance_36 ?_
                    refine A_callVP d_Pl_advance_38 (c_Pl_cell M.1 hI1.1 hI1.2.2.2.1 s d k) M.1.o rfl q_816 q_817 q_818 mk_Pl_cell rfl (by decide) rfl (Nat.le_of_ble_eq_true rfl) ⟨Nat.le_of_ble_eq_true rfl, Nat.le_of_ble_eq_true rfl⟩ ⟨rfl, rfl⟩ ?_
                    refine A_laldN d_Pl_advance_41 M.1.be ⟨cl_lt ok (by omega) (by omega) (by omega), by decide⟩ ?_
                    refine A_lstore5 d_Pl_advance_42 trivial ?_
                    refine A_lload5 d_Pl_advance_44 ?_
                    refine A_ldc2 d_Pl_advance_46 q_807 ?_
                    refine A_lcmp d_Pl_advance_49 ?_
                    refine A_if_eq (tgt := 85) d_Pl_advance_50 (by decide) (fun c => absurd (lgc0.mp c) hN) (fun c_50 => ?_)
                    refine A_aload_n0 d_Pl_advance_53 ?_
                    refine A_aload_n0 d_Pl_advance_54 ?_
                    refine A_iload_n2 d_Pl_advance_55 ?_
                    refine A_callVP d_Pl_advance_56 (c_Pl_onward M.1 ok.2.1 hI1.2.1 s (by omega)) M.1.o rfl q_829 q_830 q_831 mk_Pl_onward rfl (by decide) rfl (Nat.le_of_ble_eq_true rfl) ⟨Nat.le_of_ble_eq_true rfl, Nat.le_of_ble_eq_true rfl⟩ ⟨rfl, rfl⟩ ?_
                    refine A_iload_n2 d_Pl_advance_59 ?_
                    refine A_iload_n3 d_Pl_advance_60 ?_
                    refine A_iload4 d_Pl_advance_61 ?_
                    refine A_lload5 d_Pl_advance_63 ?_
                    refine A_iload_n1 d_Pl_advance_65 ?_
                    refine A_callV d_Pl_advance_66 (c_Pl_enter M.1 ok hI1 (s := nextN (V 1) s 0) (fr := s) (d := d) (k := k) (hr := hr) _ (nextN_lt (by omega)) (by omega) (by omega) (by omega) (by omega)) M.1.o rfl q_833 q_834 q_835 mk_Pl_enter rfl (by decide) rfl (Nat.le_of_ble_eq_true rfl) ⟨Nat.le_of_ble_eq_true rfl, Nat.le_of_ble_eq_true rfl⟩ ?_
                    rintro _ h5 ⟨rfl, M5⟩
                    replace M := M.trans M5
                    clear M5
                    refine A_aload_n0 d_Pl_advance_69 ?_
                    refine A_aload_n0 d_Pl_advance_70 ?_
                    refine A_iload_n2 d_Pl_advance_71 ?_
                    refine A_callVP d_Pl_advance_72 (c_Pl_leaving M.1 ok.2.1 hI1.2.1 s (by omega)) M.1.o rfl q_843 q_844 q_845 mk_Pl_leaving rfl (by decide) rfl (Nat.le_of_ble_eq_true rfl) ⟨Nat.le_of_ble_eq_true rfl, Nat.le_of_ble_eq_true rfl⟩ ⟨rfl, rfl⟩ ?_
                    refine A_topI (if_pos h2) ?_
                    refine A_iload_n2 d_Pl_advance_75 ?_
                    refine A_iload_n3 d_Pl_advance_76 ?_
                    refine A_iload4 d_Pl_advance_77 ?_
                    refine A_lload5 d_Pl_advance_79 ?_
                    refine A_iload_n1 d_Pl_advance_81 ?_
                    refine A_callV d_Pl_advance_82 (c_Pl_enterN r s d k _ hr) M.1.o rfl q_833 q_834 q_835 mk_Pl_enter rfl (by decide) rfl (Nat.le_of_ble_eq_true rfl) ⟨Nat.le_of_ble_eq_true rfl, Nat.le_of_ble_eq_true rfl⟩ ?_
                    rintro _ _ ⟨rfl, rfl⟩
                    first | refine A_iinc4 d_Pl_advance_85 (nI_1 _) trivial ?_ | refine A_iinc4 d_Pl_advance_85 rfl trivial ?_
                    refine A_goto (tgt := 20) d_Pl_advance_88 (by decide) ?_
                    have e : adK V Z hr s d (adD V Z hr s (adA V Z hr Z.2.2.2.1 s) d) (k + 1) = _ := (if_neg hN).trans (if_pos h2)
                    rw [e] at ih3
                    exact ih3 _ _ M
                · refine A_iload4 d_Pl_advance_20 ?_
                  refine A_aload_n0 d_Pl_advance_22 ?_
                  refine A_getf (kf := 8) d_Pl_advance_23 M.1.o ok_2 (by decide) q_341 rfl ?_
                  refine A_topI hI1.2.2.2.1 ?_
                  first | refine A_icmp_geN (tgt := 91) d_Pl_advance_26 (by decide) (by with_reducible rfl) (by with_reducible rfl) (by omega) (by omega) (fun c_26 => ?_) (fun c_26 => ?_) | refine A_icmp_ge (tgt := 91) d_Pl_advance_26 (by decide) (fun c_26 => ?_) (fun c_26 => ?_)
                  · exfalso
                    omega
                  · refine A_aload_n0 d_Pl_advance_29 ?_
                    refine A_getf (kf := 0) d_Pl_advance_30 M.1.o ok_2 (by decide) q_333 rfl ?_
                    refine A_aload_n0 d_Pl_advance_33 ?_
                    refine A_iload_n2 d_Pl_advance_34 ?_
                    refine A_iload_n3 d_Pl_advance_35 ?_
                    refine A_iload4 d_Pl_advance_36 ?_
                    refine A_callVP d_Pl_advance_38 (c_Pl_cell M.1 hI1.1 hI1.2.2.2.1 s d k) M.1.o rfl q_816 q_817 q_818 mk_Pl_cell rfl (by decide) rfl (Nat.le_of_ble_eq_true rfl) ⟨Nat.le_of_ble_eq_true rfl, Nat.le_of_ble_eq_true rfl⟩ ⟨rfl, rfl⟩ ?_
                    refine A_laldN d_Pl_advance_41 M.1.be ⟨cl_lt ok (by omega) (by omega) (by omega), by decide⟩ ?_
                    refine A_lstore5 d_Pl_advance_42 trivial ?_
                    refine A_lload5 d_Pl_advance_44 ?_
                    refine A_ldc2 d_Pl_advance_46 q_807 ?_
                    refine A_lcmp d_Pl_advance_49 ?_
                    refine A_if_eq (tgt := 85) d_Pl_advance_50 (by decide) (fun c => absurd (lgc0.mp c) hN) (fun c_50 => ?_)
                    refine A_aload_n0 d_Pl_advance_53 ?_
                    refine A_aload_n0 d_Pl_advance_54 ?_
                    refine A_iload_n2 d_Pl_advance_55 ?_
                    refine A_callVP d_Pl_advance_56 (c_Pl_onward M.1 ok.2.1 hI1.2.1 s (by omega)) M.1.o rfl q_829 q_830 q_831 mk_Pl_onward rfl (by decide) rfl (Nat.le_of_ble_eq_true rfl) ⟨Nat.le_of_ble_eq_true rfl, Nat.le_of_ble_eq_true rfl⟩ ⟨rfl, rfl⟩ ?_
                    refine A_iload_n2 d_Pl_advance_59 ?_
                    refine A_iload_n3 d_Pl_advance_60 ?_
                    refine A_iload4 d_Pl_advance_61 ?_
                    refine A_lload5 d_Pl_advance_63 ?_
                    refine A_iload_n1 d_Pl_advance_65 ?_
                    refine A_callV d_Pl_advance_66 (c_Pl_enter M.1 ok hI1 (s := nextN (V 1) s 0) (fr := s) (d := d) (k := k) (hr := hr) _ (nextN_lt (by omega)) (by omega) (by omega) (by omega) (by omega)) M.1.o rfl q_833 q_834 q_835 mk_Pl_enter rfl (by decide) rfl (Nat.le_of_ble_eq_true rfl) ⟨Nat.le_of_ble_eq_true rfl, Nat.le_of_ble_eq_true rfl⟩ ?_
                    rintro _ h5 ⟨rfl, M5⟩
                    replace M := M.trans M5
                    clear M5
                    refine A_aload_n0 d_Pl_advance_69 ?_
                    refine A_aload_n0 d_Pl_advance_70 ?_
                    refine A_iload_n2 d_Pl_advance_71 ?_
                    refine A_callVP d_Pl_advance_72 (c_Pl_leaving M.1 ok.2.1 hI1.2.1 s (by omega)) M.1.o rfl q_843 q_844 q_845 mk_Pl_leaving rfl (by decide) rfl (Nat.le_of_ble_eq_true rfl) ⟨Nat.le_of_ble_eq_true rfl, Nat.le_of_ble_eq_true rfl⟩ ⟨rfl, rfl⟩ ?_
                    refine A_topI (if_neg h2) ?_
                    refine A_iload_n2 d_Pl_advance_75 ?_
                    refine A_iload_n3 d_Pl_advance_76 ?_
                    refine A_iload4 d_Pl_advance_77 ?_
                    refine A_lload5 d_Pl_advance_79 ?_
                    refine A_iload_n1 d_Pl_advance_81 ?_
                    refine A_callV d_Pl_advance_82 (c_Pl_enter M.1 ok hI1 (s := nextN (V 1) s 1) (fr := s) (d := d) (k := k) (hr := hr) _ (nextN_lt (by omega)) (by omega) (by omega) (by omega) (by omega)) M.1.o rfl q_833 q_834 q_835 mk_Pl_enter rfl (by decide) rfl (Nat.le_of_ble_eq_true rfl) ⟨Nat.le_of_ble_eq_true rfl, Nat.le_of_ble_eq_true rfl⟩ ?_
                    rintro _ h5 ⟨rfl, M5⟩
                    replace M := M.trans M5
                    clear M5
                    first | refine A_iinc4 d_Pl_advance_85 (nI_1 _) trivial ?_ | refine A_iinc4 d_Pl_advance_85 rfl trivial ?_
                    refine A_goto (tgt := 20) d_Pl_advance_88 (by decide) ?_
                    have e : adK V Z hr s d (adD V Z hr s (adA V Z hr Z.2.2.2.1 s) d) (k + 1) = _ := (if_neg hN).trans (if_neg h2)
                    rw [e] at ih3
                    exact ih3 _ _ M
          intro h' x4 x5 M
          refine A_iload_n3 d_Pl_advance_12 ?_
          refine A_iload_n1 d_Pl_advance_13 ?_
          first | refine A_icmp_gtN (tgt := 97) d_Pl_advance_14 (by decide) (by with_reducible rfl) (by with_reducible rfl) (by omega) (by omega) (fun c_14 => ?_) (fun c_14 => ?_) | refine A_icmp_gt (tgt := 97) d_Pl_advance_14 (by decide) (fun c_14 => ?_) (fun c_14 => ?_)
          · exfalso
            omega
          · refine A_iconst (v := nI 0) d_Pl_advance_17 (by decide) ?_
            refine A_istore4 d_Pl_advance_18 trivial ?_
            exact key3 0 (Nat.zero_le _) _ _ M
      intro h' x3 x4 x5 M
      refine A_iload_n2 d_Pl_advance_2 ?_
      refine A_aload_n0 d_Pl_advance_3 ?_
      refine A_getf (kf := 7) d_Pl_advance_4 M.1.o ok_2 (by decide) q_340 rfl ?_
      refine A_topI hI1.2.2.1 ?_
      first | refine A_icmp_geN (tgt := 103) d_Pl_advance_7 (by decide) (by with_reducible rfl) (by with_reducible rfl) (by omega) (by omega) (fun c_7 => ?_) (fun c_7 => ?_) | refine A_icmp_ge (tgt := 103) d_Pl_advance_7 (by decide) (fun c_7 => ?_) (fun c_7 => ?_)
      · exfalso
        omega
      · refine A_iconst (v := nI 0) d_Pl_advance_10 (by decide) ?_
        refine A_istore3 d_Pl_advance_11 trivial ?_
        exact key2 0 (Nat.zero_le _) _ _ _ M
  refine A_iconst (v := nI 0) d_Pl_advance_0 (by decide) ?_
  refine A_istore2 d_Pl_advance_1 trivial ?_
  exact key1 0 (Nat.zero_le _) _ _ _ _ (PlW.start hP)
