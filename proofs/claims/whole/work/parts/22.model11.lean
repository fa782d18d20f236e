theorem roundF_le (V w : Nat → Nat) (x : Int32) : ∀ n, (roundF V w x n).2 ≤ 1
  | 0 => Nat.zero_le _
  | n + 1 => by
    have := roundF_le V w x n
    simp only [roundF, foldN] at this ⊢
    split
    · exact Nat.le_refl _
    · exact this
theorem roundF_succ (V w : Nat → Nat) (x : Int32) (p : Nat) : roundF V w x (p + 1) = if wouldB V w p (roundF V w x p).1 then ((roundF V w x p).1 ^^^ nI (2 ^ p), 1) else roundF V w x p := rfl
def mAns (k : Int32) (q : Option (Nat × Int32)) : Int32 := match q with
  | none => -1
  | some q => if k = 0 then nI q.1 else q.2
def movesT (V w : Nat → Nat) (k : Int32) : Int32 := if inB k (nI 0) (nI 2) = true then movesV V w k else if nI 100 ≤ k then movesV V w k else -2
set_option maxHeartbeats 4000000 in
set_option maxRecDepth 100000 in
theorem c_M_moves {G : GE} {h0 h : AH} {m : Nat} {S : MS} (hM : MW h0 h m S) {c : Nat → Nat} {VL WT BK SG GM : Nat → Nat → Nat} (hp : MP S c VL WT BK SG GM) (la ta k : Int32) : Ctr G y_M_moves b_M_moves 9 (some .int) r_M_moves [.ref m, .int la, .int ta, .int k] h (TK h0 m S (.int (pick (c 0) la (fun l => pick (c 1) ta (fun t => movesT (VL l) (WT t) k) (-2)) (-2)))) := by
  have hc0 := (hp.1 0 (by decide)).2
  have hc1 := (hp.1 1 (by decide)).2
  refine Ctr.of (by decide +kernel) (by simp) (Nat.le_of_ble_eq_true rfl) (L0 := [some (.ref m), some (.int la), some (.int ta), some (.int k), none, none, none, none, none]) rfl ?_
  refine A_aload_n0 d_M_moves_0 ?_
  refine A_iconst (v := nI 0) d_M_moves_1 (by decide) ?_
  refine A_putM hM (kf := 0) (ty := .int) d_M_moves_2 (by decide) q_1049 rfl (by decide +kernel) (by first | rfl | exact bI_nar _) rfl (Nat.le_of_ble_eq_true rfl) rfl (fun h hM => ?_)
  have hp := hp.keep (Keep.sf _ 0 (nI 0))
  refine A_aload_n0 d_M_moves_5 ?_
  refine A_iload_n1 d_M_moves_6 ?_
  refine A_iload_n2 d_M_moves_7 ?_
  refine A_callV d_M_moves_8 (c_M_layRow hM hp la ta) hM.o rfl q_1371 q_1373 qs_40 mk_M_layRow rfl (by decide) rfl (Nat.le_of_ble_eq_true rfl) ⟨Nat.le_of_ble_eq_true rfl, Nat.le_of_ble_eq_true rfl⟩ (fun v h1 hv => ?_)
  rcases hv with ⟨l', t', rfl, rfl, hl, ht, rfl, S2, hM, hL, hk, hkf⟩ | ⟨q, rfl, S2, hM, hk⟩
  · obtain ⟨hS, hw, e0, e1⟩ := hL
    obtain ⟨b0, b1, b2, b3, b4, b5, bp, bb, bt⟩ := hS.ok
    have hp := hp.keep hk
    refine A_if_eqB (tgt := 29) d_M_moves_11 (by decide) (fun c => absurd c (by decide)) (fun c_11 => ?_)
    refine A_iload_n3 d_M_moves_14 ?_
    refine A_iconst (v := nI 0) d_M_moves_15 (by decide) ?_
    refine A_iconst (v := nI 2) d_M_moves_16 (by decide) ?_
    refine A_callSP d_M_moves_17 (c_M_in _ _ _ _) q_1231 q_1232 mk_M_in rfl (by decide) rfl (Nat.le_of_ble_eq_true rfl) ⟨Nat.le_of_ble_eq_true rfl, Nat.le_of_ble_eq_true rfl⟩ ⟨rfl, rfl⟩ ?_
    refine A_if_neB (tgt := 32) d_M_moves_20 (by decide) (fun c_20 => ?_) (fun c_20 => ?_)
    · have hmv : movesT (VL l') (WT t') k = movesV (VL l') (WT t') k := by unfold movesT; first | rw [if_pos c_20] | rw [if_neg (by rw [c_20]; decide), if_pos c_26]
      refine A_iload_n3 d_M_moves_32 ?_
      refine A_iconst (v := nI 2) d_M_moves_33 (by decide) ?_
      first | refine A_icmp_ltN (tgt := 55) d_M_moves_34 (by decide) (by with_reducible rfl) (by with_reducible rfl) (by omega) (by omega) (fun c_34 => ?_) (fun c_34 => ?_) | refine A_icmp_lt (tgt := 55) d_M_moves_34 (by decide) (fun c_34 => ?_) (fun c_34 => ?_)
      · refine A_aload_n0 d_M_moves_55 ?_
        refine A_callVP d_M_moves_56 (c_M_asTold hM hS) hM.o rfl q_1587 q_1589 qs_82 mk_M_asTold rfl (by decide) rfl (Nat.le_of_ble_eq_true rfl) ⟨Nat.le_of_ble_eq_true rfl, Nat.le_of_ble_eq_true rfl⟩ ⟨rfl, rfl⟩ ?_
        refine A_istore4 d_M_moves_59 trivial ?_
        refine A_iconst (v := nI 0) d_M_moves_61 (by decide) ?_
        refine A_istore5 d_M_moves_62 trivial ?_
        rw [pick_in hl (by omega), pick_in ht (by omega), hmv, movesV, if_pos c_34]
        have hS2 := hS.ok.2.2.2.2.1
        have key : ∀ i, i ≤ 60 → ∀ x : Int32, WA G y_M_moves b_M_moves 9 (some .int) r_M_moves 0 0 (TK h0 m S (.int (mAns k (roundsN (VL l') (WT t') (60 - i) i x)))) 0 0 64 [some (.ref m), some (.int (nI l')), some (.int (nI t')), some (.int k), some (.int x), some (.int (nI i)), none, none, none] [] h1 := by
          refine down ?_ (fun i hi ih => ?_)
          · intro x
            refine A_iload5 d_M_moves_64 ?_
            refine A_bipush (v := nI 60) d_M_moves_66 (by decide) ?_
            first | refine A_icmp_geN (tgt := 142) d_M_moves_68 (by decide) (by with_reducible rfl) (by with_reducible rfl) (by omega) (by omega) (fun c_68 => ?_) (fun c_68 => ?_) | refine A_icmp_ge (tgt := 142) d_M_moves_68 (by decide) (fun c_68 => ?_) (fun c_68 => ?_)
            · refine A_iconst (v := (-1)) d_M_moves_142 (by decide) ?_
              refine A_iret d_M_moves_143 rfl ⟨Nat.zero_le _, Nat.zero_le _⟩ ?_
              exact tk hM (fun k hk2 => hk k hk2) (by rw [Nat.sub_self]; rfl)
            · exact absurd c_68 (by omega)
          · intro x
            have key2 : ∀ j, j ≤ VL l' 4 → WA G y_M_moves b_M_moves 9 (some .int) r_M_moves 0 0 (TK h0 m S (.int (mAns k (roundsN (VL l') (WT t') (60 - i) i x)))) 0 0 81 [some (.ref m), some (.int (nI l')), some (.int (nI t')), some (.int k), some (.int (roundF (VL l') (WT t') x j).1), some (.int (nI i)), some (.int x), some (.int (nI (roundF (VL l') (WT t') x j).2)), some (.int (nI j))] [] h1 := by
              refine down ?_ (fun j hj ih2 => ?_)
              · refine A_iload8 d_M_moves_81 ?_
                refine A_aload_n0 d_M_moves_83 ?_
                refine A_getf (kf := 29) d_M_moves_84 hM.o ok_8 (by decide) q_1078 rfl ?_
                refine A_topI hS.people ?_
                first | refine A_icmp_geN (tgt := 119) d_M_moves_87 (by decide) (by with_reducible rfl) (by with_reducible rfl) (by omega) (by omega) (fun c_87 => ?_) (fun c_87 => ?_) | refine A_icmp_ge (tgt := 119) d_M_moves_87 (by decide) (fun c_87 => ?_) (fun c_87 => ?_)
                · refine A_iload7 d_M_moves_119 ?_
                  have hr1 := roundF_le (VL l') (WT t') x (VL l' 4)
                  first | refine A_if_neN (tgt := 136) d_M_moves_121 (by decide) (by with_reducible rfl) (by omega) (fun c_121 => ?_) (fun c_121 => ?_) | refine A_if_ne (tgt := 136) d_M_moves_121 (by decide) (fun c_121 => ?_) (fun c_121 => ?_)
                  · first | refine A_iinc5 d_M_moves_136 (nI_1 _) trivial ?_ | refine A_iinc5 d_M_moves_136 rfl trivial ?_
                    refine A_goto (tgt := 64) d_M_moves_139 (by decide) ?_
                    refine A_drop8 ?_
                    refine A_drop7 ?_
                    refine A_drop6 ?_
                    rw [show 60 - i = (60 - (i + 1)) + 1 by omega, roundsN, if_neg c_121]
                    exact ih _
                  · refine A_iload_n3 d_M_moves_124 ?_
                    first | refine A_if_neN (tgt := 133) d_M_moves_125 (by decide) (by with_reducible rfl) (by omega) (fun c_125 => ?_) (fun c_125 => ?_) | refine A_if_ne (tgt := 133) d_M_moves_125 (by decide) (fun c_125 => ?_) (fun c_125 => ?_)
                    · refine A_iload6 d_M_moves_133 ?_
                      refine A_iret d_M_moves_135 rfl ⟨Nat.zero_le _, Nat.zero_le _⟩ ?_
                      exact tk hM (fun k hk2 => hk k hk2) (by rw [show 60 - i = (60 - (i + 1)) + 1 by omega, roundsN, if_pos c_121]; simp only [mAns, c_87, c_121, c_125, reduceIte])
                    · refine A_iload5 d_M_moves_128 ?_
                      refine A_goto (tgt := 135) d_M_moves_130 (by decide) ?_
                      refine A_iret d_M_moves_135 rfl ⟨Nat.zero_le _, Nat.zero_le _⟩ ?_
                      exact tk hM (fun k hk2 => hk k hk2) (by rw [show 60 - i = (60 - (i + 1)) + 1 by omega, roundsN, if_pos c_121]; simp only [mAns, c_87, c_121, c_125, reduceIte])
                · exact absurd c_87 (by omega)
              · refine A_iload8 d_M_moves_81 ?_
                refine A_aload_n0 d_M_moves_83 ?_
                refine A_getf (kf := 29) d_M_moves_84 hM.o ok_8 (by decide) q_1078 rfl ?_
                refine A_topI hS.people ?_
                first | refine A_icmp_geN (tgt := 119) d_M_moves_87 (by decide) (by with_reducible rfl) (by with_reducible rfl) (by omega) (by omega) (fun c_87 => ?_) (fun c_87 => ?_) | refine A_icmp_ge (tgt := 119) d_M_moves_87 (by decide) (fun c_87 => ?_) (fun c_87 => ?_)
                · exact absurd c_87 (by omega)
                · refine A_aload_n0 d_M_moves_90 ?_
                  refine A_iload8 d_M_moves_91 ?_
                  refine A_iload4 d_M_moves_93 ?_
                  refine A_callVP d_M_moves_95 (c_M_wouldMove hM hS hw j _ hj) hM.o rfl q_1611 q_1613 qs_87 mk_M_wouldMove rfl (by decide) rfl (Nat.le_of_ble_eq_true rfl) ⟨Nat.le_of_ble_eq_true rfl, Nat.le_of_ble_eq_true rfl⟩ ⟨rfl, rfl⟩ ?_
                  refine A_if_eqB (tgt := 113) d_M_moves_98 (by decide) (fun c_98 => ?_) (fun c_98 => ?_)
                  · first | refine A_iinc8 d_M_moves_113 (nI_1 _) trivial ?_ | refine A_iinc8 d_M_moves_113 rfl trivial ?_
                    refine A_goto (tgt := 81) d_M_moves_116 (by decide) ?_
                    refine A_loc ?_ ih2
                    rw [roundF_succ]
                    simp only [c_87, c_98, reduceIte, Bool.false_eq_true]
                  · refine A_iload4 d_M_moves_101 ?_
                    refine A_iconst (v := nI 1) d_M_moves_103 (by decide) ?_
                    refine A_iload8 d_M_moves_104 ?_
                    refine A_ishl d_M_moves_106 ?_
                    refine A_topI (sh1 (by omega)) ?_
                    refine A_ixor d_M_moves_107 ?_
                    refine A_istore4 d_M_moves_108 trivial ?_
                    refine A_iconst (v := nI 1) d_M_moves_110 (by decide) ?_
                    refine A_istore7 d_M_moves_111 trivial ?_
                    first | refine A_iinc8 d_M_moves_113 (nI_1 _) trivial ?_ | refine A_iinc8 d_M_moves_113 rfl trivial ?_
                    refine A_goto (tgt := 81) d_M_moves_116 (by decide) ?_
                    refine A_loc ?_ ih2
                    rw [roundF_succ]
                    simp only [c_87, c_98, reduceIte, Bool.false_eq_true]
            refine A_iload5 d_M_moves_64 ?_
            refine A_bipush (v := nI 60) d_M_moves_66 (by decide) ?_
            first | refine A_icmp_geN (tgt := 142) d_M_moves_68 (by decide) (by with_reducible rfl) (by with_reducible rfl) (by omega) (by omega) (fun c_68 => ?_) (fun c_68 => ?_) | refine A_icmp_ge (tgt := 142) d_M_moves_68 (by decide) (fun c_68 => ?_) (fun c_68 => ?_)
            · exact absurd c_68 (by omega)
            · refine A_iload4 d_M_moves_71 ?_
              refine A_istore6 d_M_moves_73 trivial ?_
              refine A_iconst (v := nI 0) d_M_moves_75 (by decide) ?_
              refine A_istore7 d_M_moves_76 trivial ?_
              refine A_iconst (v := nI 0) d_M_moves_78 (by decide) ?_
              refine A_istore8 d_M_moves_79 trivial ?_
              exact key2 0 (Nat.zero_le _)
        exact key 0 (Nat.zero_le _) _
      · refine A_aload_n0 d_M_moves_37 ?_
        refine A_iload_n3 d_M_moves_38 ?_
        refine A_iconst (v := nI 2) d_M_moves_39 (by decide) ?_
        first | refine A_icmp_neN (tgt := 47) d_M_moves_40 (by decide) (by with_reducible rfl) (by with_reducible rfl) (by omega) (by omega) (fun c_40 => ?_) (fun c_40 => ?_) | refine A_icmp_ne (tgt := 47) d_M_moves_40 (by decide) (fun c_40 => ?_) (fun c_40 => ?_)
        · refine A_iload_n3 d_M_moves_47 ?_
          refine A_bipush (v := nI 100) d_M_moves_48 (by decide) ?_
          first | refine A_isubN d_M_moves_50 (by with_reducible rfl) (by with_reducible rfl) (by omega) ?_ | refine A_isub d_M_moves_50 ?_
          refine A_callVP d_M_moves_51 (c_M_restAt hM hS hw _) hM.o rfl q_1603 q_1605 qs_85 mk_M_restAt rfl (by decide) rfl (Nat.le_of_ble_eq_true rfl) ⟨Nat.le_of_ble_eq_true rfl, Nat.le_of_ble_eq_true rfl⟩ ⟨rfl, rfl⟩ ?_
          refine A_iret d_M_moves_54 rfl ⟨Nat.zero_le _, Nat.zero_le _⟩ ?_
          exact tk hM (fun k hk2 => hk k hk2) (by rw [pick_in hl (by omega), pick_in ht (by omega), hmv, movesV, if_neg c_34]; simp only [c_20, c_34, c_40, reduceIte])
        · refine A_iconst (v := (-1)) d_M_moves_43 (by decide) ?_
          refine A_goto (tgt := 51) d_M_moves_44 (by decide) ?_
          refine A_callVP d_M_moves_51 (c_M_restAt hM hS hw _) hM.o rfl q_1603 q_1605 qs_85 mk_M_restAt rfl (by decide) rfl (Nat.le_of_ble_eq_true rfl) ⟨Nat.le_of_ble_eq_true rfl, Nat.le_of_ble_eq_true rfl⟩ ⟨rfl, rfl⟩ ?_
          refine A_iret d_M_moves_54 rfl ⟨Nat.zero_le _, Nat.zero_le _⟩ ?_
          exact tk hM (fun k hk2 => hk k hk2) (by rw [pick_in hl (by omega), pick_in ht (by omega), hmv, movesV, if_neg c_34]; simp only [c_20, c_34, c_40, reduceIte])
    · refine A_iload_n3 d_M_moves_23 ?_
      refine A_bipush (v := nI 100) d_M_moves_24 (by decide) ?_
      first | refine A_icmp_geN (tgt := 32) d_M_moves_26 (by decide) (by with_reducible rfl) (by with_reducible rfl) (by omega) (by omega) (fun c_26 => ?_) (fun c_26 => ?_) | refine A_icmp_ge (tgt := 32) d_M_moves_26 (by decide) (fun c_26 => ?_) (fun c_26 => ?_)
      · have hmv : movesT (VL l') (WT t') k = movesV (VL l') (WT t') k := by unfold movesT; first | rw [if_pos c_20] | rw [if_neg (by rw [c_20]; decide), if_pos c_26]
        refine A_iload_n3 d_M_moves_32 ?_
        refine A_iconst (v := nI 2) d_M_moves_33 (by decide) ?_
        first | refine A_icmp_ltN (tgt := 55) d_M_moves_34 (by decide) (by with_reducible rfl) (by with_reducible rfl) (by omega) (by omega) (fun c_34 => ?_) (fun c_34 => ?_) | refine A_icmp_lt (tgt := 55) d_M_moves_34 (by decide) (fun c_34 => ?_) (fun c_34 => ?_)
        · refine A_aload_n0 d_M_moves_55 ?_
          refine A_callVP d_M_moves_56 (c_M_asTold hM hS) hM.o rfl q_1587 q_1589 qs_82 mk_M_asTold rfl (by decide) rfl (Nat.le_of_ble_eq_true rfl) ⟨Nat.le_of_ble_eq_true rfl, Nat.le_of_ble_eq_true rfl⟩ ⟨rfl, rfl⟩ ?_
          refine A_istore4 d_M_moves_59 trivial ?_
          refine A_iconst (v := nI 0) d_M_moves_61 (by decide) ?_
          refine A_istore5 d_M_moves_62 trivial ?_
          rw [pick_in hl (by omega), pick_in ht (by omega), hmv, movesV, if_pos c_34]
          have hS2 := hS.ok.2.2.2.2.1
          have key : ∀ i, i ≤ 60 → ∀ x : Int32, WA G y_M_moves b_M_moves 9 (some .int) r_M_moves 0 0 (TK h0 m S (.int (mAns k (roundsN (VL l') (WT t') (60 - i) i x)))) 0 0 64 [some (.ref m), some (.int (nI l')), some (.int (nI t')), some (.int k), some (.int x), some (.int (nI i)), none, none, none] [] h1 := by
            refine down ?_ (fun i hi ih => ?_)
            · intro x
              refine A_iload5 d_M_moves_64 ?_
              refine A_bipush (v := nI 60) d_M_moves_66 (by decide) ?_
              first | refine A_icmp_geN (tgt := 142) d_M_moves_68 (by decide) (by with_reducible rfl) (by with_reducible rfl) (by omega) (by omega) (fun c_68 => ?_) (fun c_68 => ?_) | refine A_icmp_ge (tgt := 142) d_M_moves_68 (by decide) (fun c_68 => ?_) (fun c_68 => ?_)
              · refine A_iconst (v := (-1)) d_M_moves_142 (by decide) ?_
                refine A_iret d_M_moves_143 rfl ⟨Nat.zero_le _, Nat.zero_le _⟩ ?_
                exact tk hM (fun k hk2 => hk k hk2) (by rw [Nat.sub_self]; rfl)
              · exact absurd c_68 (by omega)
            · intro x
              have key2 : ∀ j, j ≤ VL l' 4 → WA G y_M_moves b_M_moves 9 (some .int) r_M_moves 0 0 (TK h0 m S (.int (mAns k (roundsN (VL l') (WT t') (60 - i) i x)))) 0 0 81 [some (.ref m), some (.int (nI l')), some (.int (nI t')), some (.int k), some (.int (roundF (VL l') (WT t') x j).1), some (.int (nI i)), some (.int x), some (.int (nI (roundF (VL l') (WT t') x j).2)), some (.int (nI j))] [] h1 := by
                refine down ?_ (fun j hj ih2 => ?_)
                · refine A_iload8 d_M_moves_81 ?_
                  refine A_aload_n0 d_M_moves_83 ?_
                  refine A_getf (kf := 29) d_M_moves_84 hM.o ok_8 (by decide) q_1078 rfl ?_
                  refine A_topI hS.people ?_
                  first | refine A_icmp_geN (tgt := 119) d_M_moves_87 (by decide) (by with_reducible rfl) (by with_reducible rfl) (by omega) (by omega) (fun c_87 => ?_) (fun c_87 => ?_) | refine A_icmp_ge (tgt := 119) d_M_moves_87 (by decide) (fun c_87 => ?_) (fun c_87 => ?_)
                  · refine A_iload7 d_M_moves_119 ?_
                    have hr1 := roundF_le (VL l') (WT t') x (VL l' 4)
                    first | refine A_if_neN (tgt := 136) d_M_moves_121 (by decide) (by with_reducible rfl) (by omega) (fun c_121 => ?_) (fun c_121 => ?_) | refine A_if_ne (tgt := 136) d_M_moves_121 (by decide) (fun c_121 => ?_) (fun c_121 => ?_)
                    · first | refine A_iinc5 d_M_moves_136 (nI_1 _) trivial ?_ | refine A_iinc5 d_M_moves_136 rfl trivial ?_
                      refine A_goto (tgt := 64) d_M_moves_139 (by decide) ?_
                      refine A_drop8 ?_
                      refine A_drop7 ?_
                      refine A_drop6 ?_
                      rw [show 60 - i = (60 - (i + 1)) + 1 by omega, roundsN, if_neg c_121]
                      exact ih _
                    · refine A_iload_n3 d_M_moves_124 ?_
                      first | refine A_if_neN (tgt := 133) d_M_moves_125 (by decide) (by with_reducible rfl) (by omega) (fun c_125 => ?_) (fun c_125 => ?_) | refine A_if_ne (tgt := 133) d_M_moves_125 (by decide) (fun c_125 => ?_) (fun c_125 => ?_)
                      · refine A_iload6 d_M_moves_133 ?_
                        refine A_iret d_M_moves_135 rfl ⟨Nat.zero_le _, Nat.zero_le _⟩ ?_
                        exact tk hM (fun k hk2 => hk k hk2) (by rw [show 60 - i = (60 - (i + 1)) + 1 by omega, roundsN, if_pos c_121]; simp only [mAns, c_87, c_121, c_125, reduceIte])
                      · refine A_iload5 d_M_moves_128 ?_
                        refine A_goto (tgt := 135) d_M_moves_130 (by decide) ?_
                        refine A_iret d_M_moves_135 rfl ⟨Nat.zero_le _, Nat.zero_le _⟩ ?_
                        exact tk hM (fun k hk2 => hk k hk2) (by rw [show 60 - i = (60 - (i + 1)) + 1 by omega, roundsN, if_pos c_121]; simp only [mAns, c_87, c_121, c_125, reduceIte])
                  · exact absurd c_87 (by omega)
                · refine A_iload8 d_M_moves_81 ?_
                  refine A_aload_n0 d_M_moves_83 ?_
                  refine A_getf (kf := 29) d_M_moves_84 hM.o ok_8 (by decide) q_1078 rfl ?_
                  refine A_topI hS.people ?_
                  first | refine A_icmp_geN (tgt := 119) d_M_moves_87 (by decide) (by with_reducible rfl) (by with_reducible rfl) (by omega) (by omega) (fun c_87 => ?_) (fun c_87 => ?_) | refine A_icmp_ge (tgt := 119) d_M_moves_87 (by decide) (fun c_87 => ?_) (fun c_87 => ?_)
                  · exact absurd c_87 (by omega)
                  · refine A_aload_n0 d_M_moves_90 ?_
                    refine A_iload8 d_M_moves_91 ?_
                    refine A_iload4 d_M_moves_93 ?_
                    refine A_callVP d_M_moves_95 (c_M_wouldMove hM hS hw j _ hj) hM.o rfl q_1611 q_1613 qs_87 mk_M_wouldMove rfl (by decide) rfl (Nat.le_of_ble_eq_true rfl) ⟨Nat.le_of_ble_eq_true rfl, Nat.le_of_ble_eq_true rfl⟩ ⟨rfl, rfl⟩ ?_
                    refine A_if_eqB (tgt := 113) d_M_moves_98 (by decide) (fun c_98 => ?_) (fun c_98 => ?_)
                    · first | refine A_iinc8 d_M_moves_113 (nI_1 _) trivial ?_ | refine A_iinc8 d_M_moves_113 rfl trivial ?_
                      refine A_goto (tgt := 81) d_M_moves_116 (by decide) ?_
                      refine A_loc ?_ ih2
                      rw [roundF_succ]
                      simp only [c_87, c_98, reduceIte, Bool.false_eq_true]
                    · refine A_iload4 d_M_moves_101 ?_
                      refine A_iconst (v := nI 1) d_M_moves_103 (by decide) ?_
                      refine A_iload8 d_M_moves_104 ?_
                      refine A_ishl d_M_moves_106 ?_
                      refine A_topI (sh1 (by omega)) ?_
                      refine A_ixor d_M_moves_107 ?_
                      refine A_istore4 d_M_moves_108 trivial ?_
                      refine A_iconst (v := nI 1) d_M_moves_110 (by decide) ?_
                      refine A_istore7 d_M_moves_111 trivial ?_
                      first | refine A_iinc8 d_M_moves_113 (nI_1 _) trivial ?_ | refine A_iinc8 d_M_moves_113 rfl trivial ?_
                      refine A_goto (tgt := 81) d_M_moves_116 (by decide) ?_
                      refine A_loc ?_ ih2
                      rw [roundF_succ]
                      simp only [c_87, c_98, reduceIte, Bool.false_eq_true]
              refine A_iload5 d_M_moves_64 ?_
              refine A_bipush (v := nI 60) d_M_moves_66 (by decide) ?_
              first | refine A_icmp_geN (tgt := 142) d_M_moves_68 (by decide) (by with_reducible rfl) (by with_reducible rfl) (by omega) (by omega) (fun c_68 => ?_) (fun c_68 => ?_) | refine A_icmp_ge (tgt := 142) d_M_moves_68 (by decide) (fun c_68 => ?_) (fun c_68 => ?_)
              · exact absurd c_68 (by omega)
              · refine A_iload4 d_M_moves_71 ?_
                refine A_istore6 d_M_moves_73 trivial ?_
                refine A_iconst (v := nI 0) d_M_moves_75 (by decide) ?_
                refine A_istore7 d_M_moves_76 trivial ?_
                refine A_iconst (v := nI 0) d_M_moves_78 (by decide) ?_
                refine A_istore8 d_M_moves_79 trivial ?_
                exact key2 0 (Nat.zero_le _)
          exact key 0 (Nat.zero_le _) _
        · refine A_aload_n0 d_M_moves_37 ?_
          refine A_iload_n3 d_M_moves_38 ?_
          refine A_iconst (v := nI 2) d_M_moves_39 (by decide) ?_
          first | refine A_icmp_neN (tgt := 47) d_M_moves_40 (by decide) (by with_reducible rfl) (by with_reducible rfl) (by omega) (by omega) (fun c_40 => ?_) (fun c_40 => ?_) | refine A_icmp_ne (tgt := 47) d_M_moves_40 (by decide) (fun c_40 => ?_) (fun c_40 => ?_)
          · refine A_iload_n3 d_M_moves_47 ?_
            refine A_bipush (v := nI 100) d_M_moves_48 (by decide) ?_
            first | refine A_isubN d_M_moves_50 (by with_reducible rfl) (by with_reducible rfl) (by omega) ?_ | refine A_isub d_M_moves_50 ?_
            refine A_callVP d_M_moves_51 (c_M_restAt hM hS hw _) hM.o rfl q_1603 q_1605 qs_85 mk_M_restAt rfl (by decide) rfl (Nat.le_of_ble_eq_true rfl) ⟨Nat.le_of_ble_eq_true rfl, Nat.le_of_ble_eq_true rfl⟩ ⟨rfl, rfl⟩ ?_
            refine A_iret d_M_moves_54 rfl ⟨Nat.zero_le _, Nat.zero_le _⟩ ?_
            exact tk hM (fun k hk2 => hk k hk2) (by rw [pick_in hl (by omega), pick_in ht (by omega), hmv, movesV, if_neg c_34]; simp only [c_20, c_26, c_34, c_40, reduceIte])
          · refine A_iconst (v := (-1)) d_M_moves_43 (by decide) ?_
            refine A_goto (tgt := 51) d_M_moves_44 (by decide) ?_
            refine A_callVP d_M_moves_51 (c_M_restAt hM hS hw _) hM.o rfl q_1603 q_1605 qs_85 mk_M_restAt rfl (by decide) rfl (Nat.le_of_ble_eq_true rfl) ⟨Nat.le_of_ble_eq_true rfl, Nat.le_of_ble_eq_true rfl⟩ ⟨rfl, rfl⟩ ?_
            refine A_iret d_M_moves_54 rfl ⟨Nat.zero_le _, Nat.zero_le _⟩ ?_
            exact tk hM (fun k hk2 => hk k hk2) (by rw [pick_in hl (by omega), pick_in ht (by omega), hmv, movesV, if_neg c_34]; simp only [c_20, c_26, c_34, c_40, reduceIte])
      · refine A_bipush (v := (-2)) d_M_moves_29 (by decide) ?_
        refine A_iret d_M_moves_31 rfl ⟨Nat.zero_le _, Nat.zero_le _⟩ ?_
        first | exact tk hM (fun k hk2 => hk k hk2) (pick2_out q) | exact tk hM (fun k hk2 => hk k hk2) (by rw [pick_in hl (by omega), pick_in ht (by omega), movesT, if_neg (by rw [c_20]; decide), if_neg c_26])
  · have hp := hp.keep hk
    refine A_if_eqB (tgt := 29) d_M_moves_11 (by decide) (fun c_11 => ?_) (fun c => absurd c (by decide))
    refine A_bipush (v := (-2)) d_M_moves_29 (by decide) ?_
    refine A_iret d_M_moves_31 rfl ⟨Nat.zero_le _, Nat.zero_le _⟩ ?_
    first | exact tk hM (fun k hk2 => hk k hk2) (pick2_out q) | exact tk hM (fun k hk2 => hk k hk2) (by rw [pick_in hl (by omega), pick_in ht (by omega), movesT, if_neg (by rw [c_20]; decide), if_neg c_26])
