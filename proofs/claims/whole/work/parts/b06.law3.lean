set_option maxHeartbeats 4000000 in
set_option maxRecDepth 100000 in
theorem lc_envy {G : GE} {nm : String} {L : Nat} {xs : Nat → Int32} {h : AH} {n m nx : Nat} {W : TD} {S : MS} {f : Nat → Option Nat} {IE : Nat → TD} {u q j : Nat} (hL : L ≤ 3584) (hj : 7 * j + 7 ≤ L) (A : LIv L xs h n m nx W S f IE) (hu : u ≤ 105 + 46 * j) (hq : q ≤ 147210 + 1835 * j) (kk : ∀ (h : AH) (nx : Nat) (W : TD) (S : MS) (f : Nat → Option Nat) (IE : Nat → TD) (u q : Nat), LIv L xs h n m nx W S f IE → u ≤ 105 + 46 * (j + 1) → q ≤ 147210 + 1835 * (j + 1) → WA G (yL nm) code 4 ret room_1 600000 7302250 KL u q 1406 [some (.ref 5), some (.ref n), some (.ref m), some (.int (nI (7 * j)))] [] h) : WA G (yL nm) code 4 ret room_1 600000 7302250 KL u q 740 [some (.ref 5), some (.ref n), some (.ref m), some (.int (nI (7 * j)))] [] h := by
  obtain ⟨C0, hMA, hR⟩ := A
  obtain ⟨⟨hO, hn, hm⟩, hT, hI, ⟨Zr, hRd, z14, h14⟩, ⟨px, py, Zp, hPl⟩, hS, hOl, h5⟩ := id C0
  obtain ⟨c, VL, WT, BK, SG, GM, len, hq0⟩ := hR.1
  have hN : NT h n W c VL WT BK SG GM := ⟨hO, hT, hq0.1⟩
  have hp : MP S c VL WT BK SG GM := hq0.2.1
  have hM : MW h h m S := ⟨hMA, fun _ _ => rfl⟩
  refine A_aload_n1 d_L_law_740 ?_
  refine A_aload_n0 d_L_law_741 ?_
  refine A_iload_n3 d_L_law_742 ?_
  refine A_iconst (v := nI 1) d_L_law_743 (by decide) ?_
  first | refine A_iaddN d_L_law_744 (by with_reducible rfl) (by with_reducible rfl) ?_ | refine A_iadd d_L_law_744 ?_
  refine A_ialdN d_L_law_745 h5 ⟨by omega, by omega⟩ ?_
  refine A_aload_n0 d_L_law_746 ?_
  refine A_iload_n3 d_L_law_747 ?_
  refine A_iconst (v := nI 2) d_L_law_748 (by decide) ?_
  first | refine A_iaddN d_L_law_749 (by with_reducible rfl) (by with_reducible rfl) ?_ | refine A_iadd d_L_law_749 ?_
  refine A_ialdN d_L_law_750 h5 ⟨by omega, by omega⟩ ?_
  refine A_aload_n0 d_L_law_751 ?_
  refine A_iload_n3 d_L_law_752 ?_
  refine A_iconst (v := nI 3) d_L_law_753 (by decide) ?_
  first | refine A_iaddN d_L_law_754 (by with_reducible rfl) (by with_reducible rfl) ?_ | refine A_iadd d_L_law_754 ?_
  refine A_ialdN d_L_law_755 h5 ⟨by omega, by omega⟩ ?_
  refine A_callVP d_L_law_756 (c_N_envy hN _ _ _) hO rfl q_872 q_873 q_874 mk_N_envy rfl (by decide) rfl (Nat.le_of_ble_eq_true rfl) ⟨show u + 0 ≤ 600000 by omega, show q + 0 ≤ 7302250 by omega⟩ ⟨rfl, rfl⟩ ?_
  refine A_aload_n2 d_L_law_759 ?_
  refine A_aload_n0 d_L_law_760 ?_
  refine A_iload_n3 d_L_law_761 ?_
  refine A_iconst (v := nI 1) d_L_law_762 (by decide) ?_
  first | refine A_iaddN d_L_law_763 (by with_reducible rfl) (by with_reducible rfl) ?_ | refine A_iadd d_L_law_763 ?_
  refine A_ialdN d_L_law_764 h5 ⟨by omega, by omega⟩ ?_
  refine A_aload_n0 d_L_law_765 ?_
  refine A_iload_n3 d_L_law_766 ?_
  refine A_iconst (v := nI 2) d_L_law_767 (by decide) ?_
  first | refine A_iaddN d_L_law_768 (by with_reducible rfl) (by with_reducible rfl) ?_ | refine A_iadd d_L_law_768 ?_
  refine A_ialdN d_L_law_769 h5 ⟨by omega, by omega⟩ ?_
  refine A_aload_n0 d_L_law_770 ?_
  refine A_iload_n3 d_L_law_771 ?_
  refine A_iconst (v := nI 3) d_L_law_772 (by decide) ?_
  first | refine A_iaddN d_L_law_773 (by with_reducible rfl) (by with_reducible rfl) ?_ | refine A_iadd d_L_law_773 ?_
  refine A_ialdN d_L_law_774 h5 ⟨by omega, by omega⟩ ?_
  refine A_callV0 d_L_law_775 (c_M_envy hM hp _ _ _) hM.o rfl q_1579 q_1580 q_1581 mk_M_envy rfl (by decide) rfl (Nat.le_of_ble_eq_true rfl) ⟨show u + 0 ≤ 600000 by omega, show q + 0 ≤ 7302250 by omega⟩ ⟨rfl, rfl⟩ (fun v h1 hv => ?_)
  obtain ⟨rfl, S1, hM1, hk⟩ := hv
  refine A_icmp_eq (tgt := 1406) d_L_law_778 (by decide) (fun c_778 => ?_) (fun c => absurd rfl c)
  exact kk _ _ _ _ _ _ _ _ (LIv.tk C0 hR hM1 hk) (by omega) (by omega)
set_option maxHeartbeats 4000000 in
set_option maxRecDepth 100000 in
theorem lc_gain {G : GE} {nm : String} {L : Nat} {xs : Nat → Int32} {h : AH} {n m nx : Nat} {W : TD} {S : MS} {f : Nat → Option Nat} {IE : Nat → TD} {u q j : Nat} (hL : L ≤ 3584) (hj : 7 * j + 7 ≤ L) (A : LIv L xs h n m nx W S f IE) (hu : u ≤ 105 + 46 * j) (hq : q ≤ 147210 + 1835 * j) (kk : ∀ (h : AH) (nx : Nat) (W : TD) (S : MS) (f : Nat → Option Nat) (IE : Nat → TD) (u q : Nat), LIv L xs h n m nx W S f IE → u ≤ 105 + 46 * (j + 1) → q ≤ 147210 + 1835 * (j + 1) → WA G (yL nm) code 4 ret room_1 600000 7302250 KL u q 1406 [some (.ref 5), some (.ref n), some (.ref m), some (.int (nI (7 * j)))] [] h) : WA G (yL nm) code 4 ret room_1 600000 7302250 KL u q 783 [some (.ref 5), some (.ref n), some (.ref m), some (.int (nI (7 * j)))] [] h := by
  obtain ⟨C0, hMA, hR⟩ := A
  obtain ⟨⟨hO, hn, hm⟩, hT, hI, ⟨Zr, hRd, z14, h14⟩, ⟨px, py, Zp, hPl⟩, hS, hOl, h5⟩ := id C0
  obtain ⟨c, VL, WT, BK, SG, GM, len, hq0⟩ := hR.1
  have hN : NT h n W c VL WT BK SG GM := ⟨hO, hT, hq0.1⟩
  have hp : MP S c VL WT BK SG GM := hq0.2.1
  have hM : MW h h m S := ⟨hMA, fun _ _ => rfl⟩
  refine A_aload_n1 d_L_law_783 ?_
  refine A_aload_n0 d_L_law_784 ?_
  refine A_iload_n3 d_L_law_785 ?_
  refine A_iconst (v := nI 1) d_L_law_786 (by decide) ?_
  first | refine A_iaddN d_L_law_787 (by with_reducible rfl) (by with_reducible rfl) ?_ | refine A_iadd d_L_law_787 ?_
  refine A_ialdN d_L_law_788 h5 ⟨by omega, by omega⟩ ?_
  refine A_aload_n0 d_L_law_789 ?_
  refine A_iload_n3 d_L_law_790 ?_
  refine A_iconst (v := nI 2) d_L_law_791 (by decide) ?_
  first | refine A_iaddN d_L_law_792 (by with_reducible rfl) (by with_reducible rfl) ?_ | refine A_iadd d_L_law_792 ?_
  refine A_ialdN d_L_law_793 h5 ⟨by omega, by omega⟩ ?_
  refine A_aload_n0 d_L_law_794 ?_
  refine A_iload_n3 d_L_law_795 ?_
  refine A_iconst (v := nI 3) d_L_law_796 (by decide) ?_
  first | refine A_iaddN d_L_law_797 (by with_reducible rfl) (by with_reducible rfl) ?_ | refine A_iadd d_L_law_797 ?_
  refine A_ialdN d_L_law_798 h5 ⟨by omega, by omega⟩ ?_
  refine A_aload_n0 d_L_law_799 ?_
  refine A_iload_n3 d_L_law_800 ?_
  refine A_iconst (v := nI 4) d_L_law_801 (by decide) ?_
  first | refine A_iaddN d_L_law_802 (by with_reducible rfl) (by with_reducible rfl) ?_ | refine A_iadd d_L_law_802 ?_
  refine A_ialdN d_L_law_803 h5 ⟨by omega, by omega⟩ ?_
  refine A_callV0 d_L_law_804 (c_N_gain hN hn hS _ _ _ _) hO rfl q_905 q_906 q_907 mk_N_gain rfl (by decide) rfl (Nat.le_of_ble_eq_true rfl) ⟨show u + 0 ≤ 600000 by omega, show q + 0 ≤ 7302250 by omega⟩ ⟨rfl, rfl⟩ (fun v h1 hv => ?_)
  obtain ⟨rfl, hs1, e1⟩ := hv
  have C1 := C0.sx hs1 e1
  have h5 := C1.2.2.2.2.2.2.2
  have hM1 : MW h1 h1 m S := ⟨hMA.kept (fun i _ _ => e1 i (by omega)), fun _ _ => rfl⟩
  replace hM := hM1
  clear hM1
  refine A_aload_n2 d_L_law_807 ?_
  refine A_aload_n0 d_L_law_808 ?_
  refine A_iload_n3 d_L_law_809 ?_
  refine A_iconst (v := nI 1) d_L_law_810 (by decide) ?_
  first | refine A_iaddN d_L_law_811 (by with_reducible rfl) (by with_reducible rfl) ?_ | refine A_iadd d_L_law_811 ?_
  refine A_ialdN d_L_law_812 h5 ⟨by omega, by omega⟩ ?_
  refine A_aload_n0 d_L_law_813 ?_
  refine A_iload_n3 d_L_law_814 ?_
  refine A_iconst (v := nI 2) d_L_law_815 (by decide) ?_
  first | refine A_iaddN d_L_law_816 (by with_reducible rfl) (by with_reducible rfl) ?_ | refine A_iadd d_L_law_816 ?_
  refine A_ialdN d_L_law_817 h5 ⟨by omega, by omega⟩ ?_
  refine A_aload_n0 d_L_law_818 ?_
  refine A_iload_n3 d_L_law_819 ?_
  refine A_iconst (v := nI 3) d_L_law_820 (by decide) ?_
  first | refine A_iaddN d_L_law_821 (by with_reducible rfl) (by with_reducible rfl) ?_ | refine A_iadd d_L_law_821 ?_
  refine A_ialdN d_L_law_822 h5 ⟨by omega, by omega⟩ ?_
  refine A_aload_n0 d_L_law_823 ?_
  refine A_iload_n3 d_L_law_824 ?_
  refine A_iconst (v := nI 4) d_L_law_825 (by decide) ?_
  first | refine A_iaddN d_L_law_826 (by with_reducible rfl) (by with_reducible rfl) ?_ | refine A_iadd d_L_law_826 ?_
  refine A_ialdN d_L_law_827 h5 ⟨by omega, by omega⟩ ?_
  refine A_callV0 d_L_law_828 (c_M_gain hM hp _ _ _ _) hM.o rfl q_1583 q_1584 q_1585 mk_M_gain rfl (by decide) rfl (Nat.le_of_ble_eq_true rfl) ⟨show u + 0 ≤ 600000 by omega, show q + 0 ≤ 7302250 by omega⟩ ⟨rfl, rfl⟩ (fun v h1 hv => ?_)
  obtain ⟨rfl, S1, hM1, hk⟩ := hv
  refine A_icmp_eq (tgt := 1406) d_L_law_831 (by decide) (fun c_831 => ?_) (fun c => absurd rfl c)
  exact kk _ _ _ _ _ _ _ _ (LIv.tk C1 hR hM1 hk) (by omega) (by omega)
set_option maxHeartbeats 4000000 in
set_option maxRecDepth 100000 in
theorem lc_moves {G : GE} {nm : String} {L : Nat} {xs : Nat → Int32} {h : AH} {n m nx : Nat} {W : TD} {S : MS} {f : Nat → Option Nat} {IE : Nat → TD} {u q j : Nat} (hL : L ≤ 3584) (hj : 7 * j + 7 ≤ L) (A : LIv L xs h n m nx W S f IE) (hu : u ≤ 105 + 46 * j) (hq : q ≤ 147210 + 1835 * j) (kk : ∀ (h : AH) (nx : Nat) (W : TD) (S : MS) (f : Nat → Option Nat) (IE : Nat → TD) (u q : Nat), LIv L xs h n m nx W S f IE → u ≤ 105 + 46 * (j + 1) → q ≤ 147210 + 1835 * (j + 1) → WA G (yL nm) code 4 ret room_1 600000 7302250 KL u q 1406 [some (.ref 5), some (.ref n), some (.ref m), some (.int (nI (7 * j)))] [] h) : WA G (yL nm) code 4 ret room_1 600000 7302250 KL u q 836 [some (.ref 5), some (.ref n), some (.ref m), some (.int (nI (7 * j)))] [] h := by
  obtain ⟨C0, hMA, hR⟩ := A
  obtain ⟨⟨hO, hn, hm⟩, hT, hI, ⟨Zr, hRd, z14, h14⟩, ⟨px, py, Zp, hPl⟩, hS, hOl, h5⟩ := id C0
  obtain ⟨c, VL, WT, BK, SG, GM, len, hq0⟩ := hR.1
  have hN : NT h n W c VL WT BK SG GM := ⟨hO, hT, hq0.1⟩
  have hp : MP S c VL WT BK SG GM := hq0.2.1
  have hM : MW h h m S := ⟨hMA, fun _ _ => rfl⟩
  refine A_aload_n1 d_L_law_836 ?_
  refine A_aload_n0 d_L_law_837 ?_
  refine A_iload_n3 d_L_law_838 ?_
  refine A_iconst (v := nI 1) d_L_law_839 (by decide) ?_
  first | refine A_iaddN d_L_law_840 (by with_reducible rfl) (by with_reducible rfl) ?_ | refine A_iadd d_L_law_840 ?_
  refine A_ialdN d_L_law_841 h5 ⟨by omega, by omega⟩ ?_
  refine A_aload_n0 d_L_law_842 ?_
  refine A_iload_n3 d_L_law_843 ?_
  refine A_iconst (v := nI 2) d_L_law_844 (by decide) ?_
  first | refine A_iaddN d_L_law_845 (by with_reducible rfl) (by with_reducible rfl) ?_ | refine A_iadd d_L_law_845 ?_
  refine A_ialdN d_L_law_846 h5 ⟨by omega, by omega⟩ ?_
  refine A_aload_n0 d_L_law_847 ?_
  refine A_iload_n3 d_L_law_848 ?_
  refine A_iconst (v := nI 3) d_L_law_849 (by decide) ?_
  first | refine A_iaddN d_L_law_850 (by with_reducible rfl) (by with_reducible rfl) ?_ | refine A_iadd d_L_law_850 ?_
  refine A_ialdN d_L_law_851 h5 ⟨by omega, by omega⟩ ?_
  refine A_callV0 d_L_law_852 (c_N_moves hN hn hS _ _ _) hO rfl q_928 q_929 q_930 mk_N_moves rfl (by decide) rfl (Nat.le_of_ble_eq_true rfl) ⟨show u + 0 ≤ 600000 by omega, show q + 0 ≤ 7302250 by omega⟩ ⟨rfl, rfl⟩ (fun v h1 hv => ?_)
  obtain ⟨rfl, hs1, e1⟩ := hv
  have C1 := C0.sx hs1 e1
  have h5 := C1.2.2.2.2.2.2.2
  have hM1 : MW h1 h1 m S := ⟨hMA.kept (fun i _ _ => e1 i (by omega)), fun _ _ => rfl⟩
  replace hM := hM1
  clear hM1
  refine A_aload_n2 d_L_law_855 ?_
  refine A_aload_n0 d_L_law_856 ?_
  refine A_iload_n3 d_L_law_857 ?_
  refine A_iconst (v := nI 1) d_L_law_858 (by decide) ?_
  first | refine A_iaddN d_L_law_859 (by with_reducible rfl) (by with_reducible rfl) ?_ | refine A_iadd d_L_law_859 ?_
  refine A_ialdN d_L_law_860 h5 ⟨by omega, by omega⟩ ?_
  refine A_aload_n0 d_L_law_861 ?_
  refine A_iload_n3 d_L_law_862 ?_
  refine A_iconst (v := nI 2) d_L_law_863 (by decide) ?_
  first | refine A_iaddN d_L_law_864 (by with_reducible rfl) (by with_reducible rfl) ?_ | refine A_iadd d_L_law_864 ?_
  refine A_ialdN d_L_law_865 h5 ⟨by omega, by omega⟩ ?_
  refine A_aload_n0 d_L_law_866 ?_
  refine A_iload_n3 d_L_law_867 ?_
  refine A_iconst (v := nI 3) d_L_law_868 (by decide) ?_
  first | refine A_iaddN d_L_law_869 (by with_reducible rfl) (by with_reducible rfl) ?_ | refine A_iadd d_L_law_869 ?_
  refine A_ialdN d_L_law_870 h5 ⟨by omega, by omega⟩ ?_
  refine A_callV0 d_L_law_871 (c_M_moves hM hp _ _ _) hM.o rfl q_1599 q_1600 q_1601 mk_M_moves rfl (by decide) rfl (Nat.le_of_ble_eq_true rfl) ⟨show u + 0 ≤ 600000 by omega, show q + 0 ≤ 7302250 by omega⟩ ⟨rfl, rfl⟩ (fun v h1 hv => ?_)
  obtain ⟨rfl, S1, hM1, hk⟩ := hv
  refine A_icmp_eq (tgt := 1406) d_L_law_874 (by decide) (fun c_874 => ?_) (fun c => absurd rfl c)
  exact kk _ _ _ _ _ _ _ _ (LIv.tk C1 hR hM1 hk) (by omega) (by omega)
set_option maxHeartbeats 4000000 in
set_option maxRecDepth 100000 in
theorem lc_teams {G : GE} {nm : String} {L : Nat} {xs : Nat → Int32} {h : AH} {n m nx : Nat} {W : TD} {S : MS} {f : Nat → Option Nat} {IE : Nat → TD} {u q j : Nat} (hL : L ≤ 3584) (hj : 7 * j + 7 ≤ L) (A : LIv L xs h n m nx W S f IE) (hu : u ≤ 105 + 46 * j) (hq : q ≤ 147210 + 1835 * j) (kk : ∀ (h : AH) (nx : Nat) (W : TD) (S : MS) (f : Nat → Option Nat) (IE : Nat → TD) (u q : Nat), LIv L xs h n m nx W S f IE → u ≤ 105 + 46 * (j + 1) → q ≤ 147210 + 1835 * (j + 1) → WA G (yL nm) code 4 ret room_1 600000 7302250 KL u q 1406 [some (.ref 5), some (.ref n), some (.ref m), some (.int (nI (7 * j)))] [] h) : WA G (yL nm) code 4 ret room_1 600000 7302250 KL u q 879 [some (.ref 5), some (.ref n), some (.ref m), some (.int (nI (7 * j)))] [] h := by
  obtain ⟨C0, hMA, hR⟩ := A
  obtain ⟨⟨hO, hn, hm⟩, hT, hI, ⟨Zr, hRd, z14, h14⟩, ⟨px, py, Zp, hPl⟩, hS, hOl, h5⟩ := id C0
  obtain ⟨c, VL, WT, BK, SG, GM, len, hq0⟩ := hR.1
  have hN : NT h n W c VL WT BK SG GM := ⟨hO, hT, hq0.1⟩
  have hp : MP S c VL WT BK SG GM := hq0.2.1
  have hM : MW h h m S := ⟨hMA, fun _ _ => rfl⟩
  refine A_aload_n1 d_L_law_879 ?_
  refine A_aload_n0 d_L_law_880 ?_
  refine A_iload_n3 d_L_law_881 ?_
  refine A_iconst (v := nI 1) d_L_law_882 (by decide) ?_
  first | refine A_iaddN d_L_law_883 (by with_reducible rfl) (by with_reducible rfl) ?_ | refine A_iadd d_L_law_883 ?_
  refine A_ialdN d_L_law_884 h5 ⟨by omega, by omega⟩ ?_
  refine A_aload_n0 d_L_law_885 ?_
  refine A_iload_n3 d_L_law_886 ?_
  refine A_iconst (v := nI 2) d_L_law_887 (by decide) ?_
  first | refine A_iaddN d_L_law_888 (by with_reducible rfl) (by with_reducible rfl) ?_ | refine A_iadd d_L_law_888 ?_
  refine A_ialdN d_L_law_889 h5 ⟨by omega, by omega⟩ ?_
  refine A_aload_n0 d_L_law_890 ?_
  refine A_iload_n3 d_L_law_891 ?_
  refine A_iconst (v := nI 3) d_L_law_892 (by decide) ?_
  first | refine A_iaddN d_L_law_893 (by with_reducible rfl) (by with_reducible rfl) ?_ | refine A_iadd d_L_law_893 ?_
  refine A_ialdN d_L_law_894 h5 ⟨by omega, by omega⟩ ?_
  refine A_callV0 d_L_law_895 (c_N_teams hN hn hS _ _ _) hO rfl q_956 q_957 q_958 mk_N_teams rfl (by decide) rfl (Nat.le_of_ble_eq_true rfl) ⟨show u + 0 ≤ 600000 by omega, show q + 0 ≤ 7302250 by omega⟩ ⟨rfl, rfl⟩ (fun v h1 hv => ?_)
  obtain ⟨rfl, hs1, e1⟩ := hv
  have C1 := C0.sx hs1 e1
  have h5 := C1.2.2.2.2.2.2.2
  have hM1 : MW h1 h1 m S := ⟨hMA.kept (fun i _ _ => e1 i (by omega)), fun _ _ => rfl⟩
  replace hM := hM1
  clear hM1
  refine A_aload_n2 d_L_law_898 ?_
  refine A_aload_n0 d_L_law_899 ?_
  refine A_iload_n3 d_L_law_900 ?_
  refine A_iconst (v := nI 1) d_L_law_901 (by decide) ?_
  first | refine A_iaddN d_L_law_902 (by with_reducible rfl) (by with_reducible rfl) ?_ | refine A_iadd d_L_law_902 ?_
  refine A_ialdN d_L_law_903 h5 ⟨by omega, by omega⟩ ?_
  refine A_aload_n0 d_L_law_904 ?_
  refine A_iload_n3 d_L_law_905 ?_
  refine A_iconst (v := nI 2) d_L_law_906 (by decide) ?_
  first | refine A_iaddN d_L_law_907 (by with_reducible rfl) (by with_reducible rfl) ?_ | refine A_iadd d_L_law_907 ?_
  refine A_ialdN d_L_law_908 h5 ⟨by omega, by omega⟩ ?_
  refine A_aload_n0 d_L_law_909 ?_
  refine A_iload_n3 d_L_law_910 ?_
  refine A_iconst (v := nI 3) d_L_law_911 (by decide) ?_
  first | refine A_iaddN d_L_law_912 (by with_reducible rfl) (by with_reducible rfl) ?_ | refine A_iadd d_L_law_912 ?_
  refine A_ialdN d_L_law_913 h5 ⟨by omega, by omega⟩ ?_
  refine A_callV0 d_L_law_914 (c_M_teams hM hp _ _ _) hM.o rfl q_1615 q_1616 q_1617 mk_M_teams rfl (by decide) rfl (Nat.le_of_ble_eq_true rfl) ⟨show u + 0 ≤ 600000 by omega, show q + 0 ≤ 7302250 by omega⟩ ⟨rfl, rfl⟩ (fun v h1 hv => ?_)
  obtain ⟨rfl, S1, hM1, hk⟩ := hv
  refine A_icmp_eq (tgt := 1406) d_L_law_917 (by decide) (fun c_917 => ?_) (fun c => absurd rfl c)
  exact kk _ _ _ _ _ _ _ _ (LIv.tk C1 hR hM1 hk) (by omega) (by omega)
set_option maxHeartbeats 4000000 in
set_option maxRecDepth 100000 in
theorem lc_hire {G : GE} {nm : String} {L : Nat} {xs : Nat → Int32} {h : AH} {n m nx : Nat} {W : TD} {S : MS} {f : Nat → Option Nat} {IE : Nat → TD} {u q j : Nat} (hL : L ≤ 3584) (hj : 7 * j + 7 ≤ L) (A : LIv L xs h n m nx W S f IE) (hu : u ≤ 105 + 46 * j) (hq : q ≤ 147210 + 1835 * j) (kk : ∀ (h : AH) (nx : Nat) (W : TD) (S : MS) (f : Nat → Option Nat) (IE : Nat → TD) (u q : Nat), LIv L xs h n m nx W S f IE → u ≤ 105 + 46 * (j + 1) → q ≤ 147210 + 1835 * (j + 1) → WA G (yL nm) code 4 ret room_1 600000 7302250 KL u q 1406 [some (.ref 5), some (.ref n), some (.ref m), some (.int (nI (7 * j)))] [] h) : WA G (yL nm) code 4 ret room_1 600000 7302250 KL u q 922 [some (.ref 5), some (.ref n), some (.ref m), some (.int (nI (7 * j)))] [] h := by
  obtain ⟨C0, hMA, hR⟩ := A
  obtain ⟨⟨hO, hn, hm⟩, hT, hI, ⟨Zr, hRd, z14, h14⟩, ⟨px, py, Zp, hPl⟩, hS, hOl, h5⟩ := id C0
  obtain ⟨c, VL, WT, BK, SG, GM, len, hq0⟩ := hR.1
  have hN : NT h n W c VL WT BK SG GM := ⟨hO, hT, hq0.1⟩
  have hp : MP S c VL WT BK SG GM := hq0.2.1
  have hM : MW h h m S := ⟨hMA, fun _ _ => rfl⟩
  by_cases hb : xs (7 * j + 3) = 0
  · refine A_aload_n1 d_L_law_922 ?_
    refine A_aload_n0 d_L_law_923 ?_
    refine A_iload_n3 d_L_law_924 ?_
    refine A_iconst (v := nI 1) d_L_law_925 (by decide) ?_
    first | refine A_iaddN d_L_law_926 (by with_reducible rfl) (by with_reducible rfl) ?_ | refine A_iadd d_L_law_926 ?_
    refine A_ialdN d_L_law_927 h5 ⟨by omega, by omega⟩ ?_
    refine A_aload_n0 d_L_law_928 ?_
    refine A_iload_n3 d_L_law_929 ?_
    refine A_iconst (v := nI 2) d_L_law_930 (by decide) ?_
    first | refine A_iaddN d_L_law_931 (by with_reducible rfl) (by with_reducible rfl) ?_ | refine A_iadd d_L_law_931 ?_
    refine A_ialdN d_L_law_932 h5 ⟨by omega, by omega⟩ ?_
    refine A_aload_n0 d_L_law_933 ?_
    refine A_iload_n3 d_L_law_934 ?_
    refine A_iconst (v := nI 3) d_L_law_935 (by decide) ?_
    first | refine A_iaddN d_L_law_936 (by with_reducible rfl) (by with_reducible rfl) ?_ | refine A_iadd d_L_law_936 ?_
    refine A_ialdN d_L_law_937 h5 ⟨by omega, by omega⟩ ?_
    refine A_if_eq (tgt := 945) d_L_law_938 (by decide) (fun c_938 => ?_) (fun c => absurd hb c)
    refine A_iconst (v := nI 0) d_L_law_945 (by decide) ?_
    refine A_callVP d_L_law_946 (c_N_hire hN _ _ _) hO rfl q_971 q_972 q_973 mk_N_hire rfl (by decide) rfl (Nat.le_of_ble_eq_true rfl) ⟨show u + 0 ≤ 600000 by omega, show q + 0 ≤ 7302250 by omega⟩ ⟨rfl, rfl⟩ ?_
    refine A_aload_n2 d_L_law_949 ?_
    refine A_aload_n0 d_L_law_950 ?_
    refine A_iload_n3 d_L_law_951 ?_
    refine A_iconst (v := nI 1) d_L_law_952 (by decide) ?_
    first | refine A_iaddN d_L_law_953 (by with_reducible rfl) (by with_reducible rfl) ?_ | refine A_iadd d_L_law_953 ?_
    refine A_ialdN d_L_law_954 h5 ⟨by omega, by omega⟩ ?_
    refine A_aload_n0 d_L_law_955 ?_
    refine A_iload_n3 d_L_law_956 ?_
    refine A_iconst (v := nI 2) d_L_law_957 (by decide) ?_
    first | refine A_iaddN d_L_law_958 (by with_reducible rfl) (by with_reducible rfl) ?_ | refine A_iadd d_L_law_958 ?_
    refine A_ialdN d_L_law_959 h5 ⟨by omega, by omega⟩ ?_
    refine A_aload_n0 d_L_law_960 ?_
    refine A_iload_n3 d_L_law_961 ?_
    refine A_iconst (v := nI 3) d_L_law_962 (by decide) ?_
    first | refine A_iaddN d_L_law_963 (by with_reducible rfl) (by with_reducible rfl) ?_ | refine A_iadd d_L_law_963 ?_
    refine A_ialdN d_L_law_964 h5 ⟨by omega, by omega⟩ ?_
    refine A_if_eq (tgt := 972) d_L_law_965 (by decide) (fun c_965 => ?_) (fun c => absurd hb c)
    refine A_iconst (v := nI 0) d_L_law_972 (by decide) ?_
    refine A_callV0 d_L_law_973 (c_M_hire hM hp _ _ _) hM.o rfl q_1633 q_1634 q_1635 mk_M_hire rfl (by decide) rfl (Nat.le_of_ble_eq_true rfl) ⟨show u + 0 ≤ 600000 by omega, show q + 0 ≤ 7302250 by omega⟩ ⟨rfl, rfl⟩ (fun v h1 hv => ?_)
    obtain ⟨rfl, S1, hM1, hk⟩ := hv
    refine A_icmp_eq (tgt := 1406) d_L_law_976 (by decide) (fun c_976 => ?_) (fun c => absurd rfl c)
    exact kk _ _ _ _ _ _ _ _ (LIv.tk C0 hR hM1 hk) (by omega) (by omega)
  · refine A_aload_n1 d_L_law_922 ?_
    refine A_aload_n0 d_L_law_923 ?_
    refine A_iload_n3 d_L_law_924 ?_
    refine A_iconst (v := nI 1) d_L_law_925 (by decide) ?_
    first | refine A_iaddN d_L_law_926 (by with_reducible rfl) (by with_reducible rfl) ?_ | refine A_iadd d_L_law_926 ?_
    refine A_ialdN d_L_law_927 h5 ⟨by omega, by omega⟩ ?_
    refine A_aload_n0 d_L_law_928 ?_
    refine A_iload_n3 d_L_law_929 ?_
    refine A_iconst (v := nI 2) d_L_law_930 (by decide) ?_
    first | refine A_iaddN d_L_law_931 (by with_reducible rfl) (by with_reducible rfl) ?_ | refine A_iadd d_L_law_931 ?_
    refine A_ialdN d_L_law_932 h5 ⟨by omega, by omega⟩ ?_
    refine A_aload_n0 d_L_law_933 ?_
    refine A_iload_n3 d_L_law_934 ?_
    refine A_iconst (v := nI 3) d_L_law_935 (by decide) ?_
    first | refine A_iaddN d_L_law_936 (by with_reducible rfl) (by with_reducible rfl) ?_ | refine A_iadd d_L_law_936 ?_
    refine A_ialdN d_L_law_937 h5 ⟨by omega, by omega⟩ ?_
    refine A_if_eq (tgt := 945) d_L_law_938 (by decide) (fun c => absurd c hb) (fun c_938 => ?_)
    refine A_iconst (v := nI 1) d_L_law_941 (by decide) ?_
    refine A_goto (tgt := 946) d_L_law_942 (by decide) ?_
    refine A_callVP d_L_law_946 (c_N_hire hN _ _ _) hO rfl q_971 q_972 q_973 mk_N_hire rfl (by decide) rfl (Nat.le_of_ble_eq_true rfl) ⟨show u + 0 ≤ 600000 by omega, show q + 0 ≤ 7302250 by omega⟩ ⟨rfl, rfl⟩ ?_
    refine A_aload_n2 d_L_law_949 ?_
    refine A_aload_n0 d_L_law_950 ?_
    refine A_iload_n3 d_L_law_951 ?_
    refine A_iconst (v := nI 1) d_L_law_952 (by decide) ?_
    first | refine A_iaddN d_L_law_953 (by with_reducible rfl) (by with_reducible rfl) ?_ | refine A_iadd d_L_law_953 ?_
    refine A_ialdN d_L_law_954 h5 ⟨by omega, by omega⟩ ?_
    refine A_aload_n0 d_L_law_955 ?_
    refine A_iload_n3 d_L_law_956 ?_
    refine A_iconst (v := nI 2) d_L_law_957 (by decide) ?_
    first | refine A_iaddN d_L_law_958 (by with_reducible rfl) (by with_reducible rfl) ?_ | refine A_iadd d_L_law_958 ?_
    refine A_ialdN d_L_law_959 h5 ⟨by omega, by omega⟩ ?_
    refine A_aload_n0 d_L_law_960 ?_
    refine A_iload_n3 d_L_law_961 ?_
    refine A_iconst (v := nI 3) d_L_law_962 (by decide) ?_
    first | refine A_iaddN d_L_law_963 (by with_reducible rfl) (by with_reducible rfl) ?_ | refine A_iadd d_L_law_963 ?_
    refine A_ialdN d_L_law_964 h5 ⟨by omega, by omega⟩ ?_
    refine A_if_eq (tgt := 972) d_L_law_965 (by decide) (fun c => absurd c hb) (fun c_965 => ?_)
    refine A_iconst (v := nI 1) d_L_law_968 (by decide) ?_
    refine A_goto (tgt := 973) d_L_law_969 (by decide) ?_
    refine A_callV0 d_L_law_973 (c_M_hire hM hp _ _ _) hM.o rfl q_1633 q_1634 q_1635 mk_M_hire rfl (by decide) rfl (Nat.le_of_ble_eq_true rfl) ⟨show u + 0 ≤ 600000 by omega, show q + 0 ≤ 7302250 by omega⟩ ⟨rfl, rfl⟩ (fun v h1 hv => ?_)
    obtain ⟨rfl, S1, hM1, hk⟩ := hv
    refine A_icmp_eq (tgt := 1406) d_L_law_976 (by decide) (fun c_976 => ?_) (fun c => absurd rfl c)
    exact kk _ _ _ _ _ _ _ _ (LIv.tk C0 hR hM1 hk) (by omega) (by omega)
set_option maxHeartbeats 4000000 in
set_option maxRecDepth 100000 in
theorem lc_seen {G : GE} {nm : String} {L : Nat} {xs : Nat → Int32} {h : AH} {n m nx : Nat} {W : TD} {S : MS} {f : Nat → Option Nat} {IE : Nat → TD} {u q j : Nat} (hL : L ≤ 3584) (hj : 7 * j + 7 ≤ L) (A : LIv L xs h n m nx W S f IE) (hu : u ≤ 105 + 46 * j) (hq : q ≤ 147210 + 1835 * j) (kk : ∀ (h : AH) (nx : Nat) (W : TD) (S : MS) (f : Nat → Option Nat) (IE : Nat → TD) (u q : Nat), LIv L xs h n m nx W S f IE → u ≤ 105 + 46 * (j + 1) → q ≤ 147210 + 1835 * (j + 1) → WA G (yL nm) code 4 ret room_1 600000 7302250 KL u q 1406 [some (.ref 5), some (.ref n), some (.ref m), some (.int (nI (7 * j)))] [] h) : WA G (yL nm) code 4 ret room_1 600000 7302250 KL u q 981 [some (.ref 5), some (.ref n), some (.ref m), some (.int (nI (7 * j)))] [] h := by
  obtain ⟨C0, hMA, hR⟩ := A
  obtain ⟨⟨hO, hn, hm⟩, hT, hI, ⟨Zr, hRd, z14, h14⟩, ⟨px, py, Zp, hPl⟩, hS, hOl, h5⟩ := id C0
  obtain ⟨c, VL, WT, BK, SG, GM, len, hq0⟩ := hR.1
  have hN : NT h n W c VL WT BK SG GM := ⟨hO, hT, hq0.1⟩
  have hp : MP S c VL WT BK SG GM := hq0.2.1
  have hM : MW h h m S := ⟨hMA, fun _ _ => rfl⟩
  refine A_aload_n1 d_L_law_981 ?_
  refine A_aload_n0 d_L_law_982 ?_
  refine A_iload_n3 d_L_law_983 ?_
  refine A_iconst (v := nI 1) d_L_law_984 (by decide) ?_
  first | refine A_iaddN d_L_law_985 (by with_reducible rfl) (by with_reducible rfl) ?_ | refine A_iadd d_L_law_985 ?_
  refine A_ialdN d_L_law_986 h5 ⟨by omega, by omega⟩ ?_
  refine A_aload_n0 d_L_law_987 ?_
  refine A_iload_n3 d_L_law_988 ?_
  refine A_iconst (v := nI 2) d_L_law_989 (by decide) ?_
  first | refine A_iaddN d_L_law_990 (by with_reducible rfl) (by with_reducible rfl) ?_ | refine A_iadd d_L_law_990 ?_
  refine A_ialdN d_L_law_991 h5 ⟨by omega, by omega⟩ ?_
  refine A_aload_n0 d_L_law_992 ?_
  refine A_iload_n3 d_L_law_993 ?_
  refine A_iconst (v := nI 3) d_L_law_994 (by decide) ?_
  first | refine A_iaddN d_L_law_995 (by with_reducible rfl) (by with_reducible rfl) ?_ | refine A_iadd d_L_law_995 ?_
  refine A_ialdN d_L_law_996 h5 ⟨by omega, by omega⟩ ?_
  refine A_callVP d_L_law_997 (c_N_seen hN _ _ _) hO rfl q_664 q_665 q_666 mk_N_seen rfl (by decide) rfl (Nat.le_of_ble_eq_true rfl) ⟨show u + 0 ≤ 600000 by omega, show q + 0 ≤ 7302250 by omega⟩ ⟨rfl, rfl⟩ ?_
  refine A_aload_n2 d_L_law_1000 ?_
  refine A_aload_n0 d_L_law_1001 ?_
  refine A_iload_n3 d_L_law_1002 ?_
  refine A_iconst (v := nI 1) d_L_law_1003 (by decide) ?_
  first | refine A_iaddN d_L_law_1004 (by with_reducible rfl) (by with_reducible rfl) ?_ | refine A_iadd d_L_law_1004 ?_
  refine A_ialdN d_L_law_1005 h5 ⟨by omega, by omega⟩ ?_
  refine A_aload_n0 d_L_law_1006 ?_
  refine A_iload_n3 d_L_law_1007 ?_
  refine A_iconst (v := nI 2) d_L_law_1008 (by decide) ?_
  first | refine A_iaddN d_L_law_1009 (by with_reducible rfl) (by with_reducible rfl) ?_ | refine A_iadd d_L_law_1009 ?_
  refine A_ialdN d_L_law_1010 h5 ⟨by omega, by omega⟩ ?_
  refine A_aload_n0 d_L_law_1011 ?_
  refine A_iload_n3 d_L_law_1012 ?_
  refine A_iconst (v := nI 3) d_L_law_1013 (by decide) ?_
  first | refine A_iaddN d_L_law_1014 (by with_reducible rfl) (by with_reducible rfl) ?_ | refine A_iadd d_L_law_1014 ?_
  refine A_ialdN d_L_law_1015 h5 ⟨by omega, by omega⟩ ?_
  refine A_callV0 d_L_law_1016 (c_M_seen hM hp _ _ _) hM.o rfl q_1637 q_1638 q_1639 mk_M_seen rfl (by decide) rfl (Nat.le_of_ble_eq_true rfl) ⟨show u + 0 ≤ 600000 by omega, show q + 0 ≤ 7302250 by omega⟩ ⟨rfl, rfl⟩ (fun v h1 hv => ?_)
  obtain ⟨rfl, S1, hM1, hk⟩ := hv
  refine A_icmp_eq (tgt := 1406) d_L_law_1019 (by decide) (fun c_1019 => ?_) (fun c => absurd rfl c)
  exact kk _ _ _ _ _ _ _ _ (LIv.tk C0 hR hM1 hk) (by omega) (by omega)
set_option maxHeartbeats 4000000 in
set_option maxRecDepth 100000 in
theorem lc_stolen {G : GE} {nm : String} {L : Nat} {xs : Nat → Int32} {h : AH} {n m nx : Nat} {W : TD} {S : MS} {f : Nat → Option Nat} {IE : Nat → TD} {u q j : Nat} (hL : L ≤ 3584) (hj : 7 * j + 7 ≤ L) (A : LIv L xs h n m nx W S f IE) (hu : u ≤ 105 + 46 * j) (hq : q ≤ 147210 + 1835 * j) (kk : ∀ (h : AH) (nx : Nat) (W : TD) (S : MS) (f : Nat → Option Nat) (IE : Nat → TD) (u q : Nat), LIv L xs h n m nx W S f IE → u ≤ 105 + 46 * (j + 1) → q ≤ 147210 + 1835 * (j + 1) → WA G (yL nm) code 4 ret room_1 600000 7302250 KL u q 1406 [some (.ref 5), some (.ref n), some (.ref m), some (.int (nI (7 * j)))] [] h) : WA G (yL nm) code 4 ret room_1 600000 7302250 KL u q 1024 [some (.ref 5), some (.ref n), some (.ref m), some (.int (nI (7 * j)))] [] h := by
  obtain ⟨C0, hMA, hR⟩ := A
  obtain ⟨⟨hO, hn, hm⟩, hT, hI, ⟨Zr, hRd, z14, h14⟩, ⟨px, py, Zp, hPl⟩, hS, hOl, h5⟩ := id C0
  obtain ⟨c, VL, WT, BK, SG, GM, len, hq0⟩ := hR.1
  have hN : NT h n W c VL WT BK SG GM := ⟨hO, hT, hq0.1⟩
  have hp : MP S c VL WT BK SG GM := hq0.2.1
  have hM : MW h h m S := ⟨hMA, fun _ _ => rfl⟩
  refine A_aload_n1 d_L_law_1024 ?_
  refine A_aload_n0 d_L_law_1025 ?_
  refine A_iload_n3 d_L_law_1026 ?_
  refine A_iconst (v := nI 1) d_L_law_1027 (by decide) ?_
  first | refine A_iaddN d_L_law_1028 (by with_reducible rfl) (by with_reducible rfl) ?_ | refine A_iadd d_L_law_1028 ?_
  refine A_ialdN d_L_law_1029 h5 ⟨by omega, by omega⟩ ?_
  refine A_aload_n0 d_L_law_1030 ?_
  refine A_iload_n3 d_L_law_1031 ?_
  refine A_iconst (v := nI 2) d_L_law_1032 (by decide) ?_
  first | refine A_iaddN d_L_law_1033 (by with_reducible rfl) (by with_reducible rfl) ?_ | refine A_iadd d_L_law_1033 ?_
  refine A_ialdN d_L_law_1034 h5 ⟨by omega, by omega⟩ ?_
  refine A_aload_n0 d_L_law_1035 ?_
  refine A_iload_n3 d_L_law_1036 ?_
  refine A_iconst (v := nI 3) d_L_law_1037 (by decide) ?_
  first | refine A_iaddN d_L_law_1038 (by with_reducible rfl) (by with_reducible rfl) ?_ | refine A_iadd d_L_law_1038 ?_
  refine A_ialdN d_L_law_1039 h5 ⟨by omega, by omega⟩ ?_
  refine A_aload_n0 d_L_law_1040 ?_
  refine A_iload_n3 d_L_law_1041 ?_
  refine A_iconst (v := nI 4) d_L_law_1042 (by decide) ?_
  first | refine A_iaddN d_L_law_1043 (by with_reducible rfl) (by with_reducible rfl) ?_ | refine A_iadd d_L_law_1043 ?_
  refine A_ialdN d_L_law_1044 h5 ⟨by omega, by omega⟩ ?_
  refine A_callVP d_L_law_1045 (c_N_stolen hN _ _ _ _) hO rfl q_983 q_984 q_985 mk_N_stolen rfl (by decide) rfl (Nat.le_of_ble_eq_true rfl) ⟨show u + 0 ≤ 600000 by omega, show q + 0 ≤ 7302250 by omega⟩ ⟨rfl, rfl⟩ ?_
  refine A_aload_n2 d_L_law_1048 ?_
  refine A_aload_n0 d_L_law_1049 ?_
  refine A_iload_n3 d_L_law_1050 ?_
  refine A_iconst (v := nI 1) d_L_law_1051 (by decide) ?_
  first | refine A_iaddN d_L_law_1052 (by with_reducible rfl) (by with_reducible rfl) ?_ | refine A_iadd d_L_law_1052 ?_
  refine A_ialdN d_L_law_1053 h5 ⟨by omega, by omega⟩ ?_
  refine A_aload_n0 d_L_law_1054 ?_
  refine A_iload_n3 d_L_law_1055 ?_
  refine A_iconst (v := nI 2) d_L_law_1056 (by decide) ?_
  first | refine A_iaddN d_L_law_1057 (by with_reducible rfl) (by with_reducible rfl) ?_ | refine A_iadd d_L_law_1057 ?_
  refine A_ialdN d_L_law_1058 h5 ⟨by omega, by omega⟩ ?_
  refine A_aload_n0 d_L_law_1059 ?_
  refine A_iload_n3 d_L_law_1060 ?_
  refine A_iconst (v := nI 3) d_L_law_1061 (by decide) ?_
  first | refine A_iaddN d_L_law_1062 (by with_reducible rfl) (by with_reducible rfl) ?_ | refine A_iadd d_L_law_1062 ?_
  refine A_ialdN d_L_law_1063 h5 ⟨by omega, by omega⟩ ?_
  refine A_aload_n0 d_L_law_1064 ?_
  refine A_iload_n3 d_L_law_1065 ?_
  refine A_iconst (v := nI 4) d_L_law_1066 (by decide) ?_
  first | refine A_iaddN d_L_law_1067 (by with_reducible rfl) (by with_reducible rfl) ?_ | refine A_iadd d_L_law_1067 ?_
  refine A_ialdN d_L_law_1068 h5 ⟨by omega, by omega⟩ ?_
  refine A_callV0 d_L_law_1069 (c_M_stolen hM hp _ _ _ _) hM.o rfl q_1653 q_1654 q_1655 mk_M_stolen rfl (by decide) rfl (Nat.le_of_ble_eq_true rfl) ⟨show u + 0 ≤ 600000 by omega, show q + 0 ≤ 7302250 by omega⟩ ⟨rfl, rfl⟩ (fun v h1 hv => ?_)
  obtain ⟨rfl, S1, hM1, hk⟩ := hv
  refine A_icmp_eq (tgt := 1406) d_L_law_1072 (by decide) (fun c_1072 => ?_) (fun c => absurd rfl c)
  exact kk _ _ _ _ _ _ _ _ (LIv.tk C0 hR hM1 hk) (by omega) (by omega)
