theorem TdAt.pl2 {h h1 : AH} {t : Nat} {W : TD} (A : TdAt h t W) {i : Nat} (hi : i < 2) {D : LD} (hL : LAt h1 (t + 12 + 17 * i) D) (f : ∀ j, t ≤ j → j < t + 46 → (j < t + 12 + 17 * i ∨ t + 12 + 17 * i + 9 ≤ j) → h1 j = h j) : TdAt h1 t (W.1, W.2.1, fup W.2.2.1 i D, W.2.2.2) := by
  refine ⟨A.ge, (f _ (by omega) (by omega) (by omega)).trans A.o, (f _ (by omega) (by omega) (by omega)).trans A.tape, (f _ (by omega) (by omega) (by omega)).trans A.counts, (f _ (by omega) (by omega) (by omega)).trans A.lands, (f _ (by omega) (by omega) (by omega)).trans A.treaties, (f _ (by omega) (by omega) (by omega)).trans A.t0, (f _ (by omega) (by omega) (by omega)).trans A.t1, (f _ (by omega) (by omega) (by omega)).trans A.books, (f _ (by omega) (by omega) (by omega)).trans A.sights, (f _ (by omega) (by omega) (by omega)).trans A.games, (f _ (by omega) (by omega) (by omega)).trans A.g0, (f _ (by omega) (by omega) (by omega)).trans A.g1, fun j hj => ?_, fun j hj => (A.b j hj).kept (fun k h1 h2 => f k (by omega) (by omega) (by omega)), fun j hj => (A.s j hj).kept (fun k h1 h2 => f k (by omega) (by omega) (by omega))⟩
  by_cases e : j = i
  · subst e
    show LAt h1 _ (fup _ j D j)
    rw [fup_eq]
    exact hL
  · show LAt h1 _ (fup _ i D j)
    rw [fup_ne _ _ e]
    exact (A.l j hj).kept (fun k h1 h2 => f k (by omega) (by omega) (by omega))
/-- only what lands keep of their best rows has changed, and is right -/
def PLS (c : Nat → Nat) (VL : Nat → Nat → Nat) (W W1 : TD) : Prop := W1.1 = W.1 ∧ W1.2.1 = W.2.1 ∧ W1.2.2.2 = W.2.2.2 ∧ ∀ i, W1.2.2.1 i = W.2.2.1 i ∨ (i < c 0 ∧ (∀ k, k < 13 → (W1.2.2.1 i).1 k = (W.2.2.1 i).1 k) ∧ (∀ j, j < 17 → (W1.2.2.1 i).2 j = (W.2.2.1 i).2 j) ∧ (W1.2.2.1 i).1 13 = bI true ∧ PLq (W1.2.2.1 i) (VL i))
def BXP (h : AH) (n : Nat) (W : TD) (c : Nat → Nat) (VL : Nat → Nat → Nat) (r : Int32) : Option Value → AH → Prop := fun v h1 => v = some (.int r) ∧ ∃ W1 x1 y1 Z1, TdAt h1 (n + 1) W1 ∧ PlAt h1 (n + 72) x1 y1 Z1 ∧ PLS c VL W W1 ∧ ∀ i, (i < n + 1 ∨ n + 47 ≤ i) → (i < n + 72 ∨ n + 78 ≤ i) → h1 i = h i
theorem bxp0 {h : AH} {n : Nat} {W : TD} {c : Nat → Nat} {VL : Nat → Nat → Nat} {r v : Int32} {rx ry : Nat} {Z : PC} (hA : TdAt h (n + 1) W) (hP : PlAt h (n + 72) rx ry Z) (e : v = r) : BXP h n W c VL r (some (.int v)) h := by
  subst e
  exact ⟨rfl, W, rx, ry, Z, hA, hP, ⟨rfl, rfl, rfl, fun i => .inl rfl⟩, fun i _ _ => rfl⟩
set_option maxHeartbeats 4000000 in
set_option maxRecDepth 100000 in
theorem N_best112 {G : GE} {K : Option Value → AH → Prop} {h : AH} {n a : Nat} {la : Int32} {D : LD} (hA : LAt h a D) {V : Nat → Nat} (hV : LVr D V) (hq : PLq D V) {k : Nat} {b : Bool} (hk : ((k = 1 ∨ k = 2) ∧ b = false) ∨ ((10 ≤ k ∧ k < 10 + V 0) ∧ b = true)) (hK : ∀ v : Int32, v = bestQ V k → K (some (.int v)) h) : WA G y_N_best b_N_best 5 (some .int) r_N_best 0 0 K 0 0 112 [some (.ref n), some (.int la), some (.int (nI k)), some (.ref a), some (.int (bI b))] [] h := by
  have ok := hV.1
  have hH := ok.1.2
  have h4 := ok.1.1
  have hk3 : ¬ k = 3 := by omega
  have hk0 : ¬ k = 0 := by omega
  cases ho : allB false V (2 + 2 * V 1) with
  | none =>
    have hq1 : D.1 14 = nI 0 := hq.1.trans (by rw [ho]; rfl)
    refine A_aload_n3 d_N_best_112 ?_
    refine A_getf (kf := 14) d_N_best_113 hA.o ok_1 (by decide) q_93 rfl ?_
    refine A_topI hq1 ?_
    refine A_if_ne (tgt := 121) d_N_best_116 (by decide) (fun c => absurd rfl c) (fun c_116 => ?_)
    refine A_iconst (v := (-1)) d_N_best_119 (by decide) ?_
    refine A_iret d_N_best_120 rfl ⟨Nat.zero_le _, Nat.zero_le _⟩ ?_
    exact hK _ (bestQ_n hk3 hk0 ho).symm
  | some z =>
    have hz := allB_bd (few := false) ok (2 + 2 * V 1) z ho
    obtain ⟨y9, hy⟩ : ∃ y9 : Nat, z + 9999 = (y9 : Int) := ⟨(z + 9999).toNat, by omega⟩
    have hq1 : D.1 14 = nI 1 := hq.1.trans (by rw [ho]; rfl)
    rcases hk with ⟨hk, rfl⟩ | ⟨hk, rfl⟩
    · refine A_aload_n3 d_N_best_112 ?_
      refine A_getf (kf := 14) d_N_best_113 hA.o ok_1 (by decide) q_93 rfl ?_
      refine A_topI hq1 ?_
      refine A_if_ne (tgt := 121) d_N_best_116 (by decide) (fun c_116 => ?_) (fun c => absurd c (by decide))
      refine A_iload4 d_N_best_121 ?_
      refine A_if_eq (tgt := 136) d_N_best_123 (by decide) (fun c_123 => ?_) (fun c => absurd rfl c)
      refine A_iload_n2 d_N_best_136 ?_
      refine A_iconst (v := nI 1) d_N_best_137 (by decide) ?_
      first | refine A_icmp_neN (tgt := 148) d_N_best_138 (by decide) (by with_reducible rfl) (by with_reducible rfl) (by omega) (by omega) (fun c_138 => ?_) (fun c_138 => ?_) | refine A_icmp_ne (tgt := 148) d_N_best_138 (by decide) (fun c_138 => ?_) (fun c_138 => ?_)
      · refine A_aload_n3 d_N_best_148 ?_
        refine A_getf (kf := 16) d_N_best_149 hA.o ok_1 (by decide) q_99 rfl ?_
        refine A_iret d_N_best_152 rfl ⟨Nat.zero_le _, Nat.zero_le _⟩ ?_
        first
          | (have hk1 : k = 1 := by omega
             rw [(hq.2 z ho).1]
             exact hK _ (by rw [bestQ_s hk3 hk0 ho hy, if_pos hk1, show (z + 9999).toNat = y9 by omega]))
          | (have hk2 : k = 2 := by omega
             rw [(hq.2 z ho).2.1]
             exact hK _ (by rw [bestQ_s hk3 hk0 ho hy, if_neg (by omega), if_pos hk2, show (z + 9999).toNat = y9 by omega]))
      · refine A_aload_n3 d_N_best_141 ?_
        refine A_getf (kf := 15) d_N_best_142 hA.o ok_1 (by decide) q_96 rfl ?_
        refine A_goto (tgt := 152) d_N_best_145 (by decide) ?_
        refine A_iret d_N_best_152 rfl ⟨Nat.zero_le _, Nat.zero_le _⟩ ?_
        first
          | (have hk1 : k = 1 := by omega
             rw [(hq.2 z ho).1]
             exact hK _ (by rw [bestQ_s hk3 hk0 ho hy, if_pos hk1, show (z + 9999).toNat = y9 by omega]))
          | (have hk2 : k = 2 := by omega
             rw [(hq.2 z ho).2.1]
             exact hK _ (by rw [bestQ_s hk3 hk0 ho hy, if_neg (by omega), if_pos hk2, show (z + 9999).toNat = y9 by omega]))
    · refine A_aload_n3 d_N_best_112 ?_
      refine A_getf (kf := 14) d_N_best_113 hA.o ok_1 (by decide) q_93 rfl ?_
      refine A_topI hq1 ?_
      refine A_if_ne (tgt := 121) d_N_best_116 (by decide) (fun c_116 => ?_) (fun c => absurd c (by decide))
      refine A_iload4 d_N_best_121 ?_
      refine A_if_eq (tgt := 136) d_N_best_123 (by decide) (fun c => absurd c (by decide)) (fun c_123 => ?_)
      refine A_aload_n3 d_N_best_126 ?_
      refine A_getf (kf := 17) d_N_best_127 hA.o ok_1 (by decide) q_102 rfl ?_
      refine A_iload_n2 d_N_best_130 ?_
      refine A_bipush (v := nI 10) d_N_best_131 (by decide) ?_
      first | refine A_isubN d_N_best_133 (by with_reducible rfl) (by with_reducible rfl) (by omega) ?_ | refine A_isub d_N_best_133 ?_
      refine A_ialdN d_N_best_134 hA.a17 ⟨by omega, by decide⟩ ?_
      refine A_topI ((hq.2 z ho).2.2 (k - 10) (by omega)) ?_
      refine A_iret d_N_best_135 rfl ⟨Nat.zero_le _, Nat.zero_le _⟩ ?_
      exact hK _ (by rw [bestQ_s hk3 hk0 ho hy, if_neg (by omega), if_neg (by omega)])
set_option maxHeartbeats 4000000 in
set_option maxRecDepth 100000 in
theorem N_best97 {G : GE} {h : AH} {n : Nat} {W : TD} {c : Nat → Nat} {VL WT BK SG GM : Nat → Nat → Nat} (hN : NT h n W c VL WT BK SG GM) (hPL : ∀ i, i < c 0 → PLr (W.2.2.1 i) (VL i)) (hBL : BLz W) {rx ry : Nat} {Z : PC} (hPl : PlAt h (n + 72) rx ry Z) {la : Int32} {l : Nat} (hl : l < c 0) {k : Nat} {b : Bool} (hk : ((k = 1 ∨ k = 2) ∧ b = false) ∨ ((10 ≤ k ∧ k < 10 + VL l 0) ∧ b = true)) : WA G y_N_best b_N_best 5 (some .int) r_N_best 0 0 (BXP h n W c VL (bestQ (VL l) k)) 0 0 97 [some (.ref n), some (.int la), some (.int (nI k)), some (.ref (n + 1 + 12 + 17 * l)), some (.int (bI b))] [] h := by
  have hc0 := (hN.r.n 0 (by decide)).2
  have hA := hN.a.l l (by omega)
  have hV := hN.r.l l hl
  obtain ⟨z13, z14, hz13, hz14⟩ := hBL l (by omega)
  cases z13 with
  | true =>
    refine A_aload_n3 d_N_best_97 ?_
    refine A_getf (kf := 13) d_N_best_98 hA.o ok_1 (by decide) q_90 rfl ?_
    refine A_topI hz13 ?_
    refine A_if_neB (tgt := 112) d_N_best_101 (by decide) (fun c_101 => ?_) (fun c => absurd c (by decide))
    exact N_best112 hA hV (hPL l hl hz13) hk (fun v e => bxp0 hN.a hPl e)
  | false =>
    refine A_aload_n3 d_N_best_97 ?_
    refine A_getf (kf := 13) d_N_best_98 hA.o ok_1 (by decide) q_90 rfl ?_
    refine A_topI hz13 ?_
    refine A_if_neB (tgt := 112) d_N_best_101 (by decide) (fun c => absurd c (by decide)) (fun c_101 => ?_)
    refine A_aload_n0 d_N_best_104 ?_
    refine A_getf (kf := 3) d_N_best_105 hN.o ok_7 (by decide) q_371 rfl ?_
    refine A_aload_n3 d_N_best_108 ?_
    refine A_callV d_N_best_109 (c_Pl_plan hPl hA hV (by omega)) hPl.o rfl q_792 q_793 q_794 mk_Pl_plan rfl (by decide) rfl (Nat.le_of_ble_eq_true rfl) ⟨Nat.le_of_ble_eq_true rfl, Nat.le_of_ble_eq_true rfl⟩ ?_
    rintro _ h5 ⟨rfl, D1, x1, y1, Z1, hA5, hP5, hd1, hd2, e13, hq5, hfr⟩
    have hV5 : LVr D1 (VL l) := by
      obtain ⟨v1, ⟨f0, f1, f2, f3, f4, f9⟩, v3, v4, v5⟩ := hV
      exact ⟨v1, ⟨(hd1 0 (by decide)).trans f0, (hd1 1 (by decide)).trans f1, (hd1 2 (by decide)).trans f2, (hd1 3 (by decide)).trans f3, (hd1 4 (by decide)).trans f4, (hd1 9 (by decide)).trans f9⟩, fun p hp => by rw [hd2 5 (by decide), hd2 6 (by decide), hd2 7 (by decide), hd2 8 (by decide)]; exact v3 p hp, fun b hb => by rw [hd2 10 (by decide), hd2 11 (by decide)]; exact v4 b hb, fun x hx => by rw [hd2 12 (by decide)]; exact v5 x hx⟩
    refine N_best112 hA5 hV5 hq5 hk (fun v e => ⟨by rw [e], (W.1, W.2.1, fup W.2.2.1 l D1, W.2.2.2), x1, y1, Z1, ?_, hP5, ⟨rfl, rfl, rfl, fun i => ?_⟩, fun i h1 h2 => hfr i (by omega) h2⟩)
    · exact hN.a.pl2 (by omega) hA5 (fun j h1 h2 h3 => hfr j h3 (by omega))
    · by_cases e : i = l
      · refine .inr ⟨by omega, ?_⟩
        show (∀ k, k < 13 → (fup W.2.2.1 l D1 i).1 k = (W.2.2.1 i).1 k) ∧ (∀ j, j < 17 → (fup W.2.2.1 l D1 i).2 j = (W.2.2.1 i).2 j) ∧ (fup W.2.2.1 l D1 i).1 13 = bI true ∧ PLq (fup W.2.2.1 l D1 i) (VL i)
        rw [e, fup_eq]
        exact ⟨hd1, hd2, e13, hq5⟩
      · exact .inl (fup_ne _ _ e)
set_option maxHeartbeats 4000000 in
set_option maxRecDepth 100000 in
theorem c_N_best {G : GE} {h : AH} {n : Nat} {W : TD} {c : Nat → Nat} {VL WT BK SG GM : Nat → Nat → Nat} (hN : NT h n W c VL WT BK SG GM) (hPL : ∀ i, i < c 0 → PLr (W.2.2.1 i) (VL i)) (hBL : BLz W) {rx ry : Nat} {Z : PC} (hPl : PlAt h (n + 72) rx ry Z) (la x : Int32) : Ctr G y_N_best b_N_best 5 (some .int) r_N_best [.ref n, .int la, .int x] h (BXP h n W c VL (pick (c 0) la (fun l => bestV (VL l) x) (-1))) := by
  refine Ctr.of (by decide +kernel) (by simp) (Nat.le_of_ble_eq_true rfl) (L0 := [some (.ref n), some (.int la), some (.int x), none, none]) rfl ?_
  have hc0 := (hN.r.n 0 (by decide)).2
  rcases told_c (n := c 0) (by omega) la with ⟨l, hl, rfl⟩ | hno
  · rw [pick_in hl (by omega)]
    have hA := hN.a.l l (by omega)
    have hV := hN.r.l l hl
    have hV0 := hV
    obtain ⟨ok, ⟨f0, f1, f2, f3, f4, f9⟩, hP, hBe, hTo⟩ := hV
    have hH := ok.1
    have h4 := ok.2.2.2.2.1
    have h5 := ok.2.2.2.2.2.1
    rcases tsw (x := x) (lo := 0) (hi := 3) (by decide) with ⟨kk, rfl, -, hkb⟩ | ⟨hro, swo⟩
    · rcases (show kk = 0 ∨ kk = 1 ∨ kk = 2 ∨ kk = 3 by omega) with rfl | rfl | rfl | rfl
      · refine A_aload_n0 d_N_best_0 ?_
        refine A_iconst (v := nI 0) d_N_best_1 (by decide) ?_
        refine A_iload_n1 d_N_best_2 ?_
        refine A_callVP d_N_best_3 (c_N_isToldT hN (by decide) hl) hN.o rfl q_644 q_646 qs_2 mk_N_isTold rfl (by decide) rfl (Nat.le_of_ble_eq_true rfl) ⟨Nat.le_of_ble_eq_true rfl, Nat.le_of_ble_eq_true rfl⟩ ⟨rfl, rfl⟩ ?_
        refine A_if_neB (tgt := 11) d_N_best_6 (by decide) (fun c_6 => ?_) (fun c => absurd c (by decide))
        refine A_aload_n0 d_N_best_11 ?_
        refine A_getf (kf := 0) d_N_best_12 hN.o ok_7 (by decide) q_368 rfl ?_
        refine A_getf (kf := 5) d_N_best_15 hN.a.o ok_6 (by decide) q_203 rfl ?_
        refine A_iload_n1 d_N_best_18 ?_
        refine A_aaldN d_N_best_19 hN.a.lands rfl rfl ⟨by omega, by decide⟩ (show va_rf (two (n + 1 + 12) (n + 1 + 29) l) = .ref (n + 1 + 12 + 17 * l) by rw [two_at rfl (by omega)]; rfl) ?_
        refine A_astore3 d_N_best_20 trivial ?_
        refine A_iload_n2 d_N_best_21 ?_
        refine A_if_ne (tgt := 30) d_N_best_22 (by decide) (fun c => absurd rfl c) (fun c_22 => ?_)
        refine A_aload_n3 d_N_best_25 ?_
        refine A_callSP d_N_best_26 (c_N_fewest hA hV0) q_783 q_784 mk_N_fewest rfl (by decide) rfl (Nat.le_of_ble_eq_true rfl) ⟨Nat.le_of_ble_eq_true rfl, Nat.le_of_ble_eq_true rfl⟩ ⟨rfl, rfl⟩ ?_
        refine A_iret d_N_best_29 rfl ⟨Nat.zero_le _, Nat.zero_le _⟩ ?_
        exact bxp0 hN.a hPl (by unfold bestV; rw [rg_in ⟨by decide, by decide⟩ (by decide)])
      · refine A_aload_n0 d_N_best_0 ?_
        refine A_iconst (v := nI 0) d_N_best_1 (by decide) ?_
        refine A_iload_n1 d_N_best_2 ?_
        refine A_callVP d_N_best_3 (c_N_isToldT hN (by decide) hl) hN.o rfl q_644 q_646 qs_2 mk_N_isTold rfl (by decide) rfl (Nat.le_of_ble_eq_true rfl) ⟨Nat.le_of_ble_eq_true rfl, Nat.le_of_ble_eq_true rfl⟩ ⟨rfl, rfl⟩ ?_
        refine A_if_neB (tgt := 11) d_N_best_6 (by decide) (fun c_6 => ?_) (fun c => absurd c (by decide))
        refine A_aload_n0 d_N_best_11 ?_
        refine A_getf (kf := 0) d_N_best_12 hN.o ok_7 (by decide) q_368 rfl ?_
        refine A_getf (kf := 5) d_N_best_15 hN.a.o ok_6 (by decide) q_203 rfl ?_
        refine A_iload_n1 d_N_best_18 ?_
        refine A_aaldN d_N_best_19 hN.a.lands rfl rfl ⟨by omega, by decide⟩ (show va_rf (two (n + 1 + 12) (n + 1 + 29) l) = .ref (n + 1 + 12 + 17 * l) by rw [two_at rfl (by omega)]; rfl) ?_
        refine A_astore3 d_N_best_20 trivial ?_
        refine A_iload_n2 d_N_best_21 ?_
        refine A_if_ne (tgt := 30) d_N_best_22 (by decide) (fun c_22 => ?_) (fun c => absurd c (by decide))
        refine A_iload_n2 d_N_best_30 ?_
        refine A_iconst (v := nI 3) d_N_best_31 (by decide) ?_
        refine A_icmp_ne (tgt := 56) d_N_best_32 (by decide) (fun c_32 => ?_) (fun c => absurd c (by decide))
        refine A_iload_n2 d_N_best_56 ?_
        refine A_bipush (v := nI 10) d_N_best_57 (by decide) ?_
        refine A_icmp_lt (tgt := 77) d_N_best_59 (by decide) (fun c_59 => ?_) (fun c => absurd (by decide) c)
        refine A_iconst (v := nI 0) d_N_best_77 (by decide) ?_
        refine A_istore4 d_N_best_78 trivial ?_
        refine A_iload_n2 d_N_best_80 ?_
        refine A_iconst (v := nI 1) d_N_best_81 (by decide) ?_
        refine A_icmp_eq (tgt := 97) d_N_best_82 (by decide) (fun c_82 => ?_) (fun c => absurd rfl c)
        rw [show bestV (VL l) (nI 1) = bestQ (VL l) 1 by unfold bestV; rw [rg_in ⟨by decide, by decide⟩ (by decide)]]
        exact N_best97 hN hPL hBL hPl hl (b := false) (.inl ⟨by omega, rfl⟩)
      · refine A_aload_n0 d_N_best_0 ?_
        refine A_iconst (v := nI 0) d_N_best_1 (by decide) ?_
        refine A_iload_n1 d_N_best_2 ?_
        refine A_callVP d_N_best_3 (c_N_isToldT hN (by decide) hl) hN.o rfl q_644 q_646 qs_2 mk_N_isTold rfl (by decide) rfl (Nat.le_of_ble_eq_true rfl) ⟨Nat.le_of_ble_eq_true rfl, Nat.le_of_ble_eq_true rfl⟩ ⟨rfl, rfl⟩ ?_
        refine A_if_neB (tgt := 11) d_N_best_6 (by decide) (fun c_6 => ?_) (fun c => absurd c (by decide))
        refine A_aload_n0 d_N_best_11 ?_
        refine A_getf (kf := 0) d_N_best_12 hN.o ok_7 (by decide) q_368 rfl ?_
        refine A_getf (kf := 5) d_N_best_15 hN.a.o ok_6 (by decide) q_203 rfl ?_
        refine A_iload_n1 d_N_best_18 ?_
        refine A_aaldN d_N_best_19 hN.a.lands rfl rfl ⟨by omega, by decide⟩ (show va_rf (two (n + 1 + 12) (n + 1 + 29) l) = .ref (n + 1 + 12 + 17 * l) by rw [two_at rfl (by omega)]; rfl) ?_
        refine A_astore3 d_N_best_20 trivial ?_
        refine A_iload_n2 d_N_best_21 ?_
        refine A_if_ne (tgt := 30) d_N_best_22 (by decide) (fun c_22 => ?_) (fun c => absurd c (by decide))
        refine A_iload_n2 d_N_best_30 ?_
        refine A_iconst (v := nI 3) d_N_best_31 (by decide) ?_
        refine A_icmp_ne (tgt := 56) d_N_best_32 (by decide) (fun c_32 => ?_) (fun c => absurd c (by decide))
        refine A_iload_n2 d_N_best_56 ?_
        refine A_bipush (v := nI 10) d_N_best_57 (by decide) ?_
        refine A_icmp_lt (tgt := 77) d_N_best_59 (by decide) (fun c_59 => ?_) (fun c => absurd (by decide) c)
        refine A_iconst (v := nI 0) d_N_best_77 (by decide) ?_
        refine A_istore4 d_N_best_78 trivial ?_
        refine A_iload_n2 d_N_best_80 ?_
        refine A_iconst (v := nI 1) d_N_best_81 (by decide) ?_
        refine A_icmp_eq (tgt := 97) d_N_best_82 (by decide) (fun c => absurd c (by decide)) (fun c_82 => ?_)
        refine A_iload_n2 d_N_best_85 ?_
        refine A_iconst (v := nI 2) d_N_best_86 (by decide) ?_
        refine A_icmp_eq (tgt := 97) d_N_best_87 (by decide) (fun c_87 => ?_) (fun c => absurd rfl c)
        rw [show bestV (VL l) (nI 2) = bestQ (VL l) 2 by unfold bestV; rw [rg_in ⟨by decide, by decide⟩ (by decide)]]
        exact N_best97 hN hPL hBL hPl hl (b := false) (.inl ⟨by omega, rfl⟩)
      · refine A_aload_n0 d_N_best_0 ?_
        refine A_iconst (v := nI 0) d_N_best_1 (by decide) ?_
        refine A_iload_n1 d_N_best_2 ?_
        refine A_callVP d_N_best_3 (c_N_isToldT hN (by decide) hl) hN.o rfl q_644 q_646 qs_2 mk_N_isTold rfl (by decide) rfl (Nat.le_of_ble_eq_true rfl) ⟨Nat.le_of_ble_eq_true rfl, Nat.le_of_ble_eq_true rfl⟩ ⟨rfl, rfl⟩ ?_
        refine A_if_neB (tgt := 11) d_N_best_6 (by decide) (fun c_6 => ?_) (fun c => absurd c (by decide))
        refine A_aload_n0 d_N_best_11 ?_
        refine A_getf (kf := 0) d_N_best_12 hN.o ok_7 (by decide) q_368 rfl ?_
        refine A_getf (kf := 5) d_N_best_15 hN.a.o ok_6 (by decide) q_203 rfl ?_
        refine A_iload_n1 d_N_best_18 ?_
        refine A_aaldN d_N_best_19 hN.a.lands rfl rfl ⟨by omega, by decide⟩ (show va_rf (two (n + 1 + 12) (n + 1 + 29) l) = .ref (n + 1 + 12 + 17 * l) by rw [two_at rfl (by omega)]; rfl) ?_
        refine A_astore3 d_N_best_20 trivial ?_
        refine A_iload_n2 d_N_best_21 ?_
        refine A_if_ne (tgt := 30) d_N_best_22 (by decide) (fun c_22 => ?_) (fun c => absurd c (by decide))
        refine A_iload_n2 d_N_best_30 ?_
        refine A_iconst (v := nI 3) d_N_best_31 (by decide) ?_
        refine A_icmp_ne (tgt := 56) d_N_best_32 (by decide) (fun c => absurd rfl c) (fun c_32 => ?_)
        refine A_iconst (v := nI 0) d_N_best_35 (by decide) ?_
        refine A_aload_n3 d_N_best_36 ?_
        refine A_iconst (v := nI 0) d_N_best_37 (by decide) ?_
        refine A_callVP d_N_best_38 (c_Ld_greatestNeed hA hV0 0 (by decide)) hA.o rfl q_786 q_787 q_788 mk_Ld_greatestNeed rfl (by decide) rfl (Nat.le_of_ble_eq_true rfl) ⟨Nat.le_of_ble_eq_true rfl, Nat.le_of_ble_eq_true rfl⟩ ⟨rfl, rfl⟩ ?_
        refine A_aload_n3 d_N_best_41 ?_
        refine A_iconst (v := nI 1) d_N_best_42 (by decide) ?_
        refine A_callVP d_N_best_43 (c_Ld_greatestNeed hA hV0 1 (by decide)) hA.o rfl q_786 q_787 q_788 mk_Ld_greatestNeed rfl (by decide) rfl (Nat.le_of_ble_eq_true rfl) ⟨Nat.le_of_ble_eq_true rfl, Nat.le_of_ble_eq_true rfl⟩ ⟨rfl, rfl⟩ ?_
        first | refine A_iaddN d_N_best_46 (by with_reducible rfl) (by with_reducible rfl) ?_ | refine A_iadd d_N_best_46 ?_
        refine A_aload_n3 d_N_best_47 ?_
        refine A_getf (kf := 0) d_N_best_48 hA.o ok_1 (by decide) q_49 rfl ?_
        refine A_topI f0 ?_
        first | refine A_isubN d_N_best_51 (by with_reducible rfl) (by with_reducible rfl) (by omega) ?_ | refine A_isub d_N_best_51 ?_
        refine A_callSP d_N_best_52 (c_JM_max_0 _ _ _) q_791 q_580 mk_JM_max_0 rfl (by decide) rfl (Nat.le_of_ble_eq_true rfl) ⟨Nat.le_of_ble_eq_true rfl, Nat.le_of_ble_eq_true rfl⟩ ⟨rfl, rfl⟩ ?_
        refine A_iret d_N_best_55 rfl ⟨Nat.zero_le _, Nat.zero_le _⟩ ?_
        exact bxp0 hN.a hPl (by unfold bestV; rw [rg_in ⟨by decide, by decide⟩ (by decide)]; rw [bestQ_3]; exact (max0J _).trans (gr0 (by have := needN_le ok 0; have := needN_le ok 1; omega) (by omega)))
    · by_cases hx : x < 0
      · refine A_aload_n0 d_N_best_0 ?_
        refine A_iconst (v := nI 0) d_N_best_1 (by decide) ?_
        refine A_iload_n1 d_N_best_2 ?_
        refine A_callVP d_N_best_3 (c_N_isToldT hN (by decide) hl) hN.o rfl q_644 q_646 qs_2 mk_N_isTold rfl (by decide) rfl (Nat.le_of_ble_eq_true rfl) ⟨Nat.le_of_ble_eq_true rfl, Nat.le_of_ble_eq_true rfl⟩ ⟨rfl, rfl⟩ ?_
        refine A_if_neB (tgt := 11) d_N_best_6 (by decide) (fun c_6 => ?_) (fun c => absurd c (by decide))
        refine A_aload_n0 d_N_best_11 ?_
        refine A_getf (kf := 0) d_N_best_12 hN.o ok_7 (by decide) q_368 rfl ?_
        refine A_getf (kf := 5) d_N_best_15 hN.a.o ok_6 (by decide) q_203 rfl ?_
        refine A_iload_n1 d_N_best_18 ?_
        refine A_aaldN d_N_best_19 hN.a.lands rfl rfl ⟨by omega, by decide⟩ (show va_rf (two (n + 1 + 12) (n + 1 + 29) l) = .ref (n + 1 + 12 + 17 * l) by rw [two_at rfl (by omega)]; rfl) ?_
        refine A_astore3 d_N_best_20 trivial ?_
        refine A_iload_n2 d_N_best_21 ?_
        refine A_if_ne (tgt := 30) d_N_best_22 (by decide) (fun c_22 => ?_) (fun c => absurd hx (by rw [c]; decide))
        refine A_iload_n2 d_N_best_30 ?_
        refine A_iconst (v := nI 3) d_N_best_31 (by decide) ?_
        refine A_icmp_ne (tgt := 56) d_N_best_32 (by decide) (fun c_32 => ?_) (fun c => absurd hx (by rw [c]; decide))
        refine A_iload_n2 d_N_best_56 ?_
        refine A_bipush (v := nI 10) d_N_best_57 (by decide) ?_
        refine A_icmp_lt (tgt := 77) d_N_best_59 (by decide) (fun c_59 => ?_) (fun c => absurd (neg_lt hx (by decide)) c)
        refine A_iconst (v := nI 0) d_N_best_77 (by decide) ?_
        refine A_istore4 d_N_best_78 trivial ?_
        refine A_iload_n2 d_N_best_80 ?_
        refine A_iconst (v := nI 1) d_N_best_81 (by decide) ?_
        refine A_icmp_eq (tgt := 97) d_N_best_82 (by decide) (fun c => absurd hx (by rw [c]; decide)) (fun c_82 => ?_)
        refine A_iload_n2 d_N_best_85 ?_
        refine A_iconst (v := nI 2) d_N_best_86 (by decide) ?_
        refine A_icmp_eq (tgt := 97) d_N_best_87 (by decide) (fun c => absurd hx (by rw [c]; decide)) (fun c_87 => ?_)
        refine A_iload4 d_N_best_90 ?_
        refine A_if_ne (tgt := 97) d_N_best_92 (by decide) (fun c => absurd rfl c) (fun c_92 => ?_)
        refine A_iconst (v := (-1)) d_N_best_95 (by decide) ?_
        refine A_iret d_N_best_96 rfl ⟨Nat.zero_le _, Nat.zero_le _⟩ ?_
        exact bxp0 hN.a hPl (by unfold bestV; rw [rg_neg hx (by decide), rg_neg hx (by decide)])
      · obtain ⟨j, hj, rfl⟩ := nI_of hx
        have hj3 : 3 < j := by
          rw [inB_N hj (by decide) (by decide)] at hro
          by_cases q : j ≤ 3
          · rw [decide_eq_true q, decide_eq_true (Nat.zero_le j)] at hro
            exact absurd hro (by decide)
          · omega
        by_cases hr : 10 ≤ j ∧ j < 10 + VL l 0
        · refine A_aload_n0 d_N_best_0 ?_
          refine A_iconst (v := nI 0) d_N_best_1 (by decide) ?_
          refine A_iload_n1 d_N_best_2 ?_
          refine A_callVP d_N_best_3 (c_N_isToldT hN (by decide) hl) hN.o rfl q_644 q_646 qs_2 mk_N_isTold rfl (by decide) rfl (Nat.le_of_ble_eq_true rfl) ⟨Nat.le_of_ble_eq_true rfl, Nat.le_of_ble_eq_true rfl⟩ ⟨rfl, rfl⟩ ?_
          refine A_if_neB (tgt := 11) d_N_best_6 (by decide) (fun c_6 => ?_) (fun c => absurd c (by decide))
          refine A_aload_n0 d_N_best_11 ?_
          refine A_getf (kf := 0) d_N_best_12 hN.o ok_7 (by decide) q_368 rfl ?_
          refine A_getf (kf := 5) d_N_best_15 hN.a.o ok_6 (by decide) q_203 rfl ?_
          refine A_iload_n1 d_N_best_18 ?_
          refine A_aaldN d_N_best_19 hN.a.lands rfl rfl ⟨by omega, by decide⟩ (show va_rf (two (n + 1 + 12) (n + 1 + 29) l) = .ref (n + 1 + 12 + 17 * l) by rw [two_at rfl (by omega)]; rfl) ?_
          refine A_astore3 d_N_best_20 trivial ?_
          refine A_iload_n2 d_N_best_21 ?_
          refine A_if_ne (tgt := 30) d_N_best_22 (by decide) (fun c_22 => ?_) (fun c => absurd ((nI_eq (b := 0) hj (by decide)).mp c) (by omega))
          refine A_iload_n2 d_N_best_30 ?_
          refine A_iconst (v := nI 3) d_N_best_31 (by decide) ?_
          refine A_icmp_ne (tgt := 56) d_N_best_32 (by decide) (fun c_32 => ?_) (fun c => absurd ((nI_eq hj (by decide)).mp c) (by omega))
          refine A_iload_n2 d_N_best_56 ?_
          refine A_bipush (v := nI 10) d_N_best_57 (by decide) ?_
          refine A_icmp_lt (tgt := 77) d_N_best_59 (by decide) (fun c => absurd ((nI_ltI hj (by decide)).mp c) (by omega)) (fun c_59 => ?_)
          refine A_iload_n2 d_N_best_62 ?_
          refine A_bipush (v := nI 10) d_N_best_63 (by decide) ?_
          refine A_aload_n3 d_N_best_65 ?_
          refine A_getf (kf := 0) d_N_best_66 hA.o ok_1 (by decide) q_49 rfl ?_
          refine A_topI f0 ?_
          first | refine A_iaddN d_N_best_69 (by with_reducible rfl) (by with_reducible rfl) ?_ | refine A_iadd d_N_best_69 ?_
          refine A_icmp_ge (tgt := 77) d_N_best_70 (by decide) (fun c => absurd ((nI_leI (by omega) hj).mp c) (by omega)) (fun c_70 => ?_)
          refine A_iconst (v := nI 1) d_N_best_73 (by decide) ?_
          refine A_goto (tgt := 78) d_N_best_74 (by decide) ?_
          refine A_istore4 d_N_best_78 trivial ?_
          refine A_iload_n2 d_N_best_80 ?_
          refine A_iconst (v := nI 1) d_N_best_81 (by decide) ?_
          refine A_icmp_eq (tgt := 97) d_N_best_82 (by decide) (fun c => absurd ((nI_eq hj (by decide)).mp c) (by omega)) (fun c_82 => ?_)
          refine A_iload_n2 d_N_best_85 ?_
          refine A_iconst (v := nI 2) d_N_best_86 (by decide) ?_
          refine A_icmp_eq (tgt := 97) d_N_best_87 (by decide) (fun c => absurd ((nI_eq hj (by decide)).mp c) (by omega)) (fun c_87 => ?_)
          refine A_iload4 d_N_best_90 ?_
          refine A_if_ne (tgt := 97) d_N_best_92 (by decide) (fun c_92 => ?_) (fun c => absurd c (by decide))
          rw [show bestV (VL l) (nI j) = bestQ (VL l) j by
            unfold bestV
            rw [rg_out hro, rgN hj (by decide) (by omega), if_pos (by omega)]]
          exact N_best97 hN hPL hBL hPl hl (b := true) (.inr ⟨hr, rfl⟩)
        · by_cases hr2 : j < 10
          · refine A_aload_n0 d_N_best_0 ?_
            refine A_iconst (v := nI 0) d_N_best_1 (by decide) ?_
            refine A_iload_n1 d_N_best_2 ?_
            refine A_callVP d_N_best_3 (c_N_isToldT hN (by decide) hl) hN.o rfl q_644 q_646 qs_2 mk_N_isTold rfl (by decide) rfl (Nat.le_of_ble_eq_true rfl) ⟨Nat.le_of_ble_eq_true rfl, Nat.le_of_ble_eq_true rfl⟩ ⟨rfl, rfl⟩ ?_
            refine A_if_neB (tgt := 11) d_N_best_6 (by decide) (fun c_6 => ?_) (fun c => absurd c (by decide))
            refine A_aload_n0 d_N_best_11 ?_
            refine A_getf (kf := 0) d_N_best_12 hN.o ok_7 (by decide) q_368 rfl ?_
            refine A_getf (kf := 5) d_N_best_15 hN.a.o ok_6 (by decide) q_203 rfl ?_
            refine A_iload_n1 d_N_best_18 ?_
            refine A_aaldN d_N_best_19 hN.a.lands rfl rfl ⟨by omega, by decide⟩ (show va_rf (two (n + 1 + 12) (n + 1 + 29) l) = .ref (n + 1 + 12 + 17 * l) by rw [two_at rfl (by omega)]; rfl) ?_
            refine A_astore3 d_N_best_20 trivial ?_
            refine A_iload_n2 d_N_best_21 ?_
            refine A_if_ne (tgt := 30) d_N_best_22 (by decide) (fun c_22 => ?_) (fun c => absurd ((nI_eq (b := 0) hj (by decide)).mp c) (by omega))
            refine A_iload_n2 d_N_best_30 ?_
            refine A_iconst (v := nI 3) d_N_best_31 (by decide) ?_
            refine A_icmp_ne (tgt := 56) d_N_best_32 (by decide) (fun c_32 => ?_) (fun c => absurd ((nI_eq hj (by decide)).mp c) (by omega))
            refine A_iload_n2 d_N_best_56 ?_
            refine A_bipush (v := nI 10) d_N_best_57 (by decide) ?_
            refine A_icmp_lt (tgt := 77) d_N_best_59 (by decide) (fun c_59 => ?_) (fun c => absurd ((nI_ltI hj (by decide)).mpr hr2) c)
            refine A_iconst (v := nI 0) d_N_best_77 (by decide) ?_
            refine A_istore4 d_N_best_78 trivial ?_
            refine A_iload_n2 d_N_best_80 ?_
            refine A_iconst (v := nI 1) d_N_best_81 (by decide) ?_
            refine A_icmp_eq (tgt := 97) d_N_best_82 (by decide) (fun c => absurd ((nI_eq hj (by decide)).mp c) (by omega)) (fun c_82 => ?_)
            refine A_iload_n2 d_N_best_85 ?_
            refine A_iconst (v := nI 2) d_N_best_86 (by decide) ?_
            refine A_icmp_eq (tgt := 97) d_N_best_87 (by decide) (fun c => absurd ((nI_eq hj (by decide)).mp c) (by omega)) (fun c_87 => ?_)
            refine A_iload4 d_N_best_90 ?_
            refine A_if_ne (tgt := 97) d_N_best_92 (by decide) (fun c => absurd rfl c) (fun c_92 => ?_)
            refine A_iconst (v := (-1)) d_N_best_95 (by decide) ?_
            refine A_iret d_N_best_96 rfl ⟨Nat.zero_le _, Nat.zero_le _⟩ ?_
            exact bxp0 hN.a hPl (by unfold bestV; rw [rg_out hro, rgN hj (by decide) (by omega), if_neg (by omega)])
          · refine A_aload_n0 d_N_best_0 ?_
            refine A_iconst (v := nI 0) d_N_best_1 (by decide) ?_
            refine A_iload_n1 d_N_best_2 ?_
            refine A_callVP d_N_best_3 (c_N_isToldT hN (by decide) hl) hN.o rfl q_644 q_646 qs_2 mk_N_isTold rfl (by decide) rfl (Nat.le_of_ble_eq_true rfl) ⟨Nat.le_of_ble_eq_true rfl, Nat.le_of_ble_eq_true rfl⟩ ⟨rfl, rfl⟩ ?_
            refine A_if_neB (tgt := 11) d_N_best_6 (by decide) (fun c_6 => ?_) (fun c => absurd c (by decide))
            refine A_aload_n0 d_N_best_11 ?_
            refine A_getf (kf := 0) d_N_best_12 hN.o ok_7 (by decide) q_368 rfl ?_
            refine A_getf (kf := 5) d_N_best_15 hN.a.o ok_6 (by decide) q_203 rfl ?_
            refine A_iload_n1 d_N_best_18 ?_
            refine A_aaldN d_N_best_19 hN.a.lands rfl rfl ⟨by omega, by decide⟩ (show va_rf (two (n + 1 + 12) (n + 1 + 29) l) = .ref (n + 1 + 12 + 17 * l) by rw [two_at rfl (by omega)]; rfl) ?_
            refine A_astore3 d_N_best_20 trivial ?_
            refine A_iload_n2 d_N_best_21 ?_
            refine A_if_ne (tgt := 30) d_N_best_22 (by decide) (fun c_22 => ?_) (fun c => absurd ((nI_eq (b := 0) hj (by decide)).mp c) (by omega))
            refine A_iload_n2 d_N_best_30 ?_
            refine A_iconst (v := nI 3) d_N_best_31 (by decide) ?_
            refine A_icmp_ne (tgt := 56) d_N_best_32 (by decide) (fun c_32 => ?_) (fun c => absurd ((nI_eq hj (by decide)).mp c) (by omega))
            refine A_iload_n2 d_N_best_56 ?_
            refine A_bipush (v := nI 10) d_N_best_57 (by decide) ?_
            refine A_icmp_lt (tgt := 77) d_N_best_59 (by decide) (fun c => absurd ((nI_ltI hj (by decide)).mp c) (by omega)) (fun c_59 => ?_)
            refine A_iload_n2 d_N_best_62 ?_
            refine A_bipush (v := nI 10) d_N_best_63 (by decide) ?_
            refine A_aload_n3 d_N_best_65 ?_
            refine A_getf (kf := 0) d_N_best_66 hA.o ok_1 (by decide) q_49 rfl ?_
            refine A_topI f0 ?_
            first | refine A_iaddN d_N_best_69 (by with_reducible rfl) (by with_reducible rfl) ?_ | refine A_iadd d_N_best_69 ?_
            refine A_icmp_ge (tgt := 77) d_N_best_70 (by decide) (fun c_70 => ?_) (fun c => absurd ((nI_leI (by omega) hj).mpr (by omega)) c)
            refine A_iconst (v := nI 0) d_N_best_77 (by decide) ?_
            refine A_istore4 d_N_best_78 trivial ?_
            refine A_iload_n2 d_N_best_80 ?_
            refine A_iconst (v := nI 1) d_N_best_81 (by decide) ?_
            refine A_icmp_eq (tgt := 97) d_N_best_82 (by decide) (fun c => absurd ((nI_eq hj (by decide)).mp c) (by omega)) (fun c_82 => ?_)
            refine A_iload_n2 d_N_best_85 ?_
            refine A_iconst (v := nI 2) d_N_best_86 (by decide) ?_
            refine A_icmp_eq (tgt := 97) d_N_best_87 (by decide) (fun c => absurd ((nI_eq hj (by decide)).mp c) (by omega)) (fun c_87 => ?_)
            refine A_iload4 d_N_best_90 ?_
            refine A_if_ne (tgt := 97) d_N_best_92 (by decide) (fun c => absurd rfl c) (fun c_92 => ?_)
            refine A_iconst (v := (-1)) d_N_best_95 (by decide) ?_
            refine A_iret d_N_best_96 rfl ⟨Nat.zero_le _, Nat.zero_le _⟩ ?_
            exact bxp0 hN.a hPl (by unfold bestV; rw [rg_out hro, rgN hj (by decide) (by omega), if_neg (by omega)])
  · rw [pick_out hno]
    refine A_aload_n0 d_N_best_0 ?_
    refine A_iconst (v := nI 0) d_N_best_1 (by decide) ?_
    refine A_iload_n1 d_N_best_2 ?_
    refine A_callVP d_N_best_3 (c_N_isToldF hN (by decide) hno) hN.o rfl q_644 q_646 qs_2 mk_N_isTold rfl (by decide) rfl (Nat.le_of_ble_eq_true rfl) ⟨Nat.le_of_ble_eq_true rfl, Nat.le_of_ble_eq_true rfl⟩ ⟨rfl, rfl⟩ ?_
    refine A_if_neB (tgt := 11) d_N_best_6 (by decide) (fun c => absurd c (by decide)) (fun c_6 => ?_)
    refine A_iconst (v := (-1)) d_N_best_9 (by decide) ?_
    refine A_iret d_N_best_10 rfl ⟨Nat.zero_le _, Nat.zero_le _⟩ ?_
    exact bxp0 hN.a hPl rfl
