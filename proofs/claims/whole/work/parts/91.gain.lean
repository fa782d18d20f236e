theorem LAt.hs {h : AH} {a q : Nat} {D : LD} {e : va_E} (A : LAt h a D) (hq : q < a ∨ a + 9 ≤ q) : LAt (hset h q e) a D := A.kept (fun i _ _ => hset_ne (by omega))
theorem TAt.hs {h : AH} {w q : Nat} {t : Nat → Nat} {e : va_E} (T : TAt h w t) (hq : w ≠ q) : TAt (hset h q e) w t := by
  obtain ⟨g, hg, ht⟩ := T
  exact ⟨g, by rw [hset_ne hq]; exact hg, ht⟩
theorem TdAt.kept {h h1 : AH} {t : Nat} {W : TD} (A : TdAt h t W) (f : ∀ i, t ≤ i → i < t + 46 → h1 i = h i) : TdAt h1 t W := by
  refine ⟨A.ge, ?_, ?_, ?_, ?_, ?_, ?_, ?_, ?_, ?_, ?_, ?_, ?_, fun i hi => ?_, fun i hi => ?_, fun i hi => ?_⟩
  · rw [f _ (by omega) (by omega)]; exact A.o
  · rw [f _ (by omega) (by omega)]; exact A.tape
  · rw [f _ (by omega) (by omega)]; exact A.counts
  · rw [f _ (by omega) (by omega)]; exact A.lands
  · rw [f _ (by omega) (by omega)]; exact A.treaties
  · rw [f _ (by omega) (by omega)]; exact A.t0
  · rw [f _ (by omega) (by omega)]; exact A.t1
  · rw [f _ (by omega) (by omega)]; exact A.books
  · rw [f _ (by omega) (by omega)]; exact A.sights
  · rw [f _ (by omega) (by omega)]; exact A.games
  · rw [f _ (by omega) (by omega)]; exact A.g0
  · rw [f _ (by omega) (by omega)]; exact A.g1
  · exact (A.l i hi).kept (fun j _ _ => f j (by omega) (by omega))
  · exact (A.b i hi).kept (fun j _ _ => f j (by omega) (by omega))
  · exact (A.s i hi).kept (fun j _ _ => f j (by omega) (by omega))
theorem NT.kept {h h1 : AH} {n : Nat} {W : TD} {c : Nat → Nat} {VL WT BK SG GM : Nat → Nat → Nat} (H : NT h n W c VL WT BK SG GM) (f : ∀ i, n ≤ i → i < n + 47 → h1 i = h i) : NT h1 n W c VL WT BK SG GM :=
  ⟨by rw [f n (by omega) (by omega)]; exact H.o, H.a.kept (fun i a b => f i (by omega) (by omega)), H.r⟩
theorem NT.hs {h : AH} {n q : Nat} {W : TD} {c : Nat → Nat} {VL WT BK SG GM : Nat → Nat → Nat} {e : va_E} (H : NT h n W c VL WT BK SG GM) (hq : n + 47 ≤ q) : NT (hset h q e) n W c VL WT BK SG GM := H.kept (fun i _ _ => hset_ne (by omega))
/-- what each likes of the dark hours, weighed -/
def LKd (n : Nat) (V t : Nat → Nat) (h : AH) : Prop := ∃ f, h (n + 78) = some (.inl (0, 20, .inl f)) ∧ ∀ p, p < V 4 → f (2 * p) = nI (lkdN V t p 0) ∧ f (2 * p + 1) = nI (lkdN V t p 1)
def LKq (V t : Nat → Nat) (f : Nat → Int32) (i : Nat) : Prop := ∀ p, p < i → f (2 * p) = nI (lkdN V t p 0) ∧ f (2 * p + 1) = nI (lkdN V t p 1)
theorem LKq.step {V t : Nat → Nat} {f : Nat → Int32} {i : Nat} (k : LKq V t f i) : LKq V t (fup (fup f (2 * i) (nI (lkdN V t i 0))) (2 * i + 1) (nI (lkdN V t i 1))) (i + 1) := fun p hp => by
  by_cases z : p = i
  · subst z
    exact ⟨by rw [fup_ne _ _ (by omega), fup_eq], fup_eq _ _ _⟩
  · rw [fup_ne _ _ (by omega), fup_ne _ _ (by omega), fup_ne _ _ (by omega), fup_ne _ _ (by omega)]
    exact k p (by omega)
set_option maxHeartbeats 4000000 in
set_option maxRecDepth 100000 in
theorem c_N_weighDark {G : GE} {h : AH} {n a : Nat} (hO : h n = some (.inr (7, nfs n))) (hn : 1000 ≤ n) {D : LD} (hA : LAt h a D) {V : Nat → Nat} (hV : LVr D V) (ha : a + 9 ≤ n + 78) {w : Nat} {t : Nat → Nat} (hT : TAt h w t) (hw : w < n + 78) {f0' : Nat → Int32} (hL : h (n + 78) = some (.inl (0, 20, .inl f0')))  : Ctr G y_N_weighDark b_N_weighDark 4 none r_N_weighDark [.ref n, .ref a, .ref w] h (fun v h1 => v = none ∧ ∃ f, h1 = (hset h (n + 78) (.inl (0, 20, .inl f))) ∧ LKq V t f (V 4)) := by
  refine Ctr.of (by decide +kernel) (by simp) (Nat.le_of_ble_eq_true rfl) (L0 := [some (.ref n), some (.ref a), some (.ref w), none]) rfl ?_
  have hV0 := hV
  obtain ⟨ok, ⟨f0, f1, f2, f3, f4, f9⟩, hP, hBe, hTo⟩ := hV
  have hH := ok.1
  have h4 := ok.2.2.2.2.1
  have key : ∀ i, i ≤ V 4 → ∀ f, LKq V t f i → WA G y_N_weighDark b_N_weighDark 4 none r_N_weighDark 0 0 (fun v h1 => v = none ∧ ∃ f, h1 = (hset h (n + 78) (.inl (0, 20, .inl f))) ∧ LKq V t f (V 4)) 0 0 2 [some (.ref n), some (.ref a), some (.ref w), some (.int (nI i))] [] (hset h (n + 78) (.inl (0, 20, .inl f))) := by
    refine down ?_ (fun i hi ih => ?_)
    · intro f hk
      refine A_iload_n3 d_N_weighDark_2 ?_
      refine A_aload_n1 d_N_weighDark_3 ?_
      refine A_getf (kf := 4) d_N_weighDark_4 (hA.hs (by omega)).o ok_1 (by decide) q_62 rfl ?_
      refine A_topI f4 ?_
      first | refine A_icmp_geN (tgt := 48) d_N_weighDark_7 (by decide) (by with_reducible rfl) (by with_reducible rfl) (by omega) (by omega) (fun c_7 => ?_) (fun c_7 => ?_) | refine A_icmp_ge (tgt := 48) d_N_weighDark_7 (by decide) (fun c_7 => ?_) (fun c_7 => ?_)
      · refine A_vret d_N_weighDark_48 rfl ⟨Nat.zero_le _, Nat.zero_le _⟩ ?_
        exact ⟨rfl, f, rfl, hk⟩
      · exact absurd c_7 (by omega)
    · intro f hk
      refine A_iload_n3 d_N_weighDark_2 ?_
      refine A_aload_n1 d_N_weighDark_3 ?_
      refine A_getf (kf := 4) d_N_weighDark_4 (hA.hs (by omega)).o ok_1 (by decide) q_62 rfl ?_
      refine A_topI f4 ?_
      first | refine A_icmp_geN (tgt := 48) d_N_weighDark_7 (by decide) (by with_reducible rfl) (by with_reducible rfl) (by omega) (by omega) (fun c_7 => ?_) (fun c_7 => ?_) | refine A_icmp_ge (tgt := 48) d_N_weighDark_7 (by decide) (fun c_7 => ?_) (fun c_7 => ?_)
      · exact absurd c_7 (by omega)
      · refine A_aload_n0 d_N_weighDark_10 ?_
        refine A_getf (kf := 4) d_N_weighDark_11 ((hset_ne (by omega)).trans hO) ok_7 (by decide) q_372 rfl ?_
        refine A_iconst (v := nI 2) d_N_weighDark_14 (by decide) ?_
        refine A_iload_n3 d_N_weighDark_15 ?_
        first | refine A_imulN d_N_weighDark_16 (by with_reducible rfl) (by with_reducible rfl) ?_ | refine A_imul d_N_weighDark_16 ?_
        refine A_aload_n1 d_N_weighDark_17 ?_
        refine A_iload_n3 d_N_weighDark_18 ?_
        refine A_aload_n2 d_N_weighDark_19 ?_
        refine A_iconst (v := nI 0) d_N_weighDark_20 (by decide) ?_
        refine A_callVP d_N_weighDark_21 (c_Ld_likedDark (hA.hs (by omega)) hV0 (hT.hs (by omega)) i 0 hi (by decide)) (hA.hs (by omega)).o rfl q_913 q_715 q_716 mk_Ld_likedDark rfl (by decide) rfl (Nat.le_of_ble_eq_true rfl) ⟨Nat.le_of_ble_eq_true rfl, Nat.le_of_ble_eq_true rfl⟩ ⟨rfl, rfl⟩ ?_
        refine A_iastN d_N_weighDark_24 (hset_eq _ _ _) ⟨by omega, by decide⟩ (by omega) ?_
        rw [hset_hset]
        refine A_aload_n0 d_N_weighDark_25 ?_
        refine A_getf (kf := 4) d_N_weighDark_26 ((hset_ne (by omega)).trans hO) ok_7 (by decide) q_372 rfl ?_
        refine A_iconst (v := nI 2) d_N_weighDark_29 (by decide) ?_
        refine A_iload_n3 d_N_weighDark_30 ?_
        first | refine A_imulN d_N_weighDark_31 (by with_reducible rfl) (by with_reducible rfl) ?_ | refine A_imul d_N_weighDark_31 ?_
        refine A_iconst (v := nI 1) d_N_weighDark_32 (by decide) ?_
        first | refine A_iaddN d_N_weighDark_33 (by with_reducible rfl) (by with_reducible rfl) ?_ | refine A_iadd d_N_weighDark_33 ?_
        refine A_aload_n1 d_N_weighDark_34 ?_
        refine A_iload_n3 d_N_weighDark_35 ?_
        refine A_aload_n2 d_N_weighDark_36 ?_
        refine A_iconst (v := nI 1) d_N_weighDark_37 (by decide) ?_
        refine A_callVP d_N_weighDark_38 (c_Ld_likedDark (hA.hs (by omega)) hV0 (hT.hs (by omega)) i 1 hi (by decide)) (hA.hs (by omega)).o rfl q_913 q_715 q_716 mk_Ld_likedDark rfl (by decide) rfl (Nat.le_of_ble_eq_true rfl) ⟨Nat.le_of_ble_eq_true rfl, Nat.le_of_ble_eq_true rfl⟩ ⟨rfl, rfl⟩ ?_
        refine A_iastN d_N_weighDark_41 (hset_eq _ _ _) ⟨by omega, by decide⟩ (by omega) ?_
        rw [hset_hset]
        first | refine A_iinc3 d_N_weighDark_42 (nI_1 _) trivial ?_ | refine A_iinc3 d_N_weighDark_42 rfl trivial ?_
        refine A_goto (tgt := 2) d_N_weighDark_45 (by decide) ?_
        exact ih _ hk.step
  refine A_iconst (v := nI 0) d_N_weighDark_0 (by decide) ?_
  refine A_istore3 d_N_weighDark_1 trivial ?_
  have k0 := key 0 (Nat.zero_le _) f0' (fun p hp => absurd hp (Nat.not_lt_zero p))
  rw [hset_same hL] at k0
  exact k0
theorem liv_cc {V : Nat → Nat} {x : Int32} {p cc : Nat} (hx : BI x (V 4)) (h4 : V 4 ≤ 10) (hp : p < V 4) (hcc : cc ≤ 1) : cntB (clrI x p) 10 ≤ V 4 - 1 ∧ livN V cc x p = if cc = 1 then cntB (clrI x p) 10 else V 4 - 1 - cntB (clrI x p) 10 := by
  have e10 : cntB (clrI x p) 10 = cntB (clrI x p) (V 4) := by
    have := cnt_hi (hx.clr (p := p) (by omega)) (10 - V 4) (by omega)
    rw [show V 4 + (10 - V 4) = 10 by omega] at this
    exact this
  have l0 := liv0 (x := x) (but := p) (by omega) (V 4) (by omega)
  rw [if_pos hp] at l0
  rw [e10]
  refine ⟨by omega, ?_⟩
  unfold livN
  rcases (show cc = 0 ∨ cc = 1 by omega) with rfl | rfl
  · rw [if_neg (by decide)]
    omega
  · rw [if_pos rfl]
    exact liv1 (by omega) (V 4) (by omega)
set_option maxHeartbeats 4000000 in
set_option maxRecDepth 100000 in
theorem c_N_gainIn0 {G : GE} {h : AH} {n a : Nat} (hO : h n = some (.inr (7, nfs n))) (hn : 1000 ≤ n) {D : LD} (hA : LAt h a D) {V : Nat → Nat} (hV : LVr D V) (ha : a + 9 ≤ n + 78) {t : Nat → Nat} (hk : LKd n V t h) (x : Int32) (hx : BI x (V 4)) (p : Nat) (hp : p < V 4) : Ctr G y_N_gainIn b_N_gainIn 8 (some .int) r_N_gainIn [.ref n, .ref a, .int x, .int (nI p), .int (nI 0)] h (Pu (.int (gainI V t p 0 x)) h) := by
  refine Ctr.of (by decide +kernel) (by simp) (Nat.le_of_ble_eq_true rfl) (L0 := [some (.ref n), some (.ref a), some (.int x), some (.int (nI p)), some (.int (nI 0)), none, none, none]) rfl ?_
  have hV0 := hV
  obtain ⟨ok, ⟨f0, f1, f2, f3, f4, f9⟩, hP, hBe, hTo⟩ := hV
  have hH := ok.1
  have h4 := ok.2.2.2.2.1
  obtain ⟨f, hf, hkf⟩ := hk
  refine A_iload_n2 d_N_gainIn_0 ?_
  refine A_iconst (v := nI 1) d_N_gainIn_1 (by decide) ?_
  refine A_iload_n3 d_N_gainIn_2 ?_
  refine A_ishl d_N_gainIn_3 ?_
  refine A_iconst (v := (-1)) d_N_gainIn_4 (by decide) ?_
  refine A_ixor d_N_gainIn_5 ?_
  refine A_iand d_N_gainIn_6 ?_
  refine A_istore5 d_N_gainIn_7 trivial ?_
  refine A_iload5 d_N_gainIn_9 ?_
  obtain ⟨k, hk1, hk2⟩ := (hx.clr (p := p) (by omega)).num (by omega)
  have hk3 : k < 1024 := Nat.lt_of_lt_of_le hk1 (Nat.pow_le_pow_right (by decide) h4)
  have lv := liv_cc (cc := 0) hx h4 hp (by decide)
  rw [hk2] at lv
  refine A_topI (show clrI x p = nI k from hk2) ?_
  refine A_callSP d_N_gainIn_11 (c_JI_bitCount _ hk3) q_922 q_923 mk_JI_bitCount rfl (by decide) rfl (Nat.le_of_ble_eq_true rfl) ⟨Nat.le_of_ble_eq_true rfl, Nat.le_of_ble_eq_true rfl⟩ ⟨rfl, rfl⟩ ?_
  refine A_istore6 d_N_gainIn_14 trivial ?_
  refine A_iload4 d_N_gainIn_16 ?_
  refine A_iconst (v := nI 1) d_N_gainIn_18 (by decide) ?_
  refine A_icmp_ne (tgt := 27) d_N_gainIn_19 (by decide) (fun c_19 => ?_) (fun c => absurd c (by decide))
  refine A_aload_n1 d_N_gainIn_27 ?_
  refine A_getf (kf := 4) d_N_gainIn_28 hA.o ok_1 (by decide) q_62 rfl ?_
  refine A_topI f4 ?_
  refine A_iconst (v := nI 1) d_N_gainIn_31 (by decide) ?_
  first | refine A_isubN d_N_gainIn_32 (by with_reducible rfl) (by with_reducible rfl) (by omega) ?_ | refine A_isub d_N_gainIn_32 ?_
  refine A_iload6 d_N_gainIn_33 ?_
  first | refine A_isubN d_N_gainIn_35 (by with_reducible rfl) (by with_reducible rfl) (by omega) ?_ | refine A_isub d_N_gainIn_35 ?_
  refine A_istore7 d_N_gainIn_36 trivial ?_
  refine A_aload_n0 d_N_gainIn_38 ?_
  refine A_getf (kf := 4) d_N_gainIn_39 hO ok_7 (by decide) q_372 rfl ?_
  refine A_iconst (v := nI 2) d_N_gainIn_42 (by decide) ?_
  refine A_iload_n3 d_N_gainIn_43 ?_
  first | refine A_imulN d_N_gainIn_44 (by with_reducible rfl) (by with_reducible rfl) ?_ | refine A_imul d_N_gainIn_44 ?_
  refine A_iload4 d_N_gainIn_45 ?_
  first | refine A_iaddN d_N_gainIn_47 (by with_reducible rfl) (by with_reducible rfl) ?_ | refine A_iadd d_N_gainIn_47 ?_
  refine A_ialdN d_N_gainIn_48 hf ⟨by omega, by decide⟩ ?_
  refine A_topI (hkf p hp).1 ?_
  refine A_aload_n1 d_N_gainIn_49 ?_
  refine A_getf (kf := 2) d_N_gainIn_50 hA.o ok_1 (by decide) q_56 rfl ?_
  refine A_topI f2 ?_
  refine A_iload7 d_N_gainIn_53 ?_
  first | refine A_imulN d_N_gainIn_55 (by with_reducible rfl) (by with_reducible rfl) ?_ | refine A_imul d_N_gainIn_55 ?_
  first | refine A_isubN d_N_gainIn_56 (by with_reducible rfl) (by with_reducible rfl) (by omega) ?_ | refine A_isub d_N_gainIn_56 ?_
  refine A_iret d_N_gainIn_57 rfl ⟨Nat.zero_le _, Nat.zero_le _⟩ ?_
  exact pu (by rw [gain_eq, lv.2, if_neg (by decide)])
set_option maxHeartbeats 4000000 in
set_option maxRecDepth 100000 in
theorem c_N_gainIn1 {G : GE} {h : AH} {n a : Nat} (hO : h n = some (.inr (7, nfs n))) (hn : 1000 ≤ n) {D : LD} (hA : LAt h a D) {V : Nat → Nat} (hV : LVr D V) (ha : a + 9 ≤ n + 78) {t : Nat → Nat} (hk : LKd n V t h) (x : Int32) (hx : BI x (V 4)) (p : Nat) (hp : p < V 4) : Ctr G y_N_gainIn b_N_gainIn 8 (some .int) r_N_gainIn [.ref n, .ref a, .int x, .int (nI p), .int (nI 1)] h (Pu (.int (gainI V t p 1 x)) h) := by
  refine Ctr.of (by decide +kernel) (by simp) (Nat.le_of_ble_eq_true rfl) (L0 := [some (.ref n), some (.ref a), some (.int x), some (.int (nI p)), some (.int (nI 1)), none, none, none]) rfl ?_
  have hV0 := hV
  obtain ⟨ok, ⟨f0, f1, f2, f3, f4, f9⟩, hP, hBe, hTo⟩ := hV
  have hH := ok.1
  have h4 := ok.2.2.2.2.1
  obtain ⟨f, hf, hkf⟩ := hk
  refine A_iload_n2 d_N_gainIn_0 ?_
  refine A_iconst (v := nI 1) d_N_gainIn_1 (by decide) ?_
  refine A_iload_n3 d_N_gainIn_2 ?_
  refine A_ishl d_N_gainIn_3 ?_
  refine A_iconst (v := (-1)) d_N_gainIn_4 (by decide) ?_
  refine A_ixor d_N_gainIn_5 ?_
  refine A_iand d_N_gainIn_6 ?_
  refine A_istore5 d_N_gainIn_7 trivial ?_
  refine A_iload5 d_N_gainIn_9 ?_
  obtain ⟨k, hk1, hk2⟩ := (hx.clr (p := p) (by omega)).num (by omega)
  have hk3 : k < 1024 := Nat.lt_of_lt_of_le hk1 (Nat.pow_le_pow_right (by decide) h4)
  have lv := liv_cc (cc := 1) hx h4 hp (by decide)
  rw [hk2] at lv
  refine A_topI (show clrI x p = nI k from hk2) ?_
  refine A_callSP d_N_gainIn_11 (c_JI_bitCount _ hk3) q_922 q_923 mk_JI_bitCount rfl (by decide) rfl (Nat.le_of_ble_eq_true rfl) ⟨Nat.le_of_ble_eq_true rfl, Nat.le_of_ble_eq_true rfl⟩ ⟨rfl, rfl⟩ ?_
  refine A_istore6 d_N_gainIn_14 trivial ?_
  refine A_iload4 d_N_gainIn_16 ?_
  refine A_iconst (v := nI 1) d_N_gainIn_18 (by decide) ?_
  refine A_icmp_ne (tgt := 27) d_N_gainIn_19 (by decide) (fun c => absurd rfl c) (fun c_19 => ?_)
  refine A_iload6 d_N_gainIn_22 ?_
  refine A_goto (tgt := 36) d_N_gainIn_24 (by decide) ?_
  refine A_istore7 d_N_gainIn_36 trivial ?_
  refine A_aload_n0 d_N_gainIn_38 ?_
  refine A_getf (kf := 4) d_N_gainIn_39 hO ok_7 (by decide) q_372 rfl ?_
  refine A_iconst (v := nI 2) d_N_gainIn_42 (by decide) ?_
  refine A_iload_n3 d_N_gainIn_43 ?_
  first | refine A_imulN d_N_gainIn_44 (by with_reducible rfl) (by with_reducible rfl) ?_ | refine A_imul d_N_gainIn_44 ?_
  refine A_iload4 d_N_gainIn_45 ?_
  first | refine A_iaddN d_N_gainIn_47 (by with_reducible rfl) (by with_reducible rfl) ?_ | refine A_iadd d_N_gainIn_47 ?_
  refine A_ialdN d_N_gainIn_48 hf ⟨by omega, by decide⟩ ?_
  refine A_topI (hkf p hp).2 ?_
  refine A_aload_n1 d_N_gainIn_49 ?_
  refine A_getf (kf := 2) d_N_gainIn_50 hA.o ok_1 (by decide) q_56 rfl ?_
  refine A_topI f2 ?_
  refine A_iload7 d_N_gainIn_53 ?_
  first | refine A_imulN d_N_gainIn_55 (by with_reducible rfl) (by with_reducible rfl) ?_ | refine A_imul d_N_gainIn_55 ?_
  first | refine A_isubN d_N_gainIn_56 (by with_reducible rfl) (by with_reducible rfl) (by omega) ?_ | refine A_isub d_N_gainIn_56 ?_
  refine A_iret d_N_gainIn_57 rfl ⟨Nat.zero_le _, Nat.zero_le _⟩ ?_
  exact pu (by rw [gain_eq, lv.2, if_pos rfl])
theorem c_N_gainIn {G : GE} {h : AH} {n a : Nat} (hO : h n = some (.inr (7, nfs n))) (hn : 1000 ≤ n) {D : LD} (hA : LAt h a D) {V : Nat → Nat} (hV : LVr D V) (ha : a + 9 ≤ n + 78) {t : Nat → Nat} (hk : LKd n V t h) (x : Int32) (hx : BI x (V 4)) (p : Nat) (hp : p < V 4) (cc : Nat) (hcc : cc ≤ 1) : Ctr G y_N_gainIn b_N_gainIn 8 (some .int) r_N_gainIn [.ref n, .ref a, .int x, .int (nI p), .int (nI cc)] h (Pu (.int (gainI V t p cc x)) h) := by
  rcases (show cc = 0 ∨ cc = 1 by omega) with rfl | rfl
  · exact c_N_gainIn0 hO hn hA hV ha hk x hx p hp
  · exact c_N_gainIn1 hO hn hA hV ha hk x hx p hp
theorem bN_le (b : Bool) : bN b ≤ 1 := by cases b <;> decide
set_option maxHeartbeats 4000000 in
set_option maxRecDepth 100000 in
theorem c_N_wouldMove {G : GE} {h : AH} {n a : Nat} (hO : h n = some (.inr (7, nfs n))) (hn : 1000 ≤ n) {D : LD} (hA : LAt h a D) {V : Nat → Nat} (hV : LVr D V) (ha : a + 9 ≤ n + 78) {t : Nat → Nat} (hk : LKd n V t h) (x : Int32) (hx : BI x (V 4)) (p : Nat) (hp : p < V 4)  : Ctr G y_N_wouldMove b_N_wouldMove 5 (some .boolean) r_N_wouldMove [.ref n, .ref a, .int x, .int (nI p)] h (Pu (.int (bI (wouldB V t p x))) h) := by
  refine Ctr.of (by decide +kernel) (by simp) (Nat.le_of_ble_eq_true rfl) (L0 := [some (.ref n), some (.ref a), some (.int x), some (.int (nI p)), none]) rfl ?_
  have hV0 := hV
  obtain ⟨ok, ⟨f0, f1, f2, f3, f4, f9⟩, hP, hBe, hTo⟩ := hV
  have hH := ok.1
  have h4 := ok.2.2.2.2.1
  have hbN := bN_le (hasB x (nI p))
  refine A_iload_n2 d_N_wouldMove_0 ?_
  refine A_iload_n3 d_N_wouldMove_1 ?_
  refine A_ishr d_N_wouldMove_2 ?_
  refine A_iconst (v := nI 1) d_N_wouldMove_3 (by decide) ?_
  refine A_iand d_N_wouldMove_4 ?_
  refine A_topI (show _ = nI (bN (hasB x (nI p))) from and1 _ (by omega)) ?_
  refine A_istore4 d_N_wouldMove_5 trivial ?_
  refine A_aload_n0 d_N_wouldMove_7 ?_
  refine A_aload_n1 d_N_wouldMove_8 ?_
  refine A_iload_n2 d_N_wouldMove_9 ?_
  refine A_iload_n3 d_N_wouldMove_10 ?_
  refine A_iconst (v := nI 1) d_N_wouldMove_11 (by decide) ?_
  refine A_iload4 d_N_wouldMove_12 ?_
  first | refine A_isubN d_N_wouldMove_14 (by with_reducible rfl) (by with_reducible rfl) (by omega) ?_ | refine A_isub d_N_wouldMove_14 ?_
  refine A_callVP d_N_wouldMove_15 (c_N_gainIn hO hn hA hV0 ha hk x hx p hp (1 - bN (hasB x (nI p))) (by have := bN_le (hasB x (nI p)); omega)) hO rfl q_918 q_920 qs_7 mk_N_gainIn rfl (by decide) rfl (Nat.le_of_ble_eq_true rfl) ⟨Nat.le_of_ble_eq_true rfl, Nat.le_of_ble_eq_true rfl⟩ ⟨rfl, rfl⟩ ?_
  refine A_aload_n0 d_N_wouldMove_18 ?_
  refine A_aload_n1 d_N_wouldMove_19 ?_
  refine A_iload_n2 d_N_wouldMove_20 ?_
  refine A_iload_n3 d_N_wouldMove_21 ?_
  refine A_iload4 d_N_wouldMove_22 ?_
  refine A_callVP d_N_wouldMove_24 (c_N_gainIn hO hn hA hV0 ha hk x hx p hp (bN (hasB x (nI p))) (by have := bN_le (hasB x (nI p)); omega)) hO rfl q_918 q_920 qs_7 mk_N_gainIn rfl (by decide) rfl (Nat.le_of_ble_eq_true rfl) ⟨Nat.le_of_ble_eq_true rfl, Nat.le_of_ble_eq_true rfl⟩ ⟨rfl, rfl⟩ ?_
  first | refine A_icmp_leN (tgt := 34) d_N_wouldMove_27 (by decide) (by with_reducible rfl) (by with_reducible rfl) (by omega) (by omega) (fun c_27 => ?_) (fun c_27 => ?_) | refine A_icmp_le (tgt := 34) d_N_wouldMove_27 (by decide) (fun c_27 => ?_) (fun c_27 => ?_)
  · refine A_iconst (v := nI 0) d_N_wouldMove_34 (by decide) ?_
    refine A_zret d_N_wouldMove_35 rfl (by first | rfl | exact bI_nar _ | decide) ⟨Nat.zero_le _, Nat.zero_le _⟩ ?_
    exact pu (by
      unfold wouldB
      first
        | (rw [decide_eq_false c_27]; rfl)
        | (rw [decide_eq_false (Int32.not_le.mpr c_27)]; rfl)
        | (rw [decide_eq_true c_27]; rfl)
        | (rw [decide_eq_true (Int32.not_lt.mp c_27)]; rfl))
  · refine A_iconst (v := nI 1) d_N_wouldMove_30 (by decide) ?_
    refine A_goto (tgt := 35) d_N_wouldMove_31 (by decide) ?_
    refine A_zret d_N_wouldMove_35 rfl (by first | rfl | exact bI_nar _ | decide) ⟨Nat.zero_le _, Nat.zero_le _⟩ ?_
    exact pu (by
      unfold wouldB
      first
        | (rw [decide_eq_false c_27]; rfl)
        | (rw [decide_eq_false (Int32.not_le.mpr c_27)]; rfl)
        | (rw [decide_eq_true c_27]; rfl)
        | (rw [decide_eq_true (Int32.not_lt.mp c_27)]; rfl))
set_option maxHeartbeats 4000000 in
set_option maxRecDepth 100000 in
theorem c_N_isRest {G : GE} {h : AH} {n a : Nat} (hO : h n = some (.inr (7, nfs n))) (hn : 1000 ≤ n) {D : LD} (hA : LAt h a D) {V : Nat → Nat} (hV : LVr D V) (ha : a + 9 ≤ n + 78) {t : Nat → Nat} (hk : LKd n V t h) (x : Int32) (hx : BI x (V 4))  : Ctr G y_N_isRest b_N_isRest 4 (some .boolean) r_N_isRest [.ref n, .ref a, .int x] h (Pu (.int (bI (restB V t x))) h) := by
  refine Ctr.of (by decide +kernel) (by simp) (Nat.le_of_ble_eq_true rfl) (L0 := [some (.ref n), some (.ref a), some (.int x), none]) rfl ?_
  have hV0 := hV
  obtain ⟨ok, ⟨f0, f1, f2, f3, f4, f9⟩, hP, hBe, hTo⟩ := hV
  have hH := ok.1
  have h4 := ok.2.2.2.2.1
  have key : ∀ i, i ≤ V 4 → WA G y_N_isRest b_N_isRest 4 (some .boolean) r_N_isRest 0 0 (Pu (.int (bI (firstU (fun p => wouldB V t p x) (fun _ => false) true (V 4) i))) h) 0 0 2 [some (.ref n), some (.ref a), some (.int x), some (.int (nI i))] [] h := by
    refine down ?_ (fun i hi ih => ?_)
    · refine A_iload_n3 d_N_isRest_2 ?_
      refine A_aload_n1 d_N_isRest_3 ?_
      refine A_getf (kf := 4) d_N_isRest_4 hA.o ok_1 (by decide) q_62 rfl ?_
      refine A_topI f4 ?_
      first | refine A_icmp_geN (tgt := 28) d_N_isRest_7 (by decide) (by with_reducible rfl) (by with_reducible rfl) (by omega) (by omega) (fun c_7 => ?_) (fun c_7 => ?_) | refine A_icmp_ge (tgt := 28) d_N_isRest_7 (by decide) (fun c_7 => ?_) (fun c_7 => ?_)
      · refine A_iconst (v := nI 1) d_N_isRest_28 (by decide) ?_
        refine A_zret d_N_isRest_29 rfl (by first | rfl | exact bI_nar _ | decide) ⟨Nat.zero_le _, Nat.zero_le _⟩ ?_
        exact pu (by rw [firstU_end]; rfl)
      · exact absurd c_7 (by omega)
    · refine A_iload_n3 d_N_isRest_2 ?_
      refine A_aload_n1 d_N_isRest_3 ?_
      refine A_getf (kf := 4) d_N_isRest_4 hA.o ok_1 (by decide) q_62 rfl ?_
      refine A_topI f4 ?_
      first | refine A_icmp_geN (tgt := 28) d_N_isRest_7 (by decide) (by with_reducible rfl) (by with_reducible rfl) (by omega) (by omega) (fun c_7 => ?_) (fun c_7 => ?_) | refine A_icmp_ge (tgt := 28) d_N_isRest_7 (by decide) (fun c_7 => ?_) (fun c_7 => ?_)
      · exact absurd c_7 (by omega)
      · refine A_aload_n0 d_N_isRest_10 ?_
        refine A_aload_n1 d_N_isRest_11 ?_
        refine A_iload_n2 d_N_isRest_12 ?_
        refine A_iload_n3 d_N_isRest_13 ?_
        refine A_callVP d_N_isRest_14 (c_N_wouldMove hO hn hA hV0 ha hk x hx i hi) hO rfl q_940 q_942 qs_10 mk_N_wouldMove rfl (by decide) rfl (Nat.le_of_ble_eq_true rfl) ⟨Nat.le_of_ble_eq_true rfl, Nat.le_of_ble_eq_true rfl⟩ ⟨rfl, rfl⟩ ?_
        refine A_if_eqB (tgt := 22) d_N_isRest_17 (by decide) (fun c_17 => ?_) (fun c_17 => ?_)
        · first | refine A_iinc3 d_N_isRest_22 (nI_1 _) trivial ?_ | refine A_iinc3 d_N_isRest_22 rfl trivial ?_
          refine A_goto (tgt := 2) d_N_isRest_25 (by decide) ?_
          rw [firstU_step _ _ _ hi, if_neg (by rw [c_17]; decide)]
          exact ih
        · refine A_iconst (v := nI 0) d_N_isRest_20 (by decide) ?_
          refine A_zret d_N_isRest_21 rfl (by first | rfl | exact bI_nar _ | decide) ⟨Nat.zero_le _, Nat.zero_le _⟩ ?_
          exact pu (by rw [firstU_step _ _ _ hi, if_pos c_17]; rfl)
  refine A_iconst (v := nI 0) d_N_isRest_0 (by decide) ?_
  refine A_istore3 d_N_isRest_1 trivial ?_
  exact key 0 (Nat.zero_le _)
theorem BI.round {V w : Nat → Nat} {x : Int32} (hx : BI x (V 4)) (h4 : V 4 ≤ 10) : ∀ n, n ≤ V 4 → BI (roundF V w x n).1 (V 4)
  | 0, _ => hx
  | n + 1, hn => by
    rw [roundF_succ]
    split
    · exact (BI.round hx h4 n (by omega)).flip (by omega) (by omega)
    · exact BI.round hx h4 n (by omega)
set_option maxHeartbeats 4000000 in
set_option maxRecDepth 100000 in
theorem c_N_afterRound {G : GE} {h : AH} {n a : Nat} (hO : h n = some (.inr (7, nfs n))) (hn : 1000 ≤ n) {D : LD} (hA : LAt h a D) {V : Nat → Nat} (hV : LVr D V) (ha : a + 9 ≤ n + 78) {t : Nat → Nat} (hk : LKd n V t h) (x : Int32) (hx : BI x (V 4))  : Ctr G y_N_afterRound b_N_afterRound 5 (some .int) r_N_afterRound [.ref n, .ref a, .int x] h (Pu (.int (roundF V t x (V 4)).1) h) := by
  refine Ctr.of (by decide +kernel) (by simp) (Nat.le_of_ble_eq_true rfl) (L0 := [some (.ref n), some (.ref a), some (.int x), none, none]) rfl ?_
  have hV0 := hV
  obtain ⟨ok, ⟨f0, f1, f2, f3, f4, f9⟩, hP, hBe, hTo⟩ := hV
  have hH := ok.1
  have h4 := ok.2.2.2.2.1
  have key : ∀ i, i ≤ V 4 → WA G y_N_afterRound b_N_afterRound 5 (some .int) r_N_afterRound 0 0 (Pu (.int (roundF V t x (V 4)).1) h) 0 0 5 [some (.ref n), some (.ref a), some (.int x), some (.int (roundF V t x i).1), some (.int (nI i))] [] h := by
    refine down ?_ (fun i hi ih => ?_)
    · refine A_iload4 d_N_afterRound_5 ?_
      refine A_aload_n1 d_N_afterRound_7 ?_
      skip
      refine A_getf (kf := 4) d_N_afterRound_8 hA.o ok_1 (by decide) q_62 rfl ?_
      refine A_topI f4 ?_
      first | refine A_icmp_geN (tgt := 38) d_N_afterRound_11 (by decide) (by with_reducible rfl) (by with_reducible rfl) (by omega) (by omega) (fun c_11 => ?_) (fun c_11 => ?_) | refine A_icmp_ge (tgt := 38) d_N_afterRound_11 (by decide) (fun c_11 => ?_) (fun c_11 => ?_)
      · refine A_iload_n3 d_N_afterRound_38 ?_
        refine A_iret d_N_afterRound_39 rfl ⟨Nat.zero_le _, Nat.zero_le _⟩ ?_
        exact pu rfl
      · exact absurd c_11 (by omega)
    · refine A_iload4 d_N_afterRound_5 ?_
      refine A_aload_n1 d_N_afterRound_7 ?_
      refine A_getf (kf := 4) d_N_afterRound_8 hA.o ok_1 (by decide) q_62 rfl ?_
      refine A_topI f4 ?_
      first | refine A_icmp_geN (tgt := 38) d_N_afterRound_11 (by decide) (by with_reducible rfl) (by with_reducible rfl) (by omega) (by omega) (fun c_11 => ?_) (fun c_11 => ?_) | refine A_icmp_ge (tgt := 38) d_N_afterRound_11 (by decide) (fun c_11 => ?_) (fun c_11 => ?_)
      · exact absurd c_11 (by omega)
      · refine A_aload_n0 d_N_afterRound_14 ?_
        refine A_aload_n1 d_N_afterRound_15 ?_
        refine A_iload_n3 d_N_afterRound_16 ?_
        refine A_iload4 d_N_afterRound_17 ?_
        refine A_callVP d_N_afterRound_19 (c_N_wouldMove hO hn hA hV0 ha hk _ (BI.round hx h4 i (by omega)) i hi) hO rfl q_940 q_942 qs_10 mk_N_wouldMove rfl (by decide) rfl (Nat.le_of_ble_eq_true rfl) ⟨Nat.le_of_ble_eq_true rfl, Nat.le_of_ble_eq_true rfl⟩ ⟨rfl, rfl⟩ ?_
        refine A_if_eqB (tgt := 32) d_N_afterRound_22 (by decide) (fun c_22 => ?_) (fun c_22 => ?_)
        · first | refine A_iinc4 d_N_afterRound_32 (nI_1 _) trivial ?_ | refine A_iinc4 d_N_afterRound_32 rfl trivial ?_
          refine A_goto (tgt := 5) d_N_afterRound_35 (by decide) ?_
          rw [roundF_succ] at ih
          first | (rw [if_pos c_22] at ih; exact ih) | (rw [if_neg (by rw [c_22]; decide)] at ih; exact ih)
        · refine A_iload_n3 d_N_afterRound_25 ?_
          refine A_iconst (v := nI 1) d_N_afterRound_26 (by decide) ?_
          refine A_iload4 d_N_afterRound_27 ?_
          refine A_ishl d_N_afterRound_29 ?_
          refine A_topI (sh1 (by omega)) ?_
          refine A_ixor d_N_afterRound_30 ?_
          refine A_istore3 d_N_afterRound_31 trivial ?_
          first | refine A_iinc4 d_N_afterRound_32 (nI_1 _) trivial ?_ | refine A_iinc4 d_N_afterRound_32 rfl trivial ?_
          refine A_goto (tgt := 5) d_N_afterRound_35 (by decide) ?_
          rw [roundF_succ] at ih
          first | (rw [if_pos c_22] at ih; exact ih) | (rw [if_neg (by rw [c_22]; decide)] at ih; exact ih)
  refine A_iload_n2 d_N_afterRound_0 ?_
  refine A_istore3 d_N_afterRound_1 trivial ?_
  refine A_iconst (v := nI 0) d_N_afterRound_2 (by decide) ?_
  refine A_istore4 d_N_afterRound_3 trivial ?_
  exact key 0 (Nat.zero_le _)
