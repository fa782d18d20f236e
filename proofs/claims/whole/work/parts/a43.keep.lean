/-- a land at a .. a + 8 after changes of its own cells alone -/
def LW (h0 h : AH) (a : Nat) (D : LD) : Prop := LAt h a D ∧ ∀ i, (i < a ∨ a + 9 ≤ i) → h i = h0 i
theorem LW.start {h : AH} {a : Nat} {D : LD} (A : LAt h a D) : LW h h a D := ⟨A, fun _ _ => rfl⟩
theorem LW.trans {h0 h h1 : AH} {a : Nat} {D D1 : LD} (M : LW h0 h a D) (M1 : LW h h1 a D1) : LW h0 h1 a D1 := ⟨M1.1, fun i hi => (M1.2 i hi).trans (M.2 i hi)⟩
theorem LW.so {h0 h : AH} {a : Nat} {D : LD} (M : LW h0 h a D) (F : Nat → Int32) : LW h0 (hset h a (.inr (1, ldfs a (F, D.2)))) a (F, D.2) := ⟨⟨M.1.ge, hset_eq _ _ _, (hset_ne (by omega)).trans M.1.a5, (hset_ne (by omega)).trans M.1.a6, (hset_ne (by omega)).trans M.1.a7, (hset_ne (by omega)).trans M.1.a8, (hset_ne (by omega)).trans M.1.a10, (hset_ne (by omega)).trans M.1.a11, (hset_ne (by omega)).trans M.1.a12, (hset_ne (by omega)).trans M.1.a17⟩, fun i hi => (hset_ne (by omega)).trans (M.2 i hi)⟩
theorem LW.s17 {h0 h : AH} {a : Nat} {D : LD} (M : LW h0 h a D) (g : Nat → Int32) : LW h0 (hset h (a + 8) (.inl (0, 24, .inl g))) a (D.1, fup D.2 17 g) := ⟨⟨M.1.ge, (hset_ne (by omega)).trans M.1.o, (hset_ne (by omega)).trans M.1.a5, (hset_ne (by omega)).trans M.1.a6, (hset_ne (by omega)).trans M.1.a7, (hset_ne (by omega)).trans M.1.a8, (hset_ne (by omega)).trans M.1.a10, (hset_ne (by omega)).trans M.1.a11, (hset_ne (by omega)).trans M.1.a12, hset_eq _ _ _⟩, fun i hi => (hset_ne (by omega)).trans (M.2 i hi)⟩
/-- only what is kept of the best row differs -/
def LPq (D D1 : LD) : Prop := (∀ k, k < 15 → D1.1 k = D.1 k) ∧ ∀ j, j < 17 → D1.2 j = D.2 j
theorem LPq.rf (D : LD) : LPq D D := ⟨fun _ _ => rfl, fun _ _ => rfl⟩
theorem PlAt.far {h h' : AH} {r x y a : Nat} {Z : PC} (A : PlAt h r x y Z) (e : ∀ i, (i < a ∨ a + 9 ≤ i) → h' i = h i) (har : a + 9 ≤ r ∨ r + 6 ≤ a) : PlAt h' r x y Z := ⟨A.ge, A.xy, (e _ (by omega)).trans A.o, (e _ (by have := A.xy; omega)).trans A.be, (e _ (by have := A.xy; omega)).trans A.th, (e _ (by omega)).trans A.rk, (e _ (by omega)).trans A.po, (e _ (by omega)).trans A.fe⟩
set_option maxHeartbeats 4000000 in
set_option maxRecDepth 100000 in
theorem c_Pl_keep {G : GE} {h : AH} {r rx ry : Nat} {Z : PC} (hP : PlAt h r rx ry Z) {a : Nat} {D : LD} (hA : LAt h a D) {V : Nat → Nat} (ok : VOK V) (har : a + 9 ≤ r ∨ r + 6 ≤ a) (hI1 : PRI V Z.1) (hPR : PRP V (V 0) Z) {v f w : Nat} (hv : v ≤ 2160) (hf : f ≤ 4752) (hw : w < 3 ^ V 0) (hz1 : -(2 ^ 62) ≤ -(((3 ^ V 0 : Nat) : Int) * (4753 * (v : Int) - (f : Int)) - (w : Int))) (hz2 : -(((3 ^ V 0 : Nat) : Int) * (4753 * (v : Int) - (f : Int)) - (w : Int)) ≤ 2 ^ 62)  : Ctr G y_Pl_keep b_Pl_keep 9 none r_Pl_keep [.ref r, .ref a, .long (iL (((3 ^ V 0 : Nat) : Int) * (4753 * (v : Int) - (f : Int)) - (w : Int)))] h (fun v' h1 => v' = none ∧ ∃ D1, LW h h1 a D1 ∧ LPq D D1 ∧ D1.1 15 = nI v ∧ D1.1 16 = nI f ∧ ∀ x, x < V 0 → D1.2 17 x = nI (w / 3 ^ (V 0 - 1 - x) % 3)) := by
  refine Ctr.of (by decide +kernel) (by simp) (Nat.le_of_ble_eq_true rfl) (L0 := [some (.ref r), some (.ref a), some (.long (iL (((3 ^ V 0 : Nat) : Int) * (4753 * (v : Int) - (f : Int)) - (w : Int)))), none, none, none, none, none, none]) rfl ?_
  have hH := ok.1.2
  have h4 := ok.1.1
  have hw2 : w < 2 ^ 39 := Nat.lt_trans hw (Nat.lt_of_le_of_lt (Nat.pow_le_pow_right (by decide) hH) (by decide))
  have hu1 : 0 < 3 ^ V 0 := Nat.pow_pos (by decide)
  have hu2 : 3 ^ V 0 < 2 ^ 39 := Nat.lt_of_le_of_lt (Nat.pow_le_pow_right (by decide) hH) (by decide)
  have hg1 : -4752 ≤ (4753 * (v : Int) - (f : Int)) ∧ (4753 * (v : Int) - (f : Int)) ≤ 4753 * 2160 := by omega
  have key : ∀ j, j ≤ V 0 → ∀ h' D5, LW h h' a D5 → LPq D D5 → (∀ x, V 0 - j ≤ x → x < V 0 → D5.2 17 x = nI (w / 3 ^ (V 0 - 1 - x) % 3)) → WA G y_Pl_keep b_Pl_keep 9 none r_Pl_keep 0 0 (fun v' h1 => v' = none ∧ ∃ D1, LW h h1 a D1 ∧ LPq D D1 ∧ D1.1 15 = nI v ∧ D1.1 16 = nI f ∧ ∀ x, x < V 0 → D1.2 17 x = nI (w / 3 ^ (V 0 - 1 - x) % 3)) 0 0 35 [some (.ref r), some (.ref a), some (.long (iL (((3 ^ V 0 : Nat) : Int) * (4753 * (v : Int) - (f : Int)) - (w : Int)))), none, some (.long (iL (4753 * (v : Int) - (f : Int)))), none, some (.long (lN (w / 3 ^ j))), none, some (.int (hI (V 0 - j)))] [] h' := by
    refine down ?_ (fun j hi ih => ?_)
    · intro h' D5 M hq5 hr5
      refine A_iload8 d_Pl_keep_35 ?_
      refine A_if_lt (tgt := 68) d_Pl_keep_37 (by decide) (fun c_37 => ?_) (fun c => absurd (by rw [show V 0 - V 0 = 0 by omega]; decide) c)
      refine A_aload_n1 d_Pl_keep_68 ?_
      refine A_lload4 d_Pl_keep_69 ?_
      refine A_lneg d_Pl_keep_71 ?_
      refine A_topL (iL_neg _) ?_
      refine A_ldc2 d_Pl_keep_72 q_863 ?_
      refine A_callSP d_Pl_keep_75 (c_JM_floorDiv _ _ _ (by decide)) q_860 q_861 mk_JM_floorDiv rfl (by decide) rfl (Nat.le_of_ble_eq_true rfl) ⟨Nat.le_of_ble_eq_true rfl, Nat.le_of_ble_eq_true rfl⟩ ⟨rfl, rfl⟩ ?_
      refine A_topL (show _ = iL (-(v : Int)) from (fdL (u := 4753) (by omega) (by omega) (by omega) (by omega)).trans (congrArg iL (fl_eq (by omega) (by omega)))) ?_
      refine A_lneg d_Pl_keep_78 ?_
      refine A_topL ((iL_neg _).trans (congrArg iL (Int.neg_neg (v : Int)))) ?_
      refine A_l2i d_Pl_keep_79 ?_
      refine A_topI ((iL_32 _).trans (nI_Zn v)) ?_
      refine A_put (kf := 15) (ty := .int) d_Pl_keep_80 M.1.o ok_1 (by decide) q_95 (Or.inl rfl) (by decide +kernel) rfl rfl (Nat.le_of_ble_eq_true rfl) M.1.ge ?_
      replace M := M.so (fup D5.1 15 (nI v))
      refine A_aload_n1 d_Pl_keep_83 ?_
      refine A_aload_n1 d_Pl_keep_84 ?_
      refine A_getf (kf := 15) d_Pl_keep_85 M.1.o ok_1 (by decide) q_95 rfl ?_
      refine A_topI (fup_eq D5.1 15 (nI v)) ?_
      refine A_i2l d_Pl_keep_88 ?_
      refine A_topL (nI_l (by omega)) ?_
      refine A_ldc2 d_Pl_keep_89 q_863 ?_
      refine A_lmul d_Pl_keep_92 ?_
      refine A_topL (show lN v * 4753 = lN (v * 4753) from lN_mul v 4753) ?_
      refine A_lload4 d_Pl_keep_93 ?_
      refine A_lsub d_Pl_keep_95 ?_
      refine A_topL (show lN (v * 4753) - iL (4753 * (v : Int) - (f : Int)) = iL (f : Int) by rw [iL_N, iL_sub]; exact congrArg iL (by omega)) ?_
      refine A_l2i d_Pl_keep_96 ?_
      refine A_topI ((iL_32 _).trans (nI_Zn f)) ?_
      refine A_put (kf := 16) (ty := .int) d_Pl_keep_97 M.1.o ok_1 (by decide) q_98 (Or.inl rfl) (by decide +kernel) rfl rfl (Nat.le_of_ble_eq_true rfl) M.1.ge ?_
      have M := M.so (fup (fup D5.1 15 (nI v)) 16 (nI f))
      refine A_vret d_Pl_keep_100 rfl ⟨Nat.zero_le _, Nat.zero_le _⟩ ?_
      exact ⟨rfl, _, M, ⟨fun k hk => (fup_ne (fup D5.1 15 (nI v)) (nI f) (show k ≠ 16 by omega)).trans ((fup_ne D5.1 (nI v) (show k ≠ 15 by omega)).trans (hq5.1 k hk)), hq5.2⟩, (fup_ne (fup D5.1 15 (nI v)) (nI f) (show (15 : Nat) ≠ 16 by decide)).trans (fup_eq D5.1 15 (nI v)), fup_eq (fup D5.1 15 (nI v)) 16 (nI f), fun x hx => hr5 x (by omega) hx⟩
    · intro h' D5 M hq5 hr5
      have hwj : w / 3 ^ j ≤ w := Nat.div_le_self _ _
      rw [show hI (V 0 - j) = nI (V 0 - 1 - j) by rw [hI_p (by omega)]; exact congrArg nI (by omega)]
      refine A_iload8 d_Pl_keep_35 ?_
      skip
      refine A_if_lt (tgt := 68) d_Pl_keep_37 (by decide) (fun c => absurd c (nI_pos (by omega))) (fun c_37 => ?_)
      refine A_aload_n1 d_Pl_keep_40 ?_
      refine A_getf (kf := 17) d_Pl_keep_41 M.1.o ok_1 (by decide) q_101 rfl ?_
      refine A_iload8 d_Pl_keep_44 ?_
      refine A_lload6 d_Pl_keep_46 ?_
      refine A_ldc2 d_Pl_keep_48 q_801 ?_
      refine A_lrem d_Pl_keep_51 (by decide) ?_
      refine A_topL (lN_rem3 (by omega)) ?_
      refine A_l2i d_Pl_keep_52 ?_
      refine A_topI (lN_32 _) ?_
      refine A_iastN d_Pl_keep_53 M.1.a17 ⟨by omega, by decide⟩ (by have := M.1.ge; omega) ?_
      replace M := M.s17 (fup (D5.2 17) (V 0 - 1 - j) (nI (w / 3 ^ j % 3)))
      refine A_lload6 d_Pl_keep_54 ?_
      refine A_ldc2 d_Pl_keep_56 q_801 ?_
      refine A_ldiv d_Pl_keep_59 (by decide) ?_
      refine A_topL (show lN (w / 3 ^ j) / 3 = lN (w / 3 ^ (j + 1)) from (lN_div (b := 3) (by omega) (by decide)).trans (congrArg lN (by rw [Nat.pow_succ, Nat.div_div_eq_div_mul]))) ?_
      refine A_lstore6 d_Pl_keep_60 trivial ?_
      refine A_iinc8 d_Pl_keep_62 (show _ = hI (V 0 - (j + 1)) by rw [show V 0 - (j + 1) = V 0 - 1 - j by omega]; exact hI_dec _) trivial ?_
      refine A_goto (tgt := 35) d_Pl_keep_65 (by decide) ?_
      refine ih _ _ M ⟨hq5.1, fun k hk => (fup_ne _ _ (by omega)).trans (hq5.2 k hk)⟩ (fun x hx hx2 => ?_)
      show fup D5.2 17 (fup (D5.2 17) (V 0 - 1 - j) (nI (w / 3 ^ j % 3))) 17 x = _
      by_cases e : x = V 0 - 1 - j
      · rw [e, fup_eq, fup_eq, show V 0 - 1 - (V 0 - 1 - j) = j by omega]
      · rw [fup_eq, fup_ne _ _ e]
        exact hr5 x (by omega) hx2
  have hune : iL ((3 ^ V 0 : Nat) : Int) ≠ 0 := fun e => by
    have e2 : (iL ((3 ^ V 0 : Nat) : Int)).toInt = (0 : Int64).toInt := by rw [e]
    rw [iL_t (by omega) (by omega)] at e2
    have e3 : (0 : Int64).toInt = 0 := by decide
    omega
  refine A_lload_n2 d_Pl_keep_0 ?_
  refine A_lneg d_Pl_keep_1 ?_
  refine A_topL (iL_neg _) ?_
  refine A_lconst (v := 1) d_Pl_keep_2 (by decide) ?_
  refine A_aload_n0 d_Pl_keep_3 ?_
  refine A_getf (kf := 10) d_Pl_keep_4 hP.o ok_2 (by decide) q_343 rfl ?_
  refine A_topL hPR.1 ?_
  refine A_callSP d_Pl_keep_7 (c_JM_max_1 _ _ _) q_840 q_841 mk_JM_max_1 rfl (by decide) rfl (Nat.le_of_ble_eq_true rfl) ⟨Nat.le_of_ble_eq_true rfl, Nat.le_of_ble_eq_true rfl⟩ ⟨rfl, rfl⟩ ?_
  refine A_topL (maxU hu1 (by omega)) ?_
  refine A_callSP d_Pl_keep_10 (c_JM_floorDiv _ _ _ hune) q_860 q_861 mk_JM_floorDiv rfl (by decide) rfl (Nat.le_of_ble_eq_true rfl) ⟨Nat.le_of_ble_eq_true rfl, Nat.le_of_ble_eq_true rfl⟩ ⟨rfl, rfl⟩ ?_
  refine A_topL (show _ = iL (-(4753 * (v : Int) - (f : Int))) from (fdL hz1 hz2 (by omega) (by omega)).trans (congrArg iL (fl_eq (by omega) (by omega)))) ?_
  refine A_lneg d_Pl_keep_13 ?_
  refine A_topL ((iL_neg _).trans (congrArg iL (Int.neg_neg _))) ?_
  refine A_lstore4 d_Pl_keep_14 trivial ?_
  refine A_lload4 d_Pl_keep_16 ?_
  refine A_aload_n0 d_Pl_keep_18 ?_
  refine A_getf (kf := 10) d_Pl_keep_19 hP.o ok_2 (by decide) q_343 rfl ?_
  refine A_topL (hPR.1.trans (iL_N _)) ?_
  refine A_lmul d_Pl_keep_22 ?_
  refine A_topL (iL_mul _ _) ?_
  refine A_lload_n2 d_Pl_keep_23 ?_
  refine A_lsub d_Pl_keep_24 ?_
  refine A_topL (show iL ((4753 * (v : Int) - (f : Int)) * ((3 ^ V 0 : Nat) : Int)) - iL (((3 ^ V 0 : Nat) : Int) * (4753 * (v : Int) - (f : Int)) - (w : Int)) = lN w by rw [iL_sub, iL_N w, Int.mul_comm]; exact congrArg iL (by omega)) ?_
  refine A_lstore6 d_Pl_keep_25 trivial ?_
  refine A_aload_n0 d_Pl_keep_27 ?_
  refine A_getf (kf := 5) d_Pl_keep_28 hP.o ok_2 (by decide) q_338 rfl ?_
  refine A_topI hI1.1 ?_
  refine A_iconst (v := nI 1) d_Pl_keep_31 (by decide) ?_
  first | refine A_isubN d_Pl_keep_32 (by with_reducible rfl) (by with_reducible rfl) (by omega) ?_ | refine A_isub d_Pl_keep_32 ?_
  refine A_istore8 d_Pl_keep_33 trivial ?_
  have k0 := key 0 (Nat.zero_le _) _ _ (LW.start hA) (LPq.rf D) (fun x h1 h2 => absurd h1 (by omega))
  rw [show hI (V 0 - 0) = nI (V 0 - 1) by rw [hI_p (by omega)]; rfl, Nat.pow_zero, Nat.div_one] at k0
  exact k0
