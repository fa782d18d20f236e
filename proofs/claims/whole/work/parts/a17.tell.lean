/-- what has been read stands in the reader -/
def CR (of : Nat) (Z : RC) (T : Nat → Nat) (f : Nat × Nat × Nat) : Prop :=
  (of = 0 → LX Z.2.2.2.1 T ∧ Z.1 13 = hI f.1 ∧ Z.1 14 = hI f.2.1 ∧ f.1 ≤ 10 ∧ f.2.1 ≤ 24) ∧ (of ≠ 0 → Z.2.2.2.1.1 0 = nI 12 ∧ Z.2.2.2.1.1 4 = nI 0 ∧ Z.1 13 = -1 ∧ Z.1 14 = -1) ∧ (of = 1 → ∀ x, x < 24 → Z.2.2.2.2.2.2 0 x = nI (T x) ∧ T x ≤ 2) ∧ (of = 2 → BX Z.2.2.2.2.1 T ∧ f.2.2 = totB T) ∧ (of ≠ 2 → Z.2.2.2.2.1.1 1 = nI 0) ∧ (of = 3 → SVr Z.2.2.2.2.2.1 T) ∧ (of = 4 → ∀ x, x < 8 → Z.2.2.2.2.2.2 1 x = nI (T x) ∧ T x ≤ 60) ∧ ∃ z, Z.2.2.2.1.1 14 = bI z
theorem CR.l0 {Z Z1 : RC} {T T1 : Nat → Nat} {f f1 : Nat × Nat × Nat} (h : CR 0 Z T f) (hL : LX Z1.2.2.2.1 T1) (e14 : Z1.2.2.2.1.1 14 = Z.2.2.2.1.1 14) (g1 : Z1.1 13 = hI f1.1) (g2 : Z1.1 14 = hI f1.2.1) (g3 : f1.1 ≤ 10) (g4 : f1.2.1 ≤ 24) (eb : Z1.2.2.2.2.1 = Z.2.2.2.2.1) : CR 0 Z1 T1 f1 := by
  obtain ⟨a, b, c, d, e, g, i, z, hz⟩ := h
  exact ⟨fun _ => ⟨hL, g1, g2, g3, g4⟩, fun w => absurd rfl w, fun w => absurd w (by decide), fun w => absurd w (by decide), fun w => by rw [eb]; exact e w, fun w => absurd w (by decide), fun w => absurd w (by decide), z, e14.trans hz⟩
theorem mxI {x : Int32} {a b : Nat} (hx : x = hI a) (ha : a < 2 ^ 30) (hb : b < 2 ^ 30) : (if x < nI b then nI b else x) = hI (max a (b + 1)) := by
  subst hx
  rw [← hI_s b]
  by_cases z : b + 1 ≤ a
  · rw [if_neg (Int32.not_lt.mpr ((hI_le (by omega) (by omega)).mpr z)), Nat.max_eq_left z]
  · rw [if_pos (Int32.not_le.mp (fun w => z ((hI_le (by omega) (by omega)).mp w))), Nat.max_eq_right (by omega)]
theorem inr_le {k i : Nat} {v : Nat → Nat} (h : inrN k v i = true) : loN k v i ≤ v i ∧ v i ≤ hiN k i := by
  unfold inrN inN at h
  rw [Bool.and_eq_true] at h
  exact ⟨of_decide_eq_true h.1, of_decide_eq_true h.2⟩
theorem lnG_t {k : Nat} {v : Nat → Nat} (h : ∀ i, i < ncN k → inrN k v i = true) : lnG k v = true := by
  unfold lnG
  have key : ∀ m, m ≤ ncN k → foldN (fun i g => g && inrN k v i) true m = true := by
    intro m
    induction m with
    | zero => intro _; rfl
    | succ m ih =>
      intro hm
      show (foldN (fun i g => g && inrN k v i) true m && inrN k v m) = true
      rw [ih (by omega), h m (by omega)]
      rfl
  exact key _ (Nat.le_refl _)
theorem BX_tot {D : LD} {T : Nat → Nat} (h : BX D T) : totB T ≤ 720 := by
  have key : ∀ k, k ≤ T 0 → preB T k ≤ 24 * k := by
    intro k
    induction k with
    | zero => intro _; exact Nat.le_refl _
    | succ k ih =>
      intro hk
      have := ih (by omega)
      have h2 := (h.2.1 k (by omega)).2.2
      show preB T k + lenB T k ≤ _
      have : lenB T k = T (1 + 2 * k + 1) := rfl
      omega
  have := key _ (Nat.le_refl _)
  have := h.1
  unfold totB
  omega
set_option maxHeartbeats 4000000 in
set_option maxRecDepth 100000 in
theorem c_Rd_tellLikes {G : GE} {h : AH} {r : Nat} {Z : RC} (hR : RdAt h r Z) {v : Nat → Nat} (hv : ∀ i, i < 4 → Z.2.2.2.2.2.2 2 i = nI (v i)) {a b : Nat} (g13 : Z.1 13 = hI a) (g14 : Z.1 14 = hI b) (ha : a < 2 ^ 20) (hb : b < 2 ^ 20) (b0 : v 0 ≤ 9) (b1 : v 1 ≤ v 2) (b2 : v 2 ≤ 23) (b3 : v 3 ≤ 9)  : Ctr G y_Rd_tellLikes b_Rd_tellLikes 2 none r_Rd_tellLikes [.ref r] h (fun v' h1 => v' = none ∧ RdW h h1 r (fup (fup Z.1 13 (hI (max a (v 0 + 1)))) 14 (hI (max b (v 2 + 1))), Z.2.1, Z.2.2.1, (Z.2.2.2.1.1, fup Z.2.2.2.1.2 8 (filF (Z.2.2.2.1.2 8) (nI (v 3)) (v 0 * 24 + v 1) (v 0 * 24 + v 2 + 1))), Z.2.2.2.2)) := by
  refine Ctr.of (by decide +kernel) (by simp) (Nat.le_of_ble_eq_true rfl) (L0 := [some (.ref r), none]) rfl ?_
  have M := RdW.start hR
  refine A_aload_n0 d_Rd_tellLikes_0 ?_
  refine A_getf (kf := 10) d_Rd_tellLikes_1 M.1.o ok_3 (by decide) q_291 rfl ?_
  refine A_iconst (v := nI 0) d_Rd_tellLikes_4 (by decide) ?_
  refine A_ialdN d_Rd_tellLikes_5 M.1.nu ⟨by decide, by decide⟩ ?_
  refine A_topI (hv 0 (by decide)) ?_
  refine A_bipush (v := nI 24) d_Rd_tellLikes_6 (by decide) ?_
  first | refine A_imulN d_Rd_tellLikes_8 (by with_reducible rfl) (by with_reducible rfl) ?_ | refine A_imul d_Rd_tellLikes_8 ?_
  refine A_istore1 d_Rd_tellLikes_9 trivial ?_
  refine A_aload_n0 d_Rd_tellLikes_10 ?_
  refine A_getf (kf := 1) d_Rd_tellLikes_11 M.1.o ok_3 (by decide) q_275 rfl ?_
  refine A_getf (kf := 8) d_Rd_tellLikes_14 M.1.ld.o ok_1 (by decide) q_74 rfl ?_
  refine A_iload_n1 d_Rd_tellLikes_17 ?_
  refine A_aload_n0 d_Rd_tellLikes_18 ?_
  refine A_getf (kf := 10) d_Rd_tellLikes_19 M.1.o ok_3 (by decide) q_291 rfl ?_
  refine A_iconst (v := nI 1) d_Rd_tellLikes_22 (by decide) ?_
  refine A_ialdN d_Rd_tellLikes_23 M.1.nu ⟨by decide, by decide⟩ ?_
  refine A_topI (hv 1 (by decide)) ?_
  first | refine A_iaddN d_Rd_tellLikes_24 (by with_reducible rfl) (by with_reducible rfl) ?_ | refine A_iadd d_Rd_tellLikes_24 ?_
  refine A_iload_n1 d_Rd_tellLikes_25 ?_
  refine A_aload_n0 d_Rd_tellLikes_26 ?_
  refine A_getf (kf := 10) d_Rd_tellLikes_27 M.1.o ok_3 (by decide) q_291 rfl ?_
  refine A_iconst (v := nI 2) d_Rd_tellLikes_30 (by decide) ?_
  refine A_ialdN d_Rd_tellLikes_31 M.1.nu ⟨by decide, by decide⟩ ?_
  refine A_topI (hv 2 (by decide)) ?_
  first | refine A_iaddN d_Rd_tellLikes_32 (by with_reducible rfl) (by with_reducible rfl) ?_ | refine A_iadd d_Rd_tellLikes_32 ?_
  refine A_iconst (v := nI 1) d_Rd_tellLikes_33 (by decide) ?_
  first | refine A_iaddN d_Rd_tellLikes_34 (by with_reducible rfl) (by with_reducible rfl) ?_ | refine A_iadd d_Rd_tellLikes_34 ?_
  refine A_aload_n0 d_Rd_tellLikes_35 ?_
  refine A_getf (kf := 10) d_Rd_tellLikes_36 M.1.o ok_3 (by decide) q_291 rfl ?_
  refine A_iconst (v := nI 3) d_Rd_tellLikes_39 (by decide) ?_
  refine A_ialdN d_Rd_tellLikes_40 M.1.nu ⟨by decide, by decide⟩ ?_
  refine A_topI (hv 3 (by decide)) ?_
  refine A_callS d_Rd_tellLikes_41 (c_JA_fill_1 ((LAt_rg M.1.ld).get 4 rfl) (by have := hR.ge; omega) (by decide) (v 0 * 24 + v 1) (v 0 * 24 + v 2 + 1) ⟨by omega, by omega⟩ (nI (v 3))) q_573 q_574 mk_JA_fill_1 rfl (by decide) rfl (Nat.le_of_ble_eq_true rfl) ⟨Nat.le_of_ble_eq_true rfl, Nat.le_of_ble_eq_true rfl⟩ ?_
  rintro _ _ ⟨rfl, rfl⟩
  replace M := M.lfil (j := 4) (kk := 8) (g := filF (Z.2.2.2.1.2 8) (nI (v 3)) (v 0 * 24 + v 1) (v 0 * 24 + v 2 + 1)) rfl rfl
  refine A_aload_n0 d_Rd_tellLikes_44 ?_
  refine A_aload_n0 d_Rd_tellLikes_45 ?_
  refine A_getf (kf := 13) d_Rd_tellLikes_46 M.1.o ok_3 (by decide) q_294 rfl ?_
  refine A_aload_n0 d_Rd_tellLikes_49 ?_
  refine A_getf (kf := 10) d_Rd_tellLikes_50 M.1.o ok_3 (by decide) q_291 rfl ?_
  refine A_iconst (v := nI 0) d_Rd_tellLikes_53 (by decide) ?_
  refine A_ialdN d_Rd_tellLikes_54 M.1.nu ⟨by decide, by decide⟩ ?_
  refine A_topI (hv 0 (by decide)) ?_
  refine A_callSP d_Rd_tellLikes_55 (c_JM_max_0 _ _ _) q_579 q_580 mk_JM_max_0 rfl (by decide) rfl (Nat.le_of_ble_eq_true rfl) ⟨Nat.le_of_ble_eq_true rfl, Nat.le_of_ble_eq_true rfl⟩ ⟨rfl, rfl⟩ ?_
  refine A_topI (mxI g13 (by omega) (by omega)) ?_
  refine A_rdInt (kf := 13) d_Rd_tellLikes_58 (by decide) q_294 (Or.inl rfl) (by decide +kernel) M rfl (fun h' M' => ?_)
  replace M := M'
  clear M'
  refine A_aload_n0 d_Rd_tellLikes_61 ?_
  refine A_aload_n0 d_Rd_tellLikes_62 ?_
  refine A_getf (kf := 14) d_Rd_tellLikes_63 M.1.o ok_3 (by decide) q_295 rfl ?_
  refine A_aload_n0 d_Rd_tellLikes_66 ?_
  refine A_getf (kf := 10) d_Rd_tellLikes_67 M.1.o ok_3 (by decide) q_291 rfl ?_
  refine A_iconst (v := nI 2) d_Rd_tellLikes_70 (by decide) ?_
  refine A_ialdN d_Rd_tellLikes_71 M.1.nu ⟨by decide, by decide⟩ ?_
  refine A_topI (hv 2 (by decide)) ?_
  refine A_callSP d_Rd_tellLikes_72 (c_JM_max_0 _ _ _) q_579 q_580 mk_JM_max_0 rfl (by decide) rfl (Nat.le_of_ble_eq_true rfl) ⟨Nat.le_of_ble_eq_true rfl, Nat.le_of_ble_eq_true rfl⟩ ⟨rfl, rfl⟩ ?_
  refine A_topI (mxI (show fup Z.1 13 (hI (max a (v 0 + 1))) 14 = hI b from (fup_ne Z.1 _ (by decide)).trans g14) (by omega) (by omega)) ?_
  refine A_rdInt (kf := 14) d_Rd_tellLikes_75 (by decide) q_295 (Or.inl rfl) (by decide +kernel) M rfl (fun h' M' => ?_)
  replace M := M'
  clear M'
  refine A_vret d_Rd_tellLikes_78 rfl ⟨Nat.zero_le _, Nat.zero_le _⟩ ?_
  exact ⟨rfl, M⟩
set_option maxHeartbeats 4000000 in
set_option maxRecDepth 100000 in
theorem c_Rd_tellLine {G : GE} {h : AH} {r : Nat} {Z : RC} (hR : RdAt h r Z) {k : Nat} (h8 : Z.1 8 = nI k) {of : Nat} (hof : of = 0 ∧ k ≤ 7 ∨ of = 1 ∧ k = 8 ∨ of = 2 ∧ k = 9 ∨ of = 3 ∧ k = 10 ∨ of = 4 ∧ k = 11) {v : Nat → Nat} (hv : ∀ i, i < ncN k → Z.2.2.2.2.2.2 2 i = nI (v i)) (hr : ∀ i, i < ncN k → inrN k v i = true) {T : Nat → Nat} {f : Nat × Nat × Nat} (hfu : fulN k T = false) (hC : CR of Z T f) {d : Nat} {b : Bool} (h12 : k = 10 → Z.1 12 = bI b ∧ d = if b = true then 1 else 0)  : Ctr G y_Rd_tellLine b_Rd_tellLine 1 none r_Rd_tellLine [.ref r] h (fun v' h1 => v' = none ∧ ∃ Z1, RdW h h1 r Z1 ∧ Z1.2.1 = Z.2.1 ∧ Z1.2.2.1 = Z.2.2.1 ∧ Z1.1 6 = Z.1 6 ∧ Z1.1 7 = Z.1 7 ∧ CR of Z1 (tolT k d v T) (farN k v f)) := by
  refine Ctr.of (by decide +kernel) (by simp) (Nat.le_of_ble_eq_true rfl) (L0 := [some (.ref r)]) rfl ?_
  have M := RdW.start hR
  rcases hof with ⟨rfl, hk⟩ | ⟨rfl, rfl⟩ | ⟨rfl, rfl⟩ | ⟨rfl, rfl⟩ | ⟨rfl, rfl⟩
  · rcases (show k = 0 ∨ k = 1 ∨ k = 2 ∨ k = 3 ∨ k = 4 ∨ k = 5 ∨ k = 6 ∨ k = 7 by omega) with rfl | rfl | rfl | rfl | rfl | rfl | rfl | rfl
    · have b0 := inr_le (hr 0 (by decide))
      replace b0 : 4 ≤ v 0 ∧ v 0 ≤ 24 := b0
      obtain ⟨hLX, g13, g14, gp, gh⟩ := hC.1 rfl
      refine A_aload_n0 d_Rd_tellLine_0 ?_
      refine A_getf (kf := 8) d_Rd_tellLine_1 M.1.o ok_3 (by decide) q_289 rfl ?_
      refine A_topI h8 ?_
      refine A_tableIn (tgt := 64) d_Rd_tellLine_4 (by decide) (by decide) rfl (by decide) ?_
      refine A_aload_n0 d_Rd_tellLine_64 ?_
      refine A_getf (kf := 1) d_Rd_tellLine_65 M.1.o ok_3 (by decide) q_275 rfl ?_
      refine A_aload_n0 d_Rd_tellLine_68 ?_
      refine A_getf (kf := 10) d_Rd_tellLine_69 M.1.o ok_3 (by decide) q_291 rfl ?_
      refine A_iconst (v := nI 0) d_Rd_tellLine_72 (by decide) ?_
      refine A_ialdN d_Rd_tellLine_73 M.1.nu ⟨by decide, by decide⟩ ?_
      refine A_topI (hv 0 (by decide)) ?_
      refine A_rdLd (kf := 0) d_Rd_tellLine_74 (by decide) q_46 (Or.inl rfl) (by decide +kernel) M rfl (fun h M => ?_)
      refine A_goto (tgt := 335) d_Rd_tellLine_77 (by decide) ?_
      refine A_vret d_Rd_tellLine_335 rfl ⟨Nat.zero_le _, Nat.zero_le _⟩ ?_
      refine ⟨rfl, _, M, rfl, rfl, rfl, rfl, ?_⟩
      exact hC.l0 (LX_k hLX (by decide) ⟨fun _ => b0, fun w => absurd w (by decide), fun w => absurd w (by decide), fun w => absurd w (by decide)⟩) rfl g13 g14 gp gh rfl
    · have b0 := inr_le (hr 0 (by decide))
      replace b0 : 0 ≤ v 0 ∧ v 0 ≤ 3 := b0
      obtain ⟨hLX, g13, g14, gp, gh⟩ := hC.1 rfl
      refine A_aload_n0 d_Rd_tellLine_0 ?_
      refine A_getf (kf := 8) d_Rd_tellLine_1 M.1.o ok_3 (by decide) q_289 rfl ?_
      refine A_topI h8 ?_
      refine A_tableIn (tgt := 80) d_Rd_tellLine_4 (by decide) (by decide) rfl (by decide) ?_
      refine A_aload_n0 d_Rd_tellLine_80 ?_
      refine A_getf (kf := 1) d_Rd_tellLine_81 M.1.o ok_3 (by decide) q_275 rfl ?_
      refine A_aload_n0 d_Rd_tellLine_84 ?_
      refine A_getf (kf := 10) d_Rd_tellLine_85 M.1.o ok_3 (by decide) q_291 rfl ?_
      refine A_iconst (v := nI 0) d_Rd_tellLine_88 (by decide) ?_
      refine A_ialdN d_Rd_tellLine_89 M.1.nu ⟨by decide, by decide⟩ ?_
      refine A_topI (hv 0 (by decide)) ?_
      refine A_rdLd (kf := 1) d_Rd_tellLine_90 (by decide) q_52 (Or.inl rfl) (by decide +kernel) M rfl (fun h M => ?_)
      refine A_goto (tgt := 335) d_Rd_tellLine_93 (by decide) ?_
      refine A_vret d_Rd_tellLine_335 rfl ⟨Nat.zero_le _, Nat.zero_le _⟩ ?_
      refine ⟨rfl, _, M, rfl, rfl, rfl, rfl, ?_⟩
      exact hC.l0 (LX_k hLX (by decide) ⟨fun w => absurd w (by decide), fun _ => b0.2, fun w => absurd w (by decide), fun w => absurd w (by decide)⟩) rfl g13 g14 gp gh rfl
    · have b0 := inr_le (hr 0 (by decide))
      replace b0 : 0 ≤ v 0 ∧ v 0 ≤ 9 := b0
      obtain ⟨hLX, g13, g14, gp, gh⟩ := hC.1 rfl
      refine A_aload_n0 d_Rd_tellLine_0 ?_
      refine A_getf (kf := 8) d_Rd_tellLine_1 M.1.o ok_3 (by decide) q_289 rfl ?_
      refine A_topI h8 ?_
      refine A_tableIn (tgt := 96) d_Rd_tellLine_4 (by decide) (by decide) rfl (by decide) ?_
      refine A_aload_n0 d_Rd_tellLine_96 ?_
      refine A_getf (kf := 1) d_Rd_tellLine_97 M.1.o ok_3 (by decide) q_275 rfl ?_
      refine A_aload_n0 d_Rd_tellLine_100 ?_
      refine A_getf (kf := 10) d_Rd_tellLine_101 M.1.o ok_3 (by decide) q_291 rfl ?_
      refine A_iconst (v := nI 0) d_Rd_tellLine_104 (by decide) ?_
      refine A_ialdN d_Rd_tellLine_105 M.1.nu ⟨by decide, by decide⟩ ?_
      refine A_topI (hv 0 (by decide)) ?_
      refine A_rdLd (kf := 2) d_Rd_tellLine_106 (by decide) q_55 (Or.inl rfl) (by decide +kernel) M rfl (fun h M => ?_)
      refine A_goto (tgt := 335) d_Rd_tellLine_109 (by decide) ?_
      refine A_vret d_Rd_tellLine_335 rfl ⟨Nat.zero_le _, Nat.zero_le _⟩ ?_
      refine ⟨rfl, _, M, rfl, rfl, rfl, rfl, ?_⟩
      exact hC.l0 (LX_k hLX (by decide) ⟨fun w => absurd w (by decide), fun w => absurd w (by decide), fun _ => b0.2, fun w => absurd w (by decide)⟩) rfl g13 g14 gp gh rfl
    · have b0 := inr_le (hr 0 (by decide))
      replace b0 : 1 ≤ v 0 ∧ v 0 ≤ 4 := b0
      obtain ⟨hLX, g13, g14, gp, gh⟩ := hC.1 rfl
      refine A_aload_n0 d_Rd_tellLine_0 ?_
      refine A_getf (kf := 8) d_Rd_tellLine_1 M.1.o ok_3 (by decide) q_289 rfl ?_
      refine A_topI h8 ?_
      refine A_tableIn (tgt := 112) d_Rd_tellLine_4 (by decide) (by decide) rfl (by decide) ?_
      refine A_aload_n0 d_Rd_tellLine_112 ?_
      refine A_getf (kf := 1) d_Rd_tellLine_113 M.1.o ok_3 (by decide) q_275 rfl ?_
      refine A_aload_n0 d_Rd_tellLine_116 ?_
      refine A_getf (kf := 10) d_Rd_tellLine_117 M.1.o ok_3 (by decide) q_291 rfl ?_
      refine A_iconst (v := nI 0) d_Rd_tellLine_120 (by decide) ?_
      refine A_ialdN d_Rd_tellLine_121 M.1.nu ⟨by decide, by decide⟩ ?_
      refine A_topI (hv 0 (by decide)) ?_
      refine A_rdLd (kf := 3) d_Rd_tellLine_122 (by decide) q_58 (Or.inl rfl) (by decide +kernel) M rfl (fun h M => ?_)
      refine A_goto (tgt := 335) d_Rd_tellLine_125 (by decide) ?_
      refine A_vret d_Rd_tellLine_335 rfl ⟨Nat.zero_le _, Nat.zero_le _⟩ ?_
      refine ⟨rfl, _, M, rfl, rfl, rfl, rfl, ?_⟩
      exact hC.l0 (LX_k hLX (by decide) ⟨fun w => absurd w (by decide), fun w => absurd w (by decide), fun w => absurd w (by decide), fun _ => b0⟩) rfl g13 g14 gp gh rfl
    · have b0 : 0 ≤ v 0 ∧ v 0 ≤ 1 := inr_le (hr 0 (by decide))
      have b1 : 0 ≤ v 1 ∧ v 1 ≤ 12 := inr_le (hr 1 (by decide))
      have b2 : 0 ≤ v 2 ∧ v 2 ≤ 12 := inr_le (hr 2 (by decide))
      obtain ⟨hLX, g13, g14, gp, gh⟩ := hC.1 rfl
      have hfu4 : T 4 ≠ 10 := of_decide_eq_false hfu
      have ho4 := hLX.1.1.2.2.2.2.1
      refine A_aload_n0 d_Rd_tellLine_0 ?_
      refine A_getf (kf := 8) d_Rd_tellLine_1 M.1.o ok_3 (by decide) q_289 rfl ?_
      refine A_topI h8 ?_
      refine A_tableIn (tgt := 128) d_Rd_tellLine_4 (by decide) (by decide) rfl (by decide) ?_
      refine A_aload_n0 d_Rd_tellLine_128 ?_
      refine A_callV d_Rd_tellLine_129 (c_Rd_tellPerson M.1 hv hLX.1.2.1.2.2.2.2.1 (by omega)) M.1.o rfl q_565 q_566 q_567 mk_Rd_tellPerson rfl (by decide) rfl (Nat.le_of_ble_eq_true rfl) ⟨Nat.le_of_ble_eq_true rfl, Nat.le_of_ble_eq_true rfl⟩ ?_
      rintro _ h5 ⟨rfl, M5⟩
      replace M := M.trans M5
      refine A_goto (tgt := 335) d_Rd_tellLine_132 (by decide) ?_
      refine A_vret d_Rd_tellLine_335 rfl ⟨Nat.zero_le _, Nat.zero_le _⟩ ?_
      refine ⟨rfl, _, M, rfl, rfl, rfl, rfl, ?_⟩
      exact hC.l0 (LX_person hLX hfu4 b0.2 b1.2 b2.2) rfl g13 g14 gp gh rfl
    · have b0 : 0 ≤ v 0 ∧ v 0 ≤ 9 := inr_le (hr 0 (by decide))
      have b1 : 0 ≤ v 1 ∧ v 1 ≤ 23 := inr_le (hr 1 (by decide))
      have b2 : v 1 ≤ v 2 ∧ v 2 ≤ 23 := inr_le (hr 2 (by decide))
      have b3 : 0 ≤ v 3 ∧ v 3 ≤ 9 := inr_le (hr 3 (by decide))
      obtain ⟨hLX, g13, g14, gp, gh⟩ := hC.1 rfl
      refine A_aload_n0 d_Rd_tellLine_0 ?_
      refine A_getf (kf := 8) d_Rd_tellLine_1 M.1.o ok_3 (by decide) q_289 rfl ?_
      refine A_topI h8 ?_
      refine A_tableIn (tgt := 135) d_Rd_tellLine_4 (by decide) (by decide) rfl (by decide) ?_
      refine A_aload_n0 d_Rd_tellLine_135 ?_
      refine A_callV d_Rd_tellLine_136 (c_Rd_tellLikes M.1 hv g13 g14 (by omega) (by omega) b0.2 b2.1 b2.2 b3.2) M.1.o rfl q_569 q_570 q_571 mk_Rd_tellLikes rfl (by decide) rfl (Nat.le_of_ble_eq_true rfl) ⟨Nat.le_of_ble_eq_true rfl, Nat.le_of_ble_eq_true rfl⟩ ?_
      rintro _ h5 ⟨rfl, M5⟩
      replace M := M.trans M5
      refine A_goto (tgt := 335) d_Rd_tellLine_139 (by decide) ?_
      refine A_vret d_Rd_tellLine_335 rfl ⟨Nat.zero_le _, Nat.zero_le _⟩ ?_
      refine ⟨rfl, _, M, rfl, rfl, rfl, rfl, ?_⟩
      rw [show tolT 5 d v T = spF (42 + 27 * v 0 + 3) (v 1) (v 2) (v 3) T from if_pos (lnG_t hr)]
      refine hC.l0 (LX_likes hLX b0.2 b2.1 b2.2 b3.2) rfl ((fup_ne (fup Z.1 13 (hI (max f.1 (v 0 + 1)))) (hI (max f.2.1 (v 2 + 1))) (show (13 : Nat) ≠ 14 by decide)).trans (fup_eq Z.1 13 _)) ((fup_eq (fup Z.1 13 (hI (max f.1 (v 0 + 1)))) 14 _).trans (congrArg hI (show max f.2.1 (v 2 + 1) = max f.2.1 (max (v 1) (v 2) + 1) by rw [Nat.max_eq_right b2.1]))) ?_ ?_ rfl
      · show max f.1 (v 0 + 1) ≤ 10
        omega
      · show max f.2.1 (max (v 1) (v 2) + 1) ≤ 24
        omega
    · have b0 : 0 ≤ v 0 ∧ v 0 ≤ 99 := inr_le (hr 0 (by decide))
      have b1 : 0 ≤ v 1 ∧ v 1 ≤ 10 := inr_le (hr 1 (by decide))
      obtain ⟨hLX, g13, g14, gp, gh⟩ := hC.1 rfl
      have hfu5 : T 5 ≠ 6 := of_decide_eq_false hfu
      have ho5 := hLX.1.1.2.2.2.2.2.1
      have f9 := hLX.1.2.1.2.2.2.2.2
      refine A_aload_n0 d_Rd_tellLine_0 ?_
      refine A_getf (kf := 8) d_Rd_tellLine_1 M.1.o ok_3 (by decide) q_289 rfl ?_
      refine A_topI h8 ?_
      refine A_tableIn (tgt := 142) d_Rd_tellLine_4 (by decide) (by decide) rfl (by decide) ?_
      refine A_aload_n0 d_Rd_tellLine_142 ?_
      refine A_getf (kf := 1) d_Rd_tellLine_143 M.1.o ok_3 (by decide) q_275 rfl ?_
      refine A_getf (kf := 10) d_Rd_tellLine_146 M.1.ld.o ok_1 (by decide) q_80 rfl ?_
      refine A_aload_n0 d_Rd_tellLine_149 ?_
      refine A_getf (kf := 1) d_Rd_tellLine_150 M.1.o ok_3 (by decide) q_275 rfl ?_
      refine A_getf (kf := 9) d_Rd_tellLine_153 M.1.ld.o ok_1 (by decide) q_77 rfl ?_
      refine A_topI f9 ?_
      refine A_aload_n0 d_Rd_tellLine_156 ?_
      refine A_getf (kf := 10) d_Rd_tellLine_157 M.1.o ok_3 (by decide) q_291 rfl ?_
      refine A_iconst (v := nI 0) d_Rd_tellLine_160 (by decide) ?_
      refine A_ialdN d_Rd_tellLine_161 M.1.nu ⟨by decide, by decide⟩ ?_
      refine A_topI (hv 0 (by decide)) ?_
      refine A_rdLa (j := 5) (kk := 10) (len := 6) d_Rd_tellLine_162 M rfl ⟨by omega, by decide⟩ rfl (fun h M => ?_)
      refine A_aload_n0 d_Rd_tellLine_163 ?_
      refine A_getf (kf := 1) d_Rd_tellLine_164 M.1.o ok_3 (by decide) q_275 rfl ?_
      refine A_getf (kf := 11) d_Rd_tellLine_167 M.1.ld.o ok_1 (by decide) q_83 rfl ?_
      refine A_aload_n0 d_Rd_tellLine_170 ?_
      refine A_getf (kf := 1) d_Rd_tellLine_171 M.1.o ok_3 (by decide) q_275 rfl ?_
      refine A_getf (kf := 9) d_Rd_tellLine_174 M.1.ld.o ok_1 (by decide) q_77 rfl ?_
      refine A_topI f9 ?_
      refine A_aload_n0 d_Rd_tellLine_177 ?_
      refine A_getf (kf := 10) d_Rd_tellLine_178 M.1.o ok_3 (by decide) q_291 rfl ?_
      refine A_iconst (v := nI 1) d_Rd_tellLine_181 (by decide) ?_
      refine A_ialdN d_Rd_tellLine_182 M.1.nu ⟨by decide, by decide⟩ ?_
      refine A_topI (hv 1 (by decide)) ?_
      refine A_rdLa (j := 6) (kk := 11) (len := 6) d_Rd_tellLine_183 M rfl ⟨by omega, by decide⟩ rfl (fun h M => ?_)
      refine A_aload_n0 d_Rd_tellLine_184 ?_
      refine A_getf (kf := 1) d_Rd_tellLine_185 M.1.o ok_3 (by decide) q_275 rfl ?_
      first | refine A_dupR d_Rd_tellLine_188 ?_ | refine A_dupI d_Rd_tellLine_188 ?_
      refine A_getf (kf := 9) d_Rd_tellLine_189 M.1.ld.o ok_1 (by decide) q_77 rfl ?_
      refine A_topI f9 ?_
      refine A_iconst (v := nI 1) d_Rd_tellLine_192 (by decide) ?_
      first | refine A_iaddN d_Rd_tellLine_193 (by with_reducible rfl) (by with_reducible rfl) ?_ | refine A_iadd d_Rd_tellLine_193 ?_
      refine A_rdLd (kf := 9) d_Rd_tellLine_194 (by decide) q_77 (Or.inl rfl) (by decide +kernel) M rfl (fun h M => ?_)
      refine A_goto (tgt := 335) d_Rd_tellLine_197 (by decide) ?_
      refine A_vret d_Rd_tellLine_335 rfl ⟨Nat.zero_le _, Nat.zero_le _⟩ ?_
      refine ⟨rfl, _, M, rfl, rfl, rfl, rfl, ?_⟩
      exact hC.l0 (LX_bearer hLX hfu5 b0.2 b1.2) rfl g13 g14 gp gh rfl
    · have b0 : 0 ≤ v 0 ∧ v 0 ≤ 23 := inr_le (hr 0 (by decide))
      have b1 : 0 ≤ v 1 ∧ v 1 ≤ 99 := inr_le (hr 1 (by decide))
      obtain ⟨hLX, g13, g14, gp, gh⟩ := hC.1 rfl
      refine A_aload_n0 d_Rd_tellLine_0 ?_
      refine A_getf (kf := 8) d_Rd_tellLine_1 M.1.o ok_3 (by decide) q_289 rfl ?_
      refine A_topI h8 ?_
      refine A_tableIn (tgt := 200) d_Rd_tellLine_4 (by decide) (by decide) rfl (by decide) ?_
      refine A_aload_n0 d_Rd_tellLine_200 ?_
      refine A_getf (kf := 1) d_Rd_tellLine_201 M.1.o ok_3 (by decide) q_275 rfl ?_
      refine A_getf (kf := 12) d_Rd_tellLine_204 M.1.ld.o ok_1 (by decide) q_86 rfl ?_
      refine A_aload_n0 d_Rd_tellLine_207 ?_
      refine A_getf (kf := 10) d_Rd_tellLine_208 M.1.o ok_3 (by decide) q_291 rfl ?_
      refine A_iconst (v := nI 0) d_Rd_tellLine_211 (by decide) ?_
      refine A_ialdN d_Rd_tellLine_212 M.1.nu ⟨by decide, by decide⟩ ?_
      refine A_topI (hv 0 (by decide)) ?_
      refine A_aload_n0 d_Rd_tellLine_213 ?_
      refine A_getf (kf := 10) d_Rd_tellLine_214 M.1.o ok_3 (by decide) q_291 rfl ?_
      refine A_iconst (v := nI 1) d_Rd_tellLine_217 (by decide) ?_
      refine A_ialdN d_Rd_tellLine_218 M.1.nu ⟨by decide, by decide⟩ ?_
      refine A_topI (hv 1 (by decide)) ?_
      refine A_rdLa (j := 7) (kk := 12) (len := 24) d_Rd_tellLine_219 M rfl ⟨by omega, by decide⟩ rfl (fun h M => ?_)
      refine A_aload_n0 d_Rd_tellLine_220 ?_
      refine A_aload_n0 d_Rd_tellLine_221 ?_
      refine A_getf (kf := 14) d_Rd_tellLine_222 M.1.o ok_3 (by decide) q_295 rfl ?_
      refine A_aload_n0 d_Rd_tellLine_225 ?_
      refine A_getf (kf := 10) d_Rd_tellLine_226 M.1.o ok_3 (by decide) q_291 rfl ?_
      refine A_iconst (v := nI 0) d_Rd_tellLine_229 (by decide) ?_
      refine A_ialdN d_Rd_tellLine_230 M.1.nu ⟨by decide, by decide⟩ ?_
      refine A_topI (hv 0 (by decide)) ?_
      refine A_callSP d_Rd_tellLine_231 (c_JM_max_0 _ _ _) q_579 q_580 mk_JM_max_0 rfl (by decide) rfl (Nat.le_of_ble_eq_true rfl) ⟨Nat.le_of_ble_eq_true rfl, Nat.le_of_ble_eq_true rfl⟩ ⟨rfl, rfl⟩ ?_
      refine A_topI (mxI g14 (by omega) (by omega)) ?_
      refine A_rdInt (kf := 14) d_Rd_tellLine_234 (by decide) q_295 (Or.inl rfl) (by decide +kernel) M rfl (fun h' M' => ?_)
      replace M := M'
      clear M'
      refine A_goto (tgt := 335) d_Rd_tellLine_237 (by decide) ?_
      refine A_vret d_Rd_tellLine_335 rfl ⟨Nat.zero_le _, Nat.zero_le _⟩ ?_
      refine ⟨rfl, _, M, rfl, rfl, rfl, rfl, ?_⟩
      rw [show tolT 7 d v T = fup T (6 + v 0) (v 1) from if_pos (lnG_t hr)]
      refine hC.l0 (LX_toll hLX b0.2 b1.2) rfl ((fup_ne Z.1 (hI (max f.2.1 (v 0 + 1))) (show (13 : Nat) ≠ 14 by decide)).trans g13) (fup_eq Z.1 14 _) gp ?_ rfl
      show max f.2.1 (v 0 + 1) ≤ 24
      omega
  · have b0 : 0 ≤ v 0 ∧ v 0 ≤ 2 := inr_le (hr 0 (by decide))
    have b1 : 0 ≤ v 1 ∧ v 1 ≤ 23 := inr_le (hr 1 (by decide))
    have b2 : v 1 ≤ v 2 ∧ v 2 ≤ 23 := inr_le (hr 2 (by decide))
    refine A_aload_n0 d_Rd_tellLine_0 ?_
    refine A_getf (kf := 8) d_Rd_tellLine_1 M.1.o ok_3 (by decide) q_289 rfl ?_
    refine A_topI h8 ?_
    refine A_tableIn (tgt := 240) d_Rd_tellLine_4 (by decide) (by decide) rfl (by decide) ?_
    refine A_aload_n0 d_Rd_tellLine_240 ?_
    refine A_getf (kf := 2) d_Rd_tellLine_241 M.1.o ok_3 (by decide) q_277 rfl ?_
    refine A_aload_n0 d_Rd_tellLine_244 ?_
    refine A_getf (kf := 10) d_Rd_tellLine_245 M.1.o ok_3 (by decide) q_291 rfl ?_
    refine A_iconst (v := nI 1) d_Rd_tellLine_248 (by decide) ?_
    refine A_ialdN d_Rd_tellLine_249 M.1.nu ⟨by decide, by decide⟩ ?_
    refine A_topI (hv 1 (by decide)) ?_
    refine A_aload_n0 d_Rd_tellLine_250 ?_
    refine A_getf (kf := 10) d_Rd_tellLine_251 M.1.o ok_3 (by decide) q_291 rfl ?_
    refine A_iconst (v := nI 2) d_Rd_tellLine_254 (by decide) ?_
    refine A_ialdN d_Rd_tellLine_255 M.1.nu ⟨by decide, by decide⟩ ?_
    refine A_topI (hv 2 (by decide)) ?_
    refine A_iconst (v := nI 1) d_Rd_tellLine_256 (by decide) ?_
    first | refine A_iaddN d_Rd_tellLine_257 (by with_reducible rfl) (by with_reducible rfl) ?_ | refine A_iadd d_Rd_tellLine_257 ?_
    refine A_aload_n0 d_Rd_tellLine_258 ?_
    refine A_getf (kf := 10) d_Rd_tellLine_259 M.1.o ok_3 (by decide) q_291 rfl ?_
    refine A_iconst (v := nI 0) d_Rd_tellLine_262 (by decide) ?_
    refine A_ialdN d_Rd_tellLine_263 M.1.nu ⟨by decide, by decide⟩ ?_
    refine A_topI (hv 0 (by decide)) ?_
    refine A_callS d_Rd_tellLine_264 (c_JA_fill_1 M.1.tr (by have := hR.ge; omega) (by decide) (v 1) (v 2 + 1) ⟨by omega, by omega⟩ (nI (v 0))) q_573 q_574 mk_JA_fill_1 rfl (by decide) rfl (Nat.le_of_ble_eq_true rfl) ⟨Nat.le_of_ble_eq_true rfl, Nat.le_of_ble_eq_true rfl⟩ ?_
    rintro _ _ ⟨rfl, rfl⟩
    replace M := M.atr (filF (Z.2.2.2.2.2.2 0) (nI (v 0)) (v 1) (v 2 + 1))
    refine A_goto (tgt := 335) d_Rd_tellLine_267 (by decide) ?_
    refine A_vret d_Rd_tellLine_335 rfl ⟨Nat.zero_le _, Nat.zero_le _⟩ ?_
    refine ⟨rfl, _, M, rfl, rfl, rfl, rfl, ?_⟩
    rw [show tolT 8 d v T = spF 0 (v 1) (v 2) (v 0) T from if_pos (lnG_t hr)]
    obtain ⟨-, c2, c3, -, c5, -, -, c8⟩ := hC
    refine ⟨fun w => absurd w (by decide), c2, fun _ x hx => ?_, fun w => absurd w (by decide), c5, fun w => absurd w (by decide), fun w => absurd w (by decide), c8⟩
    dsimp only
    rw [show fup Z.2.2.2.2.2.2 0 (filF (Z.2.2.2.2.2.2 0) (nI (v 0)) (v 1) (v 2 + 1)) 0 = filF (Z.2.2.2.2.2.2 0) (nI (v 0)) (v 1) (v 2 + 1) from fup_eq _ _ _]
    unfold filF spF
    have := c3 rfl x hx
    by_cases z : v 1 ≤ x ∧ x < v 2 + 1
    · rw [if_pos z, if_pos (by omega)]
      exact ⟨rfl, b0.2⟩
    · rw [if_neg z, if_neg (by omega)]
      exact this
  · have b0 : 0 ≤ v 0 ∧ v 0 ≤ 2 := inr_le (hr 0 (by decide))
    have b1 : 1 ≤ v 1 ∧ v 1 ≤ 24 := inr_le (hr 1 (by decide))
    obtain ⟨hBX, htt⟩ := hC.2.2.2.1 rfl
    have hfu0 : T 0 ≠ 30 := of_decide_eq_false hfu
    have ho0 := hBX.1
    have htl := BX_tot hBX
    refine A_aload_n0 d_Rd_tellLine_0 ?_
    refine A_getf (kf := 8) d_Rd_tellLine_1 M.1.o ok_3 (by decide) q_289 rfl ?_
    refine A_topI h8 ?_
    refine A_tableIn (tgt := 270) d_Rd_tellLine_4 (by decide) (by decide) rfl (by decide) ?_
    refine A_aload_n0 d_Rd_tellLine_270 ?_
    refine A_getf (kf := 3) d_Rd_tellLine_271 M.1.o ok_3 (by decide) q_279 rfl ?_
    refine A_aload_n0 d_Rd_tellLine_274 ?_
    refine A_getf (kf := 10) d_Rd_tellLine_275 M.1.o ok_3 (by decide) q_291 rfl ?_
    refine A_iconst (v := nI 0) d_Rd_tellLine_278 (by decide) ?_
    refine A_ialdN d_Rd_tellLine_279 M.1.nu ⟨by decide, by decide⟩ ?_
    refine A_topI (hv 0 (by decide)) ?_
    refine A_aload_n0 d_Rd_tellLine_280 ?_
    refine A_getf (kf := 10) d_Rd_tellLine_281 M.1.o ok_3 (by decide) q_291 rfl ?_
    refine A_iconst (v := nI 1) d_Rd_tellLine_284 (by decide) ?_
    refine A_ialdN d_Rd_tellLine_285 M.1.nu ⟨by decide, by decide⟩ ?_
    refine A_topI (hv 1 (by decide)) ?_
    refine A_callV d_Rd_tellLine_286 (c_Bk_add M.1.bk hBX.2.2.1 hBX.2.2.2.1 (by omega) htl b1 b0.2) M.1.bk.o rfl q_582 q_583 q_584 mk_Bk_add rfl (by decide) rfl (Nat.le_of_ble_eq_true rfl) ⟨Nat.le_of_ble_eq_true rfl, Nat.le_of_ble_eq_true rfl⟩ ?_
    rintro _ h5 ⟨rfl, Q5⟩
    replace M := M.book Q5
    refine A_goto (tgt := 335) d_Rd_tellLine_289 (by decide) ?_
    refine A_vret d_Rd_tellLine_335 rfl ⟨Nat.zero_le _, Nat.zero_le _⟩ ?_
    refine ⟨rfl, _, M, rfl, rfl, rfl, rfl, ?_⟩
    have hx := BX_at hBX hfu0 b0.2 b1.1 b1.2
    obtain ⟨-, c2, -, -, -, -, -, c8⟩ := hC
    exact ⟨fun w => absurd w (by decide), c2, fun w => absurd w (by decide), fun _ => ⟨hx.1, (congrArg (· + v 1) htt).trans hx.2.symm⟩, fun w => absurd rfl w, fun w => absurd w (by decide), fun w => absurd w (by decide), c8⟩
  · have b0 : 0 ≤ v 0 ∧ v 0 ≤ 9 := inr_le (hr 0 (by decide))
    have b1 : 0 ≤ v 1 ∧ v 1 ≤ 23 := inr_le (hr 1 (by decide))
    have hSV := hC.2.2.2.2.2.1 rfl
    have hfu0 : T 0 ≠ 20 := of_decide_eq_false hfu
    have ho0 := hSV.1.1
    refine A_aload_n0 d_Rd_tellLine_0 ?_
    refine A_getf (kf := 8) d_Rd_tellLine_1 M.1.o ok_3 (by decide) q_289 rfl ?_
    refine A_topI h8 ?_
    refine A_tableIn (tgt := 292) d_Rd_tellLine_4 (by decide) (by decide) rfl (by decide) ?_
    refine A_aload_n0 d_Rd_tellLine_292 ?_
    refine A_getf (kf := 4) d_Rd_tellLine_293 M.1.o ok_3 (by decide) q_281 rfl ?_
    refine A_aload_n0 d_Rd_tellLine_296 ?_
    refine A_getf (kf := 10) d_Rd_tellLine_297 M.1.o ok_3 (by decide) q_291 rfl ?_
    refine A_iconst (v := nI 0) d_Rd_tellLine_300 (by decide) ?_
    refine A_ialdN d_Rd_tellLine_301 M.1.nu ⟨by decide, by decide⟩ ?_
    refine A_topI (hv 0 (by decide)) ?_
    refine A_aload_n0 d_Rd_tellLine_302 ?_
    refine A_getf (kf := 10) d_Rd_tellLine_303 M.1.o ok_3 (by decide) q_291 rfl ?_
    refine A_iconst (v := nI 1) d_Rd_tellLine_306 (by decide) ?_
    refine A_ialdN d_Rd_tellLine_307 M.1.nu ⟨by decide, by decide⟩ ?_
    refine A_topI (hv 1 (by decide)) ?_
    refine A_aload_n0 d_Rd_tellLine_308 ?_
    refine A_getf (kf := 12) d_Rd_tellLine_309 M.1.o ok_3 (by decide) q_293 rfl ?_
    refine A_topI (h12 rfl).1 ?_
    refine A_callV d_Rd_tellLine_312 (c_Si_add M.1.sg hSV.2.1 (by omega)) M.1.sg.o rfl q_586 q_587 q_588 mk_Si_add rfl (by decide) rfl (Nat.le_of_ble_eq_true rfl) ⟨Nat.le_of_ble_eq_true rfl, Nat.le_of_ble_eq_true rfl⟩ ?_
    rintro _ h5 ⟨rfl, Q5⟩
    replace M := M.sight Q5
    refine A_goto (tgt := 335) d_Rd_tellLine_315 (by decide) ?_
    refine A_vret d_Rd_tellLine_335 rfl ⟨Nat.zero_le _, Nat.zero_le _⟩ ?_
    refine ⟨rfl, _, M, rfl, rfl, rfl, rfl, ?_⟩
    have hx := SX_saw hSV hfu0 b0.2 b1.2 (d := d) (by rw [(h12 rfl).2]; cases b <;> decide)
    rw [show nI d = bI b by rw [(h12 rfl).2]; cases b <;> rfl] at hx
    obtain ⟨-, c2, -, -, c5, -, -, c8⟩ := hC
    exact ⟨fun w => absurd w (by decide), c2, fun w => absurd w (by decide), fun w => absurd w (by decide), c5, fun _ => hx, fun w => absurd w (by decide), c8⟩
  · have b0 : 1 ≤ v 0 ∧ v 0 ≤ 7 := inr_le (hr 0 (by decide))
    have b1 : 0 ≤ v 1 ∧ v 1 ≤ 60 := inr_le (hr 1 (by decide))
    refine A_aload_n0 d_Rd_tellLine_0 ?_
    refine A_getf (kf := 8) d_Rd_tellLine_1 M.1.o ok_3 (by decide) q_289 rfl ?_
    refine A_topI h8 ?_
    refine A_tableOut (tgt := 318) d_Rd_tellLine_4 (by decide) (by decide) ?_
    refine A_aload_n0 d_Rd_tellLine_318 ?_
    refine A_getf (kf := 5) d_Rd_tellLine_319 M.1.o ok_3 (by decide) q_283 rfl ?_
    refine A_aload_n0 d_Rd_tellLine_322 ?_
    refine A_getf (kf := 10) d_Rd_tellLine_323 M.1.o ok_3 (by decide) q_291 rfl ?_
    refine A_iconst (v := nI 0) d_Rd_tellLine_326 (by decide) ?_
    refine A_ialdN d_Rd_tellLine_327 M.1.nu ⟨by decide, by decide⟩ ?_
    refine A_topI (hv 0 (by decide)) ?_
    refine A_aload_n0 d_Rd_tellLine_328 ?_
    refine A_getf (kf := 10) d_Rd_tellLine_329 M.1.o ok_3 (by decide) q_291 rfl ?_
    refine A_iconst (v := nI 1) d_Rd_tellLine_332 (by decide) ?_
    refine A_ialdN d_Rd_tellLine_333 M.1.nu ⟨by decide, by decide⟩ ?_
    refine A_topI (hv 1 (by decide)) ?_
    refine A_rdGm d_Rd_tellLine_334 M (by omega) (fun h' M' => ?_)
    replace M := M'
    clear M'
    refine A_vret d_Rd_tellLine_335 rfl ⟨Nat.zero_le _, Nat.zero_le _⟩ ?_
    refine ⟨rfl, _, M, rfl, rfl, rfl, rfl, ?_⟩
    rw [show tolT 11 d v T = fup T (v 0) (v 1) from if_pos (lnG_t hr)]
    obtain ⟨-, c2, -, -, c5, -, c7, c8⟩ := hC
    refine ⟨fun w => absurd w (by decide), c2, fun w => absurd w (by decide), fun w => absurd w (by decide), c5, fun w => absurd w (by decide), fun _ x hx => ?_, c8⟩
    dsimp only
    rw [show fup Z.2.2.2.2.2.2 1 (fup (Z.2.2.2.2.2.2 1) (v 0) (nI (v 1))) 1 = fup (Z.2.2.2.2.2.2 1) (v 0) (nI (v 1)) from fup_eq _ _ _]
    by_cases z : x = v 0
    · subst z
      rw [fup_eq, fup_eq]
      exact ⟨rfl, b1.2⟩
    · rw [fup_ne _ _ z, fup_ne _ _ z]
      exact c7 rfl x hx
