set_option maxHeartbeats 4000000 in
set_option maxRecDepth 100000 in
theorem c_N_drawnVillages {G : GE} {h : AH} {a : Nat} {D : LD} (hA : LAt h a D) {V : Nat → Nat} (hV : LVr D V) {w : Nat} {t : Nat → Nat} (hT : TAt h w t) (x0 : Int32) (d : Nat) (hd : d ≤ 60) : Ctr G y_N_drawnVillages b_N_drawnVillages 9 (some .int) r_N_drawnVillages [.ref a, .ref w, .int x0, .int (nI d)] h (Pu (.int (nI (yearQ V t x0 d).2.1)) h) := by
  refine Ctr.of (by decide +kernel) (by simp) (Nat.le_of_ble_eq_true rfl) (L0 := [some (.ref a), some (.ref w), some (.int x0), some (.int (nI d)), none, none, none, none, none]) rfl ?_
  have hV0 := hV
  obtain ⟨ok, ⟨f0, f1, f2, f3, f4, f9⟩, hP, hBe, hTo⟩ := hV
  have hH := ok.1
  have h5 := ok.2.2.2.2.2.1
  have hcn : carryN t (V 0) ≤ V 0 := by
    have := sumN_le (f := fun h => if comesB t (V 0) h = true then 1 else 0) (c := 1) (V 0) (fun i _ => by first | (split <;> omega) | (dsimp only; split <;> omega))
    unfold carryN
    omega
  have hmx : d * carryN t (V 0) ≤ 60 * 24 := Nat.mul_le_mul hd (by omega)
  have key : ∀ i, i ≤ d * carryN t (V 0) → ∀ x b, CQ V x b (itQ V (x0, 0, 0, 0) i) → WA G y_N_drawnVillages b_N_drawnVillages 9 (some .int) r_N_drawnVillages 0 0 (Pu (.int (nI (yearQ V t x0 d).2.1)) h) 0 0 21 [some (.ref a), some (.ref w), some (.int x0), some (.int (nI d)), some (.int (nI (d * carryN t (V 0)))), some (.int (nI (itQ V (x0, 0, 0, 0) i).2.1)), some (.int (nI b)), some (.int x), some (.int (nI i))] [] h := by
    refine down ?_ (fun i hi ih => ?_)
    · intro x b hc
      have hbb := hc.le
      refine A_iload8 d_N_drawnVillages_21 ?_
      refine A_iload4 d_N_drawnVillages_23 ?_
      first | refine A_icmp_geN (tgt := 78) d_N_drawnVillages_25 (by decide) (by with_reducible rfl) (by with_reducible rfl) (by omega) (by omega) (fun c_25 => ?_) (fun c_25 => ?_) | refine A_icmp_ge (tgt := 78) d_N_drawnVillages_25 (by decide) (fun c_25 => ?_) (fun c_25 => ?_)
      · refine A_iload5 d_N_drawnVillages_78 ?_
        refine A_iret d_N_drawnVillages_80 rfl ⟨Nat.zero_le _, Nat.zero_le _⟩ ?_
        exact pu (by rw [yearQ_it])
      · exact absurd c_25 (by omega)
    · intro x b hc
      have hbb := hc.le
      refine A_iload8 d_N_drawnVillages_21 ?_
      refine A_iload4 d_N_drawnVillages_23 ?_
      first | refine A_icmp_geN (tgt := 78) d_N_drawnVillages_25 (by decide) (by with_reducible rfl) (by with_reducible rfl) (by omega) (by omega) (fun c_25 => ?_) (fun c_25 => ?_) | refine A_icmp_ge (tgt := 78) d_N_drawnVillages_25 (by decide) (fun c_25 => ?_) (fun c_25 => ?_)
      · exact absurd c_25 (by omega)
      · refine A_iload7 d_N_drawnVillages_28 ?_
        refine A_callSP d_N_drawnVillages_30 (c_N_draw _ x) q_1031 q_1032 mk_N_draw rfl (by decide) rfl (Nat.le_of_ble_eq_true rfl) ⟨Nat.le_of_ble_eq_true rfl, Nat.le_of_ble_eq_true rfl⟩ ⟨rfl, rfl⟩ ?_
        obtain ⟨y, hy⟩ : ∃ y, y = nxt x := ⟨_, rfl⟩
        refine A_topI hy.symm ?_
        refine A_istore7 d_N_drawnVillages_33 trivial ?_
        refine A_iload5 d_N_drawnVillages_35 ?_
        refine A_aload_n0 d_N_drawnVillages_37 ?_
        refine A_iload6 d_N_drawnVillages_38 ?_
        refine A_iload7 d_N_drawnVillages_40 ?_
        refine A_callSP d_N_drawnVillages_42 (c_N_putsDown hA hV0 b (by omega) y) q_1035 q_1036 mk_N_putsDown rfl (by decide) rfl (Nat.le_of_ble_eq_true rfl) ⟨Nat.le_of_ble_eq_true rfl, Nat.le_of_ble_eq_true rfl⟩ ⟨rfl, rfl⟩ ?_
        refine A_callSP d_N_drawnVillages_45 (c_N_oneB _ _) q_692 q_591 mk_N_oneIf rfl (by decide) rfl (Nat.le_of_ble_eq_true rfl) ⟨Nat.le_of_ble_eq_true rfl, Nat.le_of_ble_eq_true rfl⟩ ⟨rfl, rfl⟩ ?_
        refine A_topI (bI_n _) ?_
        first | refine A_iaddN d_N_drawnVillages_48 (by with_reducible rfl) (by with_reducible rfl) ?_ | refine A_iadd d_N_drawnVillages_48 ?_
        refine A_istore5 d_N_drawnVillages_49 trivial ?_
        refine A_iload6 d_N_drawnVillages_51 ?_
        refine A_iconst (v := nI 1) d_N_drawnVillages_53 (by decide) ?_
        first | refine A_iaddN d_N_drawnVillages_54 (by with_reducible rfl) (by with_reducible rfl) ?_ | refine A_iadd d_N_drawnVillages_54 ?_
        refine A_aload_n0 d_N_drawnVillages_55 ?_
        refine A_getf (kf := 9) d_N_drawnVillages_56 hA.o ok_1 (by decide) q_78 rfl ?_
        refine A_topI f9 ?_
        first | refine A_icmp_geN (tgt := 69) d_N_drawnVillages_59 (by decide) (by with_reducible rfl) (by with_reducible rfl) (by omega) (by omega) (fun c_59 => ?_) (fun c_59 => ?_) | refine A_icmp_ge (tgt := 69) d_N_drawnVillages_59 (by decide) (fun c_59 => ?_) (fun c_59 => ?_)
        · refine A_iconst (v := nI 0) d_N_drawnVillages_69 (by decide) ?_
          refine A_istore6 d_N_drawnVillages_70 trivial ?_
          first | refine A_iinc8 d_N_drawnVillages_72 (nI_1 _) trivial ?_ | refine A_iinc8 d_N_drawnVillages_72 rfl trivial ?_
          refine A_goto (tgt := 21) d_N_drawnVillages_75 (by decide) ?_
          have st := CQ.step hc hy
          rw [← itQ_s] at st
          have st1 := st.1
          by_cases hb1 : b + 1 < V 5
          · rw [if_pos hb1] at st1
            first
              | (exfalso; omega)
              | (refine A_loc ?_ (ih y _ st1)
                 rw [st.2.1]
                 done)
          · rw [if_neg hb1] at st1
            first
              | (exfalso; omega)
              | (refine A_loc ?_ (ih y _ st1)
                 rw [st.2.1]
                 done)
        · refine A_iload6 d_N_drawnVillages_62 ?_
          refine A_iconst (v := nI 1) d_N_drawnVillages_64 (by decide) ?_
          first | refine A_iaddN d_N_drawnVillages_65 (by with_reducible rfl) (by with_reducible rfl) ?_ | refine A_iadd d_N_drawnVillages_65 ?_
          refine A_goto (tgt := 70) d_N_drawnVillages_66 (by decide) ?_
          refine A_istore6 d_N_drawnVillages_70 trivial ?_
          first | refine A_iinc8 d_N_drawnVillages_72 (nI_1 _) trivial ?_ | refine A_iinc8 d_N_drawnVillages_72 rfl trivial ?_
          refine A_goto (tgt := 21) d_N_drawnVillages_75 (by decide) ?_
          have st := CQ.step hc hy
          rw [← itQ_s] at st
          have st1 := st.1
          by_cases hb1 : b + 1 < V 5
          · rw [if_pos hb1] at st1
            first
              | (exfalso; omega)
              | (refine A_loc ?_ (ih y _ st1)
                 rw [st.2.1]
                 done)
          · rw [if_neg hb1] at st1
            first
              | (exfalso; omega)
              | (refine A_loc ?_ (ih y _ st1)
                 rw [st.2.1]
                 done)
  refine A_iload_n3 d_N_drawnVillages_0 ?_
  refine A_aload_n0 d_N_drawnVillages_1 ?_
  refine A_aload_n1 d_N_drawnVillages_2 ?_
  refine A_callVP d_N_drawnVillages_3 (c_Ld_carryings hA hV0 hT) hA.o rfl q_693 q_694 q_695 mk_Ld_carryings rfl (by decide) rfl (Nat.le_of_ble_eq_true rfl) ⟨Nat.le_of_ble_eq_true rfl, Nat.le_of_ble_eq_true rfl⟩ ⟨rfl, rfl⟩ ?_
  first | refine A_imulN d_N_drawnVillages_6 (by with_reducible rfl) (by with_reducible rfl) ?_ | refine A_imul d_N_drawnVillages_6 ?_
  refine A_istore4 d_N_drawnVillages_7 trivial ?_
  refine A_iconst (v := nI 0) d_N_drawnVillages_9 (by decide) ?_
  refine A_istore5 d_N_drawnVillages_10 trivial ?_
  refine A_iconst (v := nI 0) d_N_drawnVillages_12 (by decide) ?_
  refine A_istore6 d_N_drawnVillages_13 trivial ?_
  refine A_iload_n2 d_N_drawnVillages_15 ?_
  refine A_istore7 d_N_drawnVillages_16 trivial ?_
  refine A_iconst (v := nI 0) d_N_drawnVillages_18 (by decide) ?_
  refine A_istore8 d_N_drawnVillages_19 trivial ?_
  exact key 0 (Nat.zero_le _) x0 0 (CQ.start V x0)
def dkQ (V w : Nat → Nat) (q : Int32 × Nat × Nat × Nat) (p h : Nat) : Nat := if V (42 + 27 * p + 0) = 0 then darkN w 0 (V 0) - (dayD V w q h).2.1 else darkN w 1 (V 0) - (dayD V w q h).2.2
theorem okD_dk (V w : Nat → Nat) (q : Int32 × Nat × Nat × Nat) (p : Nat) : okD V w q p = if V (42 + 27 * p + 1) ≤ dkQ V w q p (V 0) then 1 else 0 := rfl
theorem okD_le (V w : Nat → Nat) (q : Int32 × Nat × Nat × Nat) (p : Nat) : okD V w q p ≤ 1 := by
  rw [okD_dk]
  split <;> omega
theorem darkN_mono (w : Nat → Nat) (cc a : Nat) : ∀ b, darkN w cc a ≤ darkN w cc (a + b)
  | 0 => Nat.le_refl _
  | b + 1 => Nat.le_trans (darkN_mono w cc a b) (Nat.le_add_right _ _)
theorem dkQ_0 {V w : Nat → Nat} {q : Int32 × Nat × Nat × Nat} {p : Nat} (hc : V (42 + 27 * p + 0) ≤ 1) : dkQ V w q p 0 = darkN w (V (42 + 27 * p + 0)) (V 0) := by
  unfold dkQ
  rcases (show V (42 + 27 * p + 0) = 0 ∨ V (42 + 27 * p + 0) = 1 by omega) with e | e
  · rw [if_pos e, e]; rfl
  · rw [if_neg (by omega), e]; rfl
theorem dkQ_no {V w : Nat → Nat} {q : Int32 × Nat × Nat × Nat} {p h : Nat} (hc : comesB w (V 0) h = false) : dkQ V w q p (h + 1) = dkQ V w q p h := by
  have e : dayD V w q (h + 1) = dayD V w q h := by
    rw [dayD_succ]
    unfold dayF
    rw [if_neg (by rw [hc]; decide)]
  unfold dkQ
  rw [e]
theorem dkQ_s {V w : Nat → Nat} {q : Int32 × Nat × Nat × Nat} {p h : Nat} (hp : V (42 + 27 * p + 0) ≤ 1) (hh : h < V 0) (hc : comesB w (V 0) h = true) : dkQ V w q p (h + 1) + (if w h = V (42 + 27 * p + 0) ∧ 0 < V 5 ∧ downB V (nxt (dayD V w q h).1.1) (dayD V w q h).1.2.2.2 = true then 1 else 0) = dkQ V w q p h := by
  have l0 := dayF_lost V w q (h + 1)
  have m0 := darkN_mono w 0 (h + 1) (V 0 - (h + 1))
  have m1 := darkN_mono w 1 (h + 1) (V 0 - (h + 1))
  rw [show h + 1 + (V 0 - (h + 1)) = V 0 by omega] at m0 m1
  have e : dayD V w q (h + 1) = dayF V w h (dayD V w q h) := rfl
  unfold dkQ
  rw [e] at l0 ⊢
  unfold dayF at l0 ⊢
  rw [if_pos hc] at l0 ⊢
  by_cases h5 : 0 < V 5
  · rw [if_pos h5] at l0 ⊢
    dsimp only at l0 ⊢
    by_cases hd : downB V (nxt (dayD V w q h).1.1) (dayD V w q h).1.2.2.2 = true
    · simp only [hd, true_and, and_true, h5] at l0 ⊢
      rcases (show V (42 + 27 * p + 0) = 0 ∨ V (42 + 27 * p + 0) = 1 by omega) with e | e
      · rw [e, if_pos rfl, if_pos rfl]
        by_cases z : w h = 0
        · simp [z] at l0 ⊢ <;> omega
        · simp [z] at l0 ⊢
      · rw [e, if_neg (show ¬ (1 : Nat) = 0 by decide), if_neg (show ¬ (1 : Nat) = 0 by decide)]
        by_cases z : w h = 1
        · simp [z] at l0 ⊢ <;> omega
        · simp [z] at l0 ⊢
    · simp only [hd, false_and, and_false, if_false, Nat.add_zero, Bool.false_eq_true] at l0 ⊢
  · rw [if_neg h5] at l0 ⊢
    simp only [h5, false_and, and_false, if_false, Nat.add_zero]
set_option maxHeartbeats 4000000 in
set_option maxRecDepth 100000 in
theorem c_N_drawnSleep {G : GE} {h : AH} {a : Nat} {D : LD} (hA : LAt h a D) {V : Nat → Nat} (hV : LVr D V) {w : Nat} {t : Nat → Nat} (hT : TAt h w t) (x0 : Int32) (d p : Nat) (hd : d ≤ 60) (hp : p < V 4) : Ctr G y_N_drawnSleep b_N_drawnSleep 11 (some .int) r_N_drawnSleep [.ref a, .ref w, .int x0, .int (nI d), .int (nI p)] h (Pu (.int (nI (yearS V t x0 p d))) h) := by
  refine Ctr.of (by decide +kernel) (by simp) (Nat.le_of_ble_eq_true rfl) (L0 := [some (.ref a), some (.ref w), some (.int x0), some (.int (nI d)), some (.int (nI p)), none, none, none, none, none, none]) rfl ?_
  have hV0 := hV
  obtain ⟨ok, ⟨f0, f1, f2, f3, f4, f9⟩, hP, hBe, hTo⟩ := hV
  have hH := ok.1
  have h5 := ok.2.2.2.2.2.1
  have hci := (ok.2.2.2.2.2.2.1 p (by have := ok.2.2.2.2.1; omega)).1
  have h4 := ok.2.2.2.2.1
  have hso : ∀ i, yearS V t x0 p i ≤ i := fun i => by
    have := sumN_le (f := fun d => okD V t (yearQ V t x0 d) p) (c := 1) i (fun k _ => okD_le _ _ _ _)
    unfold yearS
    omega
  have key : ∀ i, i ≤ d → ∀ x b, CQ V x b (yearQ V t x0 i) → WA G y_N_drawnSleep b_N_drawnSleep 11 (some .int) r_N_drawnSleep 0 0 (Pu (.int (nI (yearS V t x0 p d))) h) 0 0 12 [some (.ref a), some (.ref w), some (.int x0), some (.int (nI d)), some (.int (nI p)), some (.int (nI (yearS V t x0 p i))), some (.int (nI b)), some (.int x), some (.int (nI i)), none, none] [] h := by
    refine down ?_ (fun i hi ih => ?_)
    · intro x b hc
      have hbb := hc.le
      refine A_iload8 d_N_drawnSleep_12 ?_
      refine A_iload_n3 d_N_drawnSleep_14 ?_
      first | refine A_icmp_geN (tgt := 157) d_N_drawnSleep_15 (by decide) (by with_reducible rfl) (by with_reducible rfl) (by omega) (by omega) (fun c_15 => ?_) (fun c_15 => ?_) | refine A_icmp_ge (tgt := 157) d_N_drawnSleep_15 (by decide) (fun c_15 => ?_) (fun c_15 => ?_)
      · refine A_iload5 d_N_drawnSleep_157 ?_
        refine A_iret d_N_drawnSleep_159 rfl ⟨Nat.zero_le _, Nat.zero_le _⟩ ?_
        exact pu rfl
      · exact absurd c_15 (by omega)
    · intro x b hc
      have hbb := hc.le
      generalize hqq : yearQ V t x0 i = qq at hc
      rw [show yearQ V t x0 (i + 1) = (dayD V t qq (V 0)).1 from by rw [← hqq]; rfl] at ih
      have key2 : ∀ j, j ≤ V 0 → ∀ x b, CQ V x b (dayD V t qq j).1 → WA G y_N_drawnSleep b_N_drawnSleep 11 (some .int) r_N_drawnSleep 0 0 (Pu (.int (nI (yearS V t x0 p d))) h) 0 0 35 [some (.ref a), some (.ref w), some (.int x0), some (.int (nI d)), some (.int (nI p)), some (.int (nI (yearS V t x0 p i))), some (.int (nI b)), some (.int x), some (.int (nI i)), some (.int (nI (dkQ V t qq p j))), some (.int (nI j))] [] h := by
        refine down ?_ (fun j hj ih2 => ?_)
        · intro x b hc
          have hbb := hc.le
          have hdk : dkQ V t qq p (V 0) ≤ V 0 := by
            have h0 := darkN_le t 0 (V 0)
            have h1 := darkN_le t 1 (V 0)
            unfold dkQ
            split <;> omega
          refine A_iload10 d_N_drawnSleep_35 ?_
          refine A_aload_n0 d_N_drawnSleep_37 ?_
          refine A_getf (kf := 0) d_N_drawnSleep_38 hA.o ok_1 (by decide) q_49 rfl ?_
          refine A_topI f0 ?_
          first | refine A_icmp_geN (tgt := 126) d_N_drawnSleep_41 (by decide) (by with_reducible rfl) (by with_reducible rfl) (by omega) (by omega) (fun c_41 => ?_) (fun c_41 => ?_) | refine A_icmp_ge (tgt := 126) d_N_drawnSleep_41 (by decide) (fun c_41 => ?_) (fun c_41 => ?_)
          · refine A_iload5 d_N_drawnSleep_126 ?_
            refine A_iload9 d_N_drawnSleep_128 ?_
            refine A_aload_n0 d_N_drawnSleep_130 ?_
            refine A_getf (kf := 6) d_N_drawnSleep_131 hA.o ok_1 (by decide) q_69 rfl ?_
            refine A_iload4 d_N_drawnSleep_134 ?_
            refine A_ialdN d_N_drawnSleep_136 hA.a6 ⟨by omega, by decide⟩ ?_
            refine A_topI (hP p (by omega)).2.1 ?_
            have hne := (ok.2.2.2.2.2.2.1 p (by omega)).2.1
            first | refine A_icmp_ltN (tgt := 144) d_N_drawnSleep_137 (by decide) (by with_reducible rfl) (by with_reducible rfl) (by omega) (by omega) (fun c_137 => ?_) (fun c_137 => ?_) | refine A_icmp_lt (tgt := 144) d_N_drawnSleep_137 (by decide) (fun c_137 => ?_) (fun c_137 => ?_)
            · refine A_iconst (v := nI 0) d_N_drawnSleep_144 (by decide) ?_
              refine A_callSP d_N_drawnSleep_145 (c_N_one0 _) q_692 q_591 mk_N_oneIf rfl (by decide) rfl (Nat.le_of_ble_eq_true rfl) ⟨Nat.le_of_ble_eq_true rfl, Nat.le_of_ble_eq_true rfl⟩ ⟨rfl, rfl⟩ ?_
              first | refine A_iaddN d_N_drawnSleep_148 (by with_reducible rfl) (by with_reducible rfl) ?_ | refine A_iadd d_N_drawnSleep_148 ?_
              refine A_istore5 d_N_drawnSleep_149 trivial ?_
              first | refine A_iinc8 d_N_drawnSleep_151 (nI_1 _) trivial ?_ | refine A_iinc8 d_N_drawnSleep_151 rfl trivial ?_
              refine A_goto (tgt := 12) d_N_drawnSleep_154 (by decide) ?_
              refine A_drop9 ?_
              refine A_drop10 ?_
              refine A_loc ?_ (ih x b hc)
              rw [show yearS V t x0 p (i + 1) = yearS V t x0 p i + okD V t qq p from by rw [← hqq]; rfl]
              rw [okD_dk]
              first
                | (exfalso; omega)
                | (rw [if_pos (show V (42 + 27 * p + 1) ≤ dkQ V t qq p (V 0) by omega)]; done)
                | (rw [if_neg (show ¬ V (42 + 27 * p + 1) ≤ dkQ V t qq p (V 0) by omega)]; done)
            · refine A_iconst (v := nI 1) d_N_drawnSleep_140 (by decide) ?_
              refine A_goto (tgt := 145) d_N_drawnSleep_141 (by decide) ?_
              refine A_callSP d_N_drawnSleep_145 (c_N_one1 _) q_692 q_591 mk_N_oneIf rfl (by decide) rfl (Nat.le_of_ble_eq_true rfl) ⟨Nat.le_of_ble_eq_true rfl, Nat.le_of_ble_eq_true rfl⟩ ⟨rfl, rfl⟩ ?_
              first | refine A_iaddN d_N_drawnSleep_148 (by with_reducible rfl) (by with_reducible rfl) ?_ | refine A_iadd d_N_drawnSleep_148 ?_
              refine A_istore5 d_N_drawnSleep_149 trivial ?_
              first | refine A_iinc8 d_N_drawnSleep_151 (nI_1 _) trivial ?_ | refine A_iinc8 d_N_drawnSleep_151 rfl trivial ?_
              refine A_goto (tgt := 12) d_N_drawnSleep_154 (by decide) ?_
              refine A_drop9 ?_
              refine A_drop10 ?_
              refine A_loc ?_ (ih x b hc)
              rw [show yearS V t x0 p (i + 1) = yearS V t x0 p i + okD V t qq p from by rw [← hqq]; rfl]
              rw [okD_dk]
              first
                | (exfalso; omega)
                | (rw [if_pos (show V (42 + 27 * p + 1) ≤ dkQ V t qq p (V 0) by omega)]; done)
                | (rw [if_neg (show ¬ V (42 + 27 * p + 1) ≤ dkQ V t qq p (V 0) by omega)]; done)
          · exact absurd c_41 (by omega)
        · intro x b hc
          have hbb := hc.le
          refine A_iload10 d_N_drawnSleep_35 ?_
          refine A_aload_n0 d_N_drawnSleep_37 ?_
          refine A_getf (kf := 0) d_N_drawnSleep_38 hA.o ok_1 (by decide) q_49 rfl ?_
          refine A_topI f0 ?_
          first | refine A_icmp_geN (tgt := 126) d_N_drawnSleep_41 (by decide) (by with_reducible rfl) (by with_reducible rfl) (by omega) (by omega) (fun c_41 => ?_) (fun c_41 => ?_) | refine A_icmp_ge (tgt := 126) d_N_drawnSleep_41 (by decide) (fun c_41 => ?_) (fun c_41 => ?_)
          · exact absurd c_41 (by omega)
          · refine A_aload_n0 d_N_drawnSleep_44 ?_
            refine A_aload_n1 d_N_drawnSleep_45 ?_
            refine A_iload10 d_N_drawnSleep_46 ?_
            refine A_callVP d_N_drawnSleep_48 (c_Ld_arrives hA hV0 hT j hj) hA.o rfl q_1041 q_698 q_699 mk_Ld_arrives rfl (by decide) rfl (Nat.le_of_ble_eq_true rfl) ⟨Nat.le_of_ble_eq_true rfl, Nat.le_of_ble_eq_true rfl⟩ ⟨rfl, rfl⟩ ?_
            refine A_if_eqB (tgt := 120) d_N_drawnSleep_51 (by decide) (fun c_51 => ?_) (fun c_51 => ?_)
            · first | refine A_iinc10 d_N_drawnSleep_120 (nI_1 _) trivial ?_ | refine A_iinc10 d_N_drawnSleep_120 rfl trivial ?_
              refine A_goto (tgt := 35) d_N_drawnSleep_123 (by decide) ?_
              have e1 : (dayD V t qq (j + 1)).1 = (dayD V t qq j).1 := by rw [dayD_succ, dayF_1, if_neg (by rw [c_51]; decide)]
              refine A_loc ?_ (ih2 x b (by rw [e1]; exact hc))
              rw [dkQ_no c_51]
            · refine A_iload7 d_N_drawnSleep_54 ?_
              refine A_callSP d_N_drawnSleep_56 (c_N_draw _ x) q_1031 q_1032 mk_N_draw rfl (by decide) rfl (Nat.le_of_ble_eq_true rfl) ⟨Nat.le_of_ble_eq_true rfl, Nat.le_of_ble_eq_true rfl⟩ ⟨rfl, rfl⟩ ?_
              obtain ⟨y, hy⟩ : ∃ y, y = nxt x := ⟨_, rfl⟩
              refine A_topI hy.symm ?_
              refine A_istore7 d_N_drawnSleep_59 trivial ?_
              refine A_iload9 d_N_drawnSleep_61 ?_
              refine A_aload_n1 d_N_drawnSleep_63 ?_
              refine A_iload10 d_N_drawnSleep_64 ?_
              obtain ⟨g, hg, ht⟩ := id hT
              refine A_ialdN d_N_drawnSleep_66 hg ⟨by omega, by decide⟩ ?_
              refine A_topI (ht j (by omega)).1 ?_
              refine A_aload_n0 d_N_drawnSleep_67 ?_
              refine A_getf (kf := 5) d_N_drawnSleep_68 hA.o ok_1 (by decide) q_66 rfl ?_
              refine A_iload4 d_N_drawnSleep_71 ?_
              refine A_ialdN d_N_drawnSleep_73 hA.a5 ⟨by omega, by decide⟩ ?_
              refine A_topI (hP p (by omega)).1 ?_
              have htj := hT.le (show j < 24 by omega)
              first | refine A_icmp_neN (tgt := 92) d_N_drawnSleep_74 (by decide) (by with_reducible rfl) (by with_reducible rfl) (by omega) (by omega) (fun c_74 => ?_) (fun c_74 => ?_) | refine A_icmp_ne (tgt := 92) d_N_drawnSleep_74 (by decide) (fun c_74 => ?_) (fun c_74 => ?_)
              · refine A_iconst (v := nI 0) d_N_drawnSleep_92 (by decide) ?_
                refine A_callSP d_N_drawnSleep_93 (c_N_one0 _) q_692 q_591 mk_N_oneIf rfl (by decide) rfl (Nat.le_of_ble_eq_true rfl) ⟨Nat.le_of_ble_eq_true rfl, Nat.le_of_ble_eq_true rfl⟩ ⟨rfl, rfl⟩ ?_
                have ed0 := dkQ_s (p := p) (q := qq) hci hj c_51
                have st0 := CQ.step hc hy
                first | (have hz := And.intro c_74 (st0.2.2.mp c_85); rw [if_pos hz] at ed0) | skip
                first | refine A_isubN d_N_drawnSleep_96 (by with_reducible rfl) (by with_reducible rfl) (by omega) ?_ | refine A_isub d_N_drawnSleep_96 ?_
                refine A_istore9 d_N_drawnSleep_97 trivial ?_
                refine A_iload6 d_N_drawnSleep_99 ?_
                refine A_iconst (v := nI 1) d_N_drawnSleep_101 (by decide) ?_
                first | refine A_iaddN d_N_drawnSleep_102 (by with_reducible rfl) (by with_reducible rfl) ?_ | refine A_iadd d_N_drawnSleep_102 ?_
                refine A_aload_n0 d_N_drawnSleep_103 ?_
                refine A_getf (kf := 9) d_N_drawnSleep_104 hA.o ok_1 (by decide) q_78 rfl ?_
                refine A_topI f9 ?_
                first | refine A_icmp_geN (tgt := 117) d_N_drawnSleep_107 (by decide) (by with_reducible rfl) (by with_reducible rfl) (by omega) (by omega) (fun c_107 => ?_) (fun c_107 => ?_) | refine A_icmp_ge (tgt := 117) d_N_drawnSleep_107 (by decide) (fun c_107 => ?_) (fun c_107 => ?_)
                · refine A_iconst (v := nI 0) d_N_drawnSleep_117 (by decide) ?_
                  refine A_istore6 d_N_drawnSleep_118 trivial ?_
                  first | refine A_iinc10 d_N_drawnSleep_120 (nI_1 _) trivial ?_ | refine A_iinc10 d_N_drawnSleep_120 rfl trivial ?_
                  refine A_goto (tgt := 35) d_N_drawnSleep_123 (by decide) ?_
                  have st := CQ.step hc hy
                  have st1 := st.1
                  have e1 : (dayD V t qq (j + 1)).1 = stpQ V (dayD V t qq j).1 := by rw [dayD_succ, dayF_1, if_pos c_51]
                  rw [← e1] at st1
                  have ed := dkQ_s (p := p) (q := qq) hci hj c_51
                  by_cases hb1 : b + 1 < V 5
                  · rw [if_pos hb1] at st1
                    first
                      | (exfalso; omega)
                      | (refine A_loc ?_ (ih2 y _ st1)
                         rw [if_neg (fun z => c_74 z.1), Nat.add_zero] at ed
                         rw [ed]
                         first | done | rfl)
                      | (refine A_loc ?_ (ih2 y _ st1)
                         rw [if_pos ⟨c_74, st.2.2.mp c_85⟩] at ed
                         rw [← ed, Nat.add_sub_cancel]
                         done)
                      | (refine A_loc ?_ (ih2 y _ st1)
                         rw [if_neg (fun z => absurd ((st.2.2.mpr z.2).symm.trans c_85) (by decide)), Nat.add_zero] at ed
                         rw [ed]
                         first | done | rfl)
                  · rw [if_neg hb1] at st1
                    first
                      | (exfalso; omega)
                      | (refine A_loc ?_ (ih2 y _ st1)
                         rw [if_neg (fun z => c_74 z.1), Nat.add_zero] at ed
                         rw [ed]
                         first | done | rfl)
                      | (refine A_loc ?_ (ih2 y _ st1)
                         rw [if_pos ⟨c_74, st.2.2.mp c_85⟩] at ed
                         rw [← ed, Nat.add_sub_cancel]
                         done)
                      | (refine A_loc ?_ (ih2 y _ st1)
                         rw [if_neg (fun z => absurd ((st.2.2.mpr z.2).symm.trans c_85) (by decide)), Nat.add_zero] at ed
                         rw [ed]
                         first | done | rfl)
                · refine A_iload6 d_N_drawnSleep_110 ?_
                  refine A_iconst (v := nI 1) d_N_drawnSleep_112 (by decide) ?_
                  first | refine A_iaddN d_N_drawnSleep_113 (by with_reducible rfl) (by with_reducible rfl) ?_ | refine A_iadd d_N_drawnSleep_113 ?_
                  refine A_goto (tgt := 118) d_N_drawnSleep_114 (by decide) ?_
                  refine A_istore6 d_N_drawnSleep_118 trivial ?_
                  first | refine A_iinc10 d_N_drawnSleep_120 (nI_1 _) trivial ?_ | refine A_iinc10 d_N_drawnSleep_120 rfl trivial ?_
                  refine A_goto (tgt := 35) d_N_drawnSleep_123 (by decide) ?_
                  have st := CQ.step hc hy
                  have st1 := st.1
                  have e1 : (dayD V t qq (j + 1)).1 = stpQ V (dayD V t qq j).1 := by rw [dayD_succ, dayF_1, if_pos c_51]
                  rw [← e1] at st1
                  have ed := dkQ_s (p := p) (q := qq) hci hj c_51
                  by_cases hb1 : b + 1 < V 5
                  · rw [if_pos hb1] at st1
                    first
                      | (exfalso; omega)
                      | (refine A_loc ?_ (ih2 y _ st1)
                         rw [if_neg (fun z => c_74 z.1), Nat.add_zero] at ed
                         rw [ed]
                         first | done | rfl)
                      | (refine A_loc ?_ (ih2 y _ st1)
                         rw [if_pos ⟨c_74, st.2.2.mp c_85⟩] at ed
                         rw [← ed, Nat.add_sub_cancel]
                         done)
                      | (refine A_loc ?_ (ih2 y _ st1)
                         rw [if_neg (fun z => absurd ((st.2.2.mpr z.2).symm.trans c_85) (by decide)), Nat.add_zero] at ed
                         rw [ed]
                         first | done | rfl)
                  · rw [if_neg hb1] at st1
                    first
                      | (exfalso; omega)
                      | (refine A_loc ?_ (ih2 y _ st1)
                         rw [if_neg (fun z => c_74 z.1), Nat.add_zero] at ed
                         rw [ed]
                         first | done | rfl)
                      | (refine A_loc ?_ (ih2 y _ st1)
                         rw [if_pos ⟨c_74, st.2.2.mp c_85⟩] at ed
                         rw [← ed, Nat.add_sub_cancel]
                         done)
                      | (refine A_loc ?_ (ih2 y _ st1)
                         rw [if_neg (fun z => absurd ((st.2.2.mpr z.2).symm.trans c_85) (by decide)), Nat.add_zero] at ed
                         rw [ed]
                         first | done | rfl)
              · refine A_aload_n0 d_N_drawnSleep_77 ?_
                refine A_iload6 d_N_drawnSleep_78 ?_
                refine A_iload7 d_N_drawnSleep_80 ?_
                refine A_callSP d_N_drawnSleep_82 (c_N_putsDown hA hV0 b (by omega) y) q_1035 q_1036 mk_N_putsDown rfl (by decide) rfl (Nat.le_of_ble_eq_true rfl) ⟨Nat.le_of_ble_eq_true rfl, Nat.le_of_ble_eq_true rfl⟩ ⟨rfl, rfl⟩ ?_
                refine A_if_eqB (tgt := 92) d_N_drawnSleep_85 (by decide) (fun c_85 => ?_) (fun c_85 => ?_)
                · refine A_iconst (v := nI 0) d_N_drawnSleep_92 (by decide) ?_
                  refine A_callSP d_N_drawnSleep_93 (c_N_one0 _) q_692 q_591 mk_N_oneIf rfl (by decide) rfl (Nat.le_of_ble_eq_true rfl) ⟨Nat.le_of_ble_eq_true rfl, Nat.le_of_ble_eq_true rfl⟩ ⟨rfl, rfl⟩ ?_
                  have ed0 := dkQ_s (p := p) (q := qq) hci hj c_51
                  have st0 := CQ.step hc hy
                  first | (have hz := And.intro c_74 (st0.2.2.mp c_85); rw [if_pos hz] at ed0) | skip
                  first | refine A_isubN d_N_drawnSleep_96 (by with_reducible rfl) (by with_reducible rfl) (by omega) ?_ | refine A_isub d_N_drawnSleep_96 ?_
                  refine A_istore9 d_N_drawnSleep_97 trivial ?_
                  refine A_iload6 d_N_drawnSleep_99 ?_
                  refine A_iconst (v := nI 1) d_N_drawnSleep_101 (by decide) ?_
                  first | refine A_iaddN d_N_drawnSleep_102 (by with_reducible rfl) (by with_reducible rfl) ?_ | refine A_iadd d_N_drawnSleep_102 ?_
                  refine A_aload_n0 d_N_drawnSleep_103 ?_
                  refine A_getf (kf := 9) d_N_drawnSleep_104 hA.o ok_1 (by decide) q_78 rfl ?_
                  refine A_topI f9 ?_
                  first | refine A_icmp_geN (tgt := 117) d_N_drawnSleep_107 (by decide) (by with_reducible rfl) (by with_reducible rfl) (by omega) (by omega) (fun c_107 => ?_) (fun c_107 => ?_) | refine A_icmp_ge (tgt := 117) d_N_drawnSleep_107 (by decide) (fun c_107 => ?_) (fun c_107 => ?_)
                  · refine A_iconst (v := nI 0) d_N_drawnSleep_117 (by decide) ?_
                    refine A_istore6 d_N_drawnSleep_118 trivial ?_
                    first | refine A_iinc10 d_N_drawnSleep_120 (nI_1 _) trivial ?_ | refine A_iinc10 d_N_drawnSleep_120 rfl trivial ?_
                    refine A_goto (tgt := 35) d_N_drawnSleep_123 (by decide) ?_
                    have st := CQ.step hc hy
                    have st1 := st.1
                    have e1 : (dayD V t qq (j + 1)).1 = stpQ V (dayD V t qq j).1 := by rw [dayD_succ, dayF_1, if_pos c_51]
                    rw [← e1] at st1
                    have ed := dkQ_s (p := p) (q := qq) hci hj c_51
                    by_cases hb1 : b + 1 < V 5
                    · rw [if_pos hb1] at st1
                      first
                        | (exfalso; omega)
                        | (refine A_loc ?_ (ih2 y _ st1)
                           rw [if_neg (fun z => c_74 z.1), Nat.add_zero] at ed
                           rw [ed]
                           first | done | rfl)
                        | (refine A_loc ?_ (ih2 y _ st1)
                           rw [if_pos ⟨c_74, st.2.2.mp c_85⟩] at ed
                           rw [← ed, Nat.add_sub_cancel]
                           done)
                        | (refine A_loc ?_ (ih2 y _ st1)
                           rw [if_neg (fun z => absurd ((st.2.2.mpr z.2).symm.trans c_85) (by decide)), Nat.add_zero] at ed
                           rw [ed]
                           first | done | rfl)
                    · rw [if_neg hb1] at st1
                      first
                        | (exfalso; omega)
                        | (refine A_loc ?_ (ih2 y _ st1)
                           rw [if_neg (fun z => c_74 z.1), Nat.add_zero] at ed
                           rw [ed]
                           first | done | rfl)
                        | (refine A_loc ?_ (ih2 y _ st1)
                           rw [if_pos ⟨c_74, st.2.2.mp c_85⟩] at ed
                           rw [← ed, Nat.add_sub_cancel]
                           done)
                        | (refine A_loc ?_ (ih2 y _ st1)
                           rw [if_neg (fun z => absurd ((st.2.2.mpr z.2).symm.trans c_85) (by decide)), Nat.add_zero] at ed
                           rw [ed]
                           first | done | rfl)
                  · refine A_iload6 d_N_drawnSleep_110 ?_
                    refine A_iconst (v := nI 1) d_N_drawnSleep_112 (by decide) ?_
                    first | refine A_iaddN d_N_drawnSleep_113 (by with_reducible rfl) (by with_reducible rfl) ?_ | refine A_iadd d_N_drawnSleep_113 ?_
                    refine A_goto (tgt := 118) d_N_drawnSleep_114 (by decide) ?_
                    refine A_istore6 d_N_drawnSleep_118 trivial ?_
                    first | refine A_iinc10 d_N_drawnSleep_120 (nI_1 _) trivial ?_ | refine A_iinc10 d_N_drawnSleep_120 rfl trivial ?_
                    refine A_goto (tgt := 35) d_N_drawnSleep_123 (by decide) ?_
                    have st := CQ.step hc hy
                    have st1 := st.1
                    have e1 : (dayD V t qq (j + 1)).1 = stpQ V (dayD V t qq j).1 := by rw [dayD_succ, dayF_1, if_pos c_51]
                    rw [← e1] at st1
                    have ed := dkQ_s (p := p) (q := qq) hci hj c_51
                    by_cases hb1 : b + 1 < V 5
                    · rw [if_pos hb1] at st1
                      first
                        | (exfalso; omega)
                        | (refine A_loc ?_ (ih2 y _ st1)
                           rw [if_neg (fun z => c_74 z.1), Nat.add_zero] at ed
                           rw [ed]
                           first | done | rfl)
                        | (refine A_loc ?_ (ih2 y _ st1)
                           rw [if_pos ⟨c_74, st.2.2.mp c_85⟩] at ed
                           rw [← ed, Nat.add_sub_cancel]
                           done)
                        | (refine A_loc ?_ (ih2 y _ st1)
                           rw [if_neg (fun z => absurd ((st.2.2.mpr z.2).symm.trans c_85) (by decide)), Nat.add_zero] at ed
                           rw [ed]
                           first | done | rfl)
                    · rw [if_neg hb1] at st1
                      first
                        | (exfalso; omega)
                        | (refine A_loc ?_ (ih2 y _ st1)
                           rw [if_neg (fun z => c_74 z.1), Nat.add_zero] at ed
                           rw [ed]
                           first | done | rfl)
                        | (refine A_loc ?_ (ih2 y _ st1)
                           rw [if_pos ⟨c_74, st.2.2.mp c_85⟩] at ed
                           rw [← ed, Nat.add_sub_cancel]
                           done)
                        | (refine A_loc ?_ (ih2 y _ st1)
                           rw [if_neg (fun z => absurd ((st.2.2.mpr z.2).symm.trans c_85) (by decide)), Nat.add_zero] at ed
                           rw [ed]
                           first | done | rfl)
                · refine A_iconst (v := nI 1) d_N_drawnSleep_88 (by decide) ?_
                  refine A_goto (tgt := 93) d_N_drawnSleep_89 (by decide) ?_
                  refine A_callSP d_N_drawnSleep_93 (c_N_one1 _) q_692 q_591 mk_N_oneIf rfl (by decide) rfl (Nat.le_of_ble_eq_true rfl) ⟨Nat.le_of_ble_eq_true rfl, Nat.le_of_ble_eq_true rfl⟩ ⟨rfl, rfl⟩ ?_
                  have ed0 := dkQ_s (p := p) (q := qq) hci hj c_51
                  have st0 := CQ.step hc hy
                  first | (have hz := And.intro c_74 (st0.2.2.mp c_85); rw [if_pos hz] at ed0) | skip
                  first | refine A_isubN d_N_drawnSleep_96 (by with_reducible rfl) (by with_reducible rfl) (by omega) ?_ | refine A_isub d_N_drawnSleep_96 ?_
                  refine A_istore9 d_N_drawnSleep_97 trivial ?_
                  refine A_iload6 d_N_drawnSleep_99 ?_
                  refine A_iconst (v := nI 1) d_N_drawnSleep_101 (by decide) ?_
                  first | refine A_iaddN d_N_drawnSleep_102 (by with_reducible rfl) (by with_reducible rfl) ?_ | refine A_iadd d_N_drawnSleep_102 ?_
                  refine A_aload_n0 d_N_drawnSleep_103 ?_
                  refine A_getf (kf := 9) d_N_drawnSleep_104 hA.o ok_1 (by decide) q_78 rfl ?_
                  refine A_topI f9 ?_
                  first | refine A_icmp_geN (tgt := 117) d_N_drawnSleep_107 (by decide) (by with_reducible rfl) (by with_reducible rfl) (by omega) (by omega) (fun c_107 => ?_) (fun c_107 => ?_) | refine A_icmp_ge (tgt := 117) d_N_drawnSleep_107 (by decide) (fun c_107 => ?_) (fun c_107 => ?_)
                  · refine A_iconst (v := nI 0) d_N_drawnSleep_117 (by decide) ?_
                    refine A_istore6 d_N_drawnSleep_118 trivial ?_
                    first | refine A_iinc10 d_N_drawnSleep_120 (nI_1 _) trivial ?_ | refine A_iinc10 d_N_drawnSleep_120 rfl trivial ?_
                    refine A_goto (tgt := 35) d_N_drawnSleep_123 (by decide) ?_
                    have st := CQ.step hc hy
                    have st1 := st.1
                    have e1 : (dayD V t qq (j + 1)).1 = stpQ V (dayD V t qq j).1 := by rw [dayD_succ, dayF_1, if_pos c_51]
                    rw [← e1] at st1
                    have ed := dkQ_s (p := p) (q := qq) hci hj c_51
                    by_cases hb1 : b + 1 < V 5
                    · rw [if_pos hb1] at st1
                      first
                        | (exfalso; omega)
                        | (refine A_loc ?_ (ih2 y _ st1)
                           rw [if_neg (fun z => c_74 z.1), Nat.add_zero] at ed
                           rw [ed]
                           first | done | rfl)
                        | (refine A_loc ?_ (ih2 y _ st1)
                           rw [if_pos ⟨c_74, st.2.2.mp c_85⟩] at ed
                           rw [← ed, Nat.add_sub_cancel]
                           done)
                        | (refine A_loc ?_ (ih2 y _ st1)
                           rw [if_neg (fun z => absurd ((st.2.2.mpr z.2).symm.trans c_85) (by decide)), Nat.add_zero] at ed
                           rw [ed]
                           first | done | rfl)
                    · rw [if_neg hb1] at st1
                      first
                        | (exfalso; omega)
                        | (refine A_loc ?_ (ih2 y _ st1)
                           rw [if_neg (fun z => c_74 z.1), Nat.add_zero] at ed
                           rw [ed]
                           first | done | rfl)
                        | (refine A_loc ?_ (ih2 y _ st1)
                           rw [if_pos ⟨c_74, st.2.2.mp c_85⟩] at ed
                           rw [← ed, Nat.add_sub_cancel]
                           done)
                        | (refine A_loc ?_ (ih2 y _ st1)
                           rw [if_neg (fun z => absurd ((st.2.2.mpr z.2).symm.trans c_85) (by decide)), Nat.add_zero] at ed
                           rw [ed]
                           first | done | rfl)
                  · refine A_iload6 d_N_drawnSleep_110 ?_
                    refine A_iconst (v := nI 1) d_N_drawnSleep_112 (by decide) ?_
                    first | refine A_iaddN d_N_drawnSleep_113 (by with_reducible rfl) (by with_reducible rfl) ?_ | refine A_iadd d_N_drawnSleep_113 ?_
                    refine A_goto (tgt := 118) d_N_drawnSleep_114 (by decide) ?_
                    refine A_istore6 d_N_drawnSleep_118 trivial ?_
                    first | refine A_iinc10 d_N_drawnSleep_120 (nI_1 _) trivial ?_ | refine A_iinc10 d_N_drawnSleep_120 rfl trivial ?_
                    refine A_goto (tgt := 35) d_N_drawnSleep_123 (by decide) ?_
                    have st := CQ.step hc hy
                    have st1 := st.1
                    have e1 : (dayD V t qq (j + 1)).1 = stpQ V (dayD V t qq j).1 := by rw [dayD_succ, dayF_1, if_pos c_51]
                    rw [← e1] at st1
                    have ed := dkQ_s (p := p) (q := qq) hci hj c_51
                    by_cases hb1 : b + 1 < V 5
                    · rw [if_pos hb1] at st1
                      first
                        | (exfalso; omega)
                        | (refine A_loc ?_ (ih2 y _ st1)
                           rw [if_neg (fun z => c_74 z.1), Nat.add_zero] at ed
                           rw [ed]
                           first | done | rfl)
                        | (refine A_loc ?_ (ih2 y _ st1)
                           rw [if_pos ⟨c_74, st.2.2.mp c_85⟩] at ed
                           rw [← ed, Nat.add_sub_cancel]
                           done)
                        | (refine A_loc ?_ (ih2 y _ st1)
                           rw [if_neg (fun z => absurd ((st.2.2.mpr z.2).symm.trans c_85) (by decide)), Nat.add_zero] at ed
                           rw [ed]
                           first | done | rfl)
                    · rw [if_neg hb1] at st1
                      first
                        | (exfalso; omega)
                        | (refine A_loc ?_ (ih2 y _ st1)
                           rw [if_neg (fun z => c_74 z.1), Nat.add_zero] at ed
                           rw [ed]
                           first | done | rfl)
                        | (refine A_loc ?_ (ih2 y _ st1)
                           rw [if_pos ⟨c_74, st.2.2.mp c_85⟩] at ed
                           rw [← ed, Nat.add_sub_cancel]
                           done)
                        | (refine A_loc ?_ (ih2 y _ st1)
                           rw [if_neg (fun z => absurd ((st.2.2.mpr z.2).symm.trans c_85) (by decide)), Nat.add_zero] at ed
                           rw [ed]
                           first | done | rfl)
      refine A_iload8 d_N_drawnSleep_12 ?_
      refine A_iload_n3 d_N_drawnSleep_14 ?_
      first | refine A_icmp_geN (tgt := 157) d_N_drawnSleep_15 (by decide) (by with_reducible rfl) (by with_reducible rfl) (by omega) (by omega) (fun c_15 => ?_) (fun c_15 => ?_) | refine A_icmp_ge (tgt := 157) d_N_drawnSleep_15 (by decide) (fun c_15 => ?_) (fun c_15 => ?_)
      · exact absurd c_15 (by omega)
      · refine A_aload_n0 d_N_drawnSleep_18 ?_
        refine A_aload_n1 d_N_drawnSleep_19 ?_
        refine A_aload_n0 d_N_drawnSleep_20 ?_
        refine A_getf (kf := 5) d_N_drawnSleep_21 hA.o ok_1 (by decide) q_66 rfl ?_
        refine A_iload4 d_N_drawnSleep_24 ?_
        refine A_ialdN d_N_drawnSleep_26 hA.a5 ⟨by omega, by decide⟩ ?_
        refine A_topI (hP p (by omega)).1 ?_
        refine A_callVP d_N_drawnSleep_27 (c_Ld_dark hA hV0 hT _ (by omega)) hA.o rfl q_702 q_703 q_704 mk_Ld_dark rfl (by decide) rfl (Nat.le_of_ble_eq_true rfl) ⟨Nat.le_of_ble_eq_true rfl, Nat.le_of_ble_eq_true rfl⟩ ⟨rfl, rfl⟩ ?_
        refine A_topI (congrArg nI (dkQ_0 (w := t) (q := qq) hci).symm) ?_
        refine A_istore9 d_N_drawnSleep_30 trivial ?_
        refine A_iconst (v := nI 0) d_N_drawnSleep_32 (by decide) ?_
        refine A_istore10 d_N_drawnSleep_33 trivial ?_
        exact key2 0 (Nat.zero_le _) x b hc
  refine A_iconst (v := nI 0) d_N_drawnSleep_0 (by decide) ?_
  refine A_istore5 d_N_drawnSleep_1 trivial ?_
  refine A_iconst (v := nI 0) d_N_drawnSleep_3 (by decide) ?_
  refine A_istore6 d_N_drawnSleep_4 trivial ?_
  refine A_iload_n2 d_N_drawnSleep_6 ?_
  refine A_istore7 d_N_drawnSleep_7 trivial ?_
  refine A_iconst (v := nI 0) d_N_drawnSleep_9 (by decide) ?_
  refine A_istore8 d_N_drawnSleep_10 trivial ?_
  exact key 0 (Nat.zero_le _) x0 0 (CQ.start V x0)
