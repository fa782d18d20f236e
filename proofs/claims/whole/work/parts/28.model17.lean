theorem dayF_lost (V w : Nat → Nat) (q : Int32 × Nat × Nat × Nat) : ∀ n, (dayD V w q n).2.1 ≤ darkN w 0 n ∧ (dayD V w q n).2.2 ≤ darkN w 1 n
  | 0 => ⟨Nat.le_refl _, Nat.le_refl _⟩
  | n + 1 => by
    have h := dayF_lost V w q n
    have e0 : darkN w 0 (n + 1) = darkN w 0 n + if w n = 0 then 1 else 0 := rfl
    have e1 : darkN w 1 (n + 1) = darkN w 1 n + if w n = 1 then 1 else 0 := rfl
    rw [dayD_succ, e0, e1]
    unfold dayF
    split
    · split
      · dsimp only
        constructor
        · split
          · rename_i q1; rw [if_pos q1.2]; omega
          · split <;> omega
        · split
          · rename_i q1; rw [if_pos q1.2]; omega
          · split <;> omega
      · dsimp only
        constructor <;> split <;> omega
    · constructor <;> split <;> omega
theorem dayD_turn (V w : Nat → Nat) (q : Int32 × Nat × Nat × Nat) (hq : 0 < V 5 → q.2.2.2 < V 5) : ∀ n, 0 < V 5 → (dayD V w q n).1.2.2.2 < V 5
  | 0 => hq
  | n + 1 => by
    intro h
    have ih := dayD_turn V w q hq n h
    rw [dayD_succ]
    unfold dayF
    split
    · first | exact Nat.mod_lt _ h | (rw [if_pos h]; exact Nat.mod_lt _ h)
    · exact ih
def okD (V w : Nat → Nat) (q : Int32 × Nat × Nat × Nat) (p : Nat) : Nat := if V (42 + 27 * p + 1) ≤ (if V (42 + 27 * p + 0) = 0 then darkN w 0 (V 0) - (dayD V w q (V 0)).2.1 else darkN w 1 (V 0) - (dayD V w q (V 0)).2.2) then 1 else 0
def yearQ (V w : Nat → Nat) (x : Int32) : Nat → Int32 × Nat × Nat × Nat := foldN (fun _ q => (dayD V w q (V 0)).1) (x, 0, 0, 0)
def yearS (V w : Nat → Nat) (x : Int32) (p : Nat) : Nat → Nat := sumN (fun d => okD V w (yearQ V w x d) p)
def drawnV (V w : Nat → Nat) (x : Int32) (d : Nat) (k : Int32) : Int32 := rg k 0 1 (fun j => if j = 0 then nI (yearQ V w x d).2.1 else nI (yearQ V w x d).2.2.1) (rg k 10 (9 + V 4) (fun j => nI (yearS V w x (j - 10) d)) (-2))
theorem yearQ_turn (V w : Nat → Nat) (x : Int32) : ∀ d, 0 < V 5 → (yearQ V w x d).2.2.2 < V 5
  | 0, h => h
  | d + 1, h => dayD_turn V w _ (yearQ_turn V w x d) _ h
theorem opq {h0 h : AH} {m : Nat} {S : MS} {kf : Nat} {x : Int32} (hM : MW h0 h m (S.sf kf x)) : ∃ S2 : MS, MW h0 h m S2 ∧ S2.1 kf = x ∧ (∀ j, j ≠ kf → S2.1 j = S.1 j) ∧ S2.2 = S.2 := ⟨_, hM, fup_eq _ _ _, fun j hj => fup_ne _ _ hj, rfl⟩
theorem HS.sfk {S : MS} {l : Nat} {V : Nat → Nat} {k : Nat} {x : Int32} (h : HS S l V) (hk : k < 26 ∨ 30 < k) : HS (S.sf k x) l V := h.keepF (Keep.sf _ _ _) (fun j a b => fup_ne _ _ (by omega))
/-- the year so far stands in the reference's fields -/
def QF (S : MS) (q : Int32 × Nat × Nat × Nat) : Prop := S.1 50 = q.1 ∧ S.1 51 = nI q.2.1 ∧ S.1 52 = nI q.2.2.1 ∧ S.1 53 = nI q.2.2.2
theorem LRd.keepF {S S1 : MS} {l : Nat} {V w : Nat → Nat} (h : LRd S l V w) (hk : Keep S S1) (ha : S1.2.2.1 31 = S.2.2.1 31) (hf : ∀ j, 26 ≤ j → j ≤ 33 → S1.1 j = S.1 j) : LRd S1 l V w :=
  ⟨h.1.keepF hk (fun j a b => hf j a (by omega)), fun i hi => by rw [ha]; exact h.2.1 i hi, by rw [hf 32 (by decide) (by decide)]; exact h.2.2.1, by rw [hf 33 (by decide) (by decide)]; exact h.2.2.2⟩
set_option maxHeartbeats 4000000 in
set_option maxRecDepth 100000 in
theorem c_M_draw {G : GE} {h0 h : AH} {m : Nat} {S : MS} (hM : MW h0 h m S) {x : Int32} (hx : S.1 50 = x) : Ctr G y_M_draw b_M_draw 2 (some .int) r_M_draw [.ref m, .int (nI 10)] h (fun v h' => v = some (.int (drw (nxt x))) ∧ MW h0 h' m (S.sf 50 (nxt x))) := by
  refine Ctr.of (by decide +kernel) (by simp) (Nat.le_of_ble_eq_true rfl) (L0 := [some (.ref m), some (.int (nI 10))]) rfl ?_
  refine A_aload_n0 d_M_draw_0 ?_
  refine A_aload_n0 d_M_draw_1 ?_
  refine A_getf (kf := 50) d_M_draw_2 hM.o ok_8 (by decide) q_1099 rfl ?_
  refine A_topI hx ?_
  refine A_ldcw d_M_draw_5 q_1717 ?_
  first | refine A_imulN d_M_draw_8 (by with_reducible rfl) (by with_reducible rfl) ?_ | refine A_imul d_M_draw_8 ?_
  refine A_sipush (v := nI 12345) d_M_draw_9 (by decide) ?_
  first | refine A_iaddN d_M_draw_12 (by with_reducible rfl) (by with_reducible rfl) ?_ | refine A_iadd d_M_draw_12 ?_
  refine A_putM hM (kf := 50) (ty := .int) d_M_draw_13 (by decide) q_1099 rfl (by decide +kernel) (by first | rfl | exact bI_nar _) rfl (Nat.le_of_ble_eq_true rfl) rfl (fun h hM => ?_)
  refine A_aload_n0 d_M_draw_16 ?_
  refine A_getf (kf := 50) d_M_draw_17 hM.o ok_8 (by decide) q_1099 rfl ?_
  refine A_bipush (v := nI 16) d_M_draw_20 (by decide) ?_
  refine A_iushr d_M_draw_22 ?_
  refine A_iload_n1 d_M_draw_23 ?_
  refine A_irem d_M_draw_24 (by decide) ?_
  refine A_iret d_M_draw_25 rfl ⟨Nat.zero_le _, Nat.zero_le _⟩ ?_
  exact ⟨rfl, hM⟩
set_option maxHeartbeats 4000000 in
set_option maxRecDepth 100000 in
theorem c_M_drawDay2 {G : GE} {h0 : AH} {m : Nat} {S : MS} {l : Nat} {V w : Nat → Nat} (hL : LRd S l V w) (q1 : Int32 × Nat × Nat × Nat) (sl ok : Nat → Nat) (e0 e1 : Nat) (he0 : e0 ≤ darkN w 0 (V 0)) (he1 : e1 ≤ darkN w 1 (V 0)) (hok : ∀ p, ok p = if V (42 + 27 * p + 1) ≤ (if V (42 + 27 * p + 0) = 0 then darkN w 0 (V 0) - e0 else darkN w 1 (V 0) - e1) then 1 else 0) : ∀ i, i ≤ V 4 → ∀ (h : AH) (S1 : MS), MW h0 h m S1 → (∀ j, (j < 50 ∨ 53 < j) → S1.1 j = S.1 j) → (∀ k, k ≠ 54 → S1.2.2.1 k = S.2.2.1 k) → QF S1 q1 → (∀ p, p < V 4 → S1.2.2.1 54 p = nI (if p < i then sl p + ok p else sl p)) → WA G y_M_drawDay b_M_drawDay 5 none r_M_drawDay 0 0 (fun v h' => v = none ∧ ∃ S1, MW h0 h' m S1 ∧ (∀ j, (j < 50 ∨ 53 < j) → S1.1 j = S.1 j) ∧ (∀ k, k ≠ 54 → S1.2.2.1 k = S.2.2.1 k) ∧ QF S1 q1 ∧ ∀ p, p < V 4 → S1.2.2.1 54 p = nI (sl p + ok p)) 0 0 150 [some (.ref m), some (.int (nI e0)), some (.int (nI e1)), some (.int (nI i)), none] [] h := by
  have hP := hL.1.ok.2.2.2.2.1
  have hH := hL.1.ok.1
  have hV := hL.1.ok.2.2.2.2.2.2.1
  refine down ?_ (fun i hi ih => ?_)
  · intro h S1 hM hf ha hq hs
    have hL1 : LRd S1 l V w := hL.keepF (fun k hk => ha k (by omega)) (ha 31 (by decide)) (fun j a b => hf j (by omega))
    obtain ⟨hS, hw, e32, e33⟩ := hL1
    refine A_iload_n3 d_M_drawDay_150 ?_
    refine A_aload_n0 d_M_drawDay_151 ?_
    refine A_getf (kf := 29) d_M_drawDay_152 hM.o ok_8 (by decide) q_1078 rfl ?_
    refine A_topI hS.people ?_
    first | refine A_icmp_geN (tgt := 215) d_M_drawDay_155 (by decide) (by with_reducible rfl) (by with_reducible rfl) (by omega) (by omega) (fun c_155 => ?_) (fun c_155 => ?_) | refine A_icmp_ge (tgt := 215) d_M_drawDay_155 (by decide) (fun c_155 => ?_) (fun c_155 => ?_)
    · refine A_vret d_M_drawDay_215 rfl ⟨Nat.zero_le _, Nat.zero_le _⟩ ?_
      exact ⟨rfl, S1, hM, hf, ha, hq, fun p hp => by rw [hs p hp, if_pos hp]⟩
    · exact absurd c_155 (by omega)
  · intro h S1 hM hf ha hq hs
    have hL1 : LRd S1 l V w := hL.keepF (fun k hk => ha k (by omega)) (ha 31 (by decide)) (fun j a b => hf j (by omega))
    obtain ⟨hS, hw, e32, e33⟩ := hL1
    have hdk0 := darkN_le w 0 (V 0)
    have hdk1 := darkN_le w 1 (V 0)
    obtain ⟨hVi, hVi1, hVi2, -⟩ := hV i (by omega)
    refine A_iload_n3 d_M_drawDay_150 ?_
    refine A_aload_n0 d_M_drawDay_151 ?_
    refine A_getf (kf := 29) d_M_drawDay_152 hM.o ok_8 (by decide) q_1078 rfl ?_
    refine A_topI hS.people ?_
    first | refine A_icmp_geN (tgt := 215) d_M_drawDay_155 (by decide) (by with_reducible rfl) (by with_reducible rfl) (by omega) (by omega) (fun c_155 => ?_) (fun c_155 => ?_) | refine A_icmp_ge (tgt := 215) d_M_drawDay_155 (by decide) (fun c_155 => ?_) (fun c_155 => ?_)
    · exact absurd c_155 (by omega)
    · refine A_aload_n0 d_M_drawDay_158 ?_
      refine A_iload_n3 d_M_drawDay_159 ?_
      refine A_iconst (v := nI 0) d_M_drawDay_160 (by decide) ?_
      refine A_callVP d_M_drawDay_161 (c_M_ofOne hM hS i 0 (by omega)) hM.o rfl q_1355 q_1357 qs_38 mk_M_ofOne rfl (by decide) rfl (Nat.le_of_ble_eq_true rfl) ⟨Nat.le_of_ble_eq_true rfl, Nat.le_of_ble_eq_true rfl⟩ ⟨rfl, rfl⟩ ?_
      first | refine A_if_neN (tgt := 176) d_M_drawDay_164 (by decide) (by with_reducible rfl) (by omega) (fun c_164 => ?_) (fun c_164 => ?_) | refine A_if_ne (tgt := 176) d_M_drawDay_164 (by decide) (fun c_164 => ?_) (fun c_164 => ?_)
      · refine A_aload_n0 d_M_drawDay_176 ?_
        refine A_getf (kf := 33) d_M_drawDay_177 hM.o ok_8 (by decide) q_1082 rfl ?_
        refine A_iload_n2 d_M_drawDay_180 ?_
        refine A_stk (by rw [show S1.1 33 = nI (darkN w 1 (V 0)) from e33]) ?_
        first | refine A_isubN d_M_drawDay_181 (by with_reducible rfl) (by with_reducible rfl) (by omega) ?_ | refine A_isub d_M_drawDay_181 ?_
        refine A_istore4 d_M_drawDay_182 trivial ?_
        refine A_aload_n0 d_M_drawDay_184 ?_
        refine A_getf (kf := 54) d_M_drawDay_185 hM.o ok_8 (by decide) q_1103 rfl ?_
        refine A_iload_n3 d_M_drawDay_188 ?_
        refine A_dup2IR d_M_drawDay_189 ?_
        refine A_ialdN d_M_drawDay_190 hM.a54 ⟨by omega, by decide⟩ ?_
        refine A_topI (hs i hi) ?_
        rw [if_neg (Nat.lt_irrefl i)]
        refine A_iload4 d_M_drawDay_191 ?_
        refine A_aload_n0 d_M_drawDay_193 ?_
        refine A_iload_n3 d_M_drawDay_194 ?_
        refine A_iconst (v := nI 1) d_M_drawDay_195 (by decide) ?_
        refine A_callVP d_M_drawDay_196 (c_M_ofOne hM hS i 1 (by omega)) hM.o rfl q_1355 q_1357 qs_38 mk_M_ofOne rfl (by decide) rfl (Nat.le_of_ble_eq_true rfl) ⟨Nat.le_of_ble_eq_true rfl, Nat.le_of_ble_eq_true rfl⟩ ⟨rfl, rfl⟩ ?_
        first | refine A_icmp_ltN (tgt := 206) d_M_drawDay_199 (by decide) (by with_reducible rfl) (by with_reducible rfl) (by omega) (by omega) (fun c_199 => ?_) (fun c_199 => ?_) | refine A_icmp_lt (tgt := 206) d_M_drawDay_199 (by decide) (fun c_199 => ?_) (fun c_199 => ?_)
        · refine A_iconst (v := nI 0) d_M_drawDay_206 (by decide) ?_
          first | refine A_iaddN d_M_drawDay_207 (by with_reducible rfl) (by with_reducible rfl) ?_ | refine A_iadd d_M_drawDay_207 ?_
          refine A_st54 hM d_M_drawDay_208 (by omega) (fun h hM => ?_)
          first | refine A_iinc3 d_M_drawDay_209 (nI_1 _) trivial ?_ | refine A_iinc3 d_M_drawDay_209 rfl trivial ?_
          refine A_goto (tgt := 150) d_M_drawDay_212 (by decide) ?_
          refine A_drop4 ?_
          refine ih _ _ hM hf (fun k hk => (fup_ne _ _ hk).trans (ha k hk)) hq (fun p hp => ?_)
          by_cases r : p = i
          · subst r
            rw [if_pos (Nat.lt_succ_self p)]
            refine (fup_eq _ _ _).trans ?_
            rw [hok]
            first | rw [if_pos c_164] | rw [if_neg c_164]
            first | rw [if_neg (by omega)] | rw [if_pos (by omega)]
          · refine ((fup_ne _ _ r).trans (hs p hp)).trans ?_
            by_cases r2 : p < i
            · rw [if_pos r2, if_pos (by omega)]
            · rw [if_neg r2, if_neg (by omega)]
        · refine A_iconst (v := nI 1) d_M_drawDay_202 (by decide) ?_
          refine A_goto (tgt := 207) d_M_drawDay_203 (by decide) ?_
          first | refine A_iaddN d_M_drawDay_207 (by with_reducible rfl) (by with_reducible rfl) ?_ | refine A_iadd d_M_drawDay_207 ?_
          refine A_st54 hM d_M_drawDay_208 (by omega) (fun h hM => ?_)
          first | refine A_iinc3 d_M_drawDay_209 (nI_1 _) trivial ?_ | refine A_iinc3 d_M_drawDay_209 rfl trivial ?_
          refine A_goto (tgt := 150) d_M_drawDay_212 (by decide) ?_
          refine A_drop4 ?_
          refine ih _ _ hM hf (fun k hk => (fup_ne _ _ hk).trans (ha k hk)) hq (fun p hp => ?_)
          by_cases r : p = i
          · subst r
            rw [if_pos (Nat.lt_succ_self p)]
            refine (fup_eq _ _ _).trans ?_
            rw [hok]
            first | rw [if_pos c_164] | rw [if_neg c_164]
            first | rw [if_neg (by omega)] | rw [if_pos (by omega)]
          · refine ((fup_ne _ _ r).trans (hs p hp)).trans ?_
            by_cases r2 : p < i
            · rw [if_pos r2, if_pos (by omega)]
            · rw [if_neg r2, if_neg (by omega)]
      · refine A_aload_n0 d_M_drawDay_167 ?_
        refine A_getf (kf := 32) d_M_drawDay_168 hM.o ok_8 (by decide) q_1081 rfl ?_
        refine A_iload_n1 d_M_drawDay_171 ?_
        refine A_stk (by rw [show S1.1 32 = nI (darkN w 0 (V 0)) from e32]) ?_
        first | refine A_isubN d_M_drawDay_172 (by with_reducible rfl) (by with_reducible rfl) (by omega) ?_ | refine A_isub d_M_drawDay_172 ?_
        refine A_goto (tgt := 182) d_M_drawDay_173 (by decide) ?_
        refine A_istore4 d_M_drawDay_182 trivial ?_
        refine A_aload_n0 d_M_drawDay_184 ?_
        refine A_getf (kf := 54) d_M_drawDay_185 hM.o ok_8 (by decide) q_1103 rfl ?_
        refine A_iload_n3 d_M_drawDay_188 ?_
        refine A_dup2IR d_M_drawDay_189 ?_
        refine A_ialdN d_M_drawDay_190 hM.a54 ⟨by omega, by decide⟩ ?_
        refine A_topI (hs i hi) ?_
        rw [if_neg (Nat.lt_irrefl i)]
        refine A_iload4 d_M_drawDay_191 ?_
        refine A_aload_n0 d_M_drawDay_193 ?_
        refine A_iload_n3 d_M_drawDay_194 ?_
        refine A_iconst (v := nI 1) d_M_drawDay_195 (by decide) ?_
        refine A_callVP d_M_drawDay_196 (c_M_ofOne hM hS i 1 (by omega)) hM.o rfl q_1355 q_1357 qs_38 mk_M_ofOne rfl (by decide) rfl (Nat.le_of_ble_eq_true rfl) ⟨Nat.le_of_ble_eq_true rfl, Nat.le_of_ble_eq_true rfl⟩ ⟨rfl, rfl⟩ ?_
        first | refine A_icmp_ltN (tgt := 206) d_M_drawDay_199 (by decide) (by with_reducible rfl) (by with_reducible rfl) (by omega) (by omega) (fun c_199 => ?_) (fun c_199 => ?_) | refine A_icmp_lt (tgt := 206) d_M_drawDay_199 (by decide) (fun c_199 => ?_) (fun c_199 => ?_)
        · refine A_iconst (v := nI 0) d_M_drawDay_206 (by decide) ?_
          first | refine A_iaddN d_M_drawDay_207 (by with_reducible rfl) (by with_reducible rfl) ?_ | refine A_iadd d_M_drawDay_207 ?_
          refine A_st54 hM d_M_drawDay_208 (by omega) (fun h hM => ?_)
          first | refine A_iinc3 d_M_drawDay_209 (nI_1 _) trivial ?_ | refine A_iinc3 d_M_drawDay_209 rfl trivial ?_
          refine A_goto (tgt := 150) d_M_drawDay_212 (by decide) ?_
          refine A_drop4 ?_
          refine ih _ _ hM hf (fun k hk => (fup_ne _ _ hk).trans (ha k hk)) hq (fun p hp => ?_)
          by_cases r : p = i
          · subst r
            rw [if_pos (Nat.lt_succ_self p)]
            refine (fup_eq _ _ _).trans ?_
            rw [hok]
            first | rw [if_pos c_164] | rw [if_neg c_164]
            first | rw [if_neg (by omega)] | rw [if_pos (by omega)]
          · refine ((fup_ne _ _ r).trans (hs p hp)).trans ?_
            by_cases r2 : p < i
            · rw [if_pos r2, if_pos (by omega)]
            · rw [if_neg r2, if_neg (by omega)]
        · refine A_iconst (v := nI 1) d_M_drawDay_202 (by decide) ?_
          refine A_goto (tgt := 207) d_M_drawDay_203 (by decide) ?_
          first | refine A_iaddN d_M_drawDay_207 (by with_reducible rfl) (by with_reducible rfl) ?_ | refine A_iadd d_M_drawDay_207 ?_
          refine A_st54 hM d_M_drawDay_208 (by omega) (fun h hM => ?_)
          first | refine A_iinc3 d_M_drawDay_209 (nI_1 _) trivial ?_ | refine A_iinc3 d_M_drawDay_209 rfl trivial ?_
          refine A_goto (tgt := 150) d_M_drawDay_212 (by decide) ?_
          refine A_drop4 ?_
          refine ih _ _ hM hf (fun k hk => (fup_ne _ _ hk).trans (ha k hk)) hq (fun p hp => ?_)
          by_cases r : p = i
          · subst r
            rw [if_pos (Nat.lt_succ_self p)]
            refine (fup_eq _ _ _).trans ?_
            rw [hok]
            first | rw [if_pos c_164] | rw [if_neg c_164]
            first | rw [if_neg (by omega)] | rw [if_pos (by omega)]
          · refine ((fup_ne _ _ r).trans (hs p hp)).trans ?_
            by_cases r2 : p < i
            · rw [if_pos r2, if_pos (by omega)]
            · rw [if_neg r2, if_neg (by omega)]
set_option maxHeartbeats 4000000 in
set_option maxRecDepth 100000 in
theorem c_M_drawDay {G : GE} {h0 h : AH} {m : Nat} {S : MS} (hM : MW h0 h m S) {l : Nat} {V w : Nat → Nat} (hL : LRd S l V w) (q : Int32 × Nat × Nat × Nat) (hq : QF S q) (htu : 0 < V 5 → q.2.2.2 < V 5) (sl : Nat → Nat) (hsl : ∀ p, p < V 4 → S.2.2.1 54 p = nI (sl p)) : Ctr G y_M_drawDay b_M_drawDay 5 none r_M_drawDay [.ref m] h (fun v h' => v = none ∧ ∃ S1, MW h0 h' m S1 ∧ (∀ j, (j < 50 ∨ 53 < j) → S1.1 j = S.1 j) ∧ (∀ k, k ≠ 54 → S1.2.2.1 k = S.2.2.1 k) ∧ QF S1 (dayD V w q (V 0)).1 ∧ ∀ p, p < V 4 → S1.2.2.1 54 p = nI (sl p + okD V w q p)) := by
  have hB5 := hL.1.ok.2.2.2.2.2.1
  have hH := hL.1.ok.1
  have hdt := dayD_turn V w q htu
  have hDs := dayD_succ V w q
  have hD0 : dayD V w q 0 = (q, (0, 0)) := rfl
  have key2 := c_M_drawDay2 (G := G) (h0 := h0) (m := m) hL (dayD V w q (V 0)).1 sl (okD V w q) _ _ (dayF_lost V w q (V 0)).1 (dayF_lost V w q (V 0)).2 (fun p => rfl)
  generalize hD : dayD V w q = D at *
  have key : ∀ i, i ≤ V 0 → ∀ (h : AH) (S1 : MS), MW h0 h m S1 → (∀ j, (j < 50 ∨ 53 < j) → S1.1 j = S.1 j) → S1.2 = S.2 → QF S1 (D i).1 → WA G y_M_drawDay b_M_drawDay 5 none r_M_drawDay 0 0 (fun v h' => v = none ∧ ∃ S1, MW h0 h' m S1 ∧ (∀ j, (j < 50 ∨ 53 < j) → S1.1 j = S.1 j) ∧ (∀ k, k ≠ 54 → S1.2.2.1 k = S.2.2.1 k) ∧ QF S1 (D (V 0)).1 ∧ ∀ p, p < V 4 → S1.2.2.1 54 p = nI (sl p + okD V w q p)) 0 0 6 [some (.ref m), some (.int (nI (D i).2.1)), some (.int (nI (D i).2.2)), some (.int (nI i)), none] [] h := by
    refine down ?_ (fun i hi ih => ?_)
    · intro h S1 hM hf he hq
      have hL1 : LRd S1 l V w := hL.keepF (Keep.of he) (by rw [he]) (fun j a b => hf j (by omega))
      obtain ⟨hS, hw, e32, e33⟩ := hL1
      obtain ⟨e50, e51, e52, e53⟩ := hq
      refine A_iload_n3 d_M_drawDay_6 ?_
      refine A_aload_n0 d_M_drawDay_7 ?_
      refine A_getf (kf := 27) d_M_drawDay_8 hM.o ok_8 (by decide) q_1076 rfl ?_
      refine A_topI hS.hours ?_
      first | refine A_icmp_geN (tgt := 148) d_M_drawDay_11 (by decide) (by with_reducible rfl) (by with_reducible rfl) (by omega) (by omega) (fun c_11 => ?_) (fun c_11 => ?_) | refine A_icmp_ge (tgt := 148) d_M_drawDay_11 (by decide) (fun c_11 => ?_) (fun c_11 => ?_)
      · refine A_iconst (v := nI 0) d_M_drawDay_148 (by decide) ?_
        refine A_istore3 d_M_drawDay_149 trivial ?_
        exact key2 0 (Nat.zero_le _) _ _ hM hf (fun k hk => by rw [he]) ⟨e50, e51, e52, e53⟩ (fun p hp => by rw [if_neg (Nat.not_lt_zero p), he]; exact hsl p hp)
      · exact absurd c_11 (by omega)
    · intro h S1 hM hf he hq
      have hL1 : LRd S1 l V w := hL.keepF (Keep.of he) (by rw [he]) (fun j a b => hf j (by omega))
      obtain ⟨hS, hw, e32, e33⟩ := hL1
      obtain ⟨e50, e51, e52, e53⟩ := hq
      have hwi := (hw i hi).2
      have hwx := (hw i hi).1
      have hti := hdt i
      refine A_iload_n3 d_M_drawDay_6 ?_
      refine A_aload_n0 d_M_drawDay_7 ?_
      refine A_getf (kf := 27) d_M_drawDay_8 hM.o ok_8 (by decide) q_1076 rfl ?_
      refine A_topI hS.hours ?_
      first | refine A_icmp_geN (tgt := 148) d_M_drawDay_11 (by decide) (by with_reducible rfl) (by with_reducible rfl) (by omega) (by omega) (fun c_11 => ?_) (fun c_11 => ?_) | refine A_icmp_ge (tgt := 148) d_M_drawDay_11 (by decide) (fun c_11 => ?_) (fun c_11 => ?_)
      · exact absurd c_11 (by omega)
      · refine A_aload_n0 d_M_drawDay_14 ?_
        refine A_iload_n3 d_M_drawDay_15 ?_
        refine A_callVP d_M_drawDay_16 (c_M_comesAt hM hS hw i hi) hM.o rfl q_1383 q_1385 qs_43 mk_M_comesAt rfl (by decide) rfl (Nat.le_of_ble_eq_true rfl) ⟨Nat.le_of_ble_eq_true rfl, Nat.le_of_ble_eq_true rfl⟩ ⟨rfl, rfl⟩ ?_
        refine A_if_eqB (tgt := 142) d_M_drawDay_19 (by decide) (fun c_19 => ?_) (fun c_19 => ?_)
        · first | refine A_iinc3 d_M_drawDay_142 (nI_1 _) trivial ?_ | refine A_iinc3 d_M_drawDay_142 rfl trivial ?_
          refine A_goto (tgt := 6) d_M_drawDay_145 (by decide) ?_
          first
            | (exfalso; omega)
            | (have hD1 : D (i + 1) = D i := by (rw [hDs]; unfold dayF; rw [if_neg (by rw [c_19]; decide)])
               rw [hD1] at ih
               exact ih _ _ hM hf he ⟨e50, e51, e52, e53⟩)
            | (have hD1 : D (i + 1) = ((((D i).1.1, (D i).1.2.1, (D i).1.2.2.1 + 1, (D i).1.2.2.2), (D i).2) : DS) := by (rw [hDs]; unfold dayF; rw [if_pos c_19, if_neg (by omega)])
               rw [hD1] at ih
               exact ih _ _ hM hf he ⟨e50, e51, e52, e53⟩)
            | (have hD1 := hDs i
               unfold dayF at hD1
               rw [if_pos c_19, if_pos (show 0 < V 5 by omega), hx1, hd] at hD1
               refine A_drop4 ?_
               have ih9 := ih _ _ hM hf he (by rw [hD1]; exact ⟨e50, e51, e52, e53⟩)
               refine A_loc ?_ ih9
               rw [hD1]
               first
                 | (rw [if_pos ⟨rfl, c_109⟩, if_neg (by omega)]; done)
                 | (rw [if_neg (by omega), if_pos ⟨rfl, c_132⟩]; done)
                 | (rw [if_neg (by omega), if_neg (by omega)]; done)
                 | (rw [if_neg (fun z => absurd z.1 (by decide)), if_neg (fun z => absurd z.1 (by decide))]; done))
        · refine A_aload_n0 d_M_drawDay_22 ?_
          first | refine A_dupR d_M_drawDay_23 ?_ | refine A_dupI d_M_drawDay_23 ?_
          refine A_getf (kf := 52) d_M_drawDay_24 hM.o ok_8 (by decide) q_1101 rfl ?_
          refine A_topI e52 ?_
          refine A_iconst (v := nI 1) d_M_drawDay_27 (by decide) ?_
          first | refine A_iaddN d_M_drawDay_28 (by with_reducible rfl) (by with_reducible rfl) ?_ | refine A_iadd d_M_drawDay_28 ?_
          refine A_putM hM (kf := 52) (ty := .int) d_M_drawDay_29 (by decide) q_1101 rfl (by decide +kernel) (by first | rfl | exact bI_nar _) rfl (Nat.le_of_ble_eq_true rfl) rfl (fun h hM => ?_)
          obtain ⟨S1, hM, ey, fy, gy⟩ := opq hM
          have hf : ∀ j, (j < 50 ∨ 53 < j) → S1.1 j = S.1 j := fun j hj => (fy j (by omega)).trans (hf j hj)
          have he : S1.2 = S.2 := gy.trans he
          have e50 := (fy 50 (by decide)).trans e50
          have e51 := (fy 51 (by decide)).trans e51
          have e52 := ey
          have e53 := (fy 53 (by decide)).trans e53
          have hL1 : LRd S1 l V w := hL.keepF (Keep.of he) (by rw [he]) (fun j a b => hf j (by omega))
          obtain ⟨hS, hw, e32, e33⟩ := hL1
          have hwx := (hw i hi).1
          refine A_aload_n0 d_M_drawDay_32 ?_
          refine A_getf (kf := 30) d_M_drawDay_33 hM.o ok_8 (by decide) q_1079 rfl ?_
          refine A_topI hS.bearers ?_
          first | refine A_if_leN (tgt := 142) d_M_drawDay_36 (by decide) (by with_reducible rfl) (by omega) (fun c_36 => ?_) (fun c_36 => ?_) | refine A_if_le (tgt := 142) d_M_drawDay_36 (by decide) (fun c_36 => ?_) (fun c_36 => ?_)
          · first | refine A_iinc3 d_M_drawDay_142 (nI_1 _) trivial ?_ | refine A_iinc3 d_M_drawDay_142 rfl trivial ?_
            refine A_goto (tgt := 6) d_M_drawDay_145 (by decide) ?_
            first
              | (exfalso; omega)
              | (have hD1 : D (i + 1) = D i := by (rw [hDs]; unfold dayF; rw [if_neg (by rw [c_19]; decide)])
                 rw [hD1] at ih
                 exact ih _ _ hM hf he ⟨e50, e51, e52, e53⟩)
              | (have hD1 : D (i + 1) = ((((D i).1.1, (D i).1.2.1, (D i).1.2.2.1 + 1, (D i).1.2.2.2), (D i).2) : DS) := by (rw [hDs]; unfold dayF; rw [if_pos c_19, if_neg (by omega)])
                 rw [hD1] at ih
                 exact ih _ _ hM hf he ⟨e50, e51, e52, e53⟩)
              | (have hD1 := hDs i
                 unfold dayF at hD1
                 rw [if_pos c_19, if_pos (show 0 < V 5 by omega), hx1, hd] at hD1
                 refine A_drop4 ?_
                 have ih9 := ih _ _ hM hf he (by rw [hD1]; exact ⟨e50, e51, e52, e53⟩)
                 refine A_loc ?_ ih9
                 rw [hD1]
                 first
                   | (rw [if_pos ⟨rfl, c_109⟩, if_neg (by omega)]; done)
                   | (rw [if_neg (by omega), if_pos ⟨rfl, c_132⟩]; done)
                   | (rw [if_neg (by omega), if_neg (by omega)]; done)
                   | (rw [if_neg (fun z => absurd z.1 (by decide)), if_neg (fun z => absurd z.1 (by decide))]; done))
          · refine A_aload_n0 d_M_drawDay_39 ?_
            refine A_bipush (v := nI 10) d_M_drawDay_40 (by decide) ?_
            refine A_callV d_M_drawDay_42 (c_M_draw hM (x := (D i).1.1) e50) hM.o rfl q_1713 q_1715 qs_103 mk_M_draw rfl (by decide) rfl (Nat.le_of_ble_eq_true rfl) ⟨Nat.le_of_ble_eq_true rfl, Nat.le_of_ble_eq_true rfl⟩ (fun v h1 hv => ?_)
            generalize hx1 : nxt (D i).1.1 = x1 at hv
            obtain ⟨rfl, hM⟩ := hv
            obtain ⟨S1, hM, ey, fy, gy⟩ := opq hM
            have hf : ∀ j, (j < 50 ∨ 53 < j) → S1.1 j = S.1 j := fun j hj => (fy j (by omega)).trans (hf j hj)
            have he : S1.2 = S.2 := gy.trans he
            have e50 := ey
            have e51 := (fy 51 (by decide)).trans e51
            have e52 := (fy 52 (by decide)).trans e52
            have e53 := (fy 53 (by decide)).trans e53
            have hL1 : LRd S1 l V w := hL.keepF (Keep.of he) (by rw [he]) (fun j a b => hf j (by omega))
            obtain ⟨hS, hw, e32, e33⟩ := hL1
            have hwx := (hw i hi).1
            refine A_aload_n0 d_M_drawDay_45 ?_
            refine A_aload_n0 d_M_drawDay_46 ?_
            refine A_getf (kf := 53) d_M_drawDay_47 hM.o ok_8 (by decide) q_1102 rfl ?_
            refine A_topI e53 ?_
            refine A_callVP d_M_drawDay_50 (c_M_tiredOf hM hS _ (by omega)) hM.o rfl q_1623 q_1625 qs_89 mk_M_tiredOf rfl (by decide) rfl (Nat.le_of_ble_eq_true rfl) ⟨Nat.le_of_ble_eq_true rfl, Nat.le_of_ble_eq_true rfl⟩ ⟨rfl, rfl⟩ ?_
            first | refine A_icmp_geN (tgt := 60) d_M_drawDay_53 (by decide) (by with_reducible rfl) (by with_reducible rfl) (by omega) (by omega) (fun c_53 => ?_) (fun c_53 => ?_) | refine A_icmp_ge (tgt := 60) d_M_drawDay_53 (by decide) (fun c_53 => ?_) (fun c_53 => ?_)
            · refine A_iconst (v := nI 0) d_M_drawDay_60 (by decide) ?_
              first | (have hd : downB V x1 (D i).1.2.2.2 = true := by (unfold downB; rw [decide_eq_false c_53]; rfl)) | (have hd : downB V x1 (D i).1.2.2.2 = false := by (unfold downB; rw [decide_eq_true c_53]; rfl))
              refine A_istore4 d_M_drawDay_61 trivial ?_
              refine A_aload_n0 d_M_drawDay_63 ?_
              refine A_aload_n0 d_M_drawDay_64 ?_
              refine A_getf (kf := 53) d_M_drawDay_65 hM.o ok_8 (by decide) q_1102 rfl ?_
              refine A_topI e53 ?_
              refine A_iconst (v := nI 1) d_M_drawDay_68 (by decide) ?_
              first | refine A_iaddN d_M_drawDay_69 (by with_reducible rfl) (by with_reducible rfl) ?_ | refine A_iadd d_M_drawDay_69 ?_
              refine A_aload_n0 d_M_drawDay_70 ?_
              refine A_getf (kf := 30) d_M_drawDay_71 hM.o ok_8 (by decide) q_1079 rfl ?_
              refine A_topI hS.bearers ?_
              refine A_iremN d_M_drawDay_74 (by with_reducible rfl) (by with_reducible rfl) (by omega) ?_
              refine A_putM hM (kf := 53) (ty := .int) d_M_drawDay_75 (by decide) q_1102 rfl (by decide +kernel) (by first | rfl | exact bI_nar _) rfl (Nat.le_of_ble_eq_true rfl) rfl (fun h hM => ?_)
              obtain ⟨S1, hM, ey, fy, gy⟩ := opq hM
              have hf : ∀ j, (j < 50 ∨ 53 < j) → S1.1 j = S.1 j := fun j hj => (fy j (by omega)).trans (hf j hj)
              have he : S1.2 = S.2 := gy.trans he
              have e50 := (fy 50 (by decide)).trans e50
              have e51 := (fy 51 (by decide)).trans e51
              have e52 := (fy 52 (by decide)).trans e52
              have e53 := ey
              have hL1 : LRd S1 l V w := hL.keepF (Keep.of he) (by rw [he]) (fun j a b => hf j (by omega))
              obtain ⟨hS, hw, e32, e33⟩ := hL1
              have hwx := (hw i hi).1
              refine A_aload_n0 d_M_drawDay_78 ?_
              first | refine A_dupR d_M_drawDay_79 ?_ | refine A_dupI d_M_drawDay_79 ?_
              refine A_getf (kf := 51) d_M_drawDay_80 hM.o ok_8 (by decide) q_1100 rfl ?_
              refine A_topI e51 ?_
              refine A_iload4 d_M_drawDay_83 ?_
              refine A_if_eq (tgt := 92) d_M_drawDay_85 (by decide) (fun c_85 => ?_) (fun c => absurd (by decide) c)
              refine A_iconst (v := nI 0) d_M_drawDay_92 (by decide) ?_
              first | refine A_iaddN d_M_drawDay_93 (by with_reducible rfl) (by with_reducible rfl) ?_ | refine A_iadd d_M_drawDay_93 ?_
              refine A_putM hM (kf := 51) (ty := .int) d_M_drawDay_94 (by decide) q_1100 rfl (by decide +kernel) (by first | rfl | exact bI_nar _) rfl (Nat.le_of_ble_eq_true rfl) rfl (fun h hM => ?_)
              obtain ⟨S1, hM, ey, fy, gy⟩ := opq hM
              have hf : ∀ j, (j < 50 ∨ 53 < j) → S1.1 j = S.1 j := fun j hj => (fy j (by omega)).trans (hf j hj)
              have he : S1.2 = S.2 := gy.trans he
              have e50 := (fy 50 (by decide)).trans e50
              have e51 := ey
              have e52 := (fy 52 (by decide)).trans e52
              have e53 := (fy 53 (by decide)).trans e53
              have hL1 : LRd S1 l V w := hL.keepF (Keep.of he) (by rw [he]) (fun j a b => hf j (by omega))
              obtain ⟨hS, hw, e32, e33⟩ := hL1
              have hwx := (hw i hi).1
              refine A_iload_n1 d_M_drawDay_97 ?_
              refine A_iload4 d_M_drawDay_98 ?_
              refine A_if_eq (tgt := 116) d_M_drawDay_100 (by decide) (fun c_100 => ?_) (fun c => absurd (by decide) c)
              refine A_iconst (v := nI 0) d_M_drawDay_116 (by decide) ?_
              first | refine A_iaddN d_M_drawDay_117 (by with_reducible rfl) (by with_reducible rfl) ?_ | refine A_iadd d_M_drawDay_117 ?_
              refine A_istore1 d_M_drawDay_118 trivial ?_
              refine A_iload_n2 d_M_drawDay_119 ?_
              refine A_iload4 d_M_drawDay_120 ?_
              refine A_if_eq (tgt := 139) d_M_drawDay_122 (by decide) (fun c_122 => ?_) (fun c => absurd (by decide) c)
              refine A_iconst (v := nI 0) d_M_drawDay_139 (by decide) ?_
              first | refine A_iaddN d_M_drawDay_140 (by with_reducible rfl) (by with_reducible rfl) ?_ | refine A_iadd d_M_drawDay_140 ?_
              refine A_istore2 d_M_drawDay_141 trivial ?_
              first | refine A_iinc3 d_M_drawDay_142 (nI_1 _) trivial ?_ | refine A_iinc3 d_M_drawDay_142 rfl trivial ?_
              refine A_goto (tgt := 6) d_M_drawDay_145 (by decide) ?_
              first
                | (exfalso; omega)
                | (have hD1 : D (i + 1) = D i := by (rw [hDs]; unfold dayF; rw [if_neg (by rw [c_19]; decide)])
                   rw [hD1] at ih
                   exact ih _ _ hM hf he ⟨e50, e51, e52, e53⟩)
                | (have hD1 : D (i + 1) = ((((D i).1.1, (D i).1.2.1, (D i).1.2.2.1 + 1, (D i).1.2.2.2), (D i).2) : DS) := by (rw [hDs]; unfold dayF; rw [if_pos c_19, if_neg (by omega)])
                   rw [hD1] at ih
                   exact ih _ _ hM hf he ⟨e50, e51, e52, e53⟩)
                | (have hD1 := hDs i
                   unfold dayF at hD1
                   rw [if_pos c_19, if_pos (show 0 < V 5 by omega), hx1, hd] at hD1
                   refine A_drop4 ?_
                   have ih9 := ih _ _ hM hf he (by rw [hD1]; exact ⟨e50, e51, e52, e53⟩)
                   refine A_loc ?_ ih9
                   rw [hD1]
                   first
                     | (rw [if_pos ⟨rfl, c_109⟩, if_neg (by omega)]; done)
                     | (rw [if_neg (by omega), if_pos ⟨rfl, c_132⟩]; done)
                     | (rw [if_neg (by omega), if_neg (by omega)]; done)
                     | (rw [if_neg (fun z => absurd z.1 (by decide)), if_neg (fun z => absurd z.1 (by decide))]; done))
            · refine A_iconst (v := nI 1) d_M_drawDay_56 (by decide) ?_
              refine A_goto (tgt := 61) d_M_drawDay_57 (by decide) ?_
              first | (have hd : downB V x1 (D i).1.2.2.2 = true := by (unfold downB; rw [decide_eq_false c_53]; rfl)) | (have hd : downB V x1 (D i).1.2.2.2 = false := by (unfold downB; rw [decide_eq_true c_53]; rfl))
              refine A_istore4 d_M_drawDay_61 trivial ?_
              refine A_aload_n0 d_M_drawDay_63 ?_
              refine A_aload_n0 d_M_drawDay_64 ?_
              refine A_getf (kf := 53) d_M_drawDay_65 hM.o ok_8 (by decide) q_1102 rfl ?_
              refine A_topI e53 ?_
              refine A_iconst (v := nI 1) d_M_drawDay_68 (by decide) ?_
              first | refine A_iaddN d_M_drawDay_69 (by with_reducible rfl) (by with_reducible rfl) ?_ | refine A_iadd d_M_drawDay_69 ?_
              refine A_aload_n0 d_M_drawDay_70 ?_
              refine A_getf (kf := 30) d_M_drawDay_71 hM.o ok_8 (by decide) q_1079 rfl ?_
              refine A_topI hS.bearers ?_
              refine A_iremN d_M_drawDay_74 (by with_reducible rfl) (by with_reducible rfl) (by omega) ?_
              refine A_putM hM (kf := 53) (ty := .int) d_M_drawDay_75 (by decide) q_1102 rfl (by decide +kernel) (by first | rfl | exact bI_nar _) rfl (Nat.le_of_ble_eq_true rfl) rfl (fun h hM => ?_)
              obtain ⟨S1, hM, ey, fy, gy⟩ := opq hM
              have hf : ∀ j, (j < 50 ∨ 53 < j) → S1.1 j = S.1 j := fun j hj => (fy j (by omega)).trans (hf j hj)
              have he : S1.2 = S.2 := gy.trans he
              have e50 := (fy 50 (by decide)).trans e50
              have e51 := (fy 51 (by decide)).trans e51
              have e52 := (fy 52 (by decide)).trans e52
              have e53 := ey
              have hL1 : LRd S1 l V w := hL.keepF (Keep.of he) (by rw [he]) (fun j a b => hf j (by omega))
              obtain ⟨hS, hw, e32, e33⟩ := hL1
              have hwx := (hw i hi).1
              refine A_aload_n0 d_M_drawDay_78 ?_
              first | refine A_dupR d_M_drawDay_79 ?_ | refine A_dupI d_M_drawDay_79 ?_
              refine A_getf (kf := 51) d_M_drawDay_80 hM.o ok_8 (by decide) q_1100 rfl ?_
              refine A_topI e51 ?_
              refine A_iload4 d_M_drawDay_83 ?_
              refine A_if_eq (tgt := 92) d_M_drawDay_85 (by decide) (fun c => absurd c (by decide)) (fun c_85 => ?_)
              refine A_iconst (v := nI 1) d_M_drawDay_88 (by decide) ?_
              refine A_goto (tgt := 93) d_M_drawDay_89 (by decide) ?_
              first | refine A_iaddN d_M_drawDay_93 (by with_reducible rfl) (by with_reducible rfl) ?_ | refine A_iadd d_M_drawDay_93 ?_
              refine A_putM hM (kf := 51) (ty := .int) d_M_drawDay_94 (by decide) q_1100 rfl (by decide +kernel) (by first | rfl | exact bI_nar _) rfl (Nat.le_of_ble_eq_true rfl) rfl (fun h hM => ?_)
              obtain ⟨S1, hM, ey, fy, gy⟩ := opq hM
              have hf : ∀ j, (j < 50 ∨ 53 < j) → S1.1 j = S.1 j := fun j hj => (fy j (by omega)).trans (hf j hj)
              have he : S1.2 = S.2 := gy.trans he
              have e50 := (fy 50 (by decide)).trans e50
              have e51 := ey
              have e52 := (fy 52 (by decide)).trans e52
              have e53 := (fy 53 (by decide)).trans e53
              have hL1 : LRd S1 l V w := hL.keepF (Keep.of he) (by rw [he]) (fun j a b => hf j (by omega))
              obtain ⟨hS, hw, e32, e33⟩ := hL1
              have hwx := (hw i hi).1
              refine A_iload_n1 d_M_drawDay_97 ?_
              refine A_iload4 d_M_drawDay_98 ?_
              refine A_if_eq (tgt := 116) d_M_drawDay_100 (by decide) (fun c => absurd c (by decide)) (fun c_100 => ?_)
              refine A_aload_n0 d_M_drawDay_103 ?_
              refine A_getf (kf := 31) d_M_drawDay_104 hM.o ok_8 (by decide) q_1080 rfl ?_
              refine A_iload_n3 d_M_drawDay_107 ?_
              refine A_ialdN d_M_drawDay_108 hM.a31 ⟨by omega, by decide⟩ ?_
              refine A_topI hwx ?_
              first | refine A_if_neN (tgt := 116) d_M_drawDay_109 (by decide) (by with_reducible rfl) (by omega) (fun c_109 => ?_) (fun c_109 => ?_) | refine A_if_ne (tgt := 116) d_M_drawDay_109 (by decide) (fun c_109 => ?_) (fun c_109 => ?_)
              · refine A_iconst (v := nI 0) d_M_drawDay_116 (by decide) ?_
                first | refine A_iaddN d_M_drawDay_117 (by with_reducible rfl) (by with_reducible rfl) ?_ | refine A_iadd d_M_drawDay_117 ?_
                refine A_istore1 d_M_drawDay_118 trivial ?_
                refine A_iload_n2 d_M_drawDay_119 ?_
                refine A_iload4 d_M_drawDay_120 ?_
                refine A_if_eq (tgt := 139) d_M_drawDay_122 (by decide) (fun c => absurd c (by decide)) (fun c_122 => ?_)
                refine A_aload_n0 d_M_drawDay_125 ?_
                refine A_getf (kf := 31) d_M_drawDay_126 hM.o ok_8 (by decide) q_1080 rfl ?_
                refine A_iload_n3 d_M_drawDay_129 ?_
                refine A_ialdN d_M_drawDay_130 hM.a31 ⟨by omega, by decide⟩ ?_
                refine A_topI hwx ?_
                refine A_iconst (v := nI 1) d_M_drawDay_131 (by decide) ?_
                first | refine A_icmp_neN (tgt := 139) d_M_drawDay_132 (by decide) (by with_reducible rfl) (by with_reducible rfl) (by omega) (by omega) (fun c_132 => ?_) (fun c_132 => ?_) | refine A_icmp_ne (tgt := 139) d_M_drawDay_132 (by decide) (fun c_132 => ?_) (fun c_132 => ?_)
                · refine A_iconst (v := nI 0) d_M_drawDay_139 (by decide) ?_
                  first | refine A_iaddN d_M_drawDay_140 (by with_reducible rfl) (by with_reducible rfl) ?_ | refine A_iadd d_M_drawDay_140 ?_
                  refine A_istore2 d_M_drawDay_141 trivial ?_
                  first | refine A_iinc3 d_M_drawDay_142 (nI_1 _) trivial ?_ | refine A_iinc3 d_M_drawDay_142 rfl trivial ?_
                  refine A_goto (tgt := 6) d_M_drawDay_145 (by decide) ?_
                  first
                    | (exfalso; omega)
                    | (have hD1 : D (i + 1) = D i := by (rw [hDs]; unfold dayF; rw [if_neg (by rw [c_19]; decide)])
                       rw [hD1] at ih
                       exact ih _ _ hM hf he ⟨e50, e51, e52, e53⟩)
                    | (have hD1 : D (i + 1) = ((((D i).1.1, (D i).1.2.1, (D i).1.2.2.1 + 1, (D i).1.2.2.2), (D i).2) : DS) := by (rw [hDs]; unfold dayF; rw [if_pos c_19, if_neg (by omega)])
                       rw [hD1] at ih
                       exact ih _ _ hM hf he ⟨e50, e51, e52, e53⟩)
                    | (have hD1 := hDs i
                       unfold dayF at hD1
                       rw [if_pos c_19, if_pos (show 0 < V 5 by omega), hx1, hd] at hD1
                       refine A_drop4 ?_
                       have ih9 := ih _ _ hM hf he (by rw [hD1]; exact ⟨e50, e51, e52, e53⟩)
                       refine A_loc ?_ ih9
                       rw [hD1]
                       first
                         | (rw [if_pos ⟨rfl, c_109⟩, if_neg (by omega)]; done)
                         | (rw [if_neg (by omega), if_pos ⟨rfl, c_132⟩]; done)
                         | (rw [if_neg (by omega), if_neg (by omega)]; done)
                         | (rw [if_neg (fun z => absurd z.1 (by decide)), if_neg (fun z => absurd z.1 (by decide))]; done))
                · refine A_iconst (v := nI 1) d_M_drawDay_135 (by decide) ?_
                  refine A_goto (tgt := 140) d_M_drawDay_136 (by decide) ?_
                  first | refine A_iaddN d_M_drawDay_140 (by with_reducible rfl) (by with_reducible rfl) ?_ | refine A_iadd d_M_drawDay_140 ?_
                  refine A_istore2 d_M_drawDay_141 trivial ?_
                  first | refine A_iinc3 d_M_drawDay_142 (nI_1 _) trivial ?_ | refine A_iinc3 d_M_drawDay_142 rfl trivial ?_
                  refine A_goto (tgt := 6) d_M_drawDay_145 (by decide) ?_
                  first
                    | (exfalso; omega)
                    | (have hD1 : D (i + 1) = D i := by (rw [hDs]; unfold dayF; rw [if_neg (by rw [c_19]; decide)])
                       rw [hD1] at ih
                       exact ih _ _ hM hf he ⟨e50, e51, e52, e53⟩)
                    | (have hD1 : D (i + 1) = ((((D i).1.1, (D i).1.2.1, (D i).1.2.2.1 + 1, (D i).1.2.2.2), (D i).2) : DS) := by (rw [hDs]; unfold dayF; rw [if_pos c_19, if_neg (by omega)])
                       rw [hD1] at ih
                       exact ih _ _ hM hf he ⟨e50, e51, e52, e53⟩)
                    | (have hD1 := hDs i
                       unfold dayF at hD1
                       rw [if_pos c_19, if_pos (show 0 < V 5 by omega), hx1, hd] at hD1
                       refine A_drop4 ?_
                       have ih9 := ih _ _ hM hf he (by rw [hD1]; exact ⟨e50, e51, e52, e53⟩)
                       refine A_loc ?_ ih9
                       rw [hD1]
                       first
                         | (rw [if_pos ⟨rfl, c_109⟩, if_neg (by omega)]; done)
                         | (rw [if_neg (by omega), if_pos ⟨rfl, c_132⟩]; done)
                         | (rw [if_neg (by omega), if_neg (by omega)]; done)
                         | (rw [if_neg (fun z => absurd z.1 (by decide)), if_neg (fun z => absurd z.1 (by decide))]; done))
              · refine A_iconst (v := nI 1) d_M_drawDay_112 (by decide) ?_
                refine A_goto (tgt := 117) d_M_drawDay_113 (by decide) ?_
                first | refine A_iaddN d_M_drawDay_117 (by with_reducible rfl) (by with_reducible rfl) ?_ | refine A_iadd d_M_drawDay_117 ?_
                refine A_istore1 d_M_drawDay_118 trivial ?_
                refine A_iload_n2 d_M_drawDay_119 ?_
                refine A_iload4 d_M_drawDay_120 ?_
                refine A_if_eq (tgt := 139) d_M_drawDay_122 (by decide) (fun c => absurd c (by decide)) (fun c_122 => ?_)
                refine A_aload_n0 d_M_drawDay_125 ?_
                refine A_getf (kf := 31) d_M_drawDay_126 hM.o ok_8 (by decide) q_1080 rfl ?_
                refine A_iload_n3 d_M_drawDay_129 ?_
                refine A_ialdN d_M_drawDay_130 hM.a31 ⟨by omega, by decide⟩ ?_
                refine A_topI hwx ?_
                refine A_iconst (v := nI 1) d_M_drawDay_131 (by decide) ?_
                first | refine A_icmp_neN (tgt := 139) d_M_drawDay_132 (by decide) (by with_reducible rfl) (by with_reducible rfl) (by omega) (by omega) (fun c_132 => ?_) (fun c_132 => ?_) | refine A_icmp_ne (tgt := 139) d_M_drawDay_132 (by decide) (fun c_132 => ?_) (fun c_132 => ?_)
                · refine A_iconst (v := nI 0) d_M_drawDay_139 (by decide) ?_
                  first | refine A_iaddN d_M_drawDay_140 (by with_reducible rfl) (by with_reducible rfl) ?_ | refine A_iadd d_M_drawDay_140 ?_
                  refine A_istore2 d_M_drawDay_141 trivial ?_
                  first | refine A_iinc3 d_M_drawDay_142 (nI_1 _) trivial ?_ | refine A_iinc3 d_M_drawDay_142 rfl trivial ?_
                  refine A_goto (tgt := 6) d_M_drawDay_145 (by decide) ?_
                  first
                    | (exfalso; omega)
                    | (have hD1 : D (i + 1) = D i := by (rw [hDs]; unfold dayF; rw [if_neg (by rw [c_19]; decide)])
                       rw [hD1] at ih
                       exact ih _ _ hM hf he ⟨e50, e51, e52, e53⟩)
                    | (have hD1 : D (i + 1) = ((((D i).1.1, (D i).1.2.1, (D i).1.2.2.1 + 1, (D i).1.2.2.2), (D i).2) : DS) := by (rw [hDs]; unfold dayF; rw [if_pos c_19, if_neg (by omega)])
                       rw [hD1] at ih
                       exact ih _ _ hM hf he ⟨e50, e51, e52, e53⟩)
                    | (have hD1 := hDs i
                       unfold dayF at hD1
                       rw [if_pos c_19, if_pos (show 0 < V 5 by omega), hx1, hd] at hD1
                       refine A_drop4 ?_
                       have ih9 := ih _ _ hM hf he (by rw [hD1]; exact ⟨e50, e51, e52, e53⟩)
                       refine A_loc ?_ ih9
                       rw [hD1]
                       first
                         | (rw [if_pos ⟨rfl, c_109⟩, if_neg (by omega)]; done)
                         | (rw [if_neg (by omega), if_pos ⟨rfl, c_132⟩]; done)
                         | (rw [if_neg (by omega), if_neg (by omega)]; done)
                         | (rw [if_neg (fun z => absurd z.1 (by decide)), if_neg (fun z => absurd z.1 (by decide))]; done))
                · refine A_iconst (v := nI 1) d_M_drawDay_135 (by decide) ?_
                  refine A_goto (tgt := 140) d_M_drawDay_136 (by decide) ?_
                  first | refine A_iaddN d_M_drawDay_140 (by with_reducible rfl) (by with_reducible rfl) ?_ | refine A_iadd d_M_drawDay_140 ?_
                  refine A_istore2 d_M_drawDay_141 trivial ?_
                  first | refine A_iinc3 d_M_drawDay_142 (nI_1 _) trivial ?_ | refine A_iinc3 d_M_drawDay_142 rfl trivial ?_
                  refine A_goto (tgt := 6) d_M_drawDay_145 (by decide) ?_
                  first
                    | (exfalso; omega)
                    | (have hD1 : D (i + 1) = D i := by (rw [hDs]; unfold dayF; rw [if_neg (by rw [c_19]; decide)])
                       rw [hD1] at ih
                       exact ih _ _ hM hf he ⟨e50, e51, e52, e53⟩)
                    | (have hD1 : D (i + 1) = ((((D i).1.1, (D i).1.2.1, (D i).1.2.2.1 + 1, (D i).1.2.2.2), (D i).2) : DS) := by (rw [hDs]; unfold dayF; rw [if_pos c_19, if_neg (by omega)])
                       rw [hD1] at ih
                       exact ih _ _ hM hf he ⟨e50, e51, e52, e53⟩)
                    | (have hD1 := hDs i
                       unfold dayF at hD1
                       rw [if_pos c_19, if_pos (show 0 < V 5 by omega), hx1, hd] at hD1
                       refine A_drop4 ?_
                       have ih9 := ih _ _ hM hf he (by rw [hD1]; exact ⟨e50, e51, e52, e53⟩)
                       refine A_loc ?_ ih9
                       rw [hD1]
                       first
                         | (rw [if_pos ⟨rfl, c_109⟩, if_neg (by omega)]; done)
                         | (rw [if_neg (by omega), if_pos ⟨rfl, c_132⟩]; done)
                         | (rw [if_neg (by omega), if_neg (by omega)]; done)
                         | (rw [if_neg (fun z => absurd z.1 (by decide)), if_neg (fun z => absurd z.1 (by decide))]; done))
  refine Ctr.of (by decide +kernel) (by simp) (Nat.le_of_ble_eq_true rfl) (L0 := [some (.ref m), none, none, none, none]) rfl ?_
  refine A_iconst (v := nI 0) d_M_drawDay_0 (by decide) ?_
  refine A_istore1 d_M_drawDay_1 trivial ?_
  refine A_iconst (v := nI 0) d_M_drawDay_2 (by decide) ?_
  refine A_istore2 d_M_drawDay_3 trivial ?_
  refine A_iconst (v := nI 0) d_M_drawDay_4 (by decide) ?_
  refine A_istore3 d_M_drawDay_5 trivial ?_
  exact A_loc (by rw [hD0]) (key 0 (Nat.zero_le _) _ _ hM (fun _ _ => rfl) rfl (by rw [hD0]; exact hq))
set_option maxHeartbeats 4000000 in
set_option maxRecDepth 100000 in
theorem c_M_drawn {G : GE} {h0 h : AH} {m : Nat} {S : MS} (hM : MW h0 h m S) {c : Nat → Nat} {VL WT BK SG GM : Nat → Nat → Nat} (hp : MP S c VL WT BK SG GM) (la ta x da k : Int32) : Ctr G y_M_drawn b_M_drawn 7 (some .int) r_M_drawn [.ref m, .int la, .int ta, .int x, .int da, .int k] h (TK h0 m S (.int (rg da 1 60 (fun d => pick (c 0) la (fun l => pick (c 1) ta (fun t => drawnV (VL l) (WT t) x d k) (-2)) (-2)) (-2)))) := by
  have hc0 := (hp.1 0 (by decide)).2
  have hc1 := (hp.1 1 (by decide)).2
  refine Ctr.of (by decide +kernel) (by simp) (Nat.le_of_ble_eq_true rfl) (L0 := [some (.ref m), some (.int la), some (.int ta), some (.int x), some (.int da), some (.int k), none]) rfl ?_
  refine A_aload_n0 d_M_drawn_0 ?_
  refine A_iconst (v := nI 0) d_M_drawn_1 (by decide) ?_
  refine A_putM hM (kf := 0) (ty := .int) d_M_drawn_2 (by decide) q_1049 rfl (by decide +kernel) (by first | rfl | exact bI_nar _) rfl (Nat.le_of_ble_eq_true rfl) rfl (fun h hM => ?_)
  have hp := hp.keep (Keep.sf _ 0 (nI 0))
  refine A_iload4 d_M_drawn_5 ?_
  refine A_iconst (v := nI 1) d_M_drawn_7 (by decide) ?_
  refine A_bipush (v := nI 60) d_M_drawn_8 (by decide) ?_
  refine A_callSP d_M_drawn_10 (c_M_in _ _ _ _) q_1231 q_1232 mk_M_in rfl (by decide) rfl (Nat.le_of_ble_eq_true rfl) ⟨Nat.le_of_ble_eq_true rfl, Nat.le_of_ble_eq_true rfl⟩ ⟨rfl, rfl⟩ ?_
  refine A_if_eqB (tgt := 52) d_M_drawn_13 (by decide) (fun c_13 => ?_) (fun c_13 => ?_)
  · refine A_bipush (v := (-2)) d_M_drawn_52 (by decide) ?_
    refine A_iret d_M_drawn_54 rfl ⟨Nat.zero_le _, Nat.zero_le _⟩ ?_
    first | exact tk hM (fun _ _ => rfl) (by rw [rg_out c_13]) | exact tk hM (fun k hk2 => hk k hk2) (by rw [rg_in ⟨hd1, hd2⟩ (by decide)]; exact pick2_out q) | exact tk hM (fun k hk2 => hk k hk2) (by rw [rg_in ⟨hd1, hd2⟩ (by decide), pick_in hl (by omega), pick_in ht (by omega), drawnV, rg_out c_32, rg_out c_49])
  · obtain ⟨d, rfl, hd1, hd2⟩ := inB_ex (by decide) c_13
    refine A_aload_n0 d_M_drawn_16 ?_
    refine A_iload_n1 d_M_drawn_17 ?_
    refine A_iload_n2 d_M_drawn_18 ?_
    refine A_callV d_M_drawn_19 (c_M_layRow hM hp la ta) hM.o rfl q_1371 q_1373 qs_40 mk_M_layRow rfl (by decide) rfl (Nat.le_of_ble_eq_true rfl) ⟨Nat.le_of_ble_eq_true rfl, Nat.le_of_ble_eq_true rfl⟩ (fun v h1 hv => ?_)
    rcases hv with ⟨l', t', rfl, rfl, hl, ht, rfl, S2, hM, hL, hk, hkf⟩ | ⟨q, rfl, S2, hM, hk⟩
    · obtain ⟨hS, hw, e0, e1⟩ := hL
      obtain ⟨b0, b1, b2, b3, b4, b5, bp, bb, bt⟩ := hS.ok
      have hp := hp.keep hk
      have hL : LRd S2 l' (VL l') (WT t') := ⟨hS, hw, e0, e1⟩
      refine A_if_eqB (tgt := 52) d_M_drawn_22 (by decide) (fun c => absurd c (by decide)) (fun c_22 => ?_)
      refine A_iload5 d_M_drawn_25 ?_
      refine A_iconst (v := nI 0) d_M_drawn_27 (by decide) ?_
      refine A_iconst (v := nI 1) d_M_drawn_28 (by decide) ?_
      refine A_callSP d_M_drawn_29 (c_M_in _ _ _ _) q_1231 q_1232 mk_M_in rfl (by decide) rfl (Nat.le_of_ble_eq_true rfl) ⟨Nat.le_of_ble_eq_true rfl, Nat.le_of_ble_eq_true rfl⟩ ⟨rfl, rfl⟩ ?_
      refine A_if_neB (tgt := 55) d_M_drawn_32 (by decide) (fun c_32 => ?_) (fun c_32 => ?_)
      · first | obtain ⟨j, rfl, hj1, hj2⟩ := inB_ex (by decide) c_32 | obtain ⟨j, rfl, hj1, hj2⟩ := inB_ex (by omega) c_49
        refine A_aload_n0 d_M_drawn_55 ?_
        refine A_iload_n3 d_M_drawn_56 ?_
        refine A_putM hM (kf := 50) (ty := .int) d_M_drawn_57 (by decide) q_1099 rfl (by decide +kernel) (by first | rfl | exact bI_nar _) rfl (Nat.le_of_ble_eq_true rfl) rfl (fun h hM => ?_)
        refine A_aload_n0 d_M_drawn_60 ?_
        refine A_iconst (v := nI 0) d_M_drawn_61 (by decide) ?_
        refine A_putM hM (kf := 51) (ty := .int) d_M_drawn_62 (by decide) q_1100 rfl (by decide +kernel) (by first | rfl | exact bI_nar _) rfl (Nat.le_of_ble_eq_true rfl) rfl (fun h hM => ?_)
        refine A_aload_n0 d_M_drawn_65 ?_
        refine A_iconst (v := nI 0) d_M_drawn_66 (by decide) ?_
        refine A_putM hM (kf := 52) (ty := .int) d_M_drawn_67 (by decide) q_1101 rfl (by decide +kernel) (by first | rfl | exact bI_nar _) rfl (Nat.le_of_ble_eq_true rfl) rfl (fun h hM => ?_)
        refine A_aload_n0 d_M_drawn_70 ?_
        refine A_iconst (v := nI 0) d_M_drawn_71 (by decide) ?_
        refine A_putM hM (kf := 53) (ty := .int) d_M_drawn_72 (by decide) q_1102 rfl (by decide +kernel) (by first | rfl | exact bI_nar _) rfl (Nat.le_of_ble_eq_true rfl) rfl (fun h hM => ?_)
        refine A_iconst (v := nI 0) d_M_drawn_75 (by decide) ?_
        refine A_istore6 d_M_drawn_76 trivial ?_
        rw [rg_in ⟨hd1, hd2⟩ (by decide), pick_in hl (by omega), pick_in ht (by omega)]
        have key : ∀ i, i ≤ d → ∀ (h : AH) (S1 : MS), MW h0 h m S1 → (∀ j, (j < 50 ∨ 53 < j) → S1.1 j = S2.1 j) → (∀ k, k ≠ 54 → S1.2.2.1 k = S2.2.2.1 k) → QF S1 (yearQ (VL l') (WT t') x i) → (∀ p, p < (VL l') 4 → S1.2.2.1 54 p = nI (yearS (VL l') (WT t') x p i)) → WA G y_M_drawn b_M_drawn 7 (some .int) r_M_drawn 0 0 (TK h0 m S (.int (drawnV (VL l') (WT t') x d (nI j)))) 0 0 102 [some (.ref m), some (.int (nI l')), some (.int (nI t')), some (.int x), some (.int (nI d)), some (.int (nI j)), some (.int (nI i))] [] h := by
          refine down ?_ (fun i hi ih => ?_)
          · intro h S1 hM hf ha hq hs
            refine A_iload6 d_M_drawn_102 ?_
            refine A_iload4 d_M_drawn_104 ?_
            first | refine A_icmp_geN (tgt := 119) d_M_drawn_106 (by decide) (by with_reducible rfl) (by with_reducible rfl) (by omega) (by omega) (fun c_106 => ?_) (fun c_106 => ?_) | refine A_icmp_ge (tgt := 119) d_M_drawn_106 (by decide) (fun c_106 => ?_) (fun c_106 => ?_)
            · refine A_iload5 d_M_drawn_119 ?_
              first | refine A_if_neN (tgt := 131) d_M_drawn_121 (by decide) (by with_reducible rfl) (by omega) (fun c_121 => ?_) (fun c_121 => ?_) | refine A_if_ne (tgt := 131) d_M_drawn_121 (by decide) (fun c_121 => ?_) (fun c_121 => ?_)
              · refine A_iload5 d_M_drawn_131 ?_
                refine A_iconst (v := nI 1) d_M_drawn_133 (by decide) ?_
                first | refine A_icmp_neN (tgt := 144) d_M_drawn_134 (by decide) (by with_reducible rfl) (by with_reducible rfl) (by omega) (by omega) (fun c_134 => ?_) (fun c_134 => ?_) | refine A_icmp_ne (tgt := 144) d_M_drawn_134 (by decide) (fun c_134 => ?_) (fun c_134 => ?_)
                · first
                    | (exfalso; omega)
                    | (refine A_aload_n0 d_M_drawn_144 ?_
                       refine A_getf (kf := 54) d_M_drawn_145 hM.o ok_8 (by decide) q_1103 rfl ?_
                       refine A_iload5 d_M_drawn_148 ?_
                       refine A_bipush (v := nI 10) d_M_drawn_150 (by decide) ?_
                       first | refine A_isubN d_M_drawn_152 (by with_reducible rfl) (by with_reducible rfl) (by omega) ?_ | refine A_isub d_M_drawn_152 ?_
                       refine A_ialdN d_M_drawn_153 hM.a54 ⟨by omega, by decide⟩ ?_
                       refine A_topI (hs _ (by omega)) ?_
                       refine A_iret d_M_drawn_154 rfl ⟨Nat.zero_le _, Nat.zero_le _⟩ ?_
                       exact tk hM (fun k hk2 => (ha k (by omega)).trans (hk k hk2)) (by rw [drawnV, rg_out c_32, rg_in ⟨hj1, hj2⟩ (by omega)]))
                · refine A_aload_n0 d_M_drawn_137 ?_
                  refine A_getf (kf := 52) d_M_drawn_138 hM.o ok_8 (by decide) q_1101 rfl ?_
                  refine A_topI hq.2.2.1 ?_
                  refine A_goto (tgt := 154) d_M_drawn_141 (by decide) ?_
                  refine A_iret d_M_drawn_154 rfl ⟨Nat.zero_le _, Nat.zero_le _⟩ ?_
                  first | (exfalso; omega) | exact tk hM (fun k hk2 => (ha k (by omega)).trans (hk k hk2)) (by rw [drawnV, rg_in ⟨hj1, hj2⟩ (by decide), if_pos (by omega)]) | exact tk hM (fun k hk2 => (ha k (by omega)).trans (hk k hk2)) (by rw [drawnV, rg_in ⟨hj1, hj2⟩ (by decide), if_neg (by omega)]) | exact tk hM (fun k hk2 => (ha k (by omega)).trans (hk k hk2)) (by rw [drawnV, rg_out c_32, rg_in ⟨hj1, hj2⟩ (by omega)])
              · refine A_aload_n0 d_M_drawn_124 ?_
                refine A_getf (kf := 51) d_M_drawn_125 hM.o ok_8 (by decide) q_1100 rfl ?_
                refine A_topI hq.2.1 ?_
                refine A_goto (tgt := 154) d_M_drawn_128 (by decide) ?_
                refine A_iret d_M_drawn_154 rfl ⟨Nat.zero_le _, Nat.zero_le _⟩ ?_
                first | (exfalso; omega) | exact tk hM (fun k hk2 => (ha k (by omega)).trans (hk k hk2)) (by rw [drawnV, rg_in ⟨hj1, hj2⟩ (by decide), if_pos (by omega)]) | exact tk hM (fun k hk2 => (ha k (by omega)).trans (hk k hk2)) (by rw [drawnV, rg_in ⟨hj1, hj2⟩ (by decide), if_neg (by omega)]) | exact tk hM (fun k hk2 => (ha k (by omega)).trans (hk k hk2)) (by rw [drawnV, rg_out c_32, rg_in ⟨hj1, hj2⟩ (by omega)])
            · exact absurd c_106 (by omega)
          · intro h S1 hM hf ha hq hs
            refine A_iload6 d_M_drawn_102 ?_
            refine A_iload4 d_M_drawn_104 ?_
            first | refine A_icmp_geN (tgt := 119) d_M_drawn_106 (by decide) (by with_reducible rfl) (by with_reducible rfl) (by omega) (by omega) (fun c_106 => ?_) (fun c_106 => ?_) | refine A_icmp_ge (tgt := 119) d_M_drawn_106 (by decide) (fun c_106 => ?_) (fun c_106 => ?_)
            · exact absurd c_106 (by omega)
            · refine A_aload_n0 d_M_drawn_109 ?_
              refine A_callV d_M_drawn_110 (c_M_drawDay hM (hL.keepF (fun k hk => ha k (by omega)) (ha 31 (by decide)) (fun j a b => hf j (by omega))) _ hq (yearQ_turn _ _ _ i) _ hs) hM.o rfl q_1709 q_1711 qs_102 mk_M_drawDay rfl (by decide) rfl (Nat.le_of_ble_eq_true rfl) ⟨Nat.le_of_ble_eq_true rfl, Nat.le_of_ble_eq_true rfl⟩ (fun v h1 hv => ?_)
              obtain ⟨rfl, S3, hM, hf3, ha3, hq3, hs3⟩ := hv
              first | refine A_iinc6 d_M_drawn_113 (nI_1 _) trivial ?_ | refine A_iinc6 d_M_drawn_113 rfl trivial ?_
              refine A_goto (tgt := 102) d_M_drawn_116 (by decide) ?_
              exact ih _ _ hM (fun j hj => (hf3 j hj).trans (hf j hj)) (fun k hk => (ha3 k hk).trans (ha k hk)) hq3 hs3
        have keyZ : ∀ i, i ≤ 10 → ∀ (h : AH) (S1 : MS), MW h0 h m S1 → (∀ j, (j < 50 ∨ 53 < j) → S1.1 j = S2.1 j) → (∀ k, k ≠ 54 → S1.2.2.1 k = S2.2.2.1 k) → QF S1 (x, 0, 0, 0) → (∀ p, p < i → S1.2.2.1 54 p = nI 0) → WA G y_M_drawn b_M_drawn 7 (some .int) r_M_drawn 0 0 (TK h0 m S (.int (drawnV (VL l') (WT t') x d (nI j)))) 0 0 78 [some (.ref m), some (.int (nI l')), some (.int (nI t')), some (.int x), some (.int (nI d)), some (.int (nI j)), some (.int (nI i))] [] h := by
          refine down ?_ (fun i hi ih => ?_)
          · intro h S1 hM hf ha hq hs
            refine A_iload6 d_M_drawn_78 ?_
            refine A_bipush (v := nI 10) d_M_drawn_80 (by decide) ?_
            first | refine A_icmp_geN (tgt := 99) d_M_drawn_82 (by decide) (by with_reducible rfl) (by with_reducible rfl) (by omega) (by omega) (fun c_82 => ?_) (fun c_82 => ?_) | refine A_icmp_ge (tgt := 99) d_M_drawn_82 (by decide) (fun c_82 => ?_) (fun c_82 => ?_)
            · refine A_iconst (v := nI 0) d_M_drawn_99 (by decide) ?_
              refine A_istore6 d_M_drawn_100 trivial ?_
              exact key 0 (Nat.zero_le _) _ _ hM hf ha hq (fun p hp => hs p (by omega))
            · exact absurd c_82 (by omega)
          · intro h S1 hM hf ha hq hs
            refine A_iload6 d_M_drawn_78 ?_
            refine A_bipush (v := nI 10) d_M_drawn_80 (by decide) ?_
            first | refine A_icmp_geN (tgt := 99) d_M_drawn_82 (by decide) (by with_reducible rfl) (by with_reducible rfl) (by omega) (by omega) (fun c_82 => ?_) (fun c_82 => ?_) | refine A_icmp_ge (tgt := 99) d_M_drawn_82 (by decide) (fun c_82 => ?_) (fun c_82 => ?_)
            · exact absurd c_82 (by omega)
            · refine A_aload_n0 d_M_drawn_85 ?_
              refine A_getf (kf := 54) d_M_drawn_86 hM.o ok_8 (by decide) q_1103 rfl ?_
              refine A_iload6 d_M_drawn_89 ?_
              refine A_iconst (v := nI 0) d_M_drawn_91 (by decide) ?_
              refine A_st54 hM d_M_drawn_92 (by omega) (fun h hM => ?_)
              first | refine A_iinc6 d_M_drawn_93 (nI_1 _) trivial ?_ | refine A_iinc6 d_M_drawn_93 rfl trivial ?_
              refine A_goto (tgt := 78) d_M_drawn_96 (by decide) ?_
              refine ih _ _ hM hf (fun k hk => (fup_ne _ _ hk).trans (ha k hk)) hq (fun p hp => ?_)
              by_cases r : p = i
              · subst r; exact fup_eq _ _ _
              · exact (fup_ne _ _ r).trans (hs p (by omega))
        exact keyZ 0 (Nat.zero_le _) _ _ hM (fun j hj => (fup_ne _ _ (by omega)).trans ((fup_ne _ _ (by omega)).trans ((fup_ne _ _ (by omega)).trans (fup_ne _ _ (by omega))))) (fun _ _ => rfl) ⟨rfl, rfl, rfl, rfl⟩ (fun p hp => absurd hp (Nat.not_lt_zero _))
      · refine A_iload5 d_M_drawn_35 ?_
        refine A_bipush (v := nI 10) d_M_drawn_37 (by decide) ?_
        refine A_bipush (v := nI 9) d_M_drawn_39 (by decide) ?_
        refine A_aload_n0 d_M_drawn_41 ?_
        refine A_getf (kf := 29) d_M_drawn_42 hM.o ok_8 (by decide) q_1078 rfl ?_
        refine A_topI hS.people ?_
        first | refine A_iaddN d_M_drawn_45 (by with_reducible rfl) (by with_reducible rfl) ?_ | refine A_iadd d_M_drawn_45 ?_
        refine A_callSP d_M_drawn_46 (c_M_in _ _ _ _) q_1231 q_1232 mk_M_in rfl (by decide) rfl (Nat.le_of_ble_eq_true rfl) ⟨Nat.le_of_ble_eq_true rfl, Nat.le_of_ble_eq_true rfl⟩ ⟨rfl, rfl⟩ ?_
        refine A_if_neB (tgt := 55) d_M_drawn_49 (by decide) (fun c_49 => ?_) (fun c_49 => ?_)
        · first | obtain ⟨j, rfl, hj1, hj2⟩ := inB_ex (by decide) c_32 | obtain ⟨j, rfl, hj1, hj2⟩ := inB_ex (by omega) c_49
          refine A_aload_n0 d_M_drawn_55 ?_
          refine A_iload_n3 d_M_drawn_56 ?_
          refine A_putM hM (kf := 50) (ty := .int) d_M_drawn_57 (by decide) q_1099 rfl (by decide +kernel) (by first | rfl | exact bI_nar _) rfl (Nat.le_of_ble_eq_true rfl) rfl (fun h hM => ?_)
          refine A_aload_n0 d_M_drawn_60 ?_
          refine A_iconst (v := nI 0) d_M_drawn_61 (by decide) ?_
          refine A_putM hM (kf := 51) (ty := .int) d_M_drawn_62 (by decide) q_1100 rfl (by decide +kernel) (by first | rfl | exact bI_nar _) rfl (Nat.le_of_ble_eq_true rfl) rfl (fun h hM => ?_)
          refine A_aload_n0 d_M_drawn_65 ?_
          refine A_iconst (v := nI 0) d_M_drawn_66 (by decide) ?_
          refine A_putM hM (kf := 52) (ty := .int) d_M_drawn_67 (by decide) q_1101 rfl (by decide +kernel) (by first | rfl | exact bI_nar _) rfl (Nat.le_of_ble_eq_true rfl) rfl (fun h hM => ?_)
          refine A_aload_n0 d_M_drawn_70 ?_
          refine A_iconst (v := nI 0) d_M_drawn_71 (by decide) ?_
          refine A_putM hM (kf := 53) (ty := .int) d_M_drawn_72 (by decide) q_1102 rfl (by decide +kernel) (by first | rfl | exact bI_nar _) rfl (Nat.le_of_ble_eq_true rfl) rfl (fun h hM => ?_)
          refine A_iconst (v := nI 0) d_M_drawn_75 (by decide) ?_
          refine A_istore6 d_M_drawn_76 trivial ?_
          rw [rg_in ⟨hd1, hd2⟩ (by decide), pick_in hl (by omega), pick_in ht (by omega)]
          have key : ∀ i, i ≤ d → ∀ (h : AH) (S1 : MS), MW h0 h m S1 → (∀ j, (j < 50 ∨ 53 < j) → S1.1 j = S2.1 j) → (∀ k, k ≠ 54 → S1.2.2.1 k = S2.2.2.1 k) → QF S1 (yearQ (VL l') (WT t') x i) → (∀ p, p < (VL l') 4 → S1.2.2.1 54 p = nI (yearS (VL l') (WT t') x p i)) → WA G y_M_drawn b_M_drawn 7 (some .int) r_M_drawn 0 0 (TK h0 m S (.int (drawnV (VL l') (WT t') x d (nI j)))) 0 0 102 [some (.ref m), some (.int (nI l')), some (.int (nI t')), some (.int x), some (.int (nI d)), some (.int (nI j)), some (.int (nI i))] [] h := by
            refine down ?_ (fun i hi ih => ?_)
            · intro h S1 hM hf ha hq hs
              refine A_iload6 d_M_drawn_102 ?_
              refine A_iload4 d_M_drawn_104 ?_
              first | refine A_icmp_geN (tgt := 119) d_M_drawn_106 (by decide) (by with_reducible rfl) (by with_reducible rfl) (by omega) (by omega) (fun c_106 => ?_) (fun c_106 => ?_) | refine A_icmp_ge (tgt := 119) d_M_drawn_106 (by decide) (fun c_106 => ?_) (fun c_106 => ?_)
              · refine A_iload5 d_M_drawn_119 ?_
                first | refine A_if_neN (tgt := 131) d_M_drawn_121 (by decide) (by with_reducible rfl) (by omega) (fun c_121 => ?_) (fun c_121 => ?_) | refine A_if_ne (tgt := 131) d_M_drawn_121 (by decide) (fun c_121 => ?_) (fun c_121 => ?_)
                · refine A_iload5 d_M_drawn_131 ?_
                  refine A_iconst (v := nI 1) d_M_drawn_133 (by decide) ?_
                  first | refine A_icmp_neN (tgt := 144) d_M_drawn_134 (by decide) (by with_reducible rfl) (by with_reducible rfl) (by omega) (by omega) (fun c_134 => ?_) (fun c_134 => ?_) | refine A_icmp_ne (tgt := 144) d_M_drawn_134 (by decide) (fun c_134 => ?_) (fun c_134 => ?_)
                  · first
                      | (exfalso; omega)
                      | (refine A_aload_n0 d_M_drawn_144 ?_
                         refine A_getf (kf := 54) d_M_drawn_145 hM.o ok_8 (by decide) q_1103 rfl ?_
                         refine A_iload5 d_M_drawn_148 ?_
                         refine A_bipush (v := nI 10) d_M_drawn_150 (by decide) ?_
                         first | refine A_isubN d_M_drawn_152 (by with_reducible rfl) (by with_reducible rfl) (by omega) ?_ | refine A_isub d_M_drawn_152 ?_
                         refine A_ialdN d_M_drawn_153 hM.a54 ⟨by omega, by decide⟩ ?_
                         refine A_topI (hs _ (by omega)) ?_
                         refine A_iret d_M_drawn_154 rfl ⟨Nat.zero_le _, Nat.zero_le _⟩ ?_
                         exact tk hM (fun k hk2 => (ha k (by omega)).trans (hk k hk2)) (by rw [drawnV, rg_out c_32, rg_in ⟨hj1, hj2⟩ (by omega)]))
                  · refine A_aload_n0 d_M_drawn_137 ?_
                    refine A_getf (kf := 52) d_M_drawn_138 hM.o ok_8 (by decide) q_1101 rfl ?_
                    refine A_topI hq.2.2.1 ?_
                    refine A_goto (tgt := 154) d_M_drawn_141 (by decide) ?_
                    refine A_iret d_M_drawn_154 rfl ⟨Nat.zero_le _, Nat.zero_le _⟩ ?_
                    first | (exfalso; omega) | exact tk hM (fun k hk2 => (ha k (by omega)).trans (hk k hk2)) (by rw [drawnV, rg_in ⟨hj1, hj2⟩ (by decide), if_pos (by omega)]) | exact tk hM (fun k hk2 => (ha k (by omega)).trans (hk k hk2)) (by rw [drawnV, rg_in ⟨hj1, hj2⟩ (by decide), if_neg (by omega)]) | exact tk hM (fun k hk2 => (ha k (by omega)).trans (hk k hk2)) (by rw [drawnV, rg_out c_32, rg_in ⟨hj1, hj2⟩ (by omega)])
                · refine A_aload_n0 d_M_drawn_124 ?_
                  refine A_getf (kf := 51) d_M_drawn_125 hM.o ok_8 (by decide) q_1100 rfl ?_
                  refine A_topI hq.2.1 ?_
                  refine A_goto (tgt := 154) d_M_drawn_128 (by decide) ?_
                  refine A_iret d_M_drawn_154 rfl ⟨Nat.zero_le _, Nat.zero_le _⟩ ?_
                  first | (exfalso; omega) | exact tk hM (fun k hk2 => (ha k (by omega)).trans (hk k hk2)) (by rw [drawnV, rg_in ⟨hj1, hj2⟩ (by decide), if_pos (by omega)]) | exact tk hM (fun k hk2 => (ha k (by omega)).trans (hk k hk2)) (by rw [drawnV, rg_in ⟨hj1, hj2⟩ (by decide), if_neg (by omega)]) | exact tk hM (fun k hk2 => (ha k (by omega)).trans (hk k hk2)) (by rw [drawnV, rg_out c_32, rg_in ⟨hj1, hj2⟩ (by omega)])
              · exact absurd c_106 (by omega)
            · intro h S1 hM hf ha hq hs
              refine A_iload6 d_M_drawn_102 ?_
              refine A_iload4 d_M_drawn_104 ?_
              first | refine A_icmp_geN (tgt := 119) d_M_drawn_106 (by decide) (by with_reducible rfl) (by with_reducible rfl) (by omega) (by omega) (fun c_106 => ?_) (fun c_106 => ?_) | refine A_icmp_ge (tgt := 119) d_M_drawn_106 (by decide) (fun c_106 => ?_) (fun c_106 => ?_)
              · exact absurd c_106 (by omega)
              · refine A_aload_n0 d_M_drawn_109 ?_
                refine A_callV d_M_drawn_110 (c_M_drawDay hM (hL.keepF (fun k hk => ha k (by omega)) (ha 31 (by decide)) (fun j a b => hf j (by omega))) _ hq (yearQ_turn _ _ _ i) _ hs) hM.o rfl q_1709 q_1711 qs_102 mk_M_drawDay rfl (by decide) rfl (Nat.le_of_ble_eq_true rfl) ⟨Nat.le_of_ble_eq_true rfl, Nat.le_of_ble_eq_true rfl⟩ (fun v h1 hv => ?_)
                obtain ⟨rfl, S3, hM, hf3, ha3, hq3, hs3⟩ := hv
                first | refine A_iinc6 d_M_drawn_113 (nI_1 _) trivial ?_ | refine A_iinc6 d_M_drawn_113 rfl trivial ?_
                refine A_goto (tgt := 102) d_M_drawn_116 (by decide) ?_
                exact ih _ _ hM (fun j hj => (hf3 j hj).trans (hf j hj)) (fun k hk => (ha3 k hk).trans (ha k hk)) hq3 hs3
          have keyZ : ∀ i, i ≤ 10 → ∀ (h : AH) (S1 : MS), MW h0 h m S1 → (∀ j, (j < 50 ∨ 53 < j) → S1.1 j = S2.1 j) → (∀ k, k ≠ 54 → S1.2.2.1 k = S2.2.2.1 k) → QF S1 (x, 0, 0, 0) → (∀ p, p < i → S1.2.2.1 54 p = nI 0) → WA G y_M_drawn b_M_drawn 7 (some .int) r_M_drawn 0 0 (TK h0 m S (.int (drawnV (VL l') (WT t') x d (nI j)))) 0 0 78 [some (.ref m), some (.int (nI l')), some (.int (nI t')), some (.int x), some (.int (nI d)), some (.int (nI j)), some (.int (nI i))] [] h := by
            refine down ?_ (fun i hi ih => ?_)
            · intro h S1 hM hf ha hq hs
              refine A_iload6 d_M_drawn_78 ?_
              refine A_bipush (v := nI 10) d_M_drawn_80 (by decide) ?_
              first | refine A_icmp_geN (tgt := 99) d_M_drawn_82 (by decide) (by with_reducible rfl) (by with_reducible rfl) (by omega) (by omega) (fun c_82 => ?_) (fun c_82 => ?_) | refine A_icmp_ge (tgt := 99) d_M_drawn_82 (by decide) (fun c_82 => ?_) (fun c_82 => ?_)
              · refine A_iconst (v := nI 0) d_M_drawn_99 (by decide) ?_
                refine A_istore6 d_M_drawn_100 trivial ?_
                exact key 0 (Nat.zero_le _) _ _ hM hf ha hq (fun p hp => hs p (by omega))
              · exact absurd c_82 (by omega)
            · intro h S1 hM hf ha hq hs
              refine A_iload6 d_M_drawn_78 ?_
              refine A_bipush (v := nI 10) d_M_drawn_80 (by decide) ?_
              first | refine A_icmp_geN (tgt := 99) d_M_drawn_82 (by decide) (by with_reducible rfl) (by with_reducible rfl) (by omega) (by omega) (fun c_82 => ?_) (fun c_82 => ?_) | refine A_icmp_ge (tgt := 99) d_M_drawn_82 (by decide) (fun c_82 => ?_) (fun c_82 => ?_)
              · exact absurd c_82 (by omega)
              · refine A_aload_n0 d_M_drawn_85 ?_
                refine A_getf (kf := 54) d_M_drawn_86 hM.o ok_8 (by decide) q_1103 rfl ?_
                refine A_iload6 d_M_drawn_89 ?_
                refine A_iconst (v := nI 0) d_M_drawn_91 (by decide) ?_
                refine A_st54 hM d_M_drawn_92 (by omega) (fun h hM => ?_)
                first | refine A_iinc6 d_M_drawn_93 (nI_1 _) trivial ?_ | refine A_iinc6 d_M_drawn_93 rfl trivial ?_
                refine A_goto (tgt := 78) d_M_drawn_96 (by decide) ?_
                refine ih _ _ hM hf (fun k hk => (fup_ne _ _ hk).trans (ha k hk)) hq (fun p hp => ?_)
                by_cases r : p = i
                · subst r; exact fup_eq _ _ _
                · exact (fup_ne _ _ r).trans (hs p (by omega))
          exact keyZ 0 (Nat.zero_le _) _ _ hM (fun j hj => (fup_ne _ _ (by omega)).trans ((fup_ne _ _ (by omega)).trans ((fup_ne _ _ (by omega)).trans (fup_ne _ _ (by omega))))) (fun _ _ => rfl) ⟨rfl, rfl, rfl, rfl⟩ (fun p hp => absurd hp (Nat.not_lt_zero _))
        · refine A_bipush (v := (-2)) d_M_drawn_52 (by decide) ?_
          refine A_iret d_M_drawn_54 rfl ⟨Nat.zero_le _, Nat.zero_le _⟩ ?_
          first | exact tk hM (fun _ _ => rfl) (by rw [rg_out c_13]) | exact tk hM (fun k hk2 => hk k hk2) (by rw [rg_in ⟨hd1, hd2⟩ (by decide)]; exact pick2_out q) | exact tk hM (fun k hk2 => hk k hk2) (by rw [rg_in ⟨hd1, hd2⟩ (by decide), pick_in hl (by omega), pick_in ht (by omega), drawnV, rg_out c_32, rg_out c_49])
    · have hp := hp.keep hk
      refine A_if_eqB (tgt := 52) d_M_drawn_22 (by decide) (fun c_22 => ?_) (fun c => absurd c (by decide))
      refine A_bipush (v := (-2)) d_M_drawn_52 (by decide) ?_
      refine A_iret d_M_drawn_54 rfl ⟨Nat.zero_le _, Nat.zero_le _⟩ ?_
      first | exact tk hM (fun _ _ => rfl) (by rw [rg_out c_13]) | exact tk hM (fun k hk2 => hk k hk2) (by rw [rg_in ⟨hd1, hd2⟩ (by decide)]; exact pick2_out q) | exact tk hM (fun k hk2 => hk k hk2) (by rw [rg_in ⟨hd1, hd2⟩ (by decide), pick_in hl (by omega), pick_in ht (by omega), drawnV, rg_out c_32, rg_out c_49])
