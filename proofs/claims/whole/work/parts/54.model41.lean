theorem TB_tx {B : Nat → Nat} {n of : Nat} : ∀ F q r, q ≤ n → TB of q r.1 r.2.1 → ∃ q2, q ≤ q2 ∧ q2 ≤ n ∧ TB of q2 (txF B n of F q r).2.1 (txF B n of F q r).2.2.1
  | 0, q, r, hq, h => ⟨q, Nat.le_refl _, hq, h⟩
  | F + 1, q, r, hq, h => by
    have e : txF B n of (F + 1) q r = if kN B n q = 0 then (none, r) else match leN B n of q with
      | some x => (some x, r)
      | none => txF B n of F (nxN B n (itN B n (nxN B n q) (sgN (lkN B n of q)))) (lnF (lkN B n of q) B n q r) := rfl
    rw [e]
    by_cases hk0 : kN B n q = 0
    · rw [if_pos hk0]
      exact ⟨q, Nat.le_refl _, hq, h⟩
    · rw [if_neg hk0]
      have hqn := kN_lt hk0
      cases hle : leN B n of q with
      | some x => exact ⟨q, Nat.le_refl _, hq, h⟩
      | none =>
        have hfl : flN B n (lkN B n of q) q = none := by
          unfold leN at hle
          cases z : flN B n (lkN B n of q) q with
          | none => rfl
          | some x => rw [z] at hle; cases hle
        have hsg : kN B n (itN B n (nxN B n q) (sgN (lkN B n of q))) = 4 := by
          unfold leN at hle
          rw [hfl] at hle
          by_cases z : kN B n (itN B n (nxN B n q) (sgN (lkN B n of q))) = 4
          · exact z
          · have hle : (if kN B n (itN B n (nxN B n q) (sgN (lkN B n of q))) = 4 then none else some (itN B n (nxN B n q) (sgN (lkN B n of q)))) = none := hle
            rw [if_neg z] at hle
            cases hle
        obtain ⟨hk12, hnu⟩ := flN_nu hfl
        have hlo := lkN_of hk12
        have hq1 := nxN_lt (B := B) hqn
        have hq2 := itN_bd (B := B) hq1.2 (sgN (lkN B n of q))
        have hq3 : itN B n (nxN B n q) (sgN (lkN B n of q)) < n := kN_lt (by rw [hsg]; decide)
        have hq4 := nxN_lt (B := B) hq3
        have hTB2 : TB of (nxN B n (itN B n (nxN B n q) (sgN (lkN B n of q)))) (lnF (lkN B n of q) B n q r).1 (lnF (lkN B n of q) B n q r).2.1 := TB_step (B := B) (n := n) h (fun i hi => tvN_le (nuF_k hnu i hi)) (by omega) hlo.1 hlo.2.2.1 hlo.2.2.2 hk12
        obtain ⟨q2, h1, h2, h3⟩ := TB_tx (n := n) F (nxN B n (itN B n (nxN B n q) (sgN (lkN B n of q)))) _ (by omega) hTB2
        exact ⟨q2, by omega, h2, h3⟩
def T0F (of i : Nat) : Nat := if of = 1 then 2 else if of = 0 ∧ i = 0 then 12 else if of = 0 ∧ (i = 1 ∨ i = 3) then 1 else 0
/-- a text read: where a line fails; what has been read -/
def rdX (B : Nat → Nat) (n of : Nat) : Option Nat × RS := txF B n of (n + 1) (skN B n 0) (T0F of, (0, 0, 0), (0, 0))
def endS (of : Nat) (r : RS) (n : Nat) : Nat × Nat := if r.2.2.1 = 0 ∧ ((of = 0 ∧ (r.1 4 < r.2.1.1 ∨ r.1 0 < r.2.1.2.1)) ∨ (of = 2 ∧ 96 < r.2.1.2.2)) then (4, n) else r.2.2
def ftN (B : Nat → Nat) (n of : Nat) : Nat := match (rdX B n of).1 with
  | some _ => 1
  | none => (endS of (rdX B n of).2 n).1
def plN (B : Nat → Nat) (n of : Nat) : Int32 := match (rdX B n of).1 with
  | some x => nI x
  | none => if (endS of (rdX B n of).2 n).1 = 0 then -1 else nI (endS of (rdX B n of).2 n).2
/-- a text's reading told: the fault, its place, what was read -/
def RDP (h0 : AH) (m : Nat) (S : MS) (ft : Nat) (pl : Int32) (T : Nat → Nat) : Option Value → AH → Prop := fun v h' => v = some (.int (bI (decide (ft = 0)))) ∧ ∃ S1, MW h0 h' m S1 ∧ S1.2.2.1 3 = fup (S.2.2.1 3) 0 (nI ft) ∧ S1.2.2.1 4 = fup (S.2.2.1 4) 0 pl ∧ (∀ k, k ≠ 3 → k ≠ 4 → (k ≤ 10 ∨ k = 55) → S1.2.2.1 k = S.2.2.1 k) ∧ (ft = 0 → ∀ i, i < 312 → S1.2.2.1 20 i = nI (T i))
set_option maxHeartbeats 4000000 in
set_option maxRecDepth 100000 in
theorem c_M_linesC {G : GE} {h0 h : AH} {m : Nat} {S : MS} (hM : MW h0 h m S) {S0 : MS} {B : Nat → Nat} {n q of : Nat} (hof : of ≤ 4) {r : RS} (hL : LnH S0 S B n q q r) (hTB : TB of q r.1 r.2.1) (F : Nat) (hF : n < q + F) : Ctr G y_M_lines b_M_lines 4 (some .boolean) r_M_lines [.ref m, .int (nI of)] h (fun v h' => (∃ x, (txF B n of F q r).1 = some x ∧ v = some (.int (bI false)) ∧ ∃ S1, MW h0 h' m S1 ∧ KT S0 S1 ∧ S1.1 17 = nI x) ∨ ((txF B n of F q r).1 = none ∧ v = some (.int (bI true)) ∧ ∃ S1, MW h0 h' m S1 ∧ LnH S0 S1 B n n n (txF B n of F q r).2)) := by
  refine Ctr.of (by decide +kernel) (by simp) (Nat.le_of_ble_eq_true rfl) (L0 := [some (.ref m), some (.int (nI of)), none, none]) rfl ?_
  refine A_iconst (v := nI 1) d_M_lines_0 (by decide) ?_
  refine A_istore2 d_M_lines_1 trivial ?_
  exact A_loc rfl (c_M_lines hof F q r h S hM hL hTB hF)
set_option maxHeartbeats 4000000 in
set_option maxRecDepth 100000 in
theorem c_M_rt156 {G : GE} {h0 h : AH} {m : Nat} {S S9 : MS} (hM : MW h0 h m S9) {B : Nat → Nat} {n of : Nat} {lf lp : Nat} (hk9 : KT S S9) (e18 : S9.1 18 = nI lf) (e19 : lf ≠ 0 → S9.1 19 = nI lp) (hlf : lf ≤ 4) {T : Nat → Nat} (hT9 : lf = 0 → ∀ i, i < 312 → S9.2.2.1 20 i = nI (T i)) : WA G y_M_readText b_M_readText 3 (some .boolean) r_M_readText 0 0 (RDP h0 m S lf (if lf = 0 then -1 else nI lp) T) 0 0 156 [some (.ref m), some (.int (nI of)), some (.int (bI true))] [] h := by
  refine A_aload_n0 d_M_readText_156 ?_
  refine A_getf (kf := 3) d_M_readText_157 hM.o ok_8 (by decide) q_1052 rfl ?_
  refine A_iconst (v := nI 0) d_M_readText_160 (by decide) ?_
  refine A_iload_n2 d_M_readText_161 ?_
  refine A_if_eqB (tgt := 172) d_M_readText_162 (by decide) (fun c => absurd c (by decide)) (fun c_162 => ?_)
  refine A_aload_n0 d_M_readText_165 ?_
  refine A_getf (kf := 18) d_M_readText_166 hM.o ok_8 (by decide) q_1067 rfl ?_
  refine A_topI e18 ?_
  refine A_goto (tgt := 173) d_M_readText_169 (by decide) ?_
  refine A_st3 hM d_M_readText_173 (by decide) (fun h hM => ?_)
  obtain ⟨S3, hM, e3, x3, f3, -, -⟩ := opa hM
  refine A_aload_n0 d_M_readText_174 ?_
  refine A_getf (kf := 4) d_M_readText_175 hM.o ok_8 (by decide) q_1053 rfl ?_
  refine A_iconst (v := nI 0) d_M_readText_178 (by decide) ?_
  refine A_iload_n2 d_M_readText_179 ?_
  refine A_if_neB (tgt := 190) d_M_readText_180 (by decide) (fun c_180 => ?_) (fun c => absurd c (by decide))
  refine A_aload_n0 d_M_readText_190 ?_
  refine A_getf (kf := 18) d_M_readText_191 hM.o ok_8 (by decide) q_1067 rfl ?_
  refine A_topI (show S3.1 18 = nI lf by rw [f3]; exact e18) ?_
  first | refine A_if_leN (tgt := 204) d_M_readText_194 (by decide) (by with_reducible rfl) (by omega) (fun c_194 => ?_) (fun c_194 => ?_) | refine A_if_le (tgt := 204) d_M_readText_194 (by decide) (fun c_194 => ?_) (fun c_194 => ?_)
  · refine A_iconst (v := (-1)) d_M_readText_204 (by decide) ?_
    refine A_st4 hM d_M_readText_205 (by decide) (fun h hM => ?_)
    obtain ⟨S4, hM, e4, x4, f4, -, -⟩ := opa hM
    refine A_aload_n0 d_M_readText_206 ?_
    refine A_getf (kf := 3) d_M_readText_207 hM.o ok_8 (by decide) q_1052 rfl ?_
    refine A_iconst (v := nI 0) d_M_readText_210 (by decide) ?_
    refine A_ialdN d_M_readText_211 hM.a3 ⟨by decide, by decide⟩ ?_
    refine A_topI (show S4.2.2.1 3 0 = nI lf by rw [x4 3 (by decide), e3, fup_eq]) ?_
    first | refine A_if_neN (tgt := 219) d_M_readText_212 (by decide) (by with_reducible rfl) (by omega) (fun c_212 => ?_) (fun c_212 => ?_) | refine A_if_ne (tgt := 219) d_M_readText_212 (by decide) (fun c_212 => ?_) (fun c_212 => ?_)
    · refine A_iconst (v := nI 0) d_M_readText_219 (by decide) ?_
      refine A_zret d_M_readText_220 rfl (by first | rfl | exact bI_nar _ | decide) ⟨Nat.zero_le _, Nat.zero_le _⟩ ?_
      refine ⟨by first | (rw [decide_eq_true c_212]; rfl) | (rw [decide_eq_false c_212]; rfl), S4, hM, ?_, ?_, fun k k3 k4 hk => ?_, fun z i hi => ?_⟩
      · rw [x4 3 (by decide), e3, hk9.1 3 (by decide)]
      · rw [e4, x3 4 (by decide), hk9.1 4 (by decide)]
        first | (rw [if_neg (by omega)]; done) | (rw [if_pos (by omega)]; done)
      · rw [x4 k k4, x3 k k3, hk9.1 k hk]
      · rw [x4 20 (by decide), x3 20 (by decide)]
        exact hT9 z i hi
    · refine A_iconst (v := nI 1) d_M_readText_215 (by decide) ?_
      refine A_goto (tgt := 220) d_M_readText_216 (by decide) ?_
      refine A_zret d_M_readText_220 rfl (by first | rfl | exact bI_nar _ | decide) ⟨Nat.zero_le _, Nat.zero_le _⟩ ?_
      refine ⟨by first | (rw [decide_eq_true c_212]; rfl) | (rw [decide_eq_false c_212]; rfl), S4, hM, ?_, ?_, fun k k3 k4 hk => ?_, fun z i hi => ?_⟩
      · rw [x4 3 (by decide), e3, hk9.1 3 (by decide)]
      · rw [e4, x3 4 (by decide), hk9.1 4 (by decide)]
        first | (rw [if_neg (by omega)]; done) | (rw [if_pos (by omega)]; done)
      · rw [x4 k k4, x3 k k3, hk9.1 k hk]
      · rw [x4 20 (by decide), x3 20 (by decide)]
        exact hT9 z i hi
  · refine A_aload_n0 d_M_readText_197 ?_
    refine A_getf (kf := 19) d_M_readText_198 hM.o ok_8 (by decide) q_1068 rfl ?_
    refine A_topI (show S3.1 19 = nI lp by rw [f3]; exact e19 (by omega)) ?_
    refine A_goto (tgt := 205) d_M_readText_201 (by decide) ?_
    refine A_st4 hM d_M_readText_205 (by decide) (fun h hM => ?_)
    obtain ⟨S4, hM, e4, x4, f4, -, -⟩ := opa hM
    refine A_aload_n0 d_M_readText_206 ?_
    refine A_getf (kf := 3) d_M_readText_207 hM.o ok_8 (by decide) q_1052 rfl ?_
    refine A_iconst (v := nI 0) d_M_readText_210 (by decide) ?_
    refine A_ialdN d_M_readText_211 hM.a3 ⟨by decide, by decide⟩ ?_
    refine A_topI (show S4.2.2.1 3 0 = nI lf by rw [x4 3 (by decide), e3, fup_eq]) ?_
    first | refine A_if_neN (tgt := 219) d_M_readText_212 (by decide) (by with_reducible rfl) (by omega) (fun c_212 => ?_) (fun c_212 => ?_) | refine A_if_ne (tgt := 219) d_M_readText_212 (by decide) (fun c_212 => ?_) (fun c_212 => ?_)
    · refine A_iconst (v := nI 0) d_M_readText_219 (by decide) ?_
      refine A_zret d_M_readText_220 rfl (by first | rfl | exact bI_nar _ | decide) ⟨Nat.zero_le _, Nat.zero_le _⟩ ?_
      refine ⟨by first | (rw [decide_eq_true c_212]; rfl) | (rw [decide_eq_false c_212]; rfl), S4, hM, ?_, ?_, fun k k3 k4 hk => ?_, fun z i hi => ?_⟩
      · rw [x4 3 (by decide), e3, hk9.1 3 (by decide)]
      · rw [e4, x3 4 (by decide), hk9.1 4 (by decide)]
        first | (rw [if_neg (by omega)]; done) | (rw [if_pos (by omega)]; done)
      · rw [x4 k k4, x3 k k3, hk9.1 k hk]
      · rw [x4 20 (by decide), x3 20 (by decide)]
        exact hT9 z i hi
    · refine A_iconst (v := nI 1) d_M_readText_215 (by decide) ?_
      refine A_goto (tgt := 220) d_M_readText_216 (by decide) ?_
      refine A_zret d_M_readText_220 rfl (by first | rfl | exact bI_nar _ | decide) ⟨Nat.zero_le _, Nat.zero_le _⟩ ?_
      refine ⟨by first | (rw [decide_eq_true c_212]; rfl) | (rw [decide_eq_false c_212]; rfl), S4, hM, ?_, ?_, fun k k3 k4 hk => ?_, fun z i hi => ?_⟩
      · rw [x4 3 (by decide), e3, hk9.1 3 (by decide)]
      · rw [e4, x3 4 (by decide), hk9.1 4 (by decide)]
        first | (rw [if_neg (by omega)]; done) | (rw [if_pos (by omega)]; done)
      · rw [x4 k k4, x3 k k3, hk9.1 k hk]
      · rw [x4 20 (by decide), x3 20 (by decide)]
        exact hT9 z i hi
set_option maxHeartbeats 4000000 in
set_option maxRecDepth 100000 in
theorem c_M_rt156f {G : GE} {h0 h : AH} {m : Nat} {S S9 : MS} (hM : MW h0 h m S9) {of x : Nat} (hk9 : KT S S9) (e17 : S9.1 17 = nI x) {T : Nat → Nat} : WA G y_M_readText b_M_readText 3 (some .boolean) r_M_readText 0 0 (RDP h0 m S 1 (nI x) T) 0 0 156 [some (.ref m), some (.int (nI of)), some (.int (bI false))] [] h := by
  refine A_aload_n0 d_M_readText_156 ?_
  refine A_getf (kf := 3) d_M_readText_157 hM.o ok_8 (by decide) q_1052 rfl ?_
  refine A_iconst (v := nI 0) d_M_readText_160 (by decide) ?_
  refine A_iload_n2 d_M_readText_161 ?_
  refine A_if_eqB (tgt := 172) d_M_readText_162 (by decide) (fun c_162 => ?_) (fun c => absurd c (by decide))
  refine A_iconst (v := nI 1) d_M_readText_172 (by decide) ?_
  refine A_st3 hM d_M_readText_173 (by decide) (fun h hM => ?_)
  obtain ⟨S3, hM, e3, x3, f3, -, -⟩ := opa hM
  refine A_aload_n0 d_M_readText_174 ?_
  refine A_getf (kf := 4) d_M_readText_175 hM.o ok_8 (by decide) q_1053 rfl ?_
  refine A_iconst (v := nI 0) d_M_readText_178 (by decide) ?_
  refine A_iload_n2 d_M_readText_179 ?_
  refine A_if_neB (tgt := 190) d_M_readText_180 (by decide) (fun c => absurd c (by decide)) (fun c_180 => ?_)
  refine A_aload_n0 d_M_readText_183 ?_
  refine A_getf (kf := 17) d_M_readText_184 hM.o ok_8 (by decide) q_1066 rfl ?_
  refine A_topI (show S3.1 17 = nI x by rw [f3]; exact e17) ?_
  refine A_goto (tgt := 205) d_M_readText_187 (by decide) ?_
  refine A_st4 hM d_M_readText_205 (by decide) (fun h hM => ?_)
  obtain ⟨S4, hM, e4, x4, f4, -, -⟩ := opa hM
  refine A_aload_n0 d_M_readText_206 ?_
  refine A_getf (kf := 3) d_M_readText_207 hM.o ok_8 (by decide) q_1052 rfl ?_
  refine A_iconst (v := nI 0) d_M_readText_210 (by decide) ?_
  refine A_ialdN d_M_readText_211 hM.a3 ⟨by decide, by decide⟩ ?_
  refine A_topI (show S4.2.2.1 3 0 = nI 1 by rw [x4 3 (by decide), e3, fup_eq]) ?_
  refine A_if_ne (tgt := 219) d_M_readText_212 (by decide) (fun c_212 => ?_) (fun c => absurd c (by decide))
  refine A_iconst (v := nI 0) d_M_readText_219 (by decide) ?_
  refine A_zret d_M_readText_220 rfl (by first | rfl | exact bI_nar _ | decide) ⟨Nat.zero_le _, Nat.zero_le _⟩ ?_
  refine ⟨rfl, S4, hM, ?_, ?_, fun k k3 k4 hk => ?_, fun z => absurd z (by decide)⟩
  · rw [x4 3 (by decide), e3, hk9.1 3 (by decide)]
  · rw [e4, x3 4 (by decide), hk9.1 4 (by decide)]
  · rw [x4 k k4, x3 k k3, hk9.1 k hk]
set_option maxHeartbeats 4000000 in
set_option maxRecDepth 100000 in
theorem c_M_rt96 {G : GE} {h0 h : AH} {m : Nat} {S S9 : MS} (hM : MW h0 h m S9) {B : Nat → Nat} {n of : Nat} (hof : of ≤ 4) {r : RS} (hL9 : LnH S S9 B n n n r) {q2 : Nat} (hq2 : q2 ≤ n) (hTB : TB of q2 r.1 r.2.1) : WA G y_M_readText b_M_readText 3 (some .boolean) r_M_readText 0 0 (RDP h0 m S (endS of r n).1 (if (endS of r n).1 = 0 then -1 else nI (endS of r n).2) r.1) 0 0 96 [some (.ref m), some (.int (nI of)), some (.int (bI true))] [] h := by
  obtain ⟨tb0, tb2, tb3, tb4, tb5, tb6⟩ := hTB
  have hn := hL9.2.1.2.1
  have hl4 := hL9.2.2.2.2.2.1
  have hl5 := hL9.2.2.2.2.2.2.1
  refine A_aload_n0 d_M_readText_96 ?_
  refine A_getf (kf := 18) d_M_readText_97 hM.o ok_8 (by decide) q_1067 rfl ?_
  refine A_topI hL9.2.2.2.1.2.2.2.2.1 ?_
  first | refine A_if_neN (tgt := 156) d_M_readText_100 (by decide) (by with_reducible rfl) (by omega) (fun c_100 => ?_) (fun c_100 => ?_) | refine A_if_ne (tgt := 156) d_M_readText_100 (by decide) (fun c_100 => ?_) (fun c_100 => ?_)
  · try have q117 := (hI_le (a := r.1 4 + 1) (b := r.2.1.1) (by omega) (by omega)).mp c_117
    try have q117 := (not_congr (hI_le (a := r.1 4 + 1) (b := r.2.1.1) (by omega) (by omega))).mp c_117
    try have q130 := (hI_le (a := r.1 0 + 1) (b := r.2.1.2.1) (by omega) (by omega)).mp c_130
    try have q130 := (not_congr (hI_le (a := r.1 0 + 1) (b := r.2.1.2.1) (by omega) (by omega))).mp c_130
    first
      | (have he : endS of r n = (4, n) := if_pos (by omega)
         rw [he]
         have hnt : nt 4 n (r.2.2.1, r.2.2.2) = (4, n) := if_pos (by show r.2.2.1 = 0; omega)
         rw [hnt] at e18 e19
         exact c_M_rt156 hM (B := B) (n := n) (hL9.1.tr (KT.sf x2 (by decide))) e18 e19 (show (4 : Nat) ≤ 4 by omega) (fun z => absurd (show (4 : Nat) = 0 from z) (by decide)))
      | (have he : endS of r n = r.2.2 := if_neg (by omega)
         rw [he]
         exact c_M_rt156 hM (B := B) (n := n) hL9.1 hL9.2.2.2.1.2.2.2.2.1 hL9.2.2.2.1.2.2.2.2.2 hL9.2.2.2.2.2.1 (fun _ => hL9.2.2.2.1.1))
  · refine A_iload_n1 d_M_readText_103 ?_
    first | refine A_if_neN (tgt := 133) d_M_readText_104 (by decide) (by with_reducible rfl) (by omega) (fun c_104 => ?_) (fun c_104 => ?_) | refine A_if_ne (tgt := 133) d_M_readText_104 (by decide) (fun c_104 => ?_) (fun c_104 => ?_)
    · refine A_iload_n1 d_M_readText_133 ?_
      refine A_iconst (v := nI 2) d_M_readText_134 (by decide) ?_
      first | refine A_icmp_neN (tgt := 156) d_M_readText_135 (by decide) (by with_reducible rfl) (by with_reducible rfl) (by omega) (by omega) (fun c_135 => ?_) (fun c_135 => ?_) | refine A_icmp_ne (tgt := 156) d_M_readText_135 (by decide) (fun c_135 => ?_) (fun c_135 => ?_)
      · try have q117 := (hI_le (a := r.1 4 + 1) (b := r.2.1.1) (by omega) (by omega)).mp c_117
        try have q117 := (not_congr (hI_le (a := r.1 4 + 1) (b := r.2.1.1) (by omega) (by omega))).mp c_117
        try have q130 := (hI_le (a := r.1 0 + 1) (b := r.2.1.2.1) (by omega) (by omega)).mp c_130
        try have q130 := (not_congr (hI_le (a := r.1 0 + 1) (b := r.2.1.2.1) (by omega) (by omega))).mp c_130
        first
          | (have he : endS of r n = (4, n) := if_pos (by omega)
             rw [he]
             have hnt : nt 4 n (r.2.2.1, r.2.2.2) = (4, n) := if_pos (by show r.2.2.1 = 0; omega)
             rw [hnt] at e18 e19
             exact c_M_rt156 hM (B := B) (n := n) (hL9.1.tr (KT.sf x2 (by decide))) e18 e19 (show (4 : Nat) ≤ 4 by omega) (fun z => absurd (show (4 : Nat) = 0 from z) (by decide)))
          | (have he : endS of r n = r.2.2 := if_neg (by omega)
             rw [he]
             exact c_M_rt156 hM (B := B) (n := n) hL9.1 hL9.2.2.2.1.2.2.2.2.1 hL9.2.2.2.1.2.2.2.2.2 hL9.2.2.2.2.2.1 (fun _ => hL9.2.2.2.1.1))
      · refine A_aload_n0 d_M_readText_138 ?_
        refine A_getf (kf := 24) d_M_readText_139 hM.o ok_8 (by decide) q_1073 rfl ?_
        refine A_topI hL9.2.2.2.1.2.2.2.1 ?_
        refine A_bipush (v := nI 96) d_M_readText_142 (by decide) ?_
        first | refine A_icmp_leN (tgt := 156) d_M_readText_144 (by decide) (by with_reducible rfl) (by with_reducible rfl) (by omega) (by omega) (fun c_144 => ?_) (fun c_144 => ?_) | refine A_icmp_le (tgt := 156) d_M_readText_144 (by decide) (fun c_144 => ?_) (fun c_144 => ?_)
        · try have q117 := (hI_le (a := r.1 4 + 1) (b := r.2.1.1) (by omega) (by omega)).mp c_117
          try have q117 := (not_congr (hI_le (a := r.1 4 + 1) (b := r.2.1.1) (by omega) (by omega))).mp c_117
          try have q130 := (hI_le (a := r.1 0 + 1) (b := r.2.1.2.1) (by omega) (by omega)).mp c_130
          try have q130 := (not_congr (hI_le (a := r.1 0 + 1) (b := r.2.1.2.1) (by omega) (by omega))).mp c_130
          first
            | (have he : endS of r n = (4, n) := if_pos (by omega)
               rw [he]
               have hnt : nt 4 n (r.2.2.1, r.2.2.2) = (4, n) := if_pos (by show r.2.2.1 = 0; omega)
               rw [hnt] at e18 e19
               exact c_M_rt156 hM (B := B) (n := n) (hL9.1.tr (KT.sf x2 (by decide))) e18 e19 (show (4 : Nat) ≤ 4 by omega) (fun z => absurd (show (4 : Nat) = 0 from z) (by decide)))
            | (have he : endS of r n = r.2.2 := if_neg (by omega)
               rw [he]
               exact c_M_rt156 hM (B := B) (n := n) hL9.1 hL9.2.2.2.1.2.2.2.2.1 hL9.2.2.2.1.2.2.2.2.2 hL9.2.2.2.2.2.1 (fun _ => hL9.2.2.2.1.1))
        · refine A_aload_n0 d_M_readText_147 ?_
          refine A_iconst (v := nI 4) d_M_readText_148 (by decide) ?_
          refine A_aload_n0 d_M_readText_149 ?_
          refine A_getf (kf := 13) d_M_readText_150 hM.o ok_8 (by decide) q_1062 rfl ?_
          refine A_topI hL9.2.2.1.2.1 ?_
          refine A_callV d_M_readText_153 (c_M_later hM (f := 4) (p := n) (lf := r.2.2.1) (lp := r.2.2.2) (hL9.2.2.2.1.2.2.2.2.1) (hL9.2.2.2.1.2.2.2.2.2) (by omega) (fun z => hL9.2.2.2.2.2.2.2 z)) hM.o rfl q_1282 q_1284 qs_25 mk_M_later rfl (by decide) rfl (Nat.le_of_ble_eq_true rfl) ⟨Nat.le_of_ble_eq_true rfl, Nat.le_of_ble_eq_true rfl⟩ (fun v h1 hv => ?_)
          obtain ⟨rfl, S10, hM, e18, e19, x2⟩ := hv
          try have q117 := (hI_le (a := r.1 4 + 1) (b := r.2.1.1) (by omega) (by omega)).mp c_117
          try have q117 := (not_congr (hI_le (a := r.1 4 + 1) (b := r.2.1.1) (by omega) (by omega))).mp c_117
          try have q130 := (hI_le (a := r.1 0 + 1) (b := r.2.1.2.1) (by omega) (by omega)).mp c_130
          try have q130 := (not_congr (hI_le (a := r.1 0 + 1) (b := r.2.1.2.1) (by omega) (by omega))).mp c_130
          first
            | (have he : endS of r n = (4, n) := if_pos (by omega)
               rw [he]
               have hnt : nt 4 n (r.2.2.1, r.2.2.2) = (4, n) := if_pos (by show r.2.2.1 = 0; omega)
               rw [hnt] at e18 e19
               exact c_M_rt156 hM (B := B) (n := n) (hL9.1.tr (KT.sf x2 (by decide))) e18 e19 (show (4 : Nat) ≤ 4 by omega) (fun z => absurd (show (4 : Nat) = 0 from z) (by decide)))
            | (have he : endS of r n = r.2.2 := if_neg (by omega)
               rw [he]
               exact c_M_rt156 hM (B := B) (n := n) hL9.1 hL9.2.2.2.1.2.2.2.2.1 hL9.2.2.2.1.2.2.2.2.2 hL9.2.2.2.2.2.1 (fun _ => hL9.2.2.2.1.1))
    · refine A_aload_n0 d_M_readText_107 ?_
      refine A_getf (kf := 22) d_M_readText_108 hM.o ok_8 (by decide) q_1071 rfl ?_
      refine A_topI hL9.2.2.2.1.2.1 ?_
      refine A_aload_n0 d_M_readText_111 ?_
      refine A_getf (kf := 20) d_M_readText_112 hM.o ok_8 (by decide) q_1069 rfl ?_
      refine A_iconst (v := nI 4) d_M_readText_115 (by decide) ?_
      refine A_ialdN d_M_readText_116 hM.a20 ⟨by decide, by decide⟩ ?_
      refine A_topI (hL9.2.2.2.1.1 4 (by decide)) ?_
      refine A_topI (nI_hI _) ?_
      first | refine A_icmp_geN (tgt := 147) d_M_readText_117 (by decide) (by with_reducible rfl) (by with_reducible rfl) (by omega) (by omega) (fun c_117 => ?_) (fun c_117 => ?_) | refine A_icmp_ge (tgt := 147) d_M_readText_117 (by decide) (fun c_117 => ?_) (fun c_117 => ?_)
      · refine A_aload_n0 d_M_readText_147 ?_
        refine A_iconst (v := nI 4) d_M_readText_148 (by decide) ?_
        refine A_aload_n0 d_M_readText_149 ?_
        refine A_getf (kf := 13) d_M_readText_150 hM.o ok_8 (by decide) q_1062 rfl ?_
        refine A_topI hL9.2.2.1.2.1 ?_
        refine A_callV d_M_readText_153 (c_M_later hM (f := 4) (p := n) (lf := r.2.2.1) (lp := r.2.2.2) (hL9.2.2.2.1.2.2.2.2.1) (hL9.2.2.2.1.2.2.2.2.2) (by omega) (fun z => hL9.2.2.2.2.2.2.2 z)) hM.o rfl q_1282 q_1284 qs_25 mk_M_later rfl (by decide) rfl (Nat.le_of_ble_eq_true rfl) ⟨Nat.le_of_ble_eq_true rfl, Nat.le_of_ble_eq_true rfl⟩ (fun v h1 hv => ?_)
        obtain ⟨rfl, S10, hM, e18, e19, x2⟩ := hv
        try have q117 := (hI_le (a := r.1 4 + 1) (b := r.2.1.1) (by omega) (by omega)).mp c_117
        try have q117 := (not_congr (hI_le (a := r.1 4 + 1) (b := r.2.1.1) (by omega) (by omega))).mp c_117
        try have q130 := (hI_le (a := r.1 0 + 1) (b := r.2.1.2.1) (by omega) (by omega)).mp c_130
        try have q130 := (not_congr (hI_le (a := r.1 0 + 1) (b := r.2.1.2.1) (by omega) (by omega))).mp c_130
        first
          | (have he : endS of r n = (4, n) := if_pos (by omega)
             rw [he]
             have hnt : nt 4 n (r.2.2.1, r.2.2.2) = (4, n) := if_pos (by show r.2.2.1 = 0; omega)
             rw [hnt] at e18 e19
             exact c_M_rt156 hM (B := B) (n := n) (hL9.1.tr (KT.sf x2 (by decide))) e18 e19 (show (4 : Nat) ≤ 4 by omega) (fun z => absurd (show (4 : Nat) = 0 from z) (by decide)))
          | (have he : endS of r n = r.2.2 := if_neg (by omega)
             rw [he]
             exact c_M_rt156 hM (B := B) (n := n) hL9.1 hL9.2.2.2.1.2.2.2.2.1 hL9.2.2.2.1.2.2.2.2.2 hL9.2.2.2.2.2.1 (fun _ => hL9.2.2.2.1.1))
      · refine A_aload_n0 d_M_readText_120 ?_
        refine A_getf (kf := 23) d_M_readText_121 hM.o ok_8 (by decide) q_1072 rfl ?_
        refine A_topI hL9.2.2.2.1.2.2.1 ?_
        refine A_aload_n0 d_M_readText_124 ?_
        refine A_getf (kf := 20) d_M_readText_125 hM.o ok_8 (by decide) q_1069 rfl ?_
        refine A_iconst (v := nI 0) d_M_readText_128 (by decide) ?_
        refine A_ialdN d_M_readText_129 hM.a20 ⟨by decide, by decide⟩ ?_
        refine A_topI (hL9.2.2.2.1.1 0 (by decide)) ?_
        refine A_topI (nI_hI _) ?_
        first | refine A_icmp_geN (tgt := 147) d_M_readText_130 (by decide) (by with_reducible rfl) (by with_reducible rfl) (by omega) (by omega) (fun c_130 => ?_) (fun c_130 => ?_) | refine A_icmp_ge (tgt := 147) d_M_readText_130 (by decide) (fun c_130 => ?_) (fun c_130 => ?_)
        · refine A_aload_n0 d_M_readText_147 ?_
          refine A_iconst (v := nI 4) d_M_readText_148 (by decide) ?_
          refine A_aload_n0 d_M_readText_149 ?_
          refine A_getf (kf := 13) d_M_readText_150 hM.o ok_8 (by decide) q_1062 rfl ?_
          refine A_topI hL9.2.2.1.2.1 ?_
          refine A_callV d_M_readText_153 (c_M_later hM (f := 4) (p := n) (lf := r.2.2.1) (lp := r.2.2.2) (hL9.2.2.2.1.2.2.2.2.1) (hL9.2.2.2.1.2.2.2.2.2) (by omega) (fun z => hL9.2.2.2.2.2.2.2 z)) hM.o rfl q_1282 q_1284 qs_25 mk_M_later rfl (by decide) rfl (Nat.le_of_ble_eq_true rfl) ⟨Nat.le_of_ble_eq_true rfl, Nat.le_of_ble_eq_true rfl⟩ (fun v h1 hv => ?_)
          obtain ⟨rfl, S10, hM, e18, e19, x2⟩ := hv
          try have q117 := (hI_le (a := r.1 4 + 1) (b := r.2.1.1) (by omega) (by omega)).mp c_117
          try have q117 := (not_congr (hI_le (a := r.1 4 + 1) (b := r.2.1.1) (by omega) (by omega))).mp c_117
          try have q130 := (hI_le (a := r.1 0 + 1) (b := r.2.1.2.1) (by omega) (by omega)).mp c_130
          try have q130 := (not_congr (hI_le (a := r.1 0 + 1) (b := r.2.1.2.1) (by omega) (by omega))).mp c_130
          first
            | (have he : endS of r n = (4, n) := if_pos (by omega)
               rw [he]
               have hnt : nt 4 n (r.2.2.1, r.2.2.2) = (4, n) := if_pos (by show r.2.2.1 = 0; omega)
               rw [hnt] at e18 e19
               exact c_M_rt156 hM (B := B) (n := n) (hL9.1.tr (KT.sf x2 (by decide))) e18 e19 (show (4 : Nat) ≤ 4 by omega) (fun z => absurd (show (4 : Nat) = 0 from z) (by decide)))
            | (have he : endS of r n = r.2.2 := if_neg (by omega)
               rw [he]
               exact c_M_rt156 hM (B := B) (n := n) hL9.1 hL9.2.2.2.1.2.2.2.2.1 hL9.2.2.2.1.2.2.2.2.2 hL9.2.2.2.2.2.1 (fun _ => hL9.2.2.2.1.1))
        · refine A_iload_n1 d_M_readText_133 ?_
          refine A_iconst (v := nI 2) d_M_readText_134 (by decide) ?_
          first | refine A_icmp_neN (tgt := 156) d_M_readText_135 (by decide) (by with_reducible rfl) (by with_reducible rfl) (by omega) (by omega) (fun c_135 => ?_) (fun c_135 => ?_) | refine A_icmp_ne (tgt := 156) d_M_readText_135 (by decide) (fun c_135 => ?_) (fun c_135 => ?_)
          · try have q117 := (hI_le (a := r.1 4 + 1) (b := r.2.1.1) (by omega) (by omega)).mp c_117
            try have q117 := (not_congr (hI_le (a := r.1 4 + 1) (b := r.2.1.1) (by omega) (by omega))).mp c_117
            try have q130 := (hI_le (a := r.1 0 + 1) (b := r.2.1.2.1) (by omega) (by omega)).mp c_130
            try have q130 := (not_congr (hI_le (a := r.1 0 + 1) (b := r.2.1.2.1) (by omega) (by omega))).mp c_130
            first
              | (have he : endS of r n = (4, n) := if_pos (by omega)
                 rw [he]
                 have hnt : nt 4 n (r.2.2.1, r.2.2.2) = (4, n) := if_pos (by show r.2.2.1 = 0; omega)
                 rw [hnt] at e18 e19
                 exact c_M_rt156 hM (B := B) (n := n) (hL9.1.tr (KT.sf x2 (by decide))) e18 e19 (show (4 : Nat) ≤ 4 by omega) (fun z => absurd (show (4 : Nat) = 0 from z) (by decide)))
              | (have he : endS of r n = r.2.2 := if_neg (by omega)
                 rw [he]
                 exact c_M_rt156 hM (B := B) (n := n) hL9.1 hL9.2.2.2.1.2.2.2.2.1 hL9.2.2.2.1.2.2.2.2.2 hL9.2.2.2.2.2.1 (fun _ => hL9.2.2.2.1.1))
          · refine A_aload_n0 d_M_readText_138 ?_
            refine A_getf (kf := 24) d_M_readText_139 hM.o ok_8 (by decide) q_1073 rfl ?_
            refine A_topI hL9.2.2.2.1.2.2.2.1 ?_
            refine A_bipush (v := nI 96) d_M_readText_142 (by decide) ?_
            first | refine A_icmp_leN (tgt := 156) d_M_readText_144 (by decide) (by with_reducible rfl) (by with_reducible rfl) (by omega) (by omega) (fun c_144 => ?_) (fun c_144 => ?_) | refine A_icmp_le (tgt := 156) d_M_readText_144 (by decide) (fun c_144 => ?_) (fun c_144 => ?_)
            · try have q117 := (hI_le (a := r.1 4 + 1) (b := r.2.1.1) (by omega) (by omega)).mp c_117
              try have q117 := (not_congr (hI_le (a := r.1 4 + 1) (b := r.2.1.1) (by omega) (by omega))).mp c_117
              try have q130 := (hI_le (a := r.1 0 + 1) (b := r.2.1.2.1) (by omega) (by omega)).mp c_130
              try have q130 := (not_congr (hI_le (a := r.1 0 + 1) (b := r.2.1.2.1) (by omega) (by omega))).mp c_130
              first
                | (have he : endS of r n = (4, n) := if_pos (by omega)
                   rw [he]
                   have hnt : nt 4 n (r.2.2.1, r.2.2.2) = (4, n) := if_pos (by show r.2.2.1 = 0; omega)
                   rw [hnt] at e18 e19
                   exact c_M_rt156 hM (B := B) (n := n) (hL9.1.tr (KT.sf x2 (by decide))) e18 e19 (show (4 : Nat) ≤ 4 by omega) (fun z => absurd (show (4 : Nat) = 0 from z) (by decide)))
                | (have he : endS of r n = r.2.2 := if_neg (by omega)
                   rw [he]
                   exact c_M_rt156 hM (B := B) (n := n) hL9.1 hL9.2.2.2.1.2.2.2.2.1 hL9.2.2.2.1.2.2.2.2.2 hL9.2.2.2.2.2.1 (fun _ => hL9.2.2.2.1.1))
            · refine A_aload_n0 d_M_readText_147 ?_
              refine A_iconst (v := nI 4) d_M_readText_148 (by decide) ?_
              refine A_aload_n0 d_M_readText_149 ?_
              refine A_getf (kf := 13) d_M_readText_150 hM.o ok_8 (by decide) q_1062 rfl ?_
              refine A_topI hL9.2.2.1.2.1 ?_
              refine A_callV d_M_readText_153 (c_M_later hM (f := 4) (p := n) (lf := r.2.2.1) (lp := r.2.2.2) (hL9.2.2.2.1.2.2.2.2.1) (hL9.2.2.2.1.2.2.2.2.2) (by omega) (fun z => hL9.2.2.2.2.2.2.2 z)) hM.o rfl q_1282 q_1284 qs_25 mk_M_later rfl (by decide) rfl (Nat.le_of_ble_eq_true rfl) ⟨Nat.le_of_ble_eq_true rfl, Nat.le_of_ble_eq_true rfl⟩ (fun v h1 hv => ?_)
              obtain ⟨rfl, S10, hM, e18, e19, x2⟩ := hv
              try have q117 := (hI_le (a := r.1 4 + 1) (b := r.2.1.1) (by omega) (by omega)).mp c_117
              try have q117 := (not_congr (hI_le (a := r.1 4 + 1) (b := r.2.1.1) (by omega) (by omega))).mp c_117
              try have q130 := (hI_le (a := r.1 0 + 1) (b := r.2.1.2.1) (by omega) (by omega)).mp c_130
              try have q130 := (not_congr (hI_le (a := r.1 0 + 1) (b := r.2.1.2.1) (by omega) (by omega))).mp c_130
              first
                | (have he : endS of r n = (4, n) := if_pos (by omega)
                   rw [he]
                   have hnt : nt 4 n (r.2.2.1, r.2.2.2) = (4, n) := if_pos (by show r.2.2.1 = 0; omega)
                   rw [hnt] at e18 e19
                   exact c_M_rt156 hM (B := B) (n := n) (hL9.1.tr (KT.sf x2 (by decide))) e18 e19 (show (4 : Nat) ≤ 4 by omega) (fun z => absurd (show (4 : Nat) = 0 from z) (by decide)))
                | (have he : endS of r n = r.2.2 := if_neg (by omega)
                   rw [he]
                   exact c_M_rt156 hM (B := B) (n := n) hL9.1 hL9.2.2.2.1.2.2.2.2.1 hL9.2.2.2.1.2.2.2.2.2 hL9.2.2.2.2.2.1 (fun _ => hL9.2.2.2.1.1))
set_option maxHeartbeats 4000000 in
set_option maxRecDepth 100000 in
theorem c_M_rt57 {G : GE} {h0 h : AH} {m : Nat} {S S2 : MS} (hM : MW h0 h m S2) {B : Nat → Nat} {n of : Nat} (hof : of ≤ 4) (hT : TPE S B n) (hb : SA20 S S2) (hr : ∀ i, i < 312 → S2.2.2.1 20 i = nI (T0F of i)) : WA G y_M_readText b_M_readText 3 (some .boolean) r_M_readText 0 0 (RDP h0 m S (ftN B n of) (plN B n of) (rdX B n of).2.1) 0 0 57 [some (.ref m), some (.int (nI of)), none] [] h := by
  have hn := hT.2.1
  refine A_aload_n0 d_M_readText_57 ?_
  refine A_iconst (v := (-1)) d_M_readText_58 (by decide) ?_
  refine A_putM hM (kf := 22) (ty := .int) d_M_readText_59 (by decide) q_1071 rfl (by decide +kernel) (by first | rfl | exact bI_nar _) rfl (Nat.le_of_ble_eq_true rfl) rfl (fun h hM => ?_)
  obtain ⟨S3, hM, e22, x22⟩ := ops hM
  refine A_aload_n0 d_M_readText_62 ?_
  refine A_iconst (v := (-1)) d_M_readText_63 (by decide) ?_
  refine A_putM hM (kf := 23) (ty := .int) d_M_readText_64 (by decide) q_1072 rfl (by decide +kernel) (by first | rfl | exact bI_nar _) rfl (Nat.le_of_ble_eq_true rfl) rfl (fun h hM => ?_)
  obtain ⟨S4, hM, e23, x23⟩ := ops hM
  refine A_aload_n0 d_M_readText_67 ?_
  refine A_iconst (v := nI 0) d_M_readText_68 (by decide) ?_
  refine A_putM hM (kf := 24) (ty := .int) d_M_readText_69 (by decide) q_1073 rfl (by decide +kernel) (by first | rfl | exact bI_nar _) rfl (Nat.le_of_ble_eq_true rfl) rfl (fun h hM => ?_)
  obtain ⟨S5, hM, e24, x24⟩ := ops hM
  refine A_aload_n0 d_M_readText_72 ?_
  refine A_iconst (v := nI 0) d_M_readText_73 (by decide) ?_
  refine A_putM hM (kf := 11) (ty := .int) d_M_readText_74 (by decide) q_1060 rfl (by decide +kernel) (by first | rfl | exact bI_nar _) rfl (Nat.le_of_ble_eq_true rfl) rfl (fun h hM => ?_)
  obtain ⟨S6, hM, e11, x11⟩ := ops hM
  refine A_aload_n0 d_M_readText_77 ?_
  refine A_iconst (v := nI 0) d_M_readText_78 (by decide) ?_
  refine A_putM hM (kf := 18) (ty := .int) d_M_readText_79 (by decide) q_1067 rfl (by decide +kernel) (by first | rfl | exact bI_nar _) rfl (Nat.le_of_ble_eq_true rfl) rfl (fun h hM => ?_)
  obtain ⟨S7, hM, e18, x18⟩ := ops hM
  have xa := (((x22.tr x23).tr x24).tr x11).tr x18
  have hK7 : KT S S7 := hb.kt.tr (KT.sf xa (by decide))
  have hT7 := hK7.tpe hT
  refine A_aload_n0 d_M_readText_82 ?_
  refine A_callV d_M_readText_83 (c_M_token hM hT7 (p := 0) (Nat.zero_le _) ((x18.1 11 (by decide)).trans e11)) hM.o rfl q_1246 q_1248 qs_18 mk_M_token rfl (by decide) rfl (Nat.le_of_ble_eq_true rfl) ⟨Nat.le_of_ble_eq_true rfl, Nat.le_of_ble_eq_true rfl⟩ (fun v h1 hv => ?_)
  obtain ⟨rfl, S8, hM, hF8, hO8⟩ := hv
  have hq0 := skN_bd (B := B) (n := n) (p := 0) (Nat.zero_le _)
  have hL8 : LnH S S8 B n (skN B n 0) (skN B n 0) (T0F of, (0, 0, 0), (0, 0)) := ⟨hK7.tr (KT.ft hF8), hF8.tpe hT7, hO8, ⟨fun i hi => by rw [hF8.2, xa.2]; exact hr i hi, (hF8.1 22 (by omega)).trans (by rw [x18.1 22 (by decide), x11.1 22 (by decide), x24.1 22 (by decide), x23.1 22 (by decide), e22]; rfl), (hF8.1 23 (by omega)).trans (by rw [x18.1 23 (by decide), x11.1 23 (by decide), x24.1 23 (by decide), e23]; rfl), (hF8.1 24 (by omega)).trans (by rw [x18.1 24 (by decide), x11.1 24 (by decide), e24]), (hF8.1 18 (by omega)).trans e18, fun z => absurd rfl z⟩, hq0.2, Nat.zero_le _, fun z => absurd rfl z, fun z => absurd rfl z⟩
  have hTB0 : TB of (skN B n 0) (T0F of) (0, 0, 0) := by
    refine ⟨fun e => ?_, fun e => ?_, fun e => ?_, Nat.zero_le _, Nat.zero_le _, Nat.zero_le _⟩
    · subst e; exact ⟨by decide, by decide, by decide⟩
    · subst e; exact Nat.zero_le _
    · subst e; exact Nat.zero_le _
  refine A_aload_n0 d_M_readText_86 ?_
  refine A_iload_n1 d_M_readText_87 ?_
  refine A_callV d_M_readText_88 (c_M_linesC hM hof hL8 hTB0 (n + 1) (by omega)) hM.o rfl q_1254 q_1256 qs_20 mk_M_lines rfl (by decide) rfl (Nat.le_of_ble_eq_true rfl) ⟨Nat.le_of_ble_eq_true rfl, Nat.le_of_ble_eq_true rfl⟩ (fun v h1 hv => ?_)
  rcases hv with ⟨x, htx, rfl, S9, hM, hK9, e17⟩ | ⟨htx, rfl, S9, hM, hL9⟩
  · have hft : ftN B n of = 1 := by unfold ftN; rw [show (rdX B n of).1 = some x from htx]
    have hpl : plN B n of = nI x := by unfold plN; rw [show (rdX B n of).1 = some x from htx]
    rw [hft, hpl]
    refine A_istore2 d_M_readText_91 trivial ?_
    refine A_iload_n2 d_M_readText_92 ?_
    refine A_if_eqB (tgt := 156) d_M_readText_93 (by decide) (fun c_93 => ?_) (fun c => absurd c (by decide))
    exact c_M_rt156f hM hK9 e17
  · have hft : ftN B n of = (endS of (rdX B n of).2 n).1 := by unfold ftN; rw [show (rdX B n of).1 = none from htx]
    have hpl : plN B n of = if (endS of (rdX B n of).2 n).1 = 0 then -1 else nI (endS of (rdX B n of).2 n).2 := by unfold plN; rw [show (rdX B n of).1 = none from htx]
    rw [hft, hpl]
    obtain ⟨q2, -, hq2, hTB2⟩ := TB_tx (B := B) (n := n) (of := of) (n + 1) (skN B n 0) (T0F of, (0, 0, 0), (0, 0)) hq0.2 hTB0
    refine A_istore2 d_M_readText_91 trivial ?_
    refine A_iload_n2 d_M_readText_92 ?_
    refine A_if_eqB (tgt := 156) d_M_readText_93 (by decide) (fun c => absurd c (by decide)) (fun c_93 => ?_)
    exact c_M_rt96 hM hof hL9 hq2 hTB2
set_option maxHeartbeats 4000000 in
set_option maxRecDepth 100000 in
theorem c_M_readText {G : GE} {h0 h : AH} {m : Nat} {S : MS} (hM : MW h0 h m S) {B : Nat → Nat} {n of : Nat} (hof : of ≤ 4) (hT : TPE S B n) : Ctr G y_M_readText b_M_readText 3 (some .boolean) r_M_readText [.ref m, .int (nI of)] h (RDP h0 m S (ftN B n of) (plN B n of) (rdX B n of).2.1) := by
  have key : ∀ i, i ≤ 312 → ∀ (h : AH) (S1 : MS), MW h0 h m S1 → SA20 S S1 → (∀ j, j < i → S1.2.2.1 20 j = nI (if of = 1 then 2 else 0)) → WA G y_M_readText b_M_readText 3 (some .boolean) r_M_readText 0 0 (RDP h0 m S (ftN B n of) (plN B n of) (rdX B n of).2.1) 0 0 2 [some (.ref m), some (.int (nI of)), some (.int (nI i))] [] h := by
    refine down ?_ (fun i hi ih => ?_)
    · intro h S1 hM hb hr
      refine A_iload_n2 d_M_readText_2 ?_
      refine A_sipush (v := nI 312) d_M_readText_3 (by decide) ?_
      first | refine A_icmp_geN (tgt := 31) d_M_readText_6 (by decide) (by with_reducible rfl) (by with_reducible rfl) (by omega) (by omega) (fun c_6 => ?_) (fun c_6 => ?_) | refine A_icmp_ge (tgt := 31) d_M_readText_6 (by decide) (fun c_6 => ?_) (fun c_6 => ?_)
      · by_cases h0f : of = 0
        · subst h0f
          refine A_iload_n1 d_M_readText_31 ?_
          refine A_if_ne (tgt := 57) d_M_readText_32 (by decide) (fun c => absurd rfl c) (fun c_32 => ?_)
          refine A_aload_n0 d_M_readText_35 ?_
          refine A_getf (kf := 20) d_M_readText_36 hM.o ok_8 (by decide) q_1069 rfl ?_
          refine A_iconst (v := nI 0) d_M_readText_39 (by decide) ?_
          refine A_bipush (v := nI 12) d_M_readText_40 (by decide) ?_
          refine A_st20 hM d_M_readText_42 (by decide) (fun h hM => ?_)
          obtain ⟨S2, hM, e2, x2⟩ := opa20 hM
          refine A_aload_n0 d_M_readText_43 ?_
          refine A_getf (kf := 20) d_M_readText_44 hM.o ok_8 (by decide) q_1069 rfl ?_
          refine A_iconst (v := nI 1) d_M_readText_47 (by decide) ?_
          refine A_iconst (v := nI 1) d_M_readText_48 (by decide) ?_
          refine A_st20 hM d_M_readText_49 (by decide) (fun h hM => ?_)
          obtain ⟨S3, hM, e3, x3⟩ := opa20 hM
          refine A_aload_n0 d_M_readText_50 ?_
          refine A_getf (kf := 20) d_M_readText_51 hM.o ok_8 (by decide) q_1069 rfl ?_
          refine A_iconst (v := nI 3) d_M_readText_54 (by decide) ?_
          refine A_iconst (v := nI 1) d_M_readText_55 (by decide) ?_
          refine A_st20 hM d_M_readText_56 (by decide) (fun h hM => ?_)
          obtain ⟨S4, hM, e4, x4⟩ := opa20 hM
          refine A_drop2 (c_M_rt57 hM (by omega) hT (hb.tr (x2.tr (x3.tr x4))) (fun i hi => ?_))
          unfold T0F
          rw [if_neg (by decide), e4]
          by_cases z3 : i = 3
          · rw [z3, fup_eq, if_neg (by decide), if_pos (by decide)]
          · rw [fup_ne _ _ z3, e3]
            by_cases z1 : i = 1
            · rw [z1, fup_eq, if_neg (by decide), if_pos (by decide)]
            · rw [fup_ne _ _ z1, e2]
              by_cases z0 : i = 0
              · rw [z0, fup_eq, if_pos (by decide)]
              · rw [fup_ne _ _ z0, hr i hi, if_neg (by decide), if_neg (by omega), if_neg (by omega)]
        · skip
          refine A_iload_n1 d_M_readText_31 ?_
          refine A_if_ne (tgt := 57) d_M_readText_32 (by decide) (fun c_32 => ?_) (fun c => absurd ((nI_eq (b := 0) (by omega) (by decide)).mp c) h0f)
          refine A_drop2 (c_M_rt57 hM hof hT hb (fun i hi => ?_))
          rw [hr i hi]
          unfold T0F
          congr 1
          by_cases z : of = 1
          · rw [if_pos z, if_pos z]
          · rw [if_neg z, if_neg z, if_neg (by omega), if_neg (by omega)]
      · exact absurd c_6 (by omega)
    · intro h S1 hM hb hr
      refine A_iload_n2 d_M_readText_2 ?_
      refine A_sipush (v := nI 312) d_M_readText_3 (by decide) ?_
      first | refine A_icmp_geN (tgt := 31) d_M_readText_6 (by decide) (by with_reducible rfl) (by with_reducible rfl) (by omega) (by omega) (fun c_6 => ?_) (fun c_6 => ?_) | refine A_icmp_ge (tgt := 31) d_M_readText_6 (by decide) (fun c_6 => ?_) (fun c_6 => ?_)
      · exact absurd c_6 (by omega)
      · refine A_aload_n0 d_M_readText_9 ?_
        refine A_getf (kf := 20) d_M_readText_10 hM.o ok_8 (by decide) q_1069 rfl ?_
        refine A_iload_n2 d_M_readText_13 ?_
        refine A_iload_n1 d_M_readText_14 ?_
        refine A_iconst (v := nI 1) d_M_readText_15 (by decide) ?_
        first | refine A_icmp_neN (tgt := 23) d_M_readText_16 (by decide) (by with_reducible rfl) (by with_reducible rfl) (by omega) (by omega) (fun c_16 => ?_) (fun c_16 => ?_) | refine A_icmp_ne (tgt := 23) d_M_readText_16 (by decide) (fun c_16 => ?_) (fun c_16 => ?_)
        · refine A_iconst (v := nI 0) d_M_readText_23 (by decide) ?_
          refine A_st20 hM d_M_readText_24 (by omega) (fun h hM => ?_)
          obtain ⟨S3, hM, e3, x3⟩ := opa20 hM
          first | refine A_iinc2 d_M_readText_25 (nI_1 _) trivial ?_ | refine A_iinc2 d_M_readText_25 rfl trivial ?_
          refine A_goto (tgt := 2) d_M_readText_28 (by decide) ?_
          refine ih _ _ hM (hb.tr x3) (fun j hj => ?_)
          rw [e3]
          by_cases z : j = i
          · rw [z, fup_eq]
            first | (rw [if_pos c_16]; done) | (rw [if_neg c_16]; done)
          · rw [fup_ne _ _ z]; exact hr j (by omega)
        · refine A_iconst (v := nI 2) d_M_readText_19 (by decide) ?_
          refine A_goto (tgt := 24) d_M_readText_20 (by decide) ?_
          refine A_st20 hM d_M_readText_24 (by omega) (fun h hM => ?_)
          obtain ⟨S3, hM, e3, x3⟩ := opa20 hM
          first | refine A_iinc2 d_M_readText_25 (nI_1 _) trivial ?_ | refine A_iinc2 d_M_readText_25 rfl trivial ?_
          refine A_goto (tgt := 2) d_M_readText_28 (by decide) ?_
          refine ih _ _ hM (hb.tr x3) (fun j hj => ?_)
          rw [e3]
          by_cases z : j = i
          · rw [z, fup_eq]
            first | (rw [if_pos c_16]; done) | (rw [if_neg c_16]; done)
          · rw [fup_ne _ _ z]; exact hr j (by omega)
  refine Ctr.of (by decide +kernel) (by simp) (Nat.le_of_ble_eq_true rfl) (L0 := [some (.ref m), some (.int (nI of)), none]) rfl ?_
  refine A_iconst (v := nI 0) d_M_readText_0 (by decide) ?_
  refine A_istore2 d_M_readText_1 trivial ?_
  exact key 0 (Nat.zero_le _) _ _ hM (SA20.rf S) (fun j hj => absurd hj (Nat.not_lt_zero _))
