/-- a bearer's team by the number of a parting -/
def digN (k B n b : Nat) : Nat := n / k ^ (B - 1 - b) % k
def figN (tm : Nat → Nat) : Nat → Nat := foldN (fun b x => 8 * x + tm b) 0
theorem figN_lt {tm : Nat → Nat} : ∀ n, (∀ b, b < n → tm b < 8) → figN tm n < 8 ^ n
  | 0, _ => by show 0 < 1; omega
  | n + 1, h => by
    have ih := figN_lt n (fun b hb => h b (by omega))
    have := h n (by omega)
    show 8 * figN tm n + tm n < 8 ^ (n + 1)
    rw [Nat.pow_succ]
    omega
theorem or8d (x d : Nat) (hx : x < 8 ^ 5) (hd : d < 8) : (nI x <<< (nI 3 &&& 31)) ||| nI d = nI (8 * x + d) := by
  have e1 : nI x <<< (nI 3 &&& 31) = nI (x * 2 ^ 3) := pk_shlN (nI 3 &&& 31) 3 (by decide) (by omega)
  rw [e1]
  apply Int32.toBitVec_inj.1
  show BitVec.ofNat 32 (x * 2 ^ 3) ||| BitVec.ofNat 32 d = BitVec.ofNat 32 (8 * x + d)
  apply BitVec.eq_of_toNat_eq
  rw [BitVec.toNat_or, BitVec.toNat_ofNat, BitVec.toNat_ofNat, BitVec.toNat_ofNat, Nat.mod_eq_of_lt (by omega), Nat.mod_eq_of_lt (by omega), Nat.mod_eq_of_lt (by omega)]
  rw [show x * 2 ^ 3 = 2 ^ 3 * x by omega, ← Nat.two_pow_add_eq_or_of_lt hd]
/-- the best chance of the first so many partings (and one; 0: none), and the parting -/
def tmS (V : Nat → Nat) (k : Nat) : Nat → Nat × Nat
  | 0 => (0, 0)
  | n + 1 => if (tmS V k n).1 < o1 (chT V (digN k (V 5) n) k) then (o1 (chT V (digN k (V 5) n) k), figN (digN k (V 5) n) (V 5)) else tmS V k n
theorem o1_le {V : Nat → Nat} (ok : VOK V) {tm : Nat → Nat} {t : Nat} : o1 (chT V tm t) ≤ 1000001 := by
  cases h : chT V tm t with
  | none => exact Nat.zero_le _
  | some a => have := chT_le6 ok h; show a + 1 ≤ _; omega
theorem tmS_le {V : Nat → Nat} (ok : VOK V) (k : Nat) : ∀ n, (tmS V k n).1 ≤ 1000001
  | 0 => Nat.zero_le _
  | n + 1 => by
    have := tmS_le ok k n
    have := o1_le ok (tm := digN k (V 5) n) (t := k)
    show (if (tmS V k n).1 < o1 (chT V (digN k (V 5) n) k) then (o1 (chT V (digN k (V 5) n) k), figN (digN k (V 5) n) (V 5)) else tmS V k n).1 ≤ _
    split
    · show o1 (chT V (digN k (V 5) n) k) ≤ _
      omega
    · omega
theorem tmS_mono {V : Nat → Nat} {k n : Nat} : (tmS V k n).1 ≤ (tmS V k (n + 1)).1 ∧ o1 (chT V (digN k (V 5) n) k) ≤ (tmS V k (n + 1)).1 := by
  show _ ≤ (if (tmS V k n).1 < o1 (chT V (digN k (V 5) n) k) then (o1 (chT V (digN k (V 5) n) k), figN (digN k (V 5) n) (V 5)) else tmS V k n).1 ∧ _ ≤ (if (tmS V k n).1 < o1 (chT V (digN k (V 5) n) k) then (o1 (chT V (digN k (V 5) n) k), figN (digN k (V 5) n) (V 5)) else tmS V k n).1
  split
  · exact ⟨by show _ ≤ o1 (chT V (digN k (V 5) n) k); omega, Nat.le_refl _⟩
  · omega
theorem tmS_all {V : Nat → Nat} {k n : Nat} : ∀ j, o1 (chT V (digN k (V 5) n) k) ≤ (tmS V k (n + 1 + j)).1
  | 0 => tmS_mono.2
  | j + 1 => Nat.le_trans (tmS_all j) (tmS_mono (n := n + 1 + j)).1
/-- a parting in which no team is empty -/
def n0T (k : Nat) : Nat → Nat := foldN (fun b x => x * k + min b (k - 1)) 0
theorem n0T_ok : ∀ B, B < 7 → ∀ k, k < 7 → 1 ≤ k → k ≤ B → n0T k B < k ^ B ∧ ∀ t, t < k → (List.range B).any (fun b => digN k B (n0T k B) b == t) = true := by decide +kernel
theorem cntT_ex {tm : Nat → Nat} {t b : Nat} (h : tm b = t) : ∀ n, b < n → cntT tm t n ≠ 0
  | 0, q => absurd q (Nat.not_lt_zero b)
  | n + 1, q => by
    show cntT tm t n + (if tm n = t then 1 else 0) ≠ 0
    by_cases e : b = n
    · subst e
      rw [if_pos h]
      omega
    · have := cntT_ex h n (by omega)
      omega
theorem chT_ex {V tm : Nat → Nat} : ∀ k, (∀ t, t < k → cntT tm t (V 5) ≠ 0) → ∃ a, chT V tm k = some a
  | 0, _ => ⟨1, rfl⟩
  | k + 1, h => by
    obtain ⟨a, ha⟩ := chT_ex k (fun t ht => h t (by omega))
    rw [chT_s, ha]
    exact ⟨_, if_neg (h k (by omega))⟩
theorem tmS_pos {V : Nat → Nat} (ok : VOK V) {k : Nat} (h1 : 1 ≤ k) (h2 : k ≤ V 5) : 1 ≤ (tmS V k (k ^ V 5)).1 := by
  have h5 := ok.2.2.2.2.2.1
  obtain ⟨q1, q2⟩ := n0T_ok (V 5) (by omega) k (by omega) h1 h2
  obtain ⟨a, ha⟩ := chT_ex (V := V) (tm := digN k (V 5) (n0T k (V 5))) k (fun t ht => by
    obtain ⟨b, hb, e⟩ := List.any_eq_true.mp (q2 t ht)
    exact cntT_ex (by simpa using e) (V 5) (by simpa using hb))
  have := tmS_all (V := V) (k := k) (n := n0T k (V 5)) (k ^ V 5 - 1 - n0T k (V 5))
  rw [ha, show n0T k (V 5) + 1 + (k ^ V 5 - 1 - n0T k (V 5)) = k ^ V 5 by omega] at this
  have e : o1 (some a) = a + 1 := rfl
  omega
def teamsV (V : Nat → Nat) (k w : Nat) : Int32 :=
  if w = 0 then nI (((tmS V k (k ^ V 5)).1 - 1) / Nat.gcd ((tmS V k (k ^ V 5)).1 - 1) (10 ^ V 5))
  else if w = 1 then nI (10 ^ V 5 / Nat.gcd ((tmS V k (k ^ V 5)).1 - 1) (10 ^ V 5))
  else nI (tmS V k (k ^ V 5)).2
theorem hI_max {a b : Nat} (ha : a < 2 ^ 31) (hb : b < 2 ^ 31) : (if hI a ≤ hI b then hI b else hI a) = hI (max a b) := by
  simp only [hI_le ha hb]
  split <;> congr 1 <;> omega
def SA47 (S S1 : MS) : Prop := S1.1 = S.1 ∧ ∀ k, k ≠ 47 → S1.2.2.1 k = S.2.2.1 k
theorem SA47.rf (S : MS) : SA47 S S := ⟨rfl, fun _ _ => rfl⟩
theorem SA47.tr {S S1 S2 : MS} (a : SA47 S S1) (b : SA47 S1 S2) : SA47 S S2 := ⟨b.1.trans a.1, fun k hk => (b.2 k hk).trans (a.2 k hk)⟩
theorem SA47.hs {S S1 : MS} (a : SA47 S S1) {l : Nat} {V : Nat → Nat} (h : HS S l V) : HS S1 l V := h.keepF (fun k hk => a.2 k (by omega)) (fun j _ _ => by rw [a.1])
theorem opa47 {h0 h : AH} {m : Nat} {S : MS} {g : Nat → Int32} (hM : MW h0 h m (S.sa 47 g)) : ∃ S2 : MS, MW h0 h m S2 ∧ S2.2.2.1 47 = g ∧ SA47 S S2 := ⟨_, hM, fup_eq S.2.2.1 47 g, rfl, fun j hj => fup_ne S.2.2.1 g hj⟩
theorem digN_lt {k B n b : Nat} (h : 1 ≤ k) : digN k B n b < k := Nat.mod_lt _ (by omega)
set_option maxHeartbeats 4000000 in
set_option maxRecDepth 100000 in
theorem c_M_teamsD {G : GE} {h0 h : AH} {m : Nat} {S : MS} (hM : MW h0 h m S) {l : Nat} {V : Nat → Nat} (hS : HS S l V) {K : Option Value → AH → Prop} {la ib il : Int32} {k w cd n : Nat} (hk1 : 1 ≤ k) (hk6 : k ≤ 6) (hn : n < 2 ^ 30) (hk : ∀ (h : AH) (S1 : MS), MW h0 h m S1 → SA47 S S1 → (∀ b, b < V 5 → S1.2.2.1 47 b = nI (digN k (V 5) n b)) → WA G y_M_teams b_M_teams 11 (some .int) r_M_teams 0 0 K 0 0 154 [some (.ref m), some (.int la), some (.int (nI k)), some (.int (nI w)), some (.int (nI cd)), some (.int ib), some (.int il), some (.int (nI n)), none, some (.int (nI (figN (digN k (V 5) n) (V 5)))), none] [] h) : ∀ t, t ≤ V 5 → ∀ (h : AH) (S1 : MS), MW h0 h m S1 → SA47 S S1 → (∀ b, t ≤ b → b < V 5 → S1.2.2.1 47 b = nI (digN k (V 5) n b)) → WA G y_M_teams b_M_teams 11 (some .int) r_M_teams 0 0 K 0 0 94 [some (.ref m), some (.int la), some (.int (nI k)), some (.int (nI w)), some (.int (nI cd)), some (.int ib), some (.int il), some (.int (nI n)), some (.int (nI (n / k ^ (V 5 - t)))), some (.int (nI 0)), some (.int (hI t))] [] h := by
  have ok := hS.ok
  have h5 := ok.2.2.2.2.2.1
  have hdn : ∀ x, n / x < 2 ^ 30 := fun x => Nat.lt_of_le_of_lt (Nat.div_le_self _ _) hn
  intro t
  induction t with
  | zero =>
    intro _ h S1 hM hb hA
    refine A_iload10 d_M_teams_94 ?_
    refine A_if_lt (tgt := 122) d_M_teams_96 (by decide) (fun c_96 => ?_) (fun c => absurd (by decide) c)
    refine A_iconst (v := nI 0) d_M_teams_122 (by decide) ?_
    refine A_istore10 d_M_teams_123 trivial ?_
    have hS1 := hb.hs hS
    have hA : ∀ b, b < V 5 → S1.2.2.1 47 b = nI (digN k (V 5) n b) := fun b q => hA b (Nat.zero_le _) q
    have keyb : ∀ b, b ≤ V 5 → WA G y_M_teams b_M_teams 11 (some .int) r_M_teams 0 0 K 0 0 125 [some (.ref m), some (.int la), some (.int (nI k)), some (.int (nI w)), some (.int (nI cd)), some (.int ib), some (.int il), some (.int (nI n)), none, some (.int (nI (figN (digN k (V 5) n) b))), some (.int (nI b))] [] h := by
      refine down ?_ (fun b hb2 ihb => ?_)
      · refine A_iload10 d_M_teams_125 ?_
        refine A_aload_n0 d_M_teams_127 ?_
        refine A_getf (kf := 30) d_M_teams_128 hM.o ok_8 (by decide) q_1079 rfl ?_
        refine A_topI hS1.bearers ?_
        first | refine A_icmp_geN (tgt := 154) d_M_teams_131 (by decide) (by with_reducible rfl) (by with_reducible rfl) (by omega) (by omega) (fun c_131 => ?_) (fun c_131 => ?_) | refine A_icmp_ge (tgt := 154) d_M_teams_131 (by decide) (fun c_131 => ?_) (fun c_131 => ?_)
        · exact A_drop10 (hk _ _ hM hb hA)
        · exact absurd c_131 (by omega)
      · have hdl := fun c => digN_lt (k := k) (B := V 5) (n := n) (b := c) hk1
        have hfl := figN_lt (tm := digN k (V 5) n) b (fun c _ => by have := hdl c; omega)
        have hf2 : 8 ^ b ≤ 8 ^ 5 := Nat.pow_le_pow_right (by decide) (by omega)
        have hdb := hdl b
        refine A_iload10 d_M_teams_125 ?_
        refine A_aload_n0 d_M_teams_127 ?_
        refine A_getf (kf := 30) d_M_teams_128 hM.o ok_8 (by decide) q_1079 rfl ?_
        refine A_topI hS1.bearers ?_
        first | refine A_icmp_geN (tgt := 154) d_M_teams_131 (by decide) (by with_reducible rfl) (by with_reducible rfl) (by omega) (by omega) (fun c_131 => ?_) (fun c_131 => ?_) | refine A_icmp_ge (tgt := 154) d_M_teams_131 (by decide) (fun c_131 => ?_) (fun c_131 => ?_)
        · exact absurd c_131 (by omega)
        · refine A_iload9 d_M_teams_134 ?_
          refine A_iconst (v := nI 3) d_M_teams_136 (by decide) ?_
          refine A_ishl d_M_teams_137 ?_
          refine A_aload_n0 d_M_teams_138 ?_
          refine A_getf (kf := 47) d_M_teams_139 hM.o ok_8 (by decide) q_1096 rfl ?_
          refine A_iload10 d_M_teams_142 ?_
          refine A_ialdN d_M_teams_144 hM.a47 ⟨by omega, by decide⟩ ?_
          refine A_topI (hA b hb2) ?_
          refine A_ior d_M_teams_145 ?_
          refine A_topI (or8d _ _ (by omega) (by omega)) ?_
          refine A_istore9 d_M_teams_146 trivial ?_
          first | refine A_iinc10 d_M_teams_148 (nI_1 _) trivial ?_ | refine A_iinc10 d_M_teams_148 rfl trivial ?_
          refine A_goto (tgt := 125) d_M_teams_151 (by decide) ?_
          exact ihb
    exact A_drop8 (keyb 0 (Nat.zero_le _))
  | succ t ih =>
    intro ht h S1 hM hb hA
    have hdt := hdn (k ^ (V 5 - (t + 1)))
    refine A_loc (L' := [some (.ref m), some (.int la), some (.int (nI k)), some (.int (nI w)), some (.int (nI cd)), some (.int ib), some (.int il), some (.int (nI n)), some (.int (nI (n / k ^ (V 5 - (t + 1))))), some (.int (nI 0)), some (.int (nI t))]) rfl ?_
    refine A_iload10 d_M_teams_94 ?_
    refine A_if_lt (tgt := 122) d_M_teams_96 (by decide) (fun c => absurd c (nI_pos (by omega))) (fun c_96 => ?_)
    refine A_aload_n0 d_M_teams_99 ?_
    refine A_getf (kf := 47) d_M_teams_100 hM.o ok_8 (by decide) q_1096 rfl ?_
    refine A_iload10 d_M_teams_103 ?_
    refine A_iload8 d_M_teams_105 ?_
    refine A_iload_n2 d_M_teams_107 ?_
    refine A_iremN d_M_teams_108 (by with_reducible rfl) (by with_reducible rfl) (by omega) ?_
    refine A_st47 hM d_M_teams_109 (by omega) (fun h hM => ?_)
    obtain ⟨S2, hM, e47, sb⟩ := opa47 hM
    refine A_iload8 d_M_teams_110 ?_
    refine A_iload_n2 d_M_teams_112 ?_
    refine A_idivN d_M_teams_113 (by with_reducible rfl) (by with_reducible rfl) (by omega) ?_
    refine A_istore8 d_M_teams_114 trivial ?_
    refine A_iinc10 d_M_teams_116 rfl trivial ?_
    refine A_goto (tgt := 94) d_M_teams_119 (by decide) ?_
    refine A_loc ?_ (ih (by omega) _ _ hM (hb.tr sb) (fun b q1 q2 => ?_))
    · rw [show nI t + Int32.ofInt (-1) = hI t from hI_dec t, Nat.div_div_eq_div_mul, ← Nat.pow_succ, show (V 5 - (t + 1)).succ = V 5 - t by omega]
    · rw [e47]
      by_cases r : b = t
      · rw [r, fup_eq]
        unfold digN
        rw [show V 5 - 1 - t = V 5 - (t + 1) by omega]
      · rw [fup_ne _ _ r]
        exact hA b (by omega) q2
set_option maxHeartbeats 4000000 in
set_option maxRecDepth 100000 in
theorem c_M_teams2 {G : GE} {h0 h : AH} {m : Nat} {S0 S : MS} (hM : MW h0 h m S) (hk0 : Keep S0 S) {l : Nat} {V : Nat → Nat} (hS : HS S l V) (la : Int32) {k w : Nat} (hk1 : 1 ≤ k) (hk2 : k ≤ V 5) (hw : w ≤ 2) : WA G y_M_teams b_M_teams 11 (some .int) r_M_teams 0 0 (TK h0 m S0 (.int (teamsV V k w))) 0 0 36 [some (.ref m), some (.int la), some (.int (nI k)), some (.int (nI w)), none, none, none, none, none, none, none] [] h := by
  have ok := hS.ok
  have h5 := ok.2.2.2.2.2.1
  have hkp : k ^ V 5 ≤ 6 ^ 6 := Nat.le_trans (Nat.pow_le_pow_left (by omega) _) (Nat.pow_le_pow_right (by decide) h5)
  have key : ∀ n, n ≤ k ^ V 5 → ∀ (h : AH) (S1 : MS), MW h0 h m S1 → SA47 S S1 → WA G y_M_teams b_M_teams 11 (some .int) r_M_teams 0 0 (TK h0 m S0 (.int (teamsV V k w))) 0 0 72 [some (.ref m), some (.int la), some (.int (nI k)), some (.int (nI w)), some (.int (nI (k ^ V 5))), some (.int (hI (tmS V k n).1)), some (.int (nI (tmS V k n).2)), some (.int (nI n)), none, none, none] [] h := by
    refine down ?_ (fun n hn ih => ?_)
    · intro h S1 hM hb
      refine A_iload7 d_M_teams_72 ?_
      refine A_iload4 d_M_teams_74 ?_
      first | refine A_icmp_geN (tgt := 192) d_M_teams_76 (by decide) (by with_reducible rfl) (by with_reducible rfl) (by omega) (by omega) (fun c_76 => ?_) (fun c_76 => ?_) | refine A_icmp_ge (tgt := 192) d_M_teams_76 (by decide) (fun c_76 => ?_) (fun c_76 => ?_)
      · have hpos := tmS_pos ok hk1 hk2
        have htl := tmS_le ok k (k ^ V 5)
        have hp10 : 10 ^ V 5 ≤ 10 ^ 6 := Nat.pow_le_pow_right (by decide) h5
        have hp11 : 0 < 10 ^ V 5 := Nat.pow_pos (by decide)
        have hgp := Nat.gcd_pos_of_pos_right ((tmS V k (k ^ V 5)).1 - 1) hp11
        have hgl := Nat.le_of_dvd hp11 (Nat.gcd_dvd_right ((tmS V k (k ^ V 5)).1 - 1) (10 ^ V 5))
        refine A_loc (congrArg (fun z => [some (Value.ref m), some (.int la), some (.int (nI k)), some (.int (nI w)), some (.int (nI (k ^ V 5))), some (.int z), some (.int (nI (tmS V k (k ^ V 5)).2)), some (.int (nI (k ^ V 5))), none, none, none]) (show hI (tmS V k (k ^ V 5)).1 = nI ((tmS V k (k ^ V 5)).1 - 1) from if_neg (by omega))) ?_
        refine A_aload_n0 d_M_teams_192 ?_
        refine A_getf (kf := 30) d_M_teams_193 hM.o ok_8 (by decide) q_1079 rfl ?_
        refine A_topI (hb.hs hS).bearers ?_
        refine A_callSP d_M_teams_196 (c_M_tens (V 5) (by omega) h) q_1627 q_1628 mk_M_tens rfl (by decide) rfl (Nat.le_of_ble_eq_true rfl) ⟨Nat.le_of_ble_eq_true rfl, Nat.le_of_ble_eq_true rfl⟩ ⟨rfl, rfl⟩ ?_
        refine A_istore7 d_M_teams_199 trivial ?_
        refine A_iload5 d_M_teams_201 ?_
        refine A_iload7 d_M_teams_203 ?_
        refine A_callSP d_M_teams_205 (c_M_common ((tmS V k (k ^ V 5)).1 - 1) (10 ^ V 5) (by omega) (by omega) h) q_1630 q_1631 mk_M_common rfl (by decide) rfl (Nat.le_of_ble_eq_true rfl) ⟨Nat.le_of_ble_eq_true rfl, Nat.le_of_ble_eq_true rfl⟩ ⟨rfl, rfl⟩ ?_
        refine A_istore8 d_M_teams_208 trivial ?_
        refine A_iload_n3 d_M_teams_210 ?_
        first | refine A_if_neN (tgt := 222) d_M_teams_211 (by decide) (by with_reducible rfl) (by omega) (fun c_211 => ?_) (fun c_211 => ?_) | refine A_if_ne (tgt := 222) d_M_teams_211 (by decide) (fun c_211 => ?_) (fun c_211 => ?_)
        · refine A_iload_n3 d_M_teams_222 ?_
          refine A_iconst (v := nI 1) d_M_teams_223 (by decide) ?_
          first | refine A_icmp_neN (tgt := 235) d_M_teams_224 (by decide) (by with_reducible rfl) (by with_reducible rfl) (by omega) (by omega) (fun c_224 => ?_) (fun c_224 => ?_) | refine A_icmp_ne (tgt := 235) d_M_teams_224 (by decide) (fun c_224 => ?_) (fun c_224 => ?_)
          · refine A_iload6 d_M_teams_235 ?_
            refine A_iret d_M_teams_237 rfl ⟨Nat.zero_le _, Nat.zero_le _⟩ ?_
            refine tk hM (hk0.tr (fun k hk => hb.2 k (by omega))) ?_
            unfold teamsV
            first
              | (rw [if_pos c_211]; done)
              | (rw [if_neg c_211, if_pos c_224]; done)
              | (rw [if_neg c_211, if_neg c_224]; done)
          · refine A_iload7 d_M_teams_227 ?_
            refine A_iload8 d_M_teams_229 ?_
            refine A_idivN d_M_teams_231 (by with_reducible rfl) (by with_reducible rfl) (by omega) ?_
            refine A_goto (tgt := 237) d_M_teams_232 (by decide) ?_
            refine A_iret d_M_teams_237 rfl ⟨Nat.zero_le _, Nat.zero_le _⟩ ?_
            refine tk hM (hk0.tr (fun k hk => hb.2 k (by omega))) ?_
            unfold teamsV
            first
              | (rw [if_pos c_211]; done)
              | (rw [if_neg c_211, if_pos c_224]; done)
              | (rw [if_neg c_211, if_neg c_224]; done)
        · refine A_iload5 d_M_teams_214 ?_
          refine A_iload8 d_M_teams_216 ?_
          refine A_idivN d_M_teams_218 (by with_reducible rfl) (by with_reducible rfl) (by omega) ?_
          refine A_goto (tgt := 237) d_M_teams_219 (by decide) ?_
          refine A_iret d_M_teams_237 rfl ⟨Nat.zero_le _, Nat.zero_le _⟩ ?_
          refine tk hM (hk0.tr (fun k hk => hb.2 k (by omega))) ?_
          unfold teamsV
          first
            | (rw [if_pos c_211]; done)
            | (rw [if_neg c_211, if_pos c_224]; done)
            | (rw [if_neg c_211, if_neg c_224]; done)
      · exact absurd c_76 (by omega)
    · intro h S1 hM hb
      refine A_iload7 d_M_teams_72 ?_
      refine A_iload4 d_M_teams_74 ?_
      first | refine A_icmp_geN (tgt := 192) d_M_teams_76 (by decide) (by with_reducible rfl) (by with_reducible rfl) (by omega) (by omega) (fun c_76 => ?_) (fun c_76 => ?_) | refine A_icmp_ge (tgt := 192) d_M_teams_76 (by decide) (fun c_76 => ?_) (fun c_76 => ?_)
      · exact absurd c_76 (by omega)
      · refine A_iload7 d_M_teams_79 ?_
        refine A_istore8 d_M_teams_81 trivial ?_
        refine A_iconst (v := nI 0) d_M_teams_83 (by decide) ?_
        refine A_istore9 d_M_teams_84 trivial ?_
        refine A_aload_n0 d_M_teams_86 ?_
        refine A_getf (kf := 30) d_M_teams_87 hM.o ok_8 (by decide) q_1079 rfl ?_
        refine A_topI (hb.hs hS).bearers ?_
        refine A_iconst (v := nI 1) d_M_teams_90 (by decide) ?_
        first | refine A_isubN d_M_teams_91 (by with_reducible rfl) (by with_reducible rfl) (by omega) ?_ | refine A_isub d_M_teams_91 ?_
        refine A_istore10 d_M_teams_92 trivial ?_
        refine A_loc (show _ = [some (.ref m), some (.int la), some (.int (nI k)), some (.int (nI w)), some (.int (nI (k ^ V 5))), some (.int (hI (tmS V k n).1)), some (.int (nI (tmS V k n).2)), some (.int (nI n)), some (.int (nI (n / k ^ (V 5 - V 5)))), some (.int (nI 0)), some (.int (hI (V 5)))] by rw [Nat.sub_self, Nat.pow_zero, Nat.div_one, show hI (V 5) = nI (V 5 - 1) from if_neg (by omega)]) ?_
        have hol := o1_le ok (tm := digN k (V 5) n) (t := k)
        have htl := tmS_le ok k n
        refine c_M_teamsD hM (hb.hs hS) (la := la) (ib := hI (tmS V k n).1) (il := nI (tmS V k n).2) (w := w) (cd := k ^ V 5) (n := n) hk1 (by omega) (by omega) ?_ (V 5) (Nat.le_refl _) _ _ hM (SA47.rf _) (fun b q1 q2 => absurd q2 (by omega))
        intro h S2 hM hb2 hA
        have hb3 := hb.tr hb2
        have hS2 := hb3.hs hS
        refine A_aload_n0 d_M_teams_154 ?_
        refine A_iload_n2 d_M_teams_155 ?_
        refine A_callVP d_M_teams_156 (c_M_chanceOf hM hS2 (tm := digN k (V 5) n) (fun b q => ⟨hA b q, by have := digN_lt (k := k) (B := V 5) (n := n) (b := b) hk1; omega⟩) k (by omega)) hM.o rfl q_1619 q_1621 qs_88 mk_M_chanceOf rfl (by decide) rfl (Nat.le_of_ble_eq_true rfl) ⟨Nat.le_of_ble_eq_true rfl, Nat.le_of_ble_eq_true rfl⟩ ⟨rfl, rfl⟩ ?_
        refine A_topI (encN_hI _) ?_
        refine A_istore10 d_M_teams_159 trivial ?_
        refine A_iload10 d_M_teams_161 ?_
        refine A_iload5 d_M_teams_163 ?_
        first | refine A_icmp_leN (tgt := 173) d_M_teams_165 (by decide) (by with_reducible rfl) (by with_reducible rfl) (by omega) (by omega) (fun c_165 => ?_) (fun c_165 => ?_) | refine A_icmp_le (tgt := 173) d_M_teams_165 (by decide) (fun c_165 => ?_) (fun c_165 => ?_)
        · refine A_iload6 d_M_teams_173 ?_
          refine A_istore6 d_M_teams_175 trivial ?_
          refine A_iload5 d_M_teams_177 ?_
          refine A_iload10 d_M_teams_179 ?_
          refine A_callSP d_M_teams_181 (c_M_greater _ _ _) q_1294 q_1295 mk_M_greater rfl (by decide) rfl (Nat.le_of_ble_eq_true rfl) ⟨Nat.le_of_ble_eq_true rfl, Nat.le_of_ble_eq_true rfl⟩ ⟨rfl, rfl⟩ ?_
          refine A_topI (hI_max (by omega) (by omega)) ?_
          refine A_istore5 d_M_teams_184 trivial ?_
          first | refine A_iinc7 d_M_teams_186 (nI_1 _) trivial ?_ | refine A_iinc7 d_M_teams_186 rfl trivial ?_
          refine A_goto (tgt := 72) d_M_teams_189 (by decide) ?_
          refine A_drop8 (A_drop9 (A_drop10 (A_loc ?_ (ih _ _ hM hb3))))
          have hst : tmS V k (n + 1) = if (tmS V k n).1 < o1 (chT V (digN k (V 5) n) k) then (o1 (chT V (digN k (V 5) n) k), figN (digN k (V 5) n) (V 5)) else tmS V k n := rfl
          rw [hst]
          first
            | (have q := (not_congr (hI_le (a := o1 (chT V (digN k (V 5) n) k)) (b := (tmS V k n).1) (by omega) (by omega))).mp c_165
               rw [if_pos (by omega), Nat.max_eq_right (by omega)]
               done)
            | (have q := (hI_le (a := o1 (chT V (digN k (V 5) n) k)) (b := (tmS V k n).1) (by omega) (by omega)).mp c_165
               rw [if_neg (by omega), Nat.max_eq_left (by omega)]
               done)
        · refine A_iload9 d_M_teams_168 ?_
          refine A_goto (tgt := 175) d_M_teams_170 (by decide) ?_
          refine A_istore6 d_M_teams_175 trivial ?_
          refine A_iload5 d_M_teams_177 ?_
          refine A_iload10 d_M_teams_179 ?_
          refine A_callSP d_M_teams_181 (c_M_greater _ _ _) q_1294 q_1295 mk_M_greater rfl (by decide) rfl (Nat.le_of_ble_eq_true rfl) ⟨Nat.le_of_ble_eq_true rfl, Nat.le_of_ble_eq_true rfl⟩ ⟨rfl, rfl⟩ ?_
          refine A_topI (hI_max (by omega) (by omega)) ?_
          refine A_istore5 d_M_teams_184 trivial ?_
          first | refine A_iinc7 d_M_teams_186 (nI_1 _) trivial ?_ | refine A_iinc7 d_M_teams_186 rfl trivial ?_
          refine A_goto (tgt := 72) d_M_teams_189 (by decide) ?_
          refine A_drop8 (A_drop9 (A_drop10 (A_loc ?_ (ih _ _ hM hb3))))
          have hst : tmS V k (n + 1) = if (tmS V k n).1 < o1 (chT V (digN k (V 5) n) k) then (o1 (chT V (digN k (V 5) n) k), figN (digN k (V 5) n) (V 5)) else tmS V k n := rfl
          rw [hst]
          first
            | (have q := (not_congr (hI_le (a := o1 (chT V (digN k (V 5) n) k)) (b := (tmS V k n).1) (by omega) (by omega))).mp c_165
               rw [if_pos (by omega), Nat.max_eq_right (by omega)]
               done)
            | (have q := (hI_le (a := o1 (chT V (digN k (V 5) n) k)) (b := (tmS V k n).1) (by omega) (by omega)).mp c_165
               rw [if_neg (by omega), Nat.max_eq_left (by omega)]
               done)
  have keyb : ∀ b, b ≤ V 5 → WA G y_M_teams b_M_teams 11 (some .int) r_M_teams 0 0 (TK h0 m S0 (.int (teamsV V k w))) 0 0 42 [some (.ref m), some (.int la), some (.int (nI k)), some (.int (nI w)), some (.int (nI (k ^ b))), some (.int (nI b)), none, none, none, none, none] [] h := by
    refine down ?_ (fun b hb ihb => ?_)
    · refine A_iload5 d_M_teams_42 ?_
      refine A_aload_n0 d_M_teams_44 ?_
      refine A_getf (kf := 30) d_M_teams_45 hM.o ok_8 (by decide) q_1079 rfl ?_
      refine A_topI hS.bearers ?_
      first | refine A_icmp_geN (tgt := 63) d_M_teams_48 (by decide) (by with_reducible rfl) (by with_reducible rfl) (by omega) (by omega) (fun c_48 => ?_) (fun c_48 => ?_) | refine A_icmp_ge (tgt := 63) d_M_teams_48 (by decide) (fun c_48 => ?_) (fun c_48 => ?_)
      · refine A_iconst (v := (-1)) d_M_teams_63 (by decide) ?_
        refine A_istore5 d_M_teams_64 trivial ?_
        refine A_iconst (v := nI 0) d_M_teams_66 (by decide) ?_
        refine A_istore6 d_M_teams_67 trivial ?_
        refine A_iconst (v := nI 0) d_M_teams_69 (by decide) ?_
        refine A_istore7 d_M_teams_70 trivial ?_
        exact key 0 (Nat.zero_le _) _ _ hM (SA47.rf _)
      · exact absurd c_48 (by omega)
    · refine A_iload5 d_M_teams_42 ?_
      refine A_aload_n0 d_M_teams_44 ?_
      refine A_getf (kf := 30) d_M_teams_45 hM.o ok_8 (by decide) q_1079 rfl ?_
      refine A_topI hS.bearers ?_
      first | refine A_icmp_geN (tgt := 63) d_M_teams_48 (by decide) (by with_reducible rfl) (by with_reducible rfl) (by omega) (by omega) (fun c_48 => ?_) (fun c_48 => ?_) | refine A_icmp_ge (tgt := 63) d_M_teams_48 (by decide) (fun c_48 => ?_) (fun c_48 => ?_)
      · exact absurd c_48 (by omega)
      · refine A_iload4 d_M_teams_51 ?_
        refine A_iload_n2 d_M_teams_53 ?_
        first | refine A_imulN d_M_teams_54 (by with_reducible rfl) (by with_reducible rfl) ?_ | refine A_imul d_M_teams_54 ?_
        refine A_istore4 d_M_teams_55 trivial ?_
        first | refine A_iinc5 d_M_teams_57 (nI_1 _) trivial ?_ | refine A_iinc5 d_M_teams_57 rfl trivial ?_
        refine A_goto (tgt := 42) d_M_teams_60 (by decide) ?_
        exact A_loc (by rw [Nat.pow_succ]) ihb
  refine A_iconst (v := nI 1) d_M_teams_36 (by decide) ?_
  refine A_istore4 d_M_teams_37 trivial ?_
  refine A_iconst (v := nI 0) d_M_teams_39 (by decide) ?_
  refine A_istore5 d_M_teams_40 trivial ?_
  exact keyb 0 (Nat.zero_le _)
theorem pick_const {n : Nat} {x d : Int32} {f : Nat → Int32} (h : ∀ k, f k = d) : pick n x f d = d := by
  unfold pick
  split
  · exact h _
  · rfl
def teamsP (n : Nat) (VL : Nat → Nat → Nat) (la ka x : Int32) : Int32 := pick n la (fun l => rg x 0 2 (fun w => rg ka 1 (VL l 5) (fun k => teamsV (VL l) k w) (-1)) (-1)) (-1)
theorem tmO {n : Nat} {VL : Nat → Nat → Nat} {la ka x : Int32} (h : inB x (nI 0) (nI 2) = false) : pick n la (fun l => rg x 0 2 (fun w => rg ka 1 (VL l 5) (fun k => teamsV (VL l) k w) (-1)) (-1)) (-1) = -1 := pick_const (fun l => rg_out h)
set_option maxHeartbeats 4000000 in
set_option maxRecDepth 100000 in
theorem c_M_teams {G : GE} {h0 h : AH} {m : Nat} {S : MS} (hM : MW h0 h m S) {c : Nat → Nat} {VL WT BK SG GM : Nat → Nat → Nat} (hp : MP S c VL WT BK SG GM) (la ka x : Int32) : Ctr G y_M_teams b_M_teams 11 (some .int) r_M_teams [.ref m, .int la, .int ka, .int x] h (TK h0 m S (.int (pick (c 0) la (fun l => rg x 0 2 (fun w => rg ka 1 (VL l 5) (fun k => teamsV (VL l) k w) (-1)) (-1)) (-1)))) := by
  have hc0 := (hp.1 0 (by decide)).2
  refine Ctr.of (by decide +kernel) (by simp) (Nat.le_of_ble_eq_true rfl) (L0 := [some (.ref m), some (.int la), some (.int ka), some (.int x), none, none, none, none, none, none, none]) rfl ?_
  refine A_aload_n0 d_M_teams_0 ?_
  refine A_iconst (v := nI 0) d_M_teams_1 (by decide) ?_
  refine A_putM hM (kf := 0) (ty := .int) d_M_teams_2 (by decide) q_1049 rfl (by decide +kernel) (by first | rfl | exact bI_nar _) rfl (Nat.le_of_ble_eq_true rfl) rfl (fun h hM => ?_)
  have hp := hp.keep (Keep.sf _ 0 (nI 0))
  refine A_iload_n3 d_M_teams_5 ?_
  refine A_iconst (v := nI 0) d_M_teams_6 (by decide) ?_
  refine A_iconst (v := nI 2) d_M_teams_7 (by decide) ?_
  refine A_callSP d_M_teams_8 (c_M_in _ _ _ _) q_1231 q_1232 mk_M_in rfl (by decide) rfl (Nat.le_of_ble_eq_true rfl) ⟨Nat.le_of_ble_eq_true rfl, Nat.le_of_ble_eq_true rfl⟩ ⟨rfl, rfl⟩ ?_
  refine A_if_eqB (tgt := 34) d_M_teams_11 (by decide) (fun c_11 => ?_) (fun c_11 => ?_)
  · skip
    refine A_iconst (v := (-1)) d_M_teams_34 (by decide) ?_
    refine A_iret d_M_teams_35 rfl ⟨Nat.zero_le _, Nat.zero_le _⟩ ?_
    first | exact tk hM (fun _ _ => rfl) (by rw [tmO c_11]) | exact tk hM (fun _ _ => rfl) (by rw [pick_out q]) | exact tk hM (fun _ _ => rfl) (by rw [pick_in hl (by omega), rg_in ⟨hw1, hw2⟩ (by decide), rg_out c_31])
  · obtain ⟨w, rfl, hw1, hw2⟩ := inB_ex (by decide) c_11
    refine A_aload_n0 d_M_teams_14 ?_
    refine A_iload_n1 d_M_teams_15 ?_
    refine A_callV d_M_teams_16 (c_M_hand hM (hp.1 0 (by decide)).1 (hp.1 0 (by decide)).2 hp.2.1 la) hM.o rfl q_1339 q_1341 qs_35 mk_M_hand rfl (by decide) rfl (Nat.le_of_ble_eq_true rfl) ⟨Nat.le_of_ble_eq_true rfl, Nat.le_of_ble_eq_true rfl⟩ (fun v h1 hv => ?_)
    rcases hv with ⟨l', rfl, hl, rfl, hM⟩ | ⟨q, rfl, rfl⟩
    · have hVl := hp.2.1 l' hl
      have hS := HS_hand hVl
      obtain ⟨b0, b1, b2, b3, b4, b5, bp, bb, bt⟩ := hVl.2.1
      refine A_if_eqB (tgt := 34) d_M_teams_19 (by decide) (fun c => absurd c (by decide)) (fun c_19 => ?_)
      refine A_iload_n2 d_M_teams_22 ?_
      refine A_iconst (v := nI 1) d_M_teams_23 (by decide) ?_
      refine A_aload_n0 d_M_teams_24 ?_
      refine A_getf (kf := 30) d_M_teams_25 hM.o ok_8 (by decide) q_1079 rfl ?_
      refine A_topI hS.bearers ?_
      refine A_callSP d_M_teams_28 (c_M_in _ _ _ _) q_1231 q_1232 mk_M_in rfl (by decide) rfl (Nat.le_of_ble_eq_true rfl) ⟨Nat.le_of_ble_eq_true rfl, Nat.le_of_ble_eq_true rfl⟩ ⟨rfl, rfl⟩ ?_
      refine A_if_neB (tgt := 36) d_M_teams_31 (by decide) (fun c_31 => ?_) (fun c_31 => ?_)
      · obtain ⟨k, rfl, hk1, hk2⟩ := inB_ex (by omega) c_31
        rw [pick_in hl (by omega), rg_in ⟨hw1, hw2⟩ (by decide), rg_in ⟨hk1, hk2⟩ (by omega)]
        exact c_M_teams2 hM (fun _ _ => rfl) hS _ hk1 hk2 hw2
      · skip
        refine A_iconst (v := (-1)) d_M_teams_34 (by decide) ?_
        refine A_iret d_M_teams_35 rfl ⟨Nat.zero_le _, Nat.zero_le _⟩ ?_
        first | exact tk hM (fun _ _ => rfl) (by rw [tmO c_11]) | exact tk hM (fun _ _ => rfl) (by rw [pick_out q]) | exact tk hM (fun _ _ => rfl) (by rw [pick_in hl (by omega), rg_in ⟨hw1, hw2⟩ (by decide), rg_out c_31])
    · refine A_if_eqB (tgt := 34) d_M_teams_19 (by decide) (fun c_19 => ?_) (fun c => absurd c (by decide))
      skip
      refine A_iconst (v := (-1)) d_M_teams_34 (by decide) ?_
      refine A_iret d_M_teams_35 rfl ⟨Nat.zero_le _, Nat.zero_le _⟩ ?_
      first | exact tk hM (fun _ _ => rfl) (by rw [tmO c_11]) | exact tk hM (fun _ _ => rfl) (by rw [pick_out q]) | exact tk hM (fun _ _ => rfl) (by rw [pick_in hl (by omega), rg_in ⟨hw1, hw2⟩ (by decide), rg_out c_31])
