/-! THE TEXT'S TOKENS, over the bytes B of a tape of n: skN the place of the next token, kN its kind (0 end, 1 bad, 2 word, 3 number, 4 sign), eN its end, tkV its value -/
def blkB (b : Nat) : Bool := decide (b = 10) || decide (b = 32)
def inN (lo hi b : Nat) : Bool := decide (lo ≤ b) && decide (b ≤ hi)
def skN (B : Nat → Nat) (n p : Nat) : Nat := firstU (fun k => !blkB (B k)) (fun k => k) n n p
def rnN (lo hi : Nat) (B : Nat → Nat) (n p : Nat) : Nat := firstU (fun k => !inN lo hi (B k)) (fun k => k) n n p
def kN (B : Nat → Nat) (n q : Nat) : Nat := if n ≤ q then 0 else if inN 97 122 (B q) = true then 2 else if inN 48 57 (B q) = true then (if rnN 48 57 B n q - q ≤ 2 then 3 else 1) else if B q = 59 then 4 else 1
def eN (B : Nat → Nat) (n q : Nat) : Nat := if n ≤ q then q else if inN 97 122 (B q) = true then rnN 97 122 B n q else if inN 48 57 (B q) = true then rnN 48 57 B n q else q + 1
def nxN (B : Nat → Nat) (n q : Nat) : Nat := skN B n (eN B n q)
def tkV (B : Nat → Nat) (q : Nat) : Nat → Nat
  | 0 => 0
  | i + 1 => if i < 2 then 10 * tkV B q i + (B (q + i) - 48) else tkV B q i
def tvN (B : Nat → Nat) (n q : Nat) : Nat := tkV B q (eN B n q - q)
theorem firstU_bd {c : Nat → Bool} {n : Nat} : ∀ j p, p + j = n → p ≤ firstU c (fun k => k) n n p ∧ firstU c (fun k => k) n n p ≤ n
  | 0, p, h => by
    obtain rfl : p = n := by omega
    rw [firstU_end]
    omega
  | j + 1, p, h => by
    rw [firstU_step _ _ _ (by omega)]
    split
    · omega
    · have := firstU_bd (c := c) (n := n) j (p + 1) (by omega)
      omega
theorem skN_bd {B : Nat → Nat} {n p : Nat} (h : p ≤ n) : p ≤ skN B n p ∧ skN B n p ≤ n := firstU_bd (n - p) p (by omega)
theorem rnN_bd {lo hi : Nat} {B : Nat → Nat} {n p : Nat} (h : p ≤ n) : p ≤ rnN lo hi B n p ∧ rnN lo hi B n p ≤ n := firstU_bd (n - p) p (by omega)
theorem rnN_lt {lo hi : Nat} {B : Nat → Nat} {n p : Nat} (h : p < n) (hb : inN lo hi (B p) = true) : p < rnN lo hi B n p ∧ rnN lo hi B n p ≤ n := by
  have e : rnN lo hi B n p = rnN lo hi B n (p + 1) := by
    unfold rnN
    rw [firstU_step _ _ _ h, if_neg (by rw [hb]; decide)]
  have := rnN_bd (lo := lo) (hi := hi) (B := B) (n := n) (p := p + 1) (by omega)
  rw [e]
  omega
theorem eN_lt {B : Nat → Nat} {n q : Nat} (h : q < n) : q < eN B n q ∧ eN B n q ≤ n := by
  unfold eN
  rw [if_neg (by omega)]
  split
  · rename_i c
    exact rnN_lt h c
  · split
    · rename_i c
      exact rnN_lt h c
    · omega
theorem eN_bd {B : Nat → Nat} {n q : Nat} (h : q ≤ n) : q ≤ eN B n q ∧ eN B n q ≤ n := by
  rcases Nat.lt_or_ge q n with h1 | h1
  · have := eN_lt (B := B) h1
    omega
  · unfold eN
    rw [if_pos h1]
    omega
theorem nxN_lt {B : Nat → Nat} {n q : Nat} (h : q < n) : q < nxN B n q ∧ nxN B n q ≤ n := by
  have h1 := eN_lt (B := B) h
  have h2 := skN_bd (B := B) (n := n) (p := eN B n q) h1.2
  unfold nxN
  omega
theorem nxN_bd {B : Nat → Nat} {n q : Nat} (h : q ≤ n) : q ≤ nxN B n q ∧ nxN B n q ≤ n := by
  have h1 := eN_bd (B := B) h
  have h2 := skN_bd (B := B) (n := n) (p := eN B n q) h1.2
  unfold nxN
  omega
theorem kN_lt {B : Nat → Nat} {n q : Nat} (h : kN B n q ≠ 0) : q < n := by
  rcases Nat.lt_or_ge q n with h1 | h1
  · exact h1
  · exact absurd (show kN B n q = 0 from if_pos h1) h
theorem kN_le (B : Nat → Nat) (n q : Nat) : kN B n q ≤ 4 := by
  unfold kN
  repeat' split
  all_goals omega
theorem tkV_le {B : Nat → Nat} {q : Nat} : ∀ i, (∀ j, j < i → B (q + j) ≤ 57) → tkV B q i ≤ 99
  | 0, _ => Nat.zero_le _
  | 1, h => by
    have := h 0 (by omega)
    show (if 0 < 2 then 10 * 0 + (B (q + 0) - 48) else 0) ≤ 99
    rw [if_pos (by omega)]
    omega
  | 2, h => by
    have h0 := h 0 (by omega)
    have h1 := h 1 (by omega)
    show (if 1 < 2 then 10 * (if 0 < 2 then 10 * 0 + (B (q + 0) - 48) else 0) + (B (q + 1) - 48) else _) ≤ 99
    rw [if_pos (by omega), if_pos (by omega)]
    omega
  | i + 3, h => by
    show (if i + 2 < 2 then _ else tkV B q (i + 2)) ≤ 99
    rw [if_neg (by omega)]
    exact tkV_le (i + 2) (fun j hj => h j (by omega))
theorem rnN_in {lo hi : Nat} {B : Nat → Nat} {n : Nat} : ∀ j p, p + j = n → ∀ i, p ≤ i → i < rnN lo hi B n p → inN lo hi (B i) = true
  | 0, p, h => fun i h1 h2 => by
    have := rnN_bd (lo := lo) (hi := hi) (B := B) (n := n) (p := p) (by omega)
    omega
  | j + 1, p, h => fun i h1 h2 => by
    unfold rnN at h2
    rw [firstU_step _ _ _ (by omega)] at h2
    cases hb : inN lo hi (B p)
    · rw [hb] at h2
      rw [if_pos (by decide)] at h2
      omega
    · by_cases q : i = p
      · rw [q]; exact hb
      · rw [hb, if_neg (by decide)] at h2
        exact rnN_in j (p + 1) (by omega) i (by omega) h2
theorem kN_3 {B : Nat → Nat} {n q : Nat} (h : kN B n q = 3) : q < n ∧ inN 97 122 (B q) = false ∧ inN 48 57 (B q) = true ∧ rnN 48 57 B n q - q ≤ 2 ∧ eN B n q = rnN 48 57 B n q := by
  have h1 := kN_lt (B := B) (n := n) (q := q) (by omega)
  unfold kN at h
  rw [if_neg (by omega)] at h
  split at h
  · omega
  · rename_i c1
    split at h
    · rename_i c2
      split at h
      · rename_i c3
        refine ⟨h1, by simpa using c1, c2, c3, ?_⟩
        unfold eN
        rw [if_neg (by omega), if_neg c1, if_pos c2]
      · omega
    · split at h <;> omega
theorem tvN_le {B : Nat → Nat} {n q : Nat} (h : kN B n q = 3) : tvN B n q ≤ 99 := by
  obtain ⟨h1, -, -, h4, h5⟩ := kN_3 h
  unfold tvN
  refine tkV_le _ (fun j hj => ?_)
  have := rnN_in (lo := 48) (hi := 57) (B := B) (n := n) (n - q) q (by omega) (q + j) (by omega) (by omega)
  simp only [inN, Bool.and_eq_true, decide_eq_true_eq] at this
  exact this.2
def wdI (B : Nat → Nat) (q : Nat) : Nat → Int64
  | 0 => 0
  | i + 1 => (wdI B q i <<< ((nI 8).toInt64 &&& 63)) ||| (nI (B (q + i))).toInt64
def wdL (B : Nat → Nat) (n q : Nat) : Int64 := if eN B n q - q ≤ 8 then wdI B q (eN B n q - q) else 0
/-! the reference at a token -/
def TPE (S : MS) (B : Nat → Nat) (n : Nat) : Prop := S.1 12 = nI n ∧ n ≤ 600 ∧ ∀ k, k < n → S.2.2.1 1 k &&& nI 255 = nI (B k) ∧ B k < 256
def TOK (S : MS) (B : Nat → Nat) (n q : Nat) : Prop := S.1 11 = nI (eN B n q) ∧ S.1 13 = nI q ∧ S.1 14 = nI (kN B n q) ∧ (kN B n q = 3 → S.1 15 = nI (tvN B n q)) ∧ (kN B n q = 2 → S.2.1 = wdL B n q)
def FT (S S1 : MS) : Prop := (∀ j, (j < 11 ∨ j = 12 ∨ 15 < j) → S1.1 j = S.1 j) ∧ S1.2.2 = S.2.2
theorem FT.rf (S : MS) : FT S S := ⟨fun _ _ => rfl, rfl⟩
theorem FT.tr {S S1 S2 : MS} (a : FT S S1) (b : FT S1 S2) : FT S S2 := ⟨fun j hj => (b.1 j hj).trans (a.1 j hj), b.2.trans a.2⟩
theorem FT.tpe {S S1 : MS} (a : FT S S1) {B : Nat → Nat} {n : Nat} (h : TPE S B n) : TPE S1 B n := ⟨(a.1 12 (by omega)).trans h.1, h.2.1, fun k hk => by rw [a.2]; exact h.2.2 k hk⟩
theorem opt1 {h0 h : AH} {m : Nat} {S : MS} {kf : Nat} {x : Int32} (hM : MW h0 h m (S.sf kf x)) (hk : kf = 11 ∨ kf = 13 ∨ kf = 14 ∨ kf = 15) : ∃ S2 : MS, MW h0 h m S2 ∧ S2.1 kf = x ∧ (∀ j, j ≠ kf → S2.1 j = S.1 j) ∧ S2.2.1 = S.2.1 ∧ FT S S2 := ⟨_, hM, fup_eq _ _ _, fun j hj => fup_ne _ _ hj, rfl, fun j hj => fup_ne _ _ (by omega), rfl⟩
theorem opw {h0 h : AH} {m : Nat} {S : MS} {x : Int64} (hM : MW h0 h m (S.sw x)) : ∃ S2 : MS, MW h0 h m S2 ∧ S2.2.1 = x ∧ S2.1 = S.1 ∧ FT S S2 := ⟨_, hM, rfl, rfl, fun _ _ => rfl, rfl⟩
def seeI (B : Nat → Nat) (n p : Nat) : Int32 := if p < n then nI (B p) else -1
theorem seeI_in {B : Nat → Nat} {n p lo hi : Nat} (hB : p < n → B p < 256) (h1 : lo < 2 ^ 31) (h2 : hi < 2 ^ 31) : inB (seeI B n p) (nI lo) (nI hi) = (decide (p < n) && inN lo hi (B p)) := by
  unfold seeI
  by_cases q : p < n
  · rw [if_pos q, inB_N (by have := hB q; omega) h1 h2, decide_eq_true q, Bool.true_and]
    rfl
  · rw [if_neg q, decide_eq_false q, Bool.false_and]
    unfold inB
    rw [decide_eq_true (p := (-1 : Int32) < nI lo) (by
      rw [Int32.lt_iff_toInt_lt, nI_toInt h1]
      have : (-1 : Int32).toInt = -1 := rfl
      omega)]
    rfl
theorem seeI_eq {B : Nat → Nat} {n p x : Nat} (hB : p < n → B p < 256) (hx : x < 2 ^ 31) : seeI B n p = nI x ↔ p < n ∧ B p = x := by
  unfold seeI
  by_cases q : p < n
  · rw [if_pos q, nI_eq (by have := hB q; omega) hx]
    exact ⟨fun e => ⟨q, e⟩, fun e => e.2⟩
  · rw [if_neg q]
    exact ⟨fun e => absurd e.symm (nI_neM1 hx), fun e => absurd e.1 q⟩
set_option maxHeartbeats 4000000 in
set_option maxRecDepth 100000 in
theorem c_M_see {G : GE} {h0 h : AH} {m : Nat} {S : MS} (hM : MW h0 h m S) {B : Nat → Nat} {n : Nat} (hT : TPE S B n) {p : Nat} (hp : S.1 11 = nI p) (hpn : p ≤ n) : Ctr G y_M_see b_M_see 1 (some .int) r_M_see [.ref m] h (Pu (.int (seeI B n p)) h) := by
  have hn := hT.2.1
  refine Ctr.of (by decide +kernel) (by simp) (Nat.le_of_ble_eq_true rfl) (L0 := [some (.ref m)]) rfl ?_
  refine A_aload_n0 d_M_see_0 ?_
  refine A_getf (kf := 11) d_M_see_1 hM.o ok_8 (by decide) q_1060 rfl ?_
  refine A_topI hp ?_
  refine A_aload_n0 d_M_see_4 ?_
  refine A_getf (kf := 12) d_M_see_5 hM.o ok_8 (by decide) q_1061 rfl ?_
  refine A_topI hT.1 ?_
  first | refine A_icmp_geN (tgt := 27) d_M_see_8 (by decide) (by with_reducible rfl) (by with_reducible rfl) (by omega) (by omega) (fun c_8 => ?_) (fun c_8 => ?_) | refine A_icmp_ge (tgt := 27) d_M_see_8 (by decide) (fun c_8 => ?_) (fun c_8 => ?_)
  · refine A_iconst (v := (-1)) d_M_see_27 (by decide) ?_
    refine A_iret d_M_see_28 rfl ⟨Nat.zero_le _, Nat.zero_le _⟩ ?_
    first | exact pu (by unfold seeI; rw [if_pos c_8]) | exact pu (by unfold seeI; rw [if_neg (by omega)])
  · refine A_aload_n0 d_M_see_11 ?_
    refine A_getf (kf := 1) d_M_see_12 hM.o ok_8 (by decide) q_1050 rfl ?_
    refine A_aload_n0 d_M_see_15 ?_
    refine A_getf (kf := 11) d_M_see_16 hM.o ok_8 (by decide) q_1060 rfl ?_
    refine A_topI hp ?_
    refine A_baldN d_M_see_19 hM.a1 ⟨by omega, by decide⟩ ?_
    refine A_sipush (v := nI 255) d_M_see_20 (by decide) ?_
    refine A_iand d_M_see_23 ?_
    refine A_topI (hT.2.2 p c_8).1 ?_
    refine A_goto (tgt := 28) d_M_see_24 (by decide) ?_
    refine A_iret d_M_see_28 rfl ⟨Nat.zero_le _, Nat.zero_le _⟩ ?_
    first | exact pu (by unfold seeI; rw [if_pos c_8]) | exact pu (by unfold seeI; rw [if_neg (by omega)])
set_option maxHeartbeats 4000000 in
set_option maxRecDepth 100000 in
theorem c_M_tokW {G : GE} {h0 : AH} {m : Nat} {S0 : MS} {B : Nat → Nat} {n : Nat} (hT : TPE S0 B n) {q : Nat} (hq : q < n) (hl : inN 97 122 (B q) = true) (c1 : Int32) : ∀ i, i ≤ n - q → ∀ (h : AH) (S1 : MS), MW h0 h m S1 → FT S0 S1 → S1.1 11 = nI (q + i) → S1.1 13 = nI q → S1.2.1 = wdI B q i → rnN 97 122 B n q = firstU (fun k => !inN 97 122 (B k)) (fun k => k) n n (q + i) → WA G y_M_token b_M_token 3 none r_M_token 0 0 (fun v h' => v = none ∧ ∃ S1, MW h0 h' m S1 ∧ FT S0 S1 ∧ TOK S1 B n q) 0 0 74 [some (.ref m), some (.int c1), some (.int (nI i))] [] h := by
  have hn := hT.2.1
  have hk2 : kN B n q = 2 := by unfold kN; rw [if_neg (by omega), if_pos hl]
  refine down ?_ (fun i hi ih => ?_)
  · obtain ⟨i, hi⟩ : ∃ i, i = n - q := ⟨_, rfl⟩
    rw [← hi]
    intro h S1 hM hb h11 h13 hw hr
    have hqi : q + i = n := by omega
    have hne : inB (seeI B n (q + i)) (nI 97) (nI 122) = false := by rw [seeI_in (fun z => absurd z (by omega)) (by decide) (by decide), decide_eq_false (by omega), Bool.false_and]
    have hend : firstU (fun k => !inN 97 122 (B k)) (fun k => k) n n (q + i) = q + i := by rw [hqi, firstU_end]
    refine A_aload_n0 d_M_token_74 ?_
    refine A_callVP d_M_token_75 (c_M_see hM (hb.tpe hT) (p := q + i) h11 (by omega)) hM.o rfl q_1250 q_1252 qs_19 mk_M_see rfl (by decide) rfl (Nat.le_of_ble_eq_true rfl) ⟨Nat.le_of_ble_eq_true rfl, Nat.le_of_ble_eq_true rfl⟩ ⟨rfl, rfl⟩ ?_
    refine A_bipush (v := nI 97) d_M_token_78 (by decide) ?_
    refine A_bipush (v := nI 122) d_M_token_80 (by decide) ?_
    refine A_callSP d_M_token_82 (c_M_in _ _ _ h) q_1231 q_1232 mk_M_in rfl (by decide) rfl (Nat.le_of_ble_eq_true rfl) ⟨Nat.le_of_ble_eq_true rfl, Nat.le_of_ble_eq_true rfl⟩ ⟨rfl, rfl⟩ ?_
    refine A_if_eqB (tgt := 121) d_M_token_85 (by decide) (fun c_85 => ?_) (fun c => absurd (hne.symm.trans c) (by decide))
    have hen : eN B n q = q + i := by
      unfold eN
      rw [if_neg (by omega), if_pos hl, hr, hend]
    refine A_aload_n0 d_M_token_121 ?_
    refine A_iload_n2 d_M_token_122 ?_
    refine A_bipush (v := nI 8) d_M_token_123 (by decide) ?_
    first | refine A_icmp_leN (tgt := 132) d_M_token_125 (by decide) (by with_reducible rfl) (by with_reducible rfl) (by omega) (by omega) (fun c_125 => ?_) (fun c_125 => ?_) | refine A_icmp_le (tgt := 132) d_M_token_125 (by decide) (fun c_125 => ?_) (fun c_125 => ?_)
    · refine A_aload_n0 d_M_token_132 ?_
      refine A_getf (kf := 16) d_M_token_133 hM.o ok_8 (by decide) q_1065 rfl ?_
      refine A_top (congrArg Value.long hw) ?_
      refine A_putMw hM d_M_token_136 q_1065 (fun h hM => ?_)
      obtain ⟨S2, hM, e136, x136, y136⟩ := opw hM
      refine A_aload_n0 d_M_token_139 ?_
      refine A_iconst (v := nI 2) d_M_token_140 (by decide) ?_
      refine A_putM hM (kf := 14) (ty := .int) d_M_token_141 (by decide) q_1063 rfl (by decide +kernel) (by first | rfl | exact bI_nar _) rfl (Nat.le_of_ble_eq_true rfl) rfl (fun h hM => ?_)
      obtain ⟨S3, hM, e141, x141, w141, y141⟩ := opt1 hM (by decide)
      refine A_goto (tgt := 266) d_M_token_144 (by decide) ?_
      refine A_vret d_M_token_266 rfl ⟨Nat.zero_le _, Nat.zero_le _⟩ ?_
      refine ⟨rfl, S3, hM, hb.tr (y136.tr y141), ?_, ?_, ?_, fun z => (by rw [hk2] at z; cases z), fun _ => ?_⟩
      · rw [x141 11 (by decide), x136, h11, hen]
      · rw [x141 13 (by decide), x136, h13]
      · rw [e141, hk2]
      · rw [w141, e136]
        unfold wdL
        rw [hen, show q + i - q = i by omega]
        first | (rw [if_pos (by omega)]; done) | (rw [if_neg (by omega)]; done)
    · refine A_lconst (v := 0) d_M_token_128 (by decide) ?_
      refine A_goto (tgt := 136) d_M_token_129 (by decide) ?_
      refine A_putMw hM d_M_token_136 q_1065 (fun h hM => ?_)
      obtain ⟨S2, hM, e136, x136, y136⟩ := opw hM
      refine A_aload_n0 d_M_token_139 ?_
      refine A_iconst (v := nI 2) d_M_token_140 (by decide) ?_
      refine A_putM hM (kf := 14) (ty := .int) d_M_token_141 (by decide) q_1063 rfl (by decide +kernel) (by first | rfl | exact bI_nar _) rfl (Nat.le_of_ble_eq_true rfl) rfl (fun h hM => ?_)
      obtain ⟨S3, hM, e141, x141, w141, y141⟩ := opt1 hM (by decide)
      refine A_goto (tgt := 266) d_M_token_144 (by decide) ?_
      refine A_vret d_M_token_266 rfl ⟨Nat.zero_le _, Nat.zero_le _⟩ ?_
      refine ⟨rfl, S3, hM, hb.tr (y136.tr y141), ?_, ?_, ?_, fun z => (by rw [hk2] at z; cases z), fun _ => ?_⟩
      · rw [x141 11 (by decide), x136, h11, hen]
      · rw [x141 13 (by decide), x136, h13]
      · rw [e141, hk2]
      · rw [w141, e136]
        unfold wdL
        rw [hen, show q + i - q = i by omega]
        first | (rw [if_pos (by omega)]; done) | (rw [if_neg (by omega)]; done)
  · intro h S1 hM hb h11 h13 hw hr
    by_cases hlt : q + i < n
    · have hB := fun z : q + i < n => (hT.2.2 (q + i) z).2
      have hsi := seeI_in (B := B) (n := n) (p := q + i) (lo := 97) (hi := 122) hB (by decide) (by decide)
      cases hin : inN 97 122 (B (q + i))
      · have hne : inB (seeI B n (q + i)) (nI 97) (nI 122) = false := by rw [hsi, hin, Bool.and_false]
        have hend : firstU (fun k => !inN 97 122 (B k)) (fun k => k) n n (q + i) = q + i := by rw [firstU_step _ _ _ hlt, if_pos (by rw [hin]; rfl)]
        refine A_aload_n0 d_M_token_74 ?_
        refine A_callVP d_M_token_75 (c_M_see hM (hb.tpe hT) (p := q + i) h11 (by omega)) hM.o rfl q_1250 q_1252 qs_19 mk_M_see rfl (by decide) rfl (Nat.le_of_ble_eq_true rfl) ⟨Nat.le_of_ble_eq_true rfl, Nat.le_of_ble_eq_true rfl⟩ ⟨rfl, rfl⟩ ?_
        refine A_bipush (v := nI 97) d_M_token_78 (by decide) ?_
        refine A_bipush (v := nI 122) d_M_token_80 (by decide) ?_
        refine A_callSP d_M_token_82 (c_M_in _ _ _ h) q_1231 q_1232 mk_M_in rfl (by decide) rfl (Nat.le_of_ble_eq_true rfl) ⟨Nat.le_of_ble_eq_true rfl, Nat.le_of_ble_eq_true rfl⟩ ⟨rfl, rfl⟩ ?_
        refine A_if_eqB (tgt := 121) d_M_token_85 (by decide) (fun c_85 => ?_) (fun c => absurd (hne.symm.trans c) (by decide))
        have hen : eN B n q = q + i := by
          unfold eN
          rw [if_neg (by omega), if_pos hl, hr, hend]
        refine A_aload_n0 d_M_token_121 ?_
        refine A_iload_n2 d_M_token_122 ?_
        refine A_bipush (v := nI 8) d_M_token_123 (by decide) ?_
        first | refine A_icmp_leN (tgt := 132) d_M_token_125 (by decide) (by with_reducible rfl) (by with_reducible rfl) (by omega) (by omega) (fun c_125 => ?_) (fun c_125 => ?_) | refine A_icmp_le (tgt := 132) d_M_token_125 (by decide) (fun c_125 => ?_) (fun c_125 => ?_)
        · refine A_aload_n0 d_M_token_132 ?_
          refine A_getf (kf := 16) d_M_token_133 hM.o ok_8 (by decide) q_1065 rfl ?_
          refine A_top (congrArg Value.long hw) ?_
          refine A_putMw hM d_M_token_136 q_1065 (fun h hM => ?_)
          obtain ⟨S2, hM, e136, x136, y136⟩ := opw hM
          refine A_aload_n0 d_M_token_139 ?_
          refine A_iconst (v := nI 2) d_M_token_140 (by decide) ?_
          refine A_putM hM (kf := 14) (ty := .int) d_M_token_141 (by decide) q_1063 rfl (by decide +kernel) (by first | rfl | exact bI_nar _) rfl (Nat.le_of_ble_eq_true rfl) rfl (fun h hM => ?_)
          obtain ⟨S3, hM, e141, x141, w141, y141⟩ := opt1 hM (by decide)
          refine A_goto (tgt := 266) d_M_token_144 (by decide) ?_
          refine A_vret d_M_token_266 rfl ⟨Nat.zero_le _, Nat.zero_le _⟩ ?_
          refine ⟨rfl, S3, hM, hb.tr (y136.tr y141), ?_, ?_, ?_, fun z => (by rw [hk2] at z; cases z), fun _ => ?_⟩
          · rw [x141 11 (by decide), x136, h11, hen]
          · rw [x141 13 (by decide), x136, h13]
          · rw [e141, hk2]
          · rw [w141, e136]
            unfold wdL
            rw [hen, show q + i - q = i by omega]
            first | (rw [if_pos (by omega)]; done) | (rw [if_neg (by omega)]; done)
        · refine A_lconst (v := 0) d_M_token_128 (by decide) ?_
          refine A_goto (tgt := 136) d_M_token_129 (by decide) ?_
          refine A_putMw hM d_M_token_136 q_1065 (fun h hM => ?_)
          obtain ⟨S2, hM, e136, x136, y136⟩ := opw hM
          refine A_aload_n0 d_M_token_139 ?_
          refine A_iconst (v := nI 2) d_M_token_140 (by decide) ?_
          refine A_putM hM (kf := 14) (ty := .int) d_M_token_141 (by decide) q_1063 rfl (by decide +kernel) (by first | rfl | exact bI_nar _) rfl (Nat.le_of_ble_eq_true rfl) rfl (fun h hM => ?_)
          obtain ⟨S3, hM, e141, x141, w141, y141⟩ := opt1 hM (by decide)
          refine A_goto (tgt := 266) d_M_token_144 (by decide) ?_
          refine A_vret d_M_token_266 rfl ⟨Nat.zero_le _, Nat.zero_le _⟩ ?_
          refine ⟨rfl, S3, hM, hb.tr (y136.tr y141), ?_, ?_, ?_, fun z => (by rw [hk2] at z; cases z), fun _ => ?_⟩
          · rw [x141 11 (by decide), x136, h11, hen]
          · rw [x141 13 (by decide), x136, h13]
          · rw [e141, hk2]
          · rw [w141, e136]
            unfold wdL
            rw [hen, show q + i - q = i by omega]
            first | (rw [if_pos (by omega)]; done) | (rw [if_neg (by omega)]; done)
      · have hin2 : inB (seeI B n (q + i)) (nI 97) (nI 122) = true := by rw [hsi, hin, decide_eq_true hlt]; rfl
        refine A_aload_n0 d_M_token_74 ?_
        refine A_callVP d_M_token_75 (c_M_see hM (hb.tpe hT) (p := q + i) h11 (by omega)) hM.o rfl q_1250 q_1252 qs_19 mk_M_see rfl (by decide) rfl (Nat.le_of_ble_eq_true rfl) ⟨Nat.le_of_ble_eq_true rfl, Nat.le_of_ble_eq_true rfl⟩ ⟨rfl, rfl⟩ ?_
        refine A_bipush (v := nI 97) d_M_token_78 (by decide) ?_
        refine A_bipush (v := nI 122) d_M_token_80 (by decide) ?_
        refine A_callSP d_M_token_82 (c_M_in _ _ _ h) q_1231 q_1232 mk_M_in rfl (by decide) rfl (Nat.le_of_ble_eq_true rfl) ⟨Nat.le_of_ble_eq_true rfl, Nat.le_of_ble_eq_true rfl⟩ ⟨rfl, rfl⟩ ?_
        refine A_if_eqB (tgt := 121) d_M_token_85 (by decide) (fun c => absurd (hin2.symm.trans c) (by decide)) (fun c_85 => ?_)
        refine A_aload_n0 d_M_token_88 ?_
        refine A_aload_n0 d_M_token_89 ?_
        refine A_getf (kf := 16) d_M_token_90 hM.o ok_8 (by decide) q_1065 rfl ?_
        refine A_top (congrArg Value.long hw) ?_
        refine A_bipush (v := nI 8) d_M_token_93 (by decide) ?_
        refine A_lshl d_M_token_95 ?_
        refine A_aload_n0 d_M_token_96 ?_
        refine A_callVP d_M_token_97 (c_M_see hM (hb.tpe hT) (p := q + i) h11 (by omega)) hM.o rfl q_1250 q_1252 qs_19 mk_M_see rfl (by decide) rfl (Nat.le_of_ble_eq_true rfl) ⟨Nat.le_of_ble_eq_true rfl, Nat.le_of_ble_eq_true rfl⟩ ⟨rfl, rfl⟩ ?_
        refine A_topI (show seeI B n (q + i) = nI (B (q + i)) from if_pos hlt) ?_
        refine A_i2l d_M_token_100 ?_
        refine A_lor d_M_token_101 ?_
        refine A_putMw hM d_M_token_102 q_1065 (fun h hM => ?_)
        obtain ⟨S2, hM, e102, x102, y102⟩ := opw hM
        refine A_aload_n0 d_M_token_105 ?_
        first | refine A_dupR d_M_token_106 ?_ | refine A_dupI d_M_token_106 ?_
        refine A_getf (kf := 11) d_M_token_107 hM.o ok_8 (by decide) q_1060 rfl ?_
        refine A_topI (show S2.1 11 = nI (q + i) by rw [x102, h11]) ?_
        refine A_iconst (v := nI 1) d_M_token_110 (by decide) ?_
        first | refine A_iaddN d_M_token_111 (by with_reducible rfl) (by with_reducible rfl) ?_ | refine A_iadd d_M_token_111 ?_
        refine A_putM hM (kf := 11) (ty := .int) d_M_token_112 (by decide) q_1060 rfl (by decide +kernel) (by first | rfl | exact bI_nar _) rfl (Nat.le_of_ble_eq_true rfl) rfl (fun h hM => ?_)
        obtain ⟨S3, hM, e112, x112, w112, y112⟩ := opt1 hM (by decide)
        first | refine A_iinc2 d_M_token_115 (nI_1 _) trivial ?_ | refine A_iinc2 d_M_token_115 rfl trivial ?_
        refine A_goto (tgt := 74) d_M_token_118 (by decide) ?_
        refine ih _ _ hM (hb.tr (y102.tr y112)) (by rw [e112]; rfl) (by rw [x112 13 (by decide), x102, h13]) (by rw [w112, e102]; rfl) ?_
        rw [hr, firstU_step _ _ _ hlt, if_neg (by rw [hin]; decide)]
        rfl
    · exact absurd hlt (by omega)
