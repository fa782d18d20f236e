/-- what a state goes on to (cr hours of crossing); one of 2 or more goes on in one way -/
def nextN (cr s way : Nat) : Nat := if 2 ≤ s then (if (s - 2) % cr < cr - 1 then s + 1 else 1 - (s - 2) / cr) else if way = 0 then s else if cr = 0 then 1 - s else 2 + cr * s
def nextI (cr s way : Nat) : Int32 := if 2 ≤ s ∧ way = 1 then -1 else nI (nextN cr s way)
def goesB (cr s to : Nat) : Bool := decide (nextN cr s 0 = to) || (decide (s < 2) && decide (nextN cr s 1 = to))
theorem nextN_lt {cr s way : Nat} (h : s < 2 + 2 * cr) : nextN cr s way < 2 + 2 * cr := by
  unfold nextN
  by_cases a : 2 ≤ s
  · rw [if_pos a]
    have h1 : 0 < cr := by omega
    by_cases b : (s - 2) % cr < cr - 1
    · rw [if_pos b]
      have h2 := Nat.div_add_mod (s - 2) cr
      have h3 : (s - 2) / cr < 2 := Nat.div_lt_of_lt_mul (by omega)
      generalize (s - 2) / cr = e at h2 h3
      generalize (s - 2) % cr = r at h2 b
      rcases (show e = 0 ∨ e = 1 by omega) with q | q
      · rw [q, Nat.mul_zero] at h2; omega
      · rw [q, Nat.mul_one] at h2; omega
    · rw [if_neg b]
      generalize (s - 2) / cr = e
      omega
  · rw [if_neg a]
    split
    · omega
    · split
      · omega
      · rcases (show s = 0 ∨ s = 1 by omega) with e | e <;> subst e <;> simp <;> omega
def needN (V : Nat → Nat) (cc : Nat) : Nat := foldN (fun p x => if V (42 + 27 * p + 0) = cc then max x (V (42 + 27 * p + 1)) else x) 0 (V 4)
def lightN (V : Nat → Nat) (cc : Nat) : Nat := foldN (fun p x => if V (42 + 27 * p + 0) = cc then max x (V (42 + 27 * p + 2)) else x) 0 (V 4)
/-- dark hours by which all sleep -/
def fitsB (V : Nat → Nat) (d0 d1 : Nat) : Bool := decide (needN V 0 ≤ d0) && decide (d0 + lightN V 0 ≤ V 0) && decide (needN V 1 ≤ d1) && decide (d1 + lightN V 1 ≤ V 0)
theorem fitsB_iff {V : Nat → Nat} {d0 d1 : Nat} : fitsB V d0 d1 = true ↔ needN V 0 ≤ d0 ∧ d0 + lightN V 0 ≤ V 0 ∧ needN V 1 ≤ d1 ∧ d1 + lightN V 1 ≤ V 0 := by simp [fitsB, and_assoc]
def ND (S : MS) (V : Nat → Nat) : Prop := S.1 41 = nI (needN V 0) ∧ S.1 42 = nI (needN V 1) ∧ S.1 43 = nI (V 0) - nI (lightN V 0) ∧ S.1 44 = nI (V 0) - nI (lightN V 1) ∧ ∀ h, h < V 0 → S.2.2.1 40 h = nI (likedInN V 0 h) ∧ S.2.2.1 40 (24 + h) = nI (likedInN V 1 h)
theorem maxF_le {V : Nat → Nat} {cc j b : Nat} : ∀ n, (∀ p, p < n → V (42 + 27 * p + j) ≤ b) → foldN (fun p x => if V (42 + 27 * p + 0) = cc then max x (V (42 + 27 * p + j)) else x) 0 n ≤ b
  | 0, _ => Nat.zero_le _
  | n + 1, h => by
    have ih := maxF_le (cc := cc) n (fun p hp => h p (by omega))
    have h1 := h n (by omega)
    show (if V (42 + 27 * n + 0) = cc then max _ (V (42 + 27 * n + j)) else _) ≤ b
    split
    · exact Nat.max_le.mpr ⟨ih, h1⟩
    · exact ih
theorem needN_le {V : Nat → Nat} (ok : VOK V) (cc : Nat) : needN V cc ≤ 12 := by
  have h4 := ok.2.2.2.2.1
  exact maxF_le _ (fun p hp => (ok.2.2.2.2.2.2.1 p (by omega)).2.1)
theorem lightN_le {V : Nat → Nat} (ok : VOK V) (cc : Nat) : lightN V cc ≤ 12 := by
  have h4 := ok.2.2.2.2.1
  exact maxF_le _ (fun p hp => (ok.2.2.2.2.2.2.1 p (by omega)).2.2.1)
theorem subI_le {a b c : Nat} (ha : a < 2 ^ 30) (hb : b < 2 ^ 30) (hc : c < 2 ^ 30) : nI a - nI b ≤ nI a - nI c ↔ c ≤ b := by
  rw [Int32.le_iff_toInt_le, pk_sub_toInt ha hb, pk_sub_toInt ha hc]
  omega
theorem subI_min {a b c : Nat} (ha : a < 2 ^ 30) (hb : b < 2 ^ 30) (hc : c < 2 ^ 30) : (if nI a - nI c ≤ nI a - nI b then nI a - nI c else nI a - nI b) = nI a - nI (max b c) := by
  by_cases q : b ≤ c
  · rw [if_pos ((subI_le ha hc hb).mpr q), Nat.max_eq_right q]
  · rw [if_neg (fun z => q ((subI_le ha hc hb).mp z)), Nat.max_eq_left (by omega)]
theorem subI_lt {a b d : Nat} (ha : a < 2 ^ 30) (hb : b < 2 ^ 30) (hd : d < 2 ^ 30) : nI a - nI b < nI d ↔ a < d + b := by
  rw [Int32.lt_iff_toInt_lt, pk_sub_toInt ha hb, nI_toInt (by omega)]
  omega
set_option maxHeartbeats 4000000 in
set_option maxRecDepth 100000 in
theorem c_M_nextOf {G : GE} {h0 h : AH} {m : Nat} {S : MS} (hM : MW h0 h m S) {cr : Nat} (hC : S.1 28 = nI cr) (hcr : cr ≤ 3) (s way : Nat) (hs : s < 2 + 2 * cr) (hw : way ≤ 1) : Ctr G y_M_nextOf b_M_nextOf 5 (some .int) r_M_nextOf [.ref m, .int (nI s), .int (nI way)] h (Pu (.int (nextI cr s way)) h) := by
  have hml : cr * s ≤ 3 * 8 := Nat.mul_le_mul (by omega) (by omega)
  have hdv : 2 ≤ s → (s - 2) / cr < 2 := fun q => Nat.div_lt_of_lt_mul (by omega)
  have hrv : (s - 2) % cr ≤ s - 2 := Nat.mod_le _ _
  generalize he : (s - 2) / cr = e at *
  generalize hr : (s - 2) % cr = r at *
  refine Ctr.of (by decide +kernel) (by simp) (Nat.le_of_ble_eq_true rfl) (L0 := [some (.ref m), some (.int (nI s)), some (.int (nI way)), none, none]) rfl ?_
  refine A_iload_n1 d_M_nextOf_0 ?_
  refine A_iconst (v := nI 2) d_M_nextOf_1 (by decide) ?_
  first | refine A_icmp_ltN (tgt := 52) d_M_nextOf_2 (by decide) (by with_reducible rfl) (by with_reducible rfl) (by omega) (by omega) (fun c_2 => ?_) (fun c_2 => ?_) | refine A_icmp_lt (tgt := 52) d_M_nextOf_2 (by decide) (fun c_2 => ?_) (fun c_2 => ?_)
  · refine A_iload_n2 d_M_nextOf_52 ?_
    first | refine A_if_neN (tgt := 60) d_M_nextOf_53 (by decide) (by with_reducible rfl) (by omega) (fun c_53 => ?_) (fun c_53 => ?_) | refine A_if_ne (tgt := 60) d_M_nextOf_53 (by decide) (fun c_53 => ?_) (fun c_53 => ?_)
    · refine A_aload_n0 d_M_nextOf_60 ?_
      refine A_getf (kf := 28) d_M_nextOf_61 hM.o ok_8 (by decide) q_1077 rfl ?_
      refine A_topI hC ?_
      first | refine A_if_neN (tgt := 73) d_M_nextOf_64 (by decide) (by with_reducible rfl) (by omega) (fun c_64 => ?_) (fun c_64 => ?_) | refine A_if_ne (tgt := 73) d_M_nextOf_64 (by decide) (fun c_64 => ?_) (fun c_64 => ?_)
      · refine A_iconst (v := nI 2) d_M_nextOf_73 (by decide) ?_
        refine A_aload_n0 d_M_nextOf_74 ?_
        refine A_getf (kf := 28) d_M_nextOf_75 hM.o ok_8 (by decide) q_1077 rfl ?_
        refine A_topI hC ?_
        refine A_iload_n1 d_M_nextOf_78 ?_
        first | refine A_imulN d_M_nextOf_79 (by with_reducible rfl) (by with_reducible rfl) ?_ | refine A_imul d_M_nextOf_79 ?_
        first | refine A_iaddN d_M_nextOf_80 (by with_reducible rfl) (by with_reducible rfl) ?_ | refine A_iadd d_M_nextOf_80 ?_
        refine A_iret d_M_nextOf_81 rfl ⟨Nat.zero_le _, Nat.zero_le _⟩ ?_
        first
          | (exfalso; omega)
          | exact pu (by unfold nextI nextN; rw [he, hr]; first | rw [if_pos ⟨by omega, by omega⟩] | (rw [if_neg (by omega), if_pos (by omega), if_pos c_38]; done) | (rw [if_neg (by omega), if_pos (by omega), if_neg (by omega)]; done) | (rw [if_neg (by omega), if_neg (by omega), if_pos (by omega)]; done) | (rw [if_neg (by omega), if_neg (by omega), if_neg (by omega), if_pos (by omega)]; done) | (rw [if_neg (by omega), if_neg (by omega), if_neg (by omega), if_neg (by omega)]; done))
      · refine A_iconst (v := nI 1) d_M_nextOf_67 (by decide) ?_
        refine A_iload_n1 d_M_nextOf_68 ?_
        first | refine A_isubN d_M_nextOf_69 (by with_reducible rfl) (by with_reducible rfl) (by omega) ?_ | refine A_isub d_M_nextOf_69 ?_
        refine A_goto (tgt := 81) d_M_nextOf_70 (by decide) ?_
        refine A_iret d_M_nextOf_81 rfl ⟨Nat.zero_le _, Nat.zero_le _⟩ ?_
        first
          | (exfalso; omega)
          | exact pu (by unfold nextI nextN; rw [he, hr]; first | rw [if_pos ⟨by omega, by omega⟩] | (rw [if_neg (by omega), if_pos (by omega), if_pos c_38]; done) | (rw [if_neg (by omega), if_pos (by omega), if_neg (by omega)]; done) | (rw [if_neg (by omega), if_neg (by omega), if_pos (by omega)]; done) | (rw [if_neg (by omega), if_neg (by omega), if_neg (by omega), if_pos (by omega)]; done) | (rw [if_neg (by omega), if_neg (by omega), if_neg (by omega), if_neg (by omega)]; done))
    · refine A_iload_n1 d_M_nextOf_56 ?_
      refine A_goto (tgt := 81) d_M_nextOf_57 (by decide) ?_
      refine A_iret d_M_nextOf_81 rfl ⟨Nat.zero_le _, Nat.zero_le _⟩ ?_
      first
        | (exfalso; omega)
        | exact pu (by unfold nextI nextN; rw [he, hr]; first | rw [if_pos ⟨by omega, by omega⟩] | (rw [if_neg (by omega), if_pos (by omega), if_pos c_38]; done) | (rw [if_neg (by omega), if_pos (by omega), if_neg (by omega)]; done) | (rw [if_neg (by omega), if_neg (by omega), if_pos (by omega)]; done) | (rw [if_neg (by omega), if_neg (by omega), if_neg (by omega), if_pos (by omega)]; done) | (rw [if_neg (by omega), if_neg (by omega), if_neg (by omega), if_neg (by omega)]; done))
  · refine A_iload_n1 d_M_nextOf_5 ?_
    refine A_iconst (v := nI 2) d_M_nextOf_6 (by decide) ?_
    first | refine A_isubN d_M_nextOf_7 (by with_reducible rfl) (by with_reducible rfl) (by omega) ?_ | refine A_isub d_M_nextOf_7 ?_
    refine A_istore3 d_M_nextOf_8 trivial ?_
    refine A_iload_n3 d_M_nextOf_9 ?_
    refine A_aload_n0 d_M_nextOf_10 ?_
    refine A_getf (kf := 28) d_M_nextOf_11 hM.o ok_8 (by decide) q_1077 rfl ?_
    refine A_topI hC ?_
    refine A_idivN d_M_nextOf_14 (by with_reducible rfl) (by with_reducible rfl) (by omega) ?_
    refine A_topI (congrArg nI he) ?_
    refine A_istore4 d_M_nextOf_15 trivial ?_
    refine A_iload_n2 d_M_nextOf_17 ?_
    refine A_iconst (v := nI 1) d_M_nextOf_18 (by decide) ?_
    first | refine A_icmp_neN (tgt := 26) d_M_nextOf_19 (by decide) (by with_reducible rfl) (by with_reducible rfl) (by omega) (by omega) (fun c_19 => ?_) (fun c_19 => ?_) | refine A_icmp_ne (tgt := 26) d_M_nextOf_19 (by decide) (fun c_19 => ?_) (fun c_19 => ?_)
    · refine A_iload_n3 d_M_nextOf_26 ?_
      refine A_aload_n0 d_M_nextOf_27 ?_
      refine A_getf (kf := 28) d_M_nextOf_28 hM.o ok_8 (by decide) q_1077 rfl ?_
      refine A_topI hC ?_
      refine A_iremN d_M_nextOf_31 (by with_reducible rfl) (by with_reducible rfl) (by omega) ?_
      refine A_topI (congrArg nI hr) ?_
      refine A_aload_n0 d_M_nextOf_32 ?_
      refine A_getf (kf := 28) d_M_nextOf_33 hM.o ok_8 (by decide) q_1077 rfl ?_
      refine A_topI hC ?_
      refine A_iconst (v := nI 1) d_M_nextOf_36 (by decide) ?_
      first | refine A_isubN d_M_nextOf_37 (by with_reducible rfl) (by with_reducible rfl) (by omega) ?_ | refine A_isub d_M_nextOf_37 ?_
      first | refine A_icmp_geN (tgt := 47) d_M_nextOf_38 (by decide) (by with_reducible rfl) (by with_reducible rfl) (by omega) (by omega) (fun c_38 => ?_) (fun c_38 => ?_) | refine A_icmp_ge (tgt := 47) d_M_nextOf_38 (by decide) (fun c_38 => ?_) (fun c_38 => ?_)
      · refine A_iconst (v := nI 1) d_M_nextOf_47 (by decide) ?_
        refine A_iload4 d_M_nextOf_48 ?_
        first | refine A_isubN d_M_nextOf_50 (by with_reducible rfl) (by with_reducible rfl) (by omega) ?_ | refine A_isub d_M_nextOf_50 ?_
        refine A_iret d_M_nextOf_51 rfl ⟨Nat.zero_le _, Nat.zero_le _⟩ ?_
        first
          | (exfalso; omega)
          | exact pu (by unfold nextI nextN; rw [he, hr]; first | rw [if_pos ⟨by omega, by omega⟩] | (rw [if_neg (by omega), if_pos (by omega), if_pos c_38]; done) | (rw [if_neg (by omega), if_pos (by omega), if_neg (by omega)]; done) | (rw [if_neg (by omega), if_neg (by omega), if_pos (by omega)]; done) | (rw [if_neg (by omega), if_neg (by omega), if_neg (by omega), if_pos (by omega)]; done) | (rw [if_neg (by omega), if_neg (by omega), if_neg (by omega), if_neg (by omega)]; done))
      · refine A_iload_n1 d_M_nextOf_41 ?_
        refine A_iconst (v := nI 1) d_M_nextOf_42 (by decide) ?_
        first | refine A_iaddN d_M_nextOf_43 (by with_reducible rfl) (by with_reducible rfl) ?_ | refine A_iadd d_M_nextOf_43 ?_
        refine A_goto (tgt := 51) d_M_nextOf_44 (by decide) ?_
        refine A_iret d_M_nextOf_51 rfl ⟨Nat.zero_le _, Nat.zero_le _⟩ ?_
        first
          | (exfalso; omega)
          | exact pu (by unfold nextI nextN; rw [he, hr]; first | rw [if_pos ⟨by omega, by omega⟩] | (rw [if_neg (by omega), if_pos (by omega), if_pos c_38]; done) | (rw [if_neg (by omega), if_pos (by omega), if_neg (by omega)]; done) | (rw [if_neg (by omega), if_neg (by omega), if_pos (by omega)]; done) | (rw [if_neg (by omega), if_neg (by omega), if_neg (by omega), if_pos (by omega)]; done) | (rw [if_neg (by omega), if_neg (by omega), if_neg (by omega), if_neg (by omega)]; done))
    · refine A_iconst (v := (-1)) d_M_nextOf_22 (by decide) ?_
      refine A_goto (tgt := 51) d_M_nextOf_23 (by decide) ?_
      refine A_iret d_M_nextOf_51 rfl ⟨Nat.zero_le _, Nat.zero_le _⟩ ?_
      first
        | (exfalso; omega)
        | exact pu (by unfold nextI nextN; rw [he, hr]; first | rw [if_pos ⟨by omega, by omega⟩] | (rw [if_neg (by omega), if_pos (by omega), if_pos c_38]; done) | (rw [if_neg (by omega), if_pos (by omega), if_neg (by omega)]; done) | (rw [if_neg (by omega), if_neg (by omega), if_pos (by omega)]; done) | (rw [if_neg (by omega), if_neg (by omega), if_neg (by omega), if_pos (by omega)]; done) | (rw [if_neg (by omega), if_neg (by omega), if_neg (by omega), if_neg (by omega)]; done))
set_option maxHeartbeats 4000000 in
set_option maxRecDepth 100000 in
theorem c_M_goesTo {G : GE} {h0 h : AH} {m : Nat} {S : MS} (hM : MW h0 h m S) {cr : Nat} (hC : S.1 28 = nI cr) (hcr : cr ≤ 3) (s to : Nat) (hs : s < 2 + 2 * cr) (hto : to < 2 + 2 * cr) : Ctr G y_M_goesTo b_M_goesTo 3 (some .boolean) r_M_goesTo [.ref m, .int (nI s), .int (nI to)] h (Pu (.int (bI (goesB cr s to))) h) := by
  refine Ctr.of (by decide +kernel) (by simp) (Nat.le_of_ble_eq_true rfl) (L0 := [some (.ref m), some (.int (nI s)), some (.int (nI to))]) rfl ?_
  refine A_aload_n0 d_M_goesTo_0 ?_
  refine A_iload_n1 d_M_goesTo_1 ?_
  refine A_iconst (v := nI 0) d_M_goesTo_2 (by decide) ?_
  refine A_callVP d_M_goesTo_3 (c_M_nextOf hM hC hcr s 0 hs (by decide)) hM.o rfl q_1488 q_1490 qs_64 mk_M_nextOf rfl (by decide) rfl (Nat.le_of_ble_eq_true rfl) ⟨Nat.le_of_ble_eq_true rfl, Nat.le_of_ble_eq_true rfl⟩ ⟨rfl, rfl⟩ ?_
  refine A_topI (show nextI cr s 0 = nI (nextN cr s 0) from if_neg (by omega)) ?_
  have hn0 := nextN_lt (way := 0) hs
  have hn1 := nextN_lt (way := 1) hs
  refine A_iload_n2 d_M_goesTo_6 ?_
  first | refine A_icmp_eqN (tgt := 20) d_M_goesTo_7 (by decide) (by with_reducible rfl) (by with_reducible rfl) (by omega) (by omega) (fun c_7 => ?_) (fun c_7 => ?_) | refine A_icmp_eq (tgt := 20) d_M_goesTo_7 (by decide) (fun c_7 => ?_) (fun c_7 => ?_)
  · refine A_iconst (v := nI 1) d_M_goesTo_20 (by decide) ?_
    refine A_goto (tgt := 25) d_M_goesTo_21 (by decide) ?_
    refine A_zret d_M_goesTo_25 rfl (by decide) ⟨Nat.zero_le _, Nat.zero_le _⟩ ?_
    exact pu (by unfold goesB; first | (rw [decide_eq_true c_7]; rfl) | (rw [decide_eq_false c_7, decide_eq_true (p := s < 2) (by omega), decide_eq_true c_17]; rfl) | (rw [decide_eq_false c_7, decide_eq_true (p := s < 2) (by omega), decide_eq_false c_17]; rfl))
  · refine A_aload_n0 d_M_goesTo_10 ?_
    refine A_iload_n1 d_M_goesTo_11 ?_
    refine A_iconst (v := nI 1) d_M_goesTo_12 (by decide) ?_
    refine A_callVP d_M_goesTo_13 (c_M_nextOf hM hC hcr s 1 hs (by decide)) hM.o rfl q_1488 q_1490 qs_64 mk_M_nextOf rfl (by decide) rfl (Nat.le_of_ble_eq_true rfl) ⟨Nat.le_of_ble_eq_true rfl, Nat.le_of_ble_eq_true rfl⟩ ⟨rfl, rfl⟩ ?_
    by_cases q2 : 2 ≤ s
    · refine A_topI (show nextI cr s 1 = -1 from if_pos ⟨q2, rfl⟩) ?_
      refine A_iload_n2 d_M_goesTo_16 ?_
      refine A_icmp_ne (tgt := 24) d_M_goesTo_17 (by decide) (fun _ => ?_) (fun c_17 => absurd c_17 (by intro z; have z2 := congrArg Int32.toInt z; rw [nI_toInt (by omega)] at z2; have : (-1 : Int32).toInt = -1 := rfl; omega))
      refine A_iconst (v := nI 0) d_M_goesTo_24 (by decide) ?_
      refine A_zret d_M_goesTo_25 rfl (by decide) ⟨Nat.zero_le _, Nat.zero_le _⟩ ?_
      exact pu (by unfold goesB; rw [decide_eq_false c_7, decide_eq_false (p := s < 2) (by omega)]; rfl)
    refine A_topI (show nextI cr s 1 = nI (nextN cr s 1) from if_neg (by omega)) ?_
    refine A_iload_n2 d_M_goesTo_16 ?_
    first | refine A_icmp_neN (tgt := 24) d_M_goesTo_17 (by decide) (by with_reducible rfl) (by with_reducible rfl) (by omega) (by omega) (fun c_17 => ?_) (fun c_17 => ?_) | refine A_icmp_ne (tgt := 24) d_M_goesTo_17 (by decide) (fun c_17 => ?_) (fun c_17 => ?_)
    · refine A_iconst (v := nI 0) d_M_goesTo_24 (by decide) ?_
      refine A_zret d_M_goesTo_25 rfl (by decide) ⟨Nat.zero_le _, Nat.zero_le _⟩ ?_
      exact pu (by unfold goesB; first | (rw [decide_eq_true c_7]; rfl) | (rw [decide_eq_false c_7, decide_eq_true (p := s < 2) (by omega), decide_eq_true c_17]; rfl) | (rw [decide_eq_false c_7, decide_eq_true (p := s < 2) (by omega), decide_eq_false c_17]; rfl))
    · refine A_iconst (v := nI 1) d_M_goesTo_20 (by decide) ?_
      refine A_goto (tgt := 25) d_M_goesTo_21 (by decide) ?_
      refine A_zret d_M_goesTo_25 rfl (by decide) ⟨Nat.zero_le _, Nat.zero_le _⟩ ?_
      exact pu (by unfold goesB; first | (rw [decide_eq_true c_7]; rfl) | (rw [decide_eq_false c_7, decide_eq_true (p := s < 2) (by omega), decide_eq_true c_17]; rfl) | (rw [decide_eq_false c_7, decide_eq_true (p := s < 2) (by omega), decide_eq_false c_17]; rfl))
def carB (s to : Nat) : Bool := decide (to < 2) && !decide (s = to)
set_option maxHeartbeats 4000000 in
set_option maxRecDepth 100000 in
theorem c_M_carries {G : GE} {h0 h : AH} {m : Nat} {S : MS} (hM : MW h0 h m S) (s to : Nat) (hs : s < 2 ^ 31) (hto : to < 2 ^ 31) : Ctr G y_M_carries b_M_carries 3 (some .boolean) r_M_carries [.ref m, .int (nI s), .int (nI to)] h (Pu (.int (bI (carB s to))) h) := by
  refine Ctr.of (by decide +kernel) (by simp) (Nat.le_of_ble_eq_true rfl) (L0 := [some (.ref m), some (.int (nI s)), some (.int (nI to))]) rfl ?_
  refine A_iload_n2 d_M_carries_0 ?_
  refine A_iconst (v := nI 2) d_M_carries_1 (by decide) ?_
  first | refine A_icmp_geN (tgt := 14) d_M_carries_2 (by decide) (by with_reducible rfl) (by with_reducible rfl) (by omega) (by omega) (fun c_2 => ?_) (fun c_2 => ?_) | refine A_icmp_ge (tgt := 14) d_M_carries_2 (by decide) (fun c_2 => ?_) (fun c_2 => ?_)
  · refine A_iconst (v := nI 0) d_M_carries_14 (by decide) ?_
    refine A_zret d_M_carries_15 rfl (by decide) ⟨Nat.zero_le _, Nat.zero_le _⟩ ?_
    exact pu (by unfold carB; first | (rw [decide_eq_false (p := to < 2) (by omega)]; rfl) | (rw [decide_eq_true (p := to < 2) (by omega), decide_eq_true c_7]; rfl) | (rw [decide_eq_true (p := to < 2) (by omega), decide_eq_false c_7]; rfl))
  · refine A_iload_n1 d_M_carries_5 ?_
    refine A_iload_n2 d_M_carries_6 ?_
    first | refine A_icmp_eqN (tgt := 14) d_M_carries_7 (by decide) (by with_reducible rfl) (by with_reducible rfl) (by omega) (by omega) (fun c_7 => ?_) (fun c_7 => ?_) | refine A_icmp_eq (tgt := 14) d_M_carries_7 (by decide) (fun c_7 => ?_) (fun c_7 => ?_)
    · refine A_iconst (v := nI 0) d_M_carries_14 (by decide) ?_
      refine A_zret d_M_carries_15 rfl (by decide) ⟨Nat.zero_le _, Nat.zero_le _⟩ ?_
      exact pu (by unfold carB; first | (rw [decide_eq_false (p := to < 2) (by omega)]; rfl) | (rw [decide_eq_true (p := to < 2) (by omega), decide_eq_true c_7]; rfl) | (rw [decide_eq_true (p := to < 2) (by omega), decide_eq_false c_7]; rfl))
    · refine A_iconst (v := nI 1) d_M_carries_10 (by decide) ?_
      refine A_goto (tgt := 15) d_M_carries_11 (by decide) ?_
      refine A_zret d_M_carries_15 rfl (by decide) ⟨Nat.zero_le _, Nat.zero_le _⟩ ?_
      exact pu (by unfold carB; first | (rw [decide_eq_false (p := to < 2) (by omega)]; rfl) | (rw [decide_eq_true (p := to < 2) (by omega), decide_eq_true c_7]; rfl) | (rw [decide_eq_true (p := to < 2) (by omega), decide_eq_false c_7]; rfl))
set_option maxHeartbeats 4000000 in
set_option maxRecDepth 100000 in
theorem c_M_fitsDark {G : GE} {h0 h : AH} {m : Nat} {S : MS} (hM : MW h0 h m S) {V : Nat → Nat} (ok : VOK V) (hN : ND S V) (d0 d1 : Nat) (h0 : d0 < 2 ^ 30) (h1 : d1 < 2 ^ 30) : Ctr G y_M_fitsDark b_M_fitsDark 3 (some .boolean) r_M_fitsDark [.ref m, .int (nI d0), .int (nI d1)] h (Pu (.int (bI (fitsB V d0 d1))) h) := by
  have q1 := needN_le ok 0
  have q2 := needN_le ok 1
  have q3 := lightN_le ok 0
  have q4 := lightN_le ok 1
  have hH := ok.1
  refine Ctr.of (by decide +kernel) (by simp) (Nat.le_of_ble_eq_true rfl) (L0 := [some (.ref m), some (.int (nI d0)), some (.int (nI d1))]) rfl ?_
  refine A_iload_n1 d_M_fitsDark_0 ?_
  refine A_aload_n0 d_M_fitsDark_1 ?_
  refine A_getf (kf := 41) d_M_fitsDark_2 hM.o ok_8 (by decide) q_1090 rfl ?_
  refine A_topI hN.1 ?_
  first | refine A_icmp_ltN (tgt := 36) d_M_fitsDark_5 (by decide) (by with_reducible rfl) (by with_reducible rfl) (by omega) (by omega) (fun c_5 => ?_) (fun c_5 => ?_) | refine A_icmp_lt (tgt := 36) d_M_fitsDark_5 (by decide) (fun c_5 => ?_) (fun c_5 => ?_)
  · refine A_iconst (v := nI 0) d_M_fitsDark_36 (by decide) ?_
    refine A_zret d_M_fitsDark_37 rfl (by decide) ⟨Nat.zero_le _, Nat.zero_le _⟩ ?_
    have z0 : ∀ {d e : Nat}, ¬ (nI (V 0) - nI e < nI d) → d < 2 ^ 30 → e < 2 ^ 30 → d + e ≤ V 0 := fun q a b => by rw [subI_lt (by omega) b a] at q; omega
    have z1 : ∀ {d e : Nat}, (nI (V 0) - nI e < nI d) → d < 2 ^ 30 → e < 2 ^ 30 → ¬ d + e ≤ V 0 := fun q a b => by rw [subI_lt (by omega) b a] at q; omega
    first
      | exact pu (by rw [fitsB_iff.mpr ⟨by omega, z0 c_13 (by omega) (by omega), by omega, z0 c_29 (by omega) (by omega)⟩]; rfl)
      | exact pu (by rw [show fitsB V d0 d1 = false from Bool.eq_false_iff.mpr (fun z => by have z := fitsB_iff.mp z; first | (exfalso; omega) | exact absurd z.2.1 (z1 c_13 (by omega) (by omega)) | exact absurd z.2.2.2 (z1 c_29 (by omega) (by omega)))]; rfl)
  · refine A_iload_n1 d_M_fitsDark_8 ?_
    refine A_aload_n0 d_M_fitsDark_9 ?_
    refine A_getf (kf := 43) d_M_fitsDark_10 hM.o ok_8 (by decide) q_1092 rfl ?_
    refine A_topI hN.2.2.1 ?_
    first | refine A_icmp_gtN (tgt := 36) d_M_fitsDark_13 (by decide) (by with_reducible rfl) (by with_reducible rfl) (by omega) (by omega) (fun c_13 => ?_) (fun c_13 => ?_) | refine A_icmp_gt (tgt := 36) d_M_fitsDark_13 (by decide) (fun c_13 => ?_) (fun c_13 => ?_)
    · refine A_iconst (v := nI 0) d_M_fitsDark_36 (by decide) ?_
      refine A_zret d_M_fitsDark_37 rfl (by decide) ⟨Nat.zero_le _, Nat.zero_le _⟩ ?_
      have z0 : ∀ {d e : Nat}, ¬ (nI (V 0) - nI e < nI d) → d < 2 ^ 30 → e < 2 ^ 30 → d + e ≤ V 0 := fun q a b => by rw [subI_lt (by omega) b a] at q; omega
      have z1 : ∀ {d e : Nat}, (nI (V 0) - nI e < nI d) → d < 2 ^ 30 → e < 2 ^ 30 → ¬ d + e ≤ V 0 := fun q a b => by rw [subI_lt (by omega) b a] at q; omega
      first
        | exact pu (by rw [fitsB_iff.mpr ⟨by omega, z0 c_13 (by omega) (by omega), by omega, z0 c_29 (by omega) (by omega)⟩]; rfl)
        | exact pu (by rw [show fitsB V d0 d1 = false from Bool.eq_false_iff.mpr (fun z => by have z := fitsB_iff.mp z; first | (exfalso; omega) | exact absurd z.2.1 (z1 c_13 (by omega) (by omega)) | exact absurd z.2.2.2 (z1 c_29 (by omega) (by omega)))]; rfl)
    · refine A_iload_n2 d_M_fitsDark_16 ?_
      refine A_aload_n0 d_M_fitsDark_17 ?_
      refine A_getf (kf := 42) d_M_fitsDark_18 hM.o ok_8 (by decide) q_1091 rfl ?_
      refine A_topI hN.2.1 ?_
      first | refine A_icmp_ltN (tgt := 36) d_M_fitsDark_21 (by decide) (by with_reducible rfl) (by with_reducible rfl) (by omega) (by omega) (fun c_21 => ?_) (fun c_21 => ?_) | refine A_icmp_lt (tgt := 36) d_M_fitsDark_21 (by decide) (fun c_21 => ?_) (fun c_21 => ?_)
      · refine A_iconst (v := nI 0) d_M_fitsDark_36 (by decide) ?_
        refine A_zret d_M_fitsDark_37 rfl (by decide) ⟨Nat.zero_le _, Nat.zero_le _⟩ ?_
        have z0 : ∀ {d e : Nat}, ¬ (nI (V 0) - nI e < nI d) → d < 2 ^ 30 → e < 2 ^ 30 → d + e ≤ V 0 := fun q a b => by rw [subI_lt (by omega) b a] at q; omega
        have z1 : ∀ {d e : Nat}, (nI (V 0) - nI e < nI d) → d < 2 ^ 30 → e < 2 ^ 30 → ¬ d + e ≤ V 0 := fun q a b => by rw [subI_lt (by omega) b a] at q; omega
        first
          | exact pu (by rw [fitsB_iff.mpr ⟨by omega, z0 c_13 (by omega) (by omega), by omega, z0 c_29 (by omega) (by omega)⟩]; rfl)
          | exact pu (by rw [show fitsB V d0 d1 = false from Bool.eq_false_iff.mpr (fun z => by have z := fitsB_iff.mp z; first | (exfalso; omega) | exact absurd z.2.1 (z1 c_13 (by omega) (by omega)) | exact absurd z.2.2.2 (z1 c_29 (by omega) (by omega)))]; rfl)
      · refine A_iload_n2 d_M_fitsDark_24 ?_
        refine A_aload_n0 d_M_fitsDark_25 ?_
        refine A_getf (kf := 44) d_M_fitsDark_26 hM.o ok_8 (by decide) q_1093 rfl ?_
        refine A_topI hN.2.2.2.1 ?_
        first | refine A_icmp_gtN (tgt := 36) d_M_fitsDark_29 (by decide) (by with_reducible rfl) (by with_reducible rfl) (by omega) (by omega) (fun c_29 => ?_) (fun c_29 => ?_) | refine A_icmp_gt (tgt := 36) d_M_fitsDark_29 (by decide) (fun c_29 => ?_) (fun c_29 => ?_)
        · refine A_iconst (v := nI 0) d_M_fitsDark_36 (by decide) ?_
          refine A_zret d_M_fitsDark_37 rfl (by decide) ⟨Nat.zero_le _, Nat.zero_le _⟩ ?_
          have z0 : ∀ {d e : Nat}, ¬ (nI (V 0) - nI e < nI d) → d < 2 ^ 30 → e < 2 ^ 30 → d + e ≤ V 0 := fun q a b => by rw [subI_lt (by omega) b a] at q; omega
          have z1 : ∀ {d e : Nat}, (nI (V 0) - nI e < nI d) → d < 2 ^ 30 → e < 2 ^ 30 → ¬ d + e ≤ V 0 := fun q a b => by rw [subI_lt (by omega) b a] at q; omega
          first
            | exact pu (by rw [fitsB_iff.mpr ⟨by omega, z0 c_13 (by omega) (by omega), by omega, z0 c_29 (by omega) (by omega)⟩]; rfl)
            | exact pu (by rw [show fitsB V d0 d1 = false from Bool.eq_false_iff.mpr (fun z => by have z := fitsB_iff.mp z; first | (exfalso; omega) | exact absurd z.2.1 (z1 c_13 (by omega) (by omega)) | exact absurd z.2.2.2 (z1 c_29 (by omega) (by omega)))]; rfl)
        · refine A_iconst (v := nI 1) d_M_fitsDark_32 (by decide) ?_
          refine A_goto (tgt := 37) d_M_fitsDark_33 (by decide) ?_
          refine A_zret d_M_fitsDark_37 rfl (by decide) ⟨Nat.zero_le _, Nat.zero_le _⟩ ?_
          have z0 : ∀ {d e : Nat}, ¬ (nI (V 0) - nI e < nI d) → d < 2 ^ 30 → e < 2 ^ 30 → d + e ≤ V 0 := fun q a b => by rw [subI_lt (by omega) b a] at q; omega
          have z1 : ∀ {d e : Nat}, (nI (V 0) - nI e < nI d) → d < 2 ^ 30 → e < 2 ^ 30 → ¬ d + e ≤ V 0 := fun q a b => by rw [subI_lt (by omega) b a] at q; omega
          first
            | exact pu (by rw [fitsB_iff.mpr ⟨by omega, z0 c_13 (by omega) (by omega), by omega, z0 c_29 (by omega) (by omega)⟩]; rfl)
            | exact pu (by rw [show fitsB V d0 d1 = false from Bool.eq_false_iff.mpr (fun z => by have z := fitsB_iff.mp z; first | (exfalso; omega) | exact absurd z.2.1 (z1 c_13 (by omega) (by omega)) | exact absurd z.2.2.2 (z1 c_29 (by omega) (by omega)))]; rfl)
set_option maxHeartbeats 4000000 in
set_option maxRecDepth 100000 in
theorem c_M_layNeeds {G : GE} {h0 h : AH} {m : Nat} {S : MS} (hM : MW h0 h m S) {l : Nat} {V : Nat → Nat} (hS : HS S l V) : Ctr G y_M_layNeeds b_M_layNeeds 2 none r_M_layNeeds [.ref m] h (fun v h' => v = none ∧ ∃ S1, MW h0 h' m S1 ∧ ND S1 V ∧ (∀ j, (j < 41 ∨ 44 < j) → S1.1 j = S.1 j) ∧ (∀ k, k ≠ 40 → S1.2.2.1 k = S.2.2.1 k)) := by
  have ok := hS.ok
  have hH := ok.1
  have hP := ok.2.2.2.2.1
  have hV := ok.2.2.2.2.2.2.1
  have hS0 := hS
  have key2 : ∀ S2 : MS, (S2.1 41 = nI (needN V 0) ∧ S2.1 42 = nI (needN V 1) ∧ S2.1 43 = nI (V 0) - nI (lightN V 0) ∧ S2.1 44 = nI (V 0) - nI (lightN V 1)) → HS S2 l V → (∀ j, (j < 41 ∨ 44 < j) → S2.1 j = S.1 j) → (∀ k, k ≠ 40 → S2.2.2.1 k = S.2.2.1 k) → ∀ i, i ≤ V 0 → ∀ (h : AH) (S1 : MS), MW h0 h m S1 → (∀ j, S1.1 j = S2.1 j) → (∀ k, k ≠ 40 → S1.2.2.1 k = S2.2.2.1 k) → (∀ t, t < i → S1.2.2.1 40 t = nI (likedInN V 0 t) ∧ S1.2.2.1 40 (24 + t) = nI (likedInN V 1 t)) → WA G y_M_layNeeds b_M_layNeeds 2 none r_M_layNeeds 0 0 (fun v h' => v = none ∧ ∃ S1, MW h0 h' m S1 ∧ ND S1 V ∧ (∀ j, (j < 41 ∨ 44 < j) → S1.1 j = S.1 j) ∧ (∀ k, k ≠ 40 → S1.2.2.1 k = S.2.2.1 k)) 0 0 134 [some (.ref m), some (.int (nI i))] [] h := by
    intro S2 hn hS2 hf2 ha2
    refine down ?_ (fun i hi ih => ?_)
    · intro h S1 hM hf ha hk
      have hS : HS S1 l V := hS2.keepF (fun k hk => ha k (by omega)) (fun j a b => hf j)
      refine A_iload_n1 d_M_layNeeds_134 ?_
      refine A_aload_n0 d_M_layNeeds_135 ?_
      refine A_getf (kf := 27) d_M_layNeeds_136 hM.o ok_8 (by decide) q_1076 rfl ?_
      refine A_topI hS.hours ?_
      first | refine A_icmp_geN (tgt := 175) d_M_layNeeds_139 (by decide) (by with_reducible rfl) (by with_reducible rfl) (by omega) (by omega) (fun c_139 => ?_) (fun c_139 => ?_) | refine A_icmp_ge (tgt := 175) d_M_layNeeds_139 (by decide) (fun c_139 => ?_) (fun c_139 => ?_)
      · refine A_vret d_M_layNeeds_175 rfl ⟨Nat.zero_le _, Nat.zero_le _⟩ ?_
        exact ⟨rfl, S1, hM, ⟨(hf 41).trans hn.1, (hf 42).trans hn.2.1, (hf 43).trans hn.2.2.1, (hf 44).trans hn.2.2.2, hk⟩, fun j hj => (hf j).trans (hf2 j hj), fun k hk => (ha k hk).trans (ha2 k hk)⟩
      · exact absurd c_139 (by omega)
    · intro h S1 hM hf ha hk
      have hS : HS S1 l V := hS2.keepF (fun k hk => ha k (by omega)) (fun j a b => hf j)
      refine A_iload_n1 d_M_layNeeds_134 ?_
      refine A_aload_n0 d_M_layNeeds_135 ?_
      refine A_getf (kf := 27) d_M_layNeeds_136 hM.o ok_8 (by decide) q_1076 rfl ?_
      refine A_topI hS.hours ?_
      first | refine A_icmp_geN (tgt := 175) d_M_layNeeds_139 (by decide) (by with_reducible rfl) (by with_reducible rfl) (by omega) (by omega) (fun c_139 => ?_) (fun c_139 => ?_) | refine A_icmp_ge (tgt := 175) d_M_layNeeds_139 (by decide) (fun c_139 => ?_) (fun c_139 => ?_)
      · exact absurd c_139 (by omega)
      · refine A_aload_n0 d_M_layNeeds_142 ?_
        refine A_getf (kf := 40) d_M_layNeeds_143 hM.o ok_8 (by decide) q_1089 rfl ?_
        refine A_iload_n1 d_M_layNeeds_146 ?_
        refine A_aload_n0 d_M_layNeeds_147 ?_
        refine A_iconst (v := nI 0) d_M_layNeeds_148 (by decide) ?_
        refine A_iload_n1 d_M_layNeeds_149 ?_
        refine A_callVP d_M_layNeeds_150 (c_M_likedIn hM hS 0 i (by decide) (by omega)) hM.o rfl q_1379 q_1381 qs_42 mk_M_likedIn rfl (by decide) rfl (Nat.le_of_ble_eq_true rfl) ⟨Nat.le_of_ble_eq_true rfl, Nat.le_of_ble_eq_true rfl⟩ ⟨rfl, rfl⟩ ?_
        refine A_st40 hM d_M_layNeeds_153 (by omega) (fun h hM => ?_)
        obtain ⟨S3, hM, ez, fz, gz, -⟩ := opa hM
        have hS : HS S3 l V := hS.keepF (fun k hk => fz k (by omega)) (fun j a b => by rw [gz])
        refine A_aload_n0 d_M_layNeeds_154 ?_
        refine A_getf (kf := 40) d_M_layNeeds_155 hM.o ok_8 (by decide) q_1089 rfl ?_
        refine A_bipush (v := nI 24) d_M_layNeeds_158 (by decide) ?_
        refine A_iload_n1 d_M_layNeeds_160 ?_
        first | refine A_iaddN d_M_layNeeds_161 (by with_reducible rfl) (by with_reducible rfl) ?_ | refine A_iadd d_M_layNeeds_161 ?_
        refine A_aload_n0 d_M_layNeeds_162 ?_
        refine A_iconst (v := nI 1) d_M_layNeeds_163 (by decide) ?_
        refine A_iload_n1 d_M_layNeeds_164 ?_
        refine A_callVP d_M_layNeeds_165 (c_M_likedIn hM hS 1 i (by decide) (by omega)) hM.o rfl q_1379 q_1381 qs_42 mk_M_likedIn rfl (by decide) rfl (Nat.le_of_ble_eq_true rfl) ⟨Nat.le_of_ble_eq_true rfl, Nat.le_of_ble_eq_true rfl⟩ ⟨rfl, rfl⟩ ?_
        refine A_st40 hM d_M_layNeeds_168 (by omega) (fun h hM => ?_)
        obtain ⟨S4, hM, ez4, fz4, gz4, -⟩ := opa hM
        first | refine A_iinc1 d_M_layNeeds_169 (nI_1 _) trivial ?_ | refine A_iinc1 d_M_layNeeds_169 rfl trivial ?_
        refine A_goto (tgt := 134) d_M_layNeeds_172 (by decide) ?_
        refine ih _ _ hM (fun j => (by rw [gz4, gz]; exact hf j)) (fun k hk => (fz4 k hk).trans ((fz k hk).trans (ha k hk))) (fun t ht => ?_)
        rw [ez4, ez]
        by_cases r : t = i
        · subst r
          exact ⟨(fup_ne _ _ (by omega)).trans (fup_eq _ _ _), by first | exact fup_eq _ _ _ | (rw [show 24 + t = t + 24 by omega]; exact fup_eq _ _ _)⟩
        · exact ⟨(fup_ne _ _ (by omega)).trans ((fup_ne _ _ (by omega)).trans (hk t (by omega)).1), (fup_ne _ _ (by omega)).trans ((fup_ne _ _ (by omega)).trans (hk t (by omega)).2)⟩
  have bN0 : ∀ n, n ≤ V 4 → foldN (fun p x => if V (42 + 27 * p + 0) = 0 then max x (V (42 + 27 * p + 1)) else x) 0 n ≤ 12 := fun n hn => maxF_le n (fun p hp => (hV p (by omega)).2.1)
  have bN1 : ∀ n, n ≤ V 4 → foldN (fun p x => if V (42 + 27 * p + 0) = 1 then max x (V (42 + 27 * p + 1)) else x) 0 n ≤ 12 := fun n hn => maxF_le n (fun p hp => (hV p (by omega)).2.1)
  have bP0 : ∀ n, n ≤ V 4 → foldN (fun p x => if V (42 + 27 * p + 0) = 0 then max x (V (42 + 27 * p + 2)) else x) 0 n ≤ 12 := fun n hn => maxF_le n (fun p hp => (hV p (by omega)).2.2.1)
  have bP1 : ∀ n, n ≤ V 4 → foldN (fun p x => if V (42 + 27 * p + 0) = 1 then max x (V (42 + 27 * p + 2)) else x) 0 n ≤ 12 := fun n hn => maxF_le n (fun p hp => (hV p (by omega)).2.2.1)
  have y0 : needN V 0 = foldN (fun p x => if V (42 + 27 * p + 0) = 0 then max x (V (42 + 27 * p + 1)) else x) 0 (V 4) := rfl
  have y1 : needN V 1 = foldN (fun p x => if V (42 + 27 * p + 0) = 1 then max x (V (42 + 27 * p + 1)) else x) 0 (V 4) := rfl
  have y2 : lightN V 0 = foldN (fun p x => if V (42 + 27 * p + 0) = 0 then max x (V (42 + 27 * p + 2)) else x) 0 (V 4) := rfl
  have y3 : lightN V 1 = foldN (fun p x => if V (42 + 27 * p + 0) = 1 then max x (V (42 + 27 * p + 2)) else x) 0 (V 4) := rfl
  rw [y0, y1, y2, y3] at key2
  generalize hN0 : foldN (fun p x => if V (42 + 27 * p + 0) = 0 then max x (V (42 + 27 * p + 1)) else x) 0 = N0 at bN0 key2
  generalize hN1 : foldN (fun p x => if V (42 + 27 * p + 0) = 1 then max x (V (42 + 27 * p + 1)) else x) 0 = N1 at bN1 key2
  generalize hP0 : foldN (fun p x => if V (42 + 27 * p + 0) = 0 then max x (V (42 + 27 * p + 2)) else x) 0 = P0 at bP0 key2
  generalize hP1 : foldN (fun p x => if V (42 + 27 * p + 0) = 1 then max x (V (42 + 27 * p + 2)) else x) 0 = P1 at bP1 key2
  have key : ∀ i, i ≤ V 4 → ∀ (h : AH) (S1 : MS), MW h0 h m S1 → (∀ j, (j < 41 ∨ 44 < j) → S1.1 j = S.1 j) → S1.2 = S.2 → S1.1 41 = nI (N0 i) → S1.1 42 = nI (N1 i) → S1.1 43 = nI (V 0) - nI (P0 i) → S1.1 44 = nI (V 0) - nI (P1 i) → WA G y_M_layNeeds b_M_layNeeds 2 none r_M_layNeeds 0 0 (fun v h' => v = none ∧ ∃ S1, MW h0 h' m S1 ∧ ND S1 V ∧ (∀ j, (j < 41 ∨ 44 < j) → S1.1 j = S.1 j) ∧ (∀ k, k ≠ 40 → S1.2.2.1 k = S.2.2.1 k)) 0 0 28 [some (.ref m), some (.int (nI i))] [] h := by
    refine down ?_ (fun i hi ih => ?_)
    · intro h S1 hM hf he e41 e42 e43 e44
      have hS : HS S1 l V := hS0.keepF (Keep.of he) (fun j a b => hf j (by omega))
      refine A_iload_n1 d_M_layNeeds_28 ?_
      refine A_aload_n0 d_M_layNeeds_29 ?_
      refine A_getf (kf := 29) d_M_layNeeds_30 hM.o ok_8 (by decide) q_1078 rfl ?_
      refine A_topI hS.people ?_
      first | refine A_icmp_geN (tgt := 132) d_M_layNeeds_33 (by decide) (by with_reducible rfl) (by with_reducible rfl) (by omega) (by omega) (fun c_33 => ?_) (fun c_33 => ?_) | refine A_icmp_ge (tgt := 132) d_M_layNeeds_33 (by decide) (fun c_33 => ?_) (fun c_33 => ?_)
      · refine A_iconst (v := nI 0) d_M_layNeeds_132 (by decide) ?_
        refine A_istore1 d_M_layNeeds_133 trivial ?_
        exact key2 S1 ⟨e41, e42, e43, e44⟩ hS hf (fun k hk => by rw [he]) 0 (Nat.zero_le _) _ _ hM (fun _ => rfl) (fun _ _ => rfl) (fun t q => absurd q (Nat.not_lt_zero t))
      · exact absurd c_33 (by omega)
    · intro h S1 hM hf he e41 e42 e43 e44
      have hS : HS S1 l V := hS0.keepF (Keep.of he) (fun j a b => hf j (by omega))
      have b0 := bN0 i (by omega)
      have b1 := bN1 i (by omega)
      have b2 := bP0 i (by omega)
      have b3 := bP1 i (by omega)
      have hVi := hV i (by omega)
      obtain ⟨hv0, hv1, hv2, -⟩ := hVi
      refine A_iload_n1 d_M_layNeeds_28 ?_
      refine A_aload_n0 d_M_layNeeds_29 ?_
      refine A_getf (kf := 29) d_M_layNeeds_30 hM.o ok_8 (by decide) q_1078 rfl ?_
      refine A_topI hS.people ?_
      first | refine A_icmp_geN (tgt := 132) d_M_layNeeds_33 (by decide) (by with_reducible rfl) (by with_reducible rfl) (by omega) (by omega) (fun c_33 => ?_) (fun c_33 => ?_) | refine A_icmp_ge (tgt := 132) d_M_layNeeds_33 (by decide) (fun c_33 => ?_) (fun c_33 => ?_)
      · exact absurd c_33 (by omega)
      · refine A_aload_n0 d_M_layNeeds_36 ?_
        refine A_iload_n1 d_M_layNeeds_37 ?_
        refine A_iconst (v := nI 0) d_M_layNeeds_38 (by decide) ?_
        refine A_callVP d_M_layNeeds_39 (c_M_ofOne hM hS i 0 (by omega)) hM.o rfl q_1355 q_1357 qs_38 mk_M_ofOne rfl (by decide) rfl (Nat.le_of_ble_eq_true rfl) ⟨Nat.le_of_ble_eq_true rfl, Nat.le_of_ble_eq_true rfl⟩ ⟨rfl, rfl⟩ ?_
        first | refine A_if_neN (tgt := 87) d_M_layNeeds_42 (by decide) (by with_reducible rfl) (by omega) (fun c_42 => ?_) (fun c_42 => ?_) | refine A_if_ne (tgt := 87) d_M_layNeeds_42 (by decide) (fun c_42 => ?_) (fun c_42 => ?_)
        · refine A_aload_n0 d_M_layNeeds_87 ?_
          refine A_aload_n0 d_M_layNeeds_88 ?_
          refine A_getf (kf := 42) d_M_layNeeds_89 hM.o ok_8 (by decide) q_1091 rfl ?_
          refine A_topI e42 ?_
          refine A_aload_n0 d_M_layNeeds_92 ?_
          refine A_iload_n1 d_M_layNeeds_93 ?_
          refine A_iconst (v := nI 1) d_M_layNeeds_94 (by decide) ?_
          refine A_callVP d_M_layNeeds_95 (c_M_ofOne hM hS i 1 (by omega)) hM.o rfl q_1355 q_1357 qs_38 mk_M_ofOne rfl (by decide) rfl (Nat.le_of_ble_eq_true rfl) ⟨Nat.le_of_ble_eq_true rfl, Nat.le_of_ble_eq_true rfl⟩ ⟨rfl, rfl⟩ ?_
          refine A_callSP d_M_layNeeds_98 (c_M_greaterN _ _ (by omega) (by omega) _) q_1294 q_1295 mk_M_greater rfl (by decide) rfl (Nat.le_of_ble_eq_true rfl) ⟨Nat.le_of_ble_eq_true rfl, Nat.le_of_ble_eq_true rfl⟩ ⟨rfl, rfl⟩ ?_
          refine A_putM hM (kf := 42) (ty := .int) d_M_layNeeds_101 (by decide) q_1091 rfl (by decide +kernel) (by first | rfl | exact bI_nar _) rfl (Nat.le_of_ble_eq_true rfl) rfl (fun h hM => ?_)
          obtain ⟨S1, hM, ey, fy, gy⟩ := opq hM
          have hf : ∀ j, (j < 41 ∨ 44 < j) → S1.1 j = S.1 j := fun j hj => (fy j (by omega)).trans (hf j hj)
          have he : S1.2 = S.2 := gy.trans he
          have e41 := (fy 41 (by decide)).trans e41
          have e42 := ey
          have e43 := (fy 43 (by decide)).trans e43
          have e44 := (fy 44 (by decide)).trans e44
          have hS : HS S1 l V := hS0.keepF (Keep.of he) (fun j a b => hf j (by omega))
          refine A_aload_n0 d_M_layNeeds_104 ?_
          refine A_aload_n0 d_M_layNeeds_105 ?_
          refine A_getf (kf := 44) d_M_layNeeds_106 hM.o ok_8 (by decide) q_1093 rfl ?_
          refine A_topI e44 ?_
          refine A_aload_n0 d_M_layNeeds_109 ?_
          refine A_getf (kf := 27) d_M_layNeeds_110 hM.o ok_8 (by decide) q_1076 rfl ?_
          refine A_topI hS.hours ?_
          refine A_aload_n0 d_M_layNeeds_113 ?_
          refine A_iload_n1 d_M_layNeeds_114 ?_
          refine A_iconst (v := nI 2) d_M_layNeeds_115 (by decide) ?_
          refine A_callVP d_M_layNeeds_116 (c_M_ofOne hM hS i 2 (by omega)) hM.o rfl q_1355 q_1357 qs_38 mk_M_ofOne rfl (by decide) rfl (Nat.le_of_ble_eq_true rfl) ⟨Nat.le_of_ble_eq_true rfl, Nat.le_of_ble_eq_true rfl⟩ ⟨rfl, rfl⟩ ?_
          first | refine A_isubN d_M_layNeeds_119 (by with_reducible rfl) (by with_reducible rfl) (by omega) ?_ | refine A_isub d_M_layNeeds_119 ?_
          refine A_callSP d_M_layNeeds_120 (c_M_lesser _ _ _) q_1396 q_1397 mk_M_lesser rfl (by decide) rfl (Nat.le_of_ble_eq_true rfl) ⟨Nat.le_of_ble_eq_true rfl, Nat.le_of_ble_eq_true rfl⟩ ⟨rfl, rfl⟩ ?_
          refine A_topI (subI_min (by omega) (by omega) (by omega)) ?_
          refine A_putM hM (kf := 44) (ty := .int) d_M_layNeeds_123 (by decide) q_1093 rfl (by decide +kernel) (by first | rfl | exact bI_nar _) rfl (Nat.le_of_ble_eq_true rfl) rfl (fun h hM => ?_)
          obtain ⟨S1, hM, ey, fy, gy⟩ := opq hM
          have hf : ∀ j, (j < 41 ∨ 44 < j) → S1.1 j = S.1 j := fun j hj => (fy j (by omega)).trans (hf j hj)
          have he : S1.2 = S.2 := gy.trans he
          have e41 := (fy 41 (by decide)).trans e41
          have e42 := (fy 42 (by decide)).trans e42
          have e43 := (fy 43 (by decide)).trans e43
          have e44 := ey
          have hS : HS S1 l V := hS0.keepF (Keep.of he) (fun j a b => hf j (by omega))
          first | refine A_iinc1 d_M_layNeeds_126 (nI_1 _) trivial ?_ | refine A_iinc1 d_M_layNeeds_126 rfl trivial ?_
          refine A_goto (tgt := 28) d_M_layNeeds_129 (by decide) ?_
          have w0 : N0 (i + 1) = if V (42 + 27 * i + 0) = 0 then max (N0 i) (V (42 + 27 * i + 1)) else N0 i := by rw [← hN0]; rfl
          have w1 : N1 (i + 1) = if V (42 + 27 * i + 0) = 1 then max (N1 i) (V (42 + 27 * i + 1)) else N1 i := by rw [← hN1]; rfl
          have w2 : P0 (i + 1) = if V (42 + 27 * i + 0) = 0 then max (P0 i) (V (42 + 27 * i + 2)) else P0 i := by rw [← hP0]; rfl
          have w3 : P1 (i + 1) = if V (42 + 27 * i + 0) = 1 then max (P1 i) (V (42 + 27 * i + 2)) else P1 i := by rw [← hP1]; rfl
          first
            | rw [if_pos c_42] at w0 w2
            | rw [if_neg c_42] at w0 w2
          first
            | rw [if_neg (by omega)] at w1 w3
            | rw [if_pos (by omega)] at w1 w3
          exact ih _ _ hM hf he (by rw [w0]; exact e41) (by rw [w1]; exact e42) (by rw [w2]; exact e43) (by rw [w3]; exact e44)
        · refine A_aload_n0 d_M_layNeeds_45 ?_
          refine A_aload_n0 d_M_layNeeds_46 ?_
          refine A_getf (kf := 41) d_M_layNeeds_47 hM.o ok_8 (by decide) q_1090 rfl ?_
          refine A_topI e41 ?_
          refine A_aload_n0 d_M_layNeeds_50 ?_
          refine A_iload_n1 d_M_layNeeds_51 ?_
          refine A_iconst (v := nI 1) d_M_layNeeds_52 (by decide) ?_
          refine A_callVP d_M_layNeeds_53 (c_M_ofOne hM hS i 1 (by omega)) hM.o rfl q_1355 q_1357 qs_38 mk_M_ofOne rfl (by decide) rfl (Nat.le_of_ble_eq_true rfl) ⟨Nat.le_of_ble_eq_true rfl, Nat.le_of_ble_eq_true rfl⟩ ⟨rfl, rfl⟩ ?_
          refine A_callSP d_M_layNeeds_56 (c_M_greaterN _ _ (by omega) (by omega) _) q_1294 q_1295 mk_M_greater rfl (by decide) rfl (Nat.le_of_ble_eq_true rfl) ⟨Nat.le_of_ble_eq_true rfl, Nat.le_of_ble_eq_true rfl⟩ ⟨rfl, rfl⟩ ?_
          refine A_putM hM (kf := 41) (ty := .int) d_M_layNeeds_59 (by decide) q_1090 rfl (by decide +kernel) (by first | rfl | exact bI_nar _) rfl (Nat.le_of_ble_eq_true rfl) rfl (fun h hM => ?_)
          obtain ⟨S1, hM, ey, fy, gy⟩ := opq hM
          have hf : ∀ j, (j < 41 ∨ 44 < j) → S1.1 j = S.1 j := fun j hj => (fy j (by omega)).trans (hf j hj)
          have he : S1.2 = S.2 := gy.trans he
          have e41 := ey
          have e42 := (fy 42 (by decide)).trans e42
          have e43 := (fy 43 (by decide)).trans e43
          have e44 := (fy 44 (by decide)).trans e44
          have hS : HS S1 l V := hS0.keepF (Keep.of he) (fun j a b => hf j (by omega))
          refine A_aload_n0 d_M_layNeeds_62 ?_
          refine A_aload_n0 d_M_layNeeds_63 ?_
          refine A_getf (kf := 43) d_M_layNeeds_64 hM.o ok_8 (by decide) q_1092 rfl ?_
          refine A_topI e43 ?_
          refine A_aload_n0 d_M_layNeeds_67 ?_
          refine A_getf (kf := 27) d_M_layNeeds_68 hM.o ok_8 (by decide) q_1076 rfl ?_
          refine A_topI hS.hours ?_
          refine A_aload_n0 d_M_layNeeds_71 ?_
          refine A_iload_n1 d_M_layNeeds_72 ?_
          refine A_iconst (v := nI 2) d_M_layNeeds_73 (by decide) ?_
          refine A_callVP d_M_layNeeds_74 (c_M_ofOne hM hS i 2 (by omega)) hM.o rfl q_1355 q_1357 qs_38 mk_M_ofOne rfl (by decide) rfl (Nat.le_of_ble_eq_true rfl) ⟨Nat.le_of_ble_eq_true rfl, Nat.le_of_ble_eq_true rfl⟩ ⟨rfl, rfl⟩ ?_
          first | refine A_isubN d_M_layNeeds_77 (by with_reducible rfl) (by with_reducible rfl) (by omega) ?_ | refine A_isub d_M_layNeeds_77 ?_
          refine A_callSP d_M_layNeeds_78 (c_M_lesser _ _ _) q_1396 q_1397 mk_M_lesser rfl (by decide) rfl (Nat.le_of_ble_eq_true rfl) ⟨Nat.le_of_ble_eq_true rfl, Nat.le_of_ble_eq_true rfl⟩ ⟨rfl, rfl⟩ ?_
          refine A_topI (subI_min (by omega) (by omega) (by omega)) ?_
          refine A_putM hM (kf := 43) (ty := .int) d_M_layNeeds_81 (by decide) q_1092 rfl (by decide +kernel) (by first | rfl | exact bI_nar _) rfl (Nat.le_of_ble_eq_true rfl) rfl (fun h hM => ?_)
          obtain ⟨S1, hM, ey, fy, gy⟩ := opq hM
          have hf : ∀ j, (j < 41 ∨ 44 < j) → S1.1 j = S.1 j := fun j hj => (fy j (by omega)).trans (hf j hj)
          have he : S1.2 = S.2 := gy.trans he
          have e41 := (fy 41 (by decide)).trans e41
          have e42 := (fy 42 (by decide)).trans e42
          have e43 := ey
          have e44 := (fy 44 (by decide)).trans e44
          have hS : HS S1 l V := hS0.keepF (Keep.of he) (fun j a b => hf j (by omega))
          refine A_goto (tgt := 126) d_M_layNeeds_84 (by decide) ?_
          first | refine A_iinc1 d_M_layNeeds_126 (nI_1 _) trivial ?_ | refine A_iinc1 d_M_layNeeds_126 rfl trivial ?_
          refine A_goto (tgt := 28) d_M_layNeeds_129 (by decide) ?_
          have w0 : N0 (i + 1) = if V (42 + 27 * i + 0) = 0 then max (N0 i) (V (42 + 27 * i + 1)) else N0 i := by rw [← hN0]; rfl
          have w1 : N1 (i + 1) = if V (42 + 27 * i + 0) = 1 then max (N1 i) (V (42 + 27 * i + 1)) else N1 i := by rw [← hN1]; rfl
          have w2 : P0 (i + 1) = if V (42 + 27 * i + 0) = 0 then max (P0 i) (V (42 + 27 * i + 2)) else P0 i := by rw [← hP0]; rfl
          have w3 : P1 (i + 1) = if V (42 + 27 * i + 0) = 1 then max (P1 i) (V (42 + 27 * i + 2)) else P1 i := by rw [← hP1]; rfl
          first
            | rw [if_pos c_42] at w0 w2
            | rw [if_neg c_42] at w0 w2
          first
            | rw [if_neg (by omega)] at w1 w3
            | rw [if_pos (by omega)] at w1 w3
          exact ih _ _ hM hf he (by rw [w0]; exact e41) (by rw [w1]; exact e42) (by rw [w2]; exact e43) (by rw [w3]; exact e44)
  refine Ctr.of (by decide +kernel) (by simp) (Nat.le_of_ble_eq_true rfl) (L0 := [some (.ref m), none]) rfl ?_
  refine A_aload_n0 d_M_layNeeds_0 ?_
  refine A_iconst (v := nI 0) d_M_layNeeds_1 (by decide) ?_
  refine A_putM hM (kf := 41) (ty := .int) d_M_layNeeds_2 (by decide) q_1090 rfl (by decide +kernel) (by first | rfl | exact bI_nar _) rfl (Nat.le_of_ble_eq_true rfl) rfl (fun h hM => ?_)
  obtain ⟨Sx41, hM, e41, fx41, gx41⟩ := opq hM
  have hS : HS Sx41 l V := hS.keepF (Keep.of gx41) (fun j a b => fx41 j (by omega))
  refine A_aload_n0 d_M_layNeeds_5 ?_
  refine A_iconst (v := nI 0) d_M_layNeeds_6 (by decide) ?_
  refine A_putM hM (kf := 42) (ty := .int) d_M_layNeeds_7 (by decide) q_1091 rfl (by decide +kernel) (by first | rfl | exact bI_nar _) rfl (Nat.le_of_ble_eq_true rfl) rfl (fun h hM => ?_)
  obtain ⟨Sx42, hM, e42, fx42, gx42⟩ := opq hM
  have hS : HS Sx42 l V := hS.keepF (Keep.of gx42) (fun j a b => fx42 j (by omega))
  refine A_aload_n0 d_M_layNeeds_10 ?_
  refine A_aload_n0 d_M_layNeeds_11 ?_
  refine A_getf (kf := 27) d_M_layNeeds_12 hM.o ok_8 (by decide) q_1076 rfl ?_
  refine A_topI hS.hours ?_
  refine A_putM hM (kf := 43) (ty := .int) d_M_layNeeds_15 (by decide) q_1092 rfl (by decide +kernel) (by first | rfl | exact bI_nar _) rfl (Nat.le_of_ble_eq_true rfl) rfl (fun h hM => ?_)
  obtain ⟨Sx43, hM, e43, fx43, gx43⟩ := opq hM
  have hS : HS Sx43 l V := hS.keepF (Keep.of gx43) (fun j a b => fx43 j (by omega))
  refine A_aload_n0 d_M_layNeeds_18 ?_
  refine A_aload_n0 d_M_layNeeds_19 ?_
  refine A_getf (kf := 27) d_M_layNeeds_20 hM.o ok_8 (by decide) q_1076 rfl ?_
  refine A_topI hS.hours ?_
  refine A_putM hM (kf := 44) (ty := .int) d_M_layNeeds_23 (by decide) q_1093 rfl (by decide +kernel) (by first | rfl | exact bI_nar _) rfl (Nat.le_of_ble_eq_true rfl) rfl (fun h hM => ?_)
  obtain ⟨Sx44, hM, e44, fx44, gx44⟩ := opq hM
  have hS : HS Sx44 l V := hS.keepF (Keep.of gx44) (fun j a b => fx44 j (by omega))
  refine A_iconst (v := nI 0) d_M_layNeeds_26 (by decide) ?_
  refine A_istore1 d_M_layNeeds_27 trivial ?_
  have hf : ∀ j, (j < 41 ∨ 44 < j) → Sx44.1 j = S.1 j := fun j hj => (fx44 j (by omega)).trans ((fx43 j (by omega)).trans ((fx42 j (by omega)).trans (fx41 j (by omega))))
  exact key 0 (Nat.zero_le _) _ _ hM hf (gx44.trans (gx43.trans (gx42.trans gx41))) ((fx44 41 (by decide)).trans ((fx43 41 (by decide)).trans ((fx42 41 (by decide)).trans (e41.trans (by rw [← hN0]; rfl))))) ((fx44 42 (by decide)).trans ((fx43 42 (by decide)).trans (e42.trans (by rw [← hN1]; rfl)))) ((fx44 43 (by decide)).trans (e43.trans (by rw [← hP0, show foldN (fun p x => if V (42 + 27 * p + 0) = 0 then max x (V (42 + 27 * p + 2)) else x) 0 0 = 0 from rfl, nI_sub (Nat.zero_le _), Nat.sub_zero]))) (e44.trans (by rw [← hP1, show foldN (fun p x => if V (42 + 27 * p + 0) = 1 then max x (V (42 + 27 * p + 2)) else x) 0 0 = 0 from rfl, nI_sub (Nat.zero_le _), Nat.sub_zero]))
