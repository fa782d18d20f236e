def SB (S S1 : MS) : Prop := S1.1 = S.1 ∧ S1.2.2.1 = S.2.2.1
theorem SB.rf (S : MS) : SB S S := ⟨rfl, rfl⟩
theorem SB.tr {S S1 S2 : MS} (a : SB S S1) (b : SB S1 S2) : SB S S2 := ⟨b.1.trans a.1, b.2.trans a.2⟩
theorem SB.hs {S S1 : MS} (a : SB S S1) {l : Nat} {V : Nat → Nat} (h : HS S l V) : HS S1 l V := h.keepF (fun k _ => by rw [a.2]) (fun j _ _ => by rw [a.1])
theorem SB.nd {S S1 : MS} (a : SB S S1) {V : Nat → Nat} (h : ND S V) : ND S1 V := by
  obtain ⟨n1, n2, n3, n4, n5⟩ := h
  exact ⟨by rw [a.1]; exact n1, by rw [a.1]; exact n2, by rw [a.1]; exact n3, by rw [a.1]; exact n4, fun h hh => by rw [a.2]; exact n5 h hh⟩
theorem opb {h0 h : AH} {m : Nat} {S : MS} {k : Nat} {g : Nat → Int64} (hM : MW h0 h m (S.sb k g)) : ∃ S2 : MS, MW h0 h m S2 ∧ S2.2.2.2 k = g ∧ (∀ j, j ≠ k → S2.2.2.2 j = S.2.2.2 j) ∧ SB S S2 := ⟨_, hM, fup_eq _ _ _, fun j hj => fup_ne _ _ hj, rfl, rfl⟩
theorem nI_neM1 {a : Nat} (h : a < 2 ^ 31) : ¬ nI a = -1 := fun z => by
  have z2 := congrArg Int32.toInt z
  rw [nI_toInt h] at z2
  have : (-1 : Int32).toInt = -1 := rfl
  omega
def moN (a b : Nat) : Nat := if a = b then 1 else 0
theorem moN_le (a b : Nat) : moN a b ≤ 1 := by unfold moN; split <;> omega
theorem moI {a b : Nat} (ha : a < 2 ^ 31) (hb : b < 2 ^ 31) : bI (decide (nI a = nI b)) = nI (moN a b) := by
  unfold moN
  by_cases q : a = b
  · rw [if_pos q, decide_eq_true (by rw [q])]; rfl
  · rw [if_neg q, decide_eq_false (fun z => q ((nI_eq ha hb).mp z))]; rfl
theorem cmp0 {a : Nat} (ha : a < 2 ^ 63) : lg_cmp (lN a) 0 = nI (if a = 0 then 0 else 1) := by
  unfold lg_cmp
  have e : (0 : Int64) = lN 0 := rfl
  rw [e]
  by_cases q : a = 0
  · rw [if_pos q, if_neg (fun z => by have := (pk_lLT (by decide) ha).mp z; omega), if_pos (by rw [q])]; rfl
  · rw [if_neg q, if_pos ((pk_lLT (by decide) ha).mpr (by omega))]; rfl
def offN (to : Nat) : Nat := 625 * to + (25 * moN to 0 + moN to 1)
/-- what a state s brings to a place k of the next hour, of its first i places -/
def ctbN (cr : Nat) (f : Nat → Nat) (hh s way i k : Nat) : Nat := if 2 ≤ s ∧ way = 1 then 0 else if offN (nextN cr s way) ≤ k ∧ k - offN (nextN cr s way) < i ∧ (k - offN (nextN cr s way)) / 25 + (k - offN (nextN cr s way)) % 25 ≤ hh then f (625 * s + (k - offN (nextN cr s way))) else 0
theorem ctbN_0 {cr : Nat} {f : Nat → Nat} {hh s way k : Nat} : ctbN cr f hh s way 0 k = 0 := by
  unfold ctbN
  split
  · rfl
  · exact if_neg (fun z => absurd z.2.1 (Nat.not_lt_zero _))
theorem ctbN_at {cr : Nat} {f : Nat → Nat} {hh s way i : Nat} (hv : ¬ (2 ≤ s ∧ way = 1)) (hi : i / 25 + i % 25 ≤ hh) : ctbN cr f hh s way (i + 1) (offN (nextN cr s way) + i) = ctbN cr f hh s way i (offN (nextN cr s way) + i) + f (625 * s + i) := by
  unfold ctbN
  rw [if_neg hv, if_neg hv, show offN (nextN cr s way) + i - offN (nextN cr s way) = i by omega, if_pos ⟨by omega, by omega, hi⟩, if_neg (by omega), Nat.zero_add]
theorem ctbN_ne {cr : Nat} {f : Nat → Nat} {hh s way i k : Nat} (hk : k ≠ offN (nextN cr s way) + i) : ctbN cr f hh s way (i + 1) k = ctbN cr f hh s way i k := by
  unfold ctbN
  by_cases hv : 2 ≤ s ∧ way = 1
  · rw [if_pos hv, if_pos hv]
  · rw [if_neg hv, if_neg hv]
    generalize offN (nextN cr s way) = q at *
    by_cases c : q ≤ k ∧ k - q < i ∧ (k - q) / 25 + (k - q) % 25 ≤ hh
    · rw [if_pos c, if_pos ⟨c.1, by omega, c.2.2⟩]
    · rw [if_neg c, if_neg (fun z => c ⟨z.1, by omega, z.2.2⟩)]
theorem ctbN_far {cr : Nat} {f : Nat → Nat} {hh s way i k : Nat} (hi : ¬ i / 25 + i % 25 ≤ hh) : ctbN cr f hh s way (i + 1) k = ctbN cr f hh s way i k := by
  by_cases hk : k = offN (nextN cr s way) + i
  · subst hk
    unfold ctbN
    by_cases hv : 2 ≤ s ∧ way = 1
    · rw [if_pos hv, if_pos hv]
    · rw [if_neg hv, if_neg hv, show offN (nextN cr s way) + i - offN (nextN cr s way) = i by omega, if_neg (fun z => hi z.2.2), if_neg (fun z => hi z.2.2)]
  · exact ctbN_ne hk
theorem ctbN_no {cr : Nat} {f : Nat → Nat} {hh s way i k : Nat} (hf : f (625 * s + i) = 0) : ctbN cr f hh s way (i + 1) k = ctbN cr f hh s way i k := by
  by_cases hk : k = offN (nextN cr s way) + i
  · subst hk
    by_cases hv : 2 ≤ s ∧ way = 1
    · unfold ctbN; rw [if_pos hv, if_pos hv]
    · by_cases hi : i / 25 + i % 25 ≤ hh
      · rw [ctbN_at hv hi, hf, Nat.add_zero]
      · exact ctbN_far hi
  · exact ctbN_ne hk
def stepN (cr : Nat) (f : Nat → Nat) (hh n k : Nat) : Nat := sumN (fun s => ctbN cr f hh s 0 625 k + ctbN cr f hh s 1 625 k) n
/-- rounds from a first state by h hours on: how many at each place -/
def nowN (cr first : Nat) : Nat → Nat → Nat
  | 0, k => if k = offN first then 1 else 0
  | h + 1, k => stepN cr (nowN cr first h) (h + 1) (2 + 2 * cr) k
def lastN (cr first : Nat) (V f : Nat → Nat) (s n : Nat) : Nat := if goesB cr s first = true then sumN (fun d => if fitsB V (d / 25) (d % 25) = true then f (625 * s + d) else 0) n else 0
def fromN (cr first : Nat) (V : Nat → Nat) : Nat := sumN (fun s => lastN cr first V (nowN cr first (V 0 - 1)) s 625) (2 + 2 * cr)
def waysN (V : Nat → Nat) : Nat := sumN (fun s => fromN (V 1) s V) (2 + 2 * V 1)
theorem pred2 : ∀ cr, cr < 4 → ∀ to, to < 8 → sumN (fun s => (if nextN cr s 0 = to then 1 else 0) + (if s < 2 ∧ nextN cr s 1 = to then 1 else 0)) (2 + 2 * cr) ≤ 2 := by decide +kernel
theorem ctbN_le {cr : Nat} {f : Nat → Nat} {hh s way k M : Nat} (hf : ∀ k, f k ≤ M) (hh2 : hh ≤ 23) : ctbN cr f hh s way 625 k ≤ (if ¬ (2 ≤ s ∧ way = 1) ∧ nextN cr s way = k / 625 then 1 else 0) * M := by
  unfold ctbN
  by_cases hv : 2 ≤ s ∧ way = 1
  · rw [if_pos hv]; exact Nat.zero_le _
  · rw [if_neg hv]
    generalize nextN cr s way = t at *
    by_cases c : offN t ≤ k ∧ k - offN t < 625 ∧ (k - offN t) / 25 + (k - offN t) % 25 ≤ hh
    · rw [if_pos c]
      have a := moN_le t 0
      have b := moN_le t 1
      unfold offN at c
      have e : t = k / 625 := by omega
      rw [if_pos ⟨hv, e⟩, Nat.one_mul]
      exact hf _
    · rw [if_neg c]; exact Nat.zero_le _
theorem sumN_mul (f : Nat → Nat) (M : Nat) : ∀ n, sumN f n * M = sumN (fun i => f i * M) n
  | 0 => Nat.zero_mul _
  | n + 1 => by simp only [sumN]; rw [Nat.add_mul, sumN_mul f M n]
theorem sumN_mono {f g : Nat → Nat} : ∀ n, (∀ i, i < n → f i ≤ g i) → sumN f n ≤ sumN g n
  | 0, _ => Nat.le_refl _
  | n + 1, h => by
    simp only [sumN]
    have := sumN_mono n (fun i hi => h i (by omega))
    have := h n (by omega)
    omega
theorem sumN_0 {f : Nat → Nat} : ∀ n, (∀ i, i < n → f i = 0) → sumN f n = 0
  | 0, _ => rfl
  | n + 1, h => by simp only [sumN]; rw [sumN_0 n (fun i hi => h i (by omega)), h n (by omega)]
theorem stepN_le {cr : Nat} {f : Nat → Nat} {hh k M : Nat} (hcr : cr ≤ 3) (hf : ∀ k, f k ≤ M) (hh2 : hh ≤ 23) : stepN cr f hh (2 + 2 * cr) k ≤ 2 * M := by
  unfold stepN
  by_cases q : k / 625 < 8
  · have h1 := pred2 cr (by omega) (k / 625) q
    have h2 : sumN (fun s => ctbN cr f hh s 0 625 k + ctbN cr f hh s 1 625 k) (2 + 2 * cr) ≤ sumN (fun s => ((if nextN cr s 0 = k / 625 then 1 else 0) + (if s < 2 ∧ nextN cr s 1 = k / 625 then 1 else 0)) * M) (2 + 2 * cr) := by
      refine sumN_mono _ (fun s hs => ?_)
      have a := ctbN_le (cr := cr) (s := s) (way := 0) (k := k) hf hh2
      have b := ctbN_le (cr := cr) (s := s) (way := 1) (k := k) hf hh2
      rw [Nat.add_mul]
      refine Nat.add_le_add (Nat.le_trans a ?_) (Nat.le_trans b ?_)
      · refine Nat.mul_le_mul_right _ ?_
        by_cases z : nextN cr s 0 = k / 625
        · rw [if_pos z]; split <;> omega
        · rw [if_neg z, if_neg (fun y => z y.2)]; exact Nat.le_refl _
      · refine Nat.mul_le_mul_right _ ?_
        by_cases z : s < 2 ∧ nextN cr s 1 = k / 625
        · rw [if_pos z]; split <;> omega
        · rw [if_neg z, if_neg (fun y => z ⟨by omega, y.2⟩)]; exact Nat.le_refl _
    rw [← sumN_mul] at h2
    exact Nat.le_trans h2 (Nat.mul_le_mul_right _ h1)
  · rw [sumN_0 _ (fun s hs => ?_)]
    · exact Nat.zero_le _
    · have n0 := nextN_lt (way := 0) hs
      have n1 := nextN_lt (way := 1) hs
      have a := ctbN_le (cr := cr) (s := s) (way := 0) (k := k) hf hh2
      have b := ctbN_le (cr := cr) (s := s) (way := 1) (k := k) hf hh2
      rw [if_neg (fun z => by omega), Nat.zero_mul] at a b
      omega
theorem nowN_le {cr first : Nat} (hcr : cr ≤ 3) : ∀ h, h ≤ 23 → ∀ k, nowN cr first h k ≤ 2 ^ h
  | 0, _, k => by show (if k = offN first then 1 else 0) ≤ 1; split <;> omega
  | h + 1, hh, k => by
    have := stepN_le (k := k) hcr (nowN_le (first := first) hcr h (by omega)) hh
    rw [Nat.pow_succ, Nat.mul_comm]
    exact this
theorem nowN_lt {cr first h k : Nat} (hcr : cr ≤ 3) (hh : h ≤ 23) : nowN cr first h k < 2 ^ 40 := Nat.lt_of_le_of_lt (nowN_le hcr h hh k) (Nat.pow_lt_pow_right (by decide) (by omega))
set_option maxHeartbeats 4000000 in
set_option maxRecDepth 100000 in
theorem c_M_spread {G : GE} {h0 h : AH} {m : Nat} {S : MS} (hM : MW h0 h m S) {cr : Nat} (hC : S.1 28 = nI cr) (hcr : cr ≤ 3) {s hh : Nat} (hs : s < 2 + 2 * cr) (hh2 : hh ≤ 23) {f g : Nat → Nat} (hf : ∀ k, k < 5000 → S.2.2.2 37 k = lN (f k) ∧ f k < 2 ^ 40) (hg : ∀ k, k < 5000 → S.2.2.2 38 k = lN (g k)) : Ctr G y_M_spread b_M_spread 8 none r_M_spread [.ref m, .int (nI s), .int (nI hh)] h (fun v h' => v = none ∧ ∃ S1, MW h0 h' m S1 ∧ SB S S1 ∧ S1.2.2.2 37 = S.2.2.2 37 ∧ ∀ k, k < 5000 → S1.2.2.2 38 k = lN (g k + (ctbN cr f hh s 0 625 k + ctbN cr f hh s 1 625 k))) := by
  have key : ∀ way, way ≤ 2 → ∀ (h : AH) (S1 : MS), MW h0 h m S1 → SB S S1 → S1.2.2.2 37 = S.2.2.2 37 → (∀ k, k < 5000 → S1.2.2.2 38 k = lN (g k + sumN (fun y => ctbN cr f hh s y 625 k) way)) → WA G y_M_spread b_M_spread 8 none r_M_spread 0 0 (fun v h' => v = none ∧ ∃ S1, MW h0 h' m S1 ∧ SB S S1 ∧ S1.2.2.2 37 = S.2.2.2 37 ∧ ∀ k, k < 5000 → S1.2.2.2 38 k = lN (g k + (ctbN cr f hh s 0 625 k + ctbN cr f hh s 1 625 k))) 0 0 2 [some (.ref m), some (.int (nI s)), some (.int (nI hh)), some (.int (nI way)), none, none, none, none] [] h := by
    refine down ?_ (fun way hway ih => ?_)
    · intro h S1 hM hb h37 h38
      refine A_iload_n3 d_M_spread_2 ?_
      refine A_iconst (v := nI 2) d_M_spread_3 (by decide) ?_
      first | refine A_icmp_geN (tgt := 132) d_M_spread_4 (by decide) (by with_reducible rfl) (by with_reducible rfl) (by omega) (by omega) (fun c_4 => ?_) (fun c_4 => ?_) | refine A_icmp_ge (tgt := 132) d_M_spread_4 (by decide) (fun c_4 => ?_) (fun c_4 => ?_)
      · refine A_vret d_M_spread_132 rfl ⟨Nat.zero_le _, Nat.zero_le _⟩ ?_
        exact ⟨rfl, S1, hM, hb, h37, fun k hk => by rw [h38 k hk]; simp only [sumN]; rw [Nat.zero_add]⟩
      · exact absurd c_4 (by omega)
    · intro h S1 hM hb h37 h38
      refine A_iload_n3 d_M_spread_2 ?_
      refine A_iconst (v := nI 2) d_M_spread_3 (by decide) ?_
      first | refine A_icmp_geN (tgt := 132) d_M_spread_4 (by decide) (by with_reducible rfl) (by with_reducible rfl) (by omega) (by omega) (fun c_4 => ?_) (fun c_4 => ?_) | refine A_icmp_ge (tgt := 132) d_M_spread_4 (by decide) (fun c_4 => ?_) (fun c_4 => ?_)
      · exact absurd c_4 (by omega)
      · refine A_aload_n0 d_M_spread_7 ?_
        refine A_iload_n1 d_M_spread_8 ?_
        refine A_iload_n3 d_M_spread_9 ?_
        refine A_callVP d_M_spread_10 (c_M_nextOf hM (by rw [hb.1]; exact hC) hcr s way hs (by omega)) hM.o rfl q_1488 q_1490 qs_64 mk_M_nextOf rfl (by decide) rfl (Nat.le_of_ble_eq_true rfl) ⟨Nat.le_of_ble_eq_true rfl, Nat.le_of_ble_eq_true rfl⟩ ⟨rfl, rfl⟩ ?_
        refine A_istore4 d_M_spread_13 trivial ?_
        by_cases hv : 2 ≤ s ∧ way = 1
        · refine A_weak (L' := [some (.ref m), some (.int (nI s)), some (.int (nI hh)), some (.int (nI way)), some (.int (-1)), none, none, none]) rfl (fun j v q => by rw [show nextI cr s way = -1 from if_pos hv] ; exact q) ?_
          refine A_iconst (v := nI 0) d_M_spread_15 (by decide) ?_
          refine A_istore5 d_M_spread_16 trivial ?_
          refine A_iload5 d_M_spread_18 ?_
          refine A_sipush (v := nI 625) d_M_spread_20 (by decide) ?_
          refine A_icmp_ge (tgt := 126) d_M_spread_23 (by decide) (fun c => absurd c (by decide)) (fun c_23 => ?_)
          refine A_iload4 d_M_spread_26 ?_
          refine A_iconst (v := (-1)) d_M_spread_28 (by decide) ?_
          refine A_icmp_eq (tgt := 126) d_M_spread_29 (by decide) (fun c_29 => ?_) (fun c => absurd rfl c)
          first | refine A_iinc3 d_M_spread_126 (nI_1 _) trivial ?_ | refine A_iinc3 d_M_spread_126 rfl trivial ?_
          refine A_goto (tgt := 2) d_M_spread_129 (by decide) ?_
          refine A_drop4 (A_drop5 (ih _ _ hM hb h37 (fun k hk => ?_)))
          rw [h38 k hk]
          simp only [sumN]
          rw [show ctbN cr f hh s way 625 k = 0 from if_pos hv, Nat.add_zero]
        obtain ⟨t, ht⟩ : ∃ t, t = nextN cr s way := ⟨_, rfl⟩
        have htl : t < 8 := by have := nextN_lt (way := way) hs; omega
        have hti : nextI cr s way = nI t := (if_neg hv).trans (congrArg nI ht.symm)
        rw [hti]
        have keyI : ∀ i, i ≤ 625 → ∀ (h : AH) (S1 : MS), MW h0 h m S1 → SB S S1 → S1.2.2.2 37 = S.2.2.2 37 → (∀ k, k < 5000 → S1.2.2.2 38 k = lN (g k + sumN (fun y => ctbN cr f hh s y 625 k) way + ctbN cr f hh s way i k)) → WA G y_M_spread b_M_spread 8 none r_M_spread 0 0 (fun v h' => v = none ∧ ∃ S1, MW h0 h' m S1 ∧ SB S S1 ∧ S1.2.2.2 37 = S.2.2.2 37 ∧ ∀ k, k < 5000 → S1.2.2.2 38 k = lN (g k + (ctbN cr f hh s 0 625 k + ctbN cr f hh s 1 625 k))) 0 0 18 [some (.ref m), some (.int (nI s)), some (.int (nI hh)), some (.int (nI way)), some (.int (nI t)), some (.int (nI i)), none, none] [] h := by
          refine down ?_ (fun i hi ihd => ?_)
          · intro h S1 hM hb h37 h38
            refine A_iload5 d_M_spread_18 ?_
            refine A_sipush (v := nI 625) d_M_spread_20 (by decide) ?_
            first | refine A_icmp_geN (tgt := 126) d_M_spread_23 (by decide) (by with_reducible rfl) (by with_reducible rfl) (by omega) (by omega) (fun c_23 => ?_) (fun c_23 => ?_) | refine A_icmp_ge (tgt := 126) d_M_spread_23 (by decide) (fun c_23 => ?_) (fun c_23 => ?_)
            · first | refine A_iinc3 d_M_spread_126 (nI_1 _) trivial ?_ | refine A_iinc3 d_M_spread_126 rfl trivial ?_
              refine A_goto (tgt := 2) d_M_spread_129 (by decide) ?_
              refine A_drop4 (A_drop5 (ih _ _ hM hb h37 (fun k hk => ?_)))
              rw [h38 k hk]
              simp only [sumN]
              rw [Nat.add_assoc]
            · exact absurd c_23 (by omega)
          · intro h S1 hM hb h37 h38
            have hn := hf (625 * s + i) (by omega)
            refine A_iload5 d_M_spread_18 ?_
            refine A_sipush (v := nI 625) d_M_spread_20 (by decide) ?_
            first | refine A_icmp_geN (tgt := 126) d_M_spread_23 (by decide) (by with_reducible rfl) (by with_reducible rfl) (by omega) (by omega) (fun c_23 => ?_) (fun c_23 => ?_) | refine A_icmp_ge (tgt := 126) d_M_spread_23 (by decide) (fun c_23 => ?_) (fun c_23 => ?_)
            · exact absurd c_23 (by omega)
            · refine A_iload4 d_M_spread_26 ?_
              refine A_iconst (v := (-1)) d_M_spread_28 (by decide) ?_
              refine A_icmp_eq (tgt := 126) d_M_spread_29 (by decide) (fun c => absurd c (nI_neM1 (by omega))) (fun c_29 => ?_)
              refine A_iload5 d_M_spread_32 ?_
              refine A_bipush (v := nI 25) d_M_spread_34 (by decide) ?_
              refine A_idivN d_M_spread_36 (by with_reducible rfl) (by with_reducible rfl) (by omega) ?_
              refine A_istore6 d_M_spread_37 trivial ?_
              refine A_iload5 d_M_spread_39 ?_
              refine A_bipush (v := nI 25) d_M_spread_41 (by decide) ?_
              refine A_iremN d_M_spread_43 (by with_reducible rfl) (by with_reducible rfl) (by omega) ?_
              refine A_istore7 d_M_spread_44 trivial ?_
              refine A_iload6 d_M_spread_46 ?_
              refine A_iload7 d_M_spread_48 ?_
              first | refine A_iaddN d_M_spread_50 (by with_reducible rfl) (by with_reducible rfl) ?_ | refine A_iadd d_M_spread_50 ?_
              refine A_iload_n2 d_M_spread_51 ?_
              first | refine A_icmp_gtN (tgt := 120) d_M_spread_52 (by decide) (by with_reducible rfl) (by with_reducible rfl) (by omega) (by omega) (fun c_52 => ?_) (fun c_52 => ?_) | refine A_icmp_gt (tgt := 120) d_M_spread_52 (by decide) (fun c_52 => ?_) (fun c_52 => ?_)
              · first | refine A_iinc5 d_M_spread_120 (nI_1 _) trivial ?_ | refine A_iinc5 d_M_spread_120 rfl trivial ?_
                refine A_goto (tgt := 18) d_M_spread_123 (by decide) ?_
                refine A_drop6 (A_drop7 (ihd _ _ hM hb h37 (fun k hk => ?_)))
                rw [h38 k hk]
                first
                  | rw [ctbN_far (by omega)]
                  | rw [ctbN_no (by by_cases q0 : f (625 * s + i) = 0; exact q0; rw [if_neg q0] at c_70; exact absurd c_70 (by decide))]
              · refine A_aload_n0 d_M_spread_55 ?_
                refine A_getf (kf := 37) d_M_spread_56 hM.o ok_8 (by decide) q_1086 rfl ?_
                refine A_sipush (v := nI 625) d_M_spread_59 (by decide) ?_
                refine A_iload_n1 d_M_spread_62 ?_
                first | refine A_imulN d_M_spread_63 (by with_reducible rfl) (by with_reducible rfl) ?_ | refine A_imul d_M_spread_63 ?_
                refine A_iload5 d_M_spread_64 ?_
                first | refine A_iaddN d_M_spread_66 (by with_reducible rfl) (by with_reducible rfl) ?_ | refine A_iadd d_M_spread_66 ?_
                refine A_laldN d_M_spread_67 hM.a37 ⟨by omega, by decide⟩ ?_
                refine A_top (congrArg Value.long ((congrFun h37 _).trans hn.1)) ?_
                refine A_lconst (v := 0) d_M_spread_68 (by decide) ?_
                refine A_lcmp d_M_spread_69 ?_
                refine A_topI (cmp0 (by omega)) ?_
                first | refine A_if_leN (tgt := 120) d_M_spread_70 (by decide) (by with_reducible rfl) (by omega) (fun c_70 => ?_) (fun c_70 => ?_) | refine A_if_le (tgt := 120) d_M_spread_70 (by decide) (fun c_70 => ?_) (fun c_70 => ?_)
                · first | refine A_iinc5 d_M_spread_120 (nI_1 _) trivial ?_ | refine A_iinc5 d_M_spread_120 rfl trivial ?_
                  refine A_goto (tgt := 18) d_M_spread_123 (by decide) ?_
                  refine A_drop6 (A_drop7 (ihd _ _ hM hb h37 (fun k hk => ?_)))
                  rw [h38 k hk]
                  first
                    | rw [ctbN_far (by omega)]
                    | rw [ctbN_no (by by_cases q0 : f (625 * s + i) = 0; exact q0; rw [if_neg q0] at c_70; exact absurd c_70 (by decide))]
                · refine A_aload_n0 d_M_spread_73 ?_
                  refine A_getf (kf := 38) d_M_spread_74 hM.o ok_8 (by decide) q_1087 rfl ?_
                  refine A_aload_n0 d_M_spread_77 ?_
                  refine A_iload4 d_M_spread_78 ?_
                  refine A_iload6 d_M_spread_80 ?_
                  refine A_aload_n0 d_M_spread_82 ?_
                  refine A_iload4 d_M_spread_83 ?_
                  refine A_iconst (v := nI 0) d_M_spread_85 (by decide) ?_
                  refine A_callVP d_M_spread_86 (c_M_more hM (nI t) (nI 0)) hM.o rfl q_1476 q_1478 qs_61 mk_M_more rfl (by decide) rfl (Nat.le_of_ble_eq_true rfl) ⟨Nat.le_of_ble_eq_true rfl, Nat.le_of_ble_eq_true rfl⟩ ⟨rfl, rfl⟩ ?_
                  refine A_topI (moI (by omega) (by decide)) ?_
                  first | refine A_iaddN d_M_spread_89 (by with_reducible rfl) (by with_reducible rfl) ?_ | refine A_iadd d_M_spread_89 ?_
                  refine A_iload7 d_M_spread_90 ?_
                  refine A_aload_n0 d_M_spread_92 ?_
                  refine A_iload4 d_M_spread_93 ?_
                  refine A_iconst (v := nI 1) d_M_spread_95 (by decide) ?_
                  refine A_callVP d_M_spread_96 (c_M_more hM (nI t) (nI 1)) hM.o rfl q_1476 q_1478 qs_61 mk_M_more rfl (by decide) rfl (Nat.le_of_ble_eq_true rfl) ⟨Nat.le_of_ble_eq_true rfl, Nat.le_of_ble_eq_true rfl⟩ ⟨rfl, rfl⟩ ?_
                  refine A_topI (moI (by omega) (by decide)) ?_
                  first | refine A_iaddN d_M_spread_99 (by with_reducible rfl) (by with_reducible rfl) ?_ | refine A_iadd d_M_spread_99 ?_
                  refine A_callVP d_M_spread_100 (c_M_grid hM t (i / 25 + moN t 0) (i % 25 + moN t 1)) hM.o rfl q_1480 q_1482 qs_62 mk_M_grid rfl (by decide) rfl (Nat.le_of_ble_eq_true rfl) ⟨Nat.le_of_ble_eq_true rfl, Nat.le_of_ble_eq_true rfl⟩ ⟨rfl, rfl⟩ ?_
                  have m0 := moN_le t 0
                  have m1 := moN_le t 1
                  refine A_dup2IR d_M_spread_103 ?_
                  refine A_laldN d_M_spread_104 hM.a38 ⟨by omega, by decide⟩ ?_
                  refine A_top (congrArg Value.long (h38 _ (by omega))) ?_
                  refine A_aload_n0 d_M_spread_105 ?_
                  refine A_getf (kf := 37) d_M_spread_106 hM.o ok_8 (by decide) q_1086 rfl ?_
                  refine A_sipush (v := nI 625) d_M_spread_109 (by decide) ?_
                  refine A_iload_n1 d_M_spread_112 ?_
                  first | refine A_imulN d_M_spread_113 (by with_reducible rfl) (by with_reducible rfl) ?_ | refine A_imul d_M_spread_113 ?_
                  refine A_iload5 d_M_spread_114 ?_
                  first | refine A_iaddN d_M_spread_116 (by with_reducible rfl) (by with_reducible rfl) ?_ | refine A_iadd d_M_spread_116 ?_
                  refine A_laldN d_M_spread_117 hM.a37 ⟨by omega, by decide⟩ ?_
                  refine A_top (congrArg Value.long ((congrFun h37 _).trans hn.1)) ?_
                  refine A_ladd d_M_spread_118 ?_
                  rw [lN_add]
                  refine A_st38 hM d_M_spread_119 (by omega) (fun h hM => ?_)
                  obtain ⟨S3, hM, e38, x38, sb⟩ := opb hM
                  first | refine A_iinc5 d_M_spread_120 (nI_1 _) trivial ?_ | refine A_iinc5 d_M_spread_120 rfl trivial ?_
                  refine A_goto (tgt := 18) d_M_spread_123 (by decide) ?_
                  refine A_drop6 (A_drop7 (ihd _ _ hM (hb.tr sb) ((x38 37 (by decide)).trans h37) (fun k hk => ?_)))
                  have hoff : offN t + i = 625 * t + 25 * (i / 25 + moN t 0) + (i % 25 + moN t 1) := by unfold offN; omega
                  by_cases q : k = 625 * t + 25 * (i / 25 + moN t 0) + (i % 25 + moN t 1)
                  · rw [e38, q, fup_eq, ← hoff, ht, ctbN_at hv (by omega), Nat.add_assoc]
                  · rw [e38, fup_ne _ _ q, h38 k hk, ctbN_ne (by rw [← ht, hoff]; exact q)]
        refine A_iconst (v := nI 0) d_M_spread_15 (by decide) ?_
        refine A_istore5 d_M_spread_16 trivial ?_
        exact keyI 0 (Nat.zero_le _) _ _ hM hb h37 (fun k hk => by rw [h38 k hk, ctbN_0, Nat.add_zero])
  refine Ctr.of (by decide +kernel) (by simp) (Nat.le_of_ble_eq_true rfl) (L0 := [some (.ref m), some (.int (nI s)), some (.int (nI hh)), none, none, none, none, none]) rfl ?_
  refine A_iconst (v := nI 0) d_M_spread_0 (by decide) ?_
  refine A_istore3 d_M_spread_1 trivial ?_
  exact key 0 (Nat.zero_le _) _ _ hM (SB.rf S) rfl (fun k hk => by rw [hg k hk]; rfl)
