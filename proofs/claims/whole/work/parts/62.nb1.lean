/-! ALL THAT WAS TOLD, at t .. t + 45: int fields by number; arrays 0 tape, 1 counts, 2 + i treaties, 4 + i games; lands, books, sights -/
abbrev TD : Type := (Nat → Int32) × (Nat → Nat → Int32) × (Nat → LD) × (Nat → LD) × (Nat → LD)
def tdfs (t : Nat) (W : TD) : List Value := [.ref (t + 1), .int (W.1 1), .int (W.1 2), .int (W.1 3), .ref (t + 2), .ref (t + 3), .ref (t + 4), .ref (t + 7), .ref (t + 8), .ref (t + 9)]
def two (a b : Nat) : Nat → Option Nat := fup (fup (fun _ => none) 0 (some a)) 1 (some b)
theorem two_at {a b : Nat} (e : b = a + 17) {i : Nat} (hi : i < 2) : two a b i = some (a + 17 * i) := by
  rcases (show i = 0 ∨ i = 1 by omega) with rfl | rfl
  · rfl
  · subst e; rfl
def TdAt (h : AH) (t : Nat) (W : TD) : Prop := (1000 ≤ t) ∧ (h t = some (.inr (6, tdfs t W))) ∧ (h (t + 1) = some (.inl (0, 600, .inl (W.2.1 0)))) ∧ (h (t + 2) = some (.inl (0, 5, .inl (W.2.1 1)))) ∧ (h (t + 3) = some (rR 5 2 (two (t + 12) (t + 29)))) ∧ (h (t + 4) = some (rF t 5)) ∧ (h (t + 5) = some (.inl (0, 24, .inl (W.2.1 2)))) ∧ (h (t + 6) = some (.inl (0, 24, .inl (W.2.1 3)))) ∧ (h (t + 7) = some (rR 6 2 (two (t + 21) (t + 38)))) ∧ (h (t + 8) = some (rR 7 2 (two (t + 25) (t + 42)))) ∧ (h (t + 9) = some (rF t 10)) ∧ (h (t + 10) = some (.inl (0, 8, .inl (W.2.1 4)))) ∧ (h (t + 11) = some (.inl (0, 8, .inl (W.2.1 5)))) ∧ (∀ i, i < 2 → LAt h (t + 12 + 17 * i) (W.2.2.1 i)) ∧ (∀ i, i < 2 → BAt h (t + 21 + 17 * i) (W.2.2.2.1 i)) ∧ (∀ i, i < 2 → SAt h (t + 25 + 17 * i) (W.2.2.2.2 i))
theorem TdAt.ge {h : AH} {t : Nat} {W : TD} (H : TdAt h t W) : 1000 ≤ t := H.1
theorem TdAt.o {h : AH} {t : Nat} {W : TD} (H : TdAt h t W) : h t = some (.inr (6, tdfs t W)) := H.2.1
theorem TdAt.tape {h : AH} {t : Nat} {W : TD} (H : TdAt h t W) : h (t + 1) = some (.inl (0, 600, .inl (W.2.1 0))) := H.2.2.1
theorem TdAt.counts {h : AH} {t : Nat} {W : TD} (H : TdAt h t W) : h (t + 2) = some (.inl (0, 5, .inl (W.2.1 1))) := H.2.2.2.1
theorem TdAt.lands {h : AH} {t : Nat} {W : TD} (H : TdAt h t W) : h (t + 3) = some (rR 5 2 (two (t + 12) (t + 29))) := H.2.2.2.2.1
theorem TdAt.treaties {h : AH} {t : Nat} {W : TD} (H : TdAt h t W) : h (t + 4) = some (rF t 5) := H.2.2.2.2.2.1
theorem TdAt.t0 {h : AH} {t : Nat} {W : TD} (H : TdAt h t W) : h (t + 5) = some (.inl (0, 24, .inl (W.2.1 2))) := H.2.2.2.2.2.2.1
theorem TdAt.t1 {h : AH} {t : Nat} {W : TD} (H : TdAt h t W) : h (t + 6) = some (.inl (0, 24, .inl (W.2.1 3))) := H.2.2.2.2.2.2.2.1
theorem TdAt.books {h : AH} {t : Nat} {W : TD} (H : TdAt h t W) : h (t + 7) = some (rR 6 2 (two (t + 21) (t + 38))) := H.2.2.2.2.2.2.2.2.1
theorem TdAt.sights {h : AH} {t : Nat} {W : TD} (H : TdAt h t W) : h (t + 8) = some (rR 7 2 (two (t + 25) (t + 42))) := H.2.2.2.2.2.2.2.2.2.1
theorem TdAt.games {h : AH} {t : Nat} {W : TD} (H : TdAt h t W) : h (t + 9) = some (rF t 10) := H.2.2.2.2.2.2.2.2.2.2.1
theorem TdAt.g0 {h : AH} {t : Nat} {W : TD} (H : TdAt h t W) : h (t + 10) = some (.inl (0, 8, .inl (W.2.1 4))) := H.2.2.2.2.2.2.2.2.2.2.2.1
theorem TdAt.g1 {h : AH} {t : Nat} {W : TD} (H : TdAt h t W) : h (t + 11) = some (.inl (0, 8, .inl (W.2.1 5))) := H.2.2.2.2.2.2.2.2.2.2.2.2.1
theorem TdAt.l {h : AH} {t : Nat} {W : TD} (H : TdAt h t W) : ∀ i, i < 2 → LAt h (t + 12 + 17 * i) (W.2.2.1 i) := H.2.2.2.2.2.2.2.2.2.2.2.2.2.1
theorem TdAt.b {h : AH} {t : Nat} {W : TD} (H : TdAt h t W) : ∀ i, i < 2 → BAt h (t + 21 + 17 * i) (W.2.2.2.1 i) := H.2.2.2.2.2.2.2.2.2.2.2.2.2.2.1
theorem TdAt.s {h : AH} {t : Nat} {W : TD} (H : TdAt h t W) : ∀ i, i < 2 → SAt h (t + 25 + 17 * i) (W.2.2.2.2 i) := H.2.2.2.2.2.2.2.2.2.2.2.2.2.2.2
theorem TdAt.tr {h : AH} {t : Nat} {W : TD} (A : TdAt h t W) {i : Nat} (hi : i < 2) : h (t + 5 + i) = some (.inl (0, 24, .inl (W.2.1 (2 + i)))) := by
  rcases (show i = 0 ∨ i = 1 by omega) with rfl | rfl
  · exact A.t0
  · exact A.t1
theorem TdAt.gm {h : AH} {t : Nat} {W : TD} (A : TdAt h t W) {i : Nat} (hi : i < 2) : h (t + 10 + i) = some (.inl (0, 8, .inl (W.2.1 (4 + i)))) := by
  rcases (show i = 0 ∨ i = 1 by omega) with rfl | rfl
  · exact A.g0
  · exact A.g1
/-- what it says, in the reference's numbers -/
def TR (W : TD) (c : Nat → Nat) (VL WT BK SG GM : Nat → Nat → Nat) : Prop := (∀ s, s < 5 → W.2.1 1 s = nI (c s) ∧ c s ≤ 2) ∧ (∀ i, i < c 0 → LVr (W.2.2.1 i) (VL i)) ∧ (∀ i, i < c 1 → ∀ x, x < 24 → W.2.1 (2 + i) x = nI (WT i x) ∧ WT i x ≤ 2) ∧ (∀ i, i < c 2 → BVr (W.2.2.2.1 i) (BK i)) ∧ (∀ i, i < c 3 → SVr (W.2.2.2.2 i) (SG i)) ∧ (∀ i, i < c 4 → ∀ x, x < 8 → W.2.1 (4 + i) x = nI (GM i x) ∧ GM i x ≤ 60)
theorem TR.n {W : TD} {c : Nat → Nat} {VL WT BK SG GM : Nat → Nat → Nat} (H : TR W c VL WT BK SG GM) : ∀ s, s < 5 → W.2.1 1 s = nI (c s) ∧ c s ≤ 2 := H.1
theorem TR.l {W : TD} {c : Nat → Nat} {VL WT BK SG GM : Nat → Nat → Nat} (H : TR W c VL WT BK SG GM) : ∀ i, i < c 0 → LVr (W.2.2.1 i) (VL i) := H.2.1
theorem TR.t {W : TD} {c : Nat → Nat} {VL WT BK SG GM : Nat → Nat → Nat} (H : TR W c VL WT BK SG GM) : ∀ i, i < c 1 → ∀ x, x < 24 → W.2.1 (2 + i) x = nI (WT i x) ∧ WT i x ≤ 2 := H.2.2.1
theorem TR.b {W : TD} {c : Nat → Nat} {VL WT BK SG GM : Nat → Nat → Nat} (H : TR W c VL WT BK SG GM) : ∀ i, i < c 2 → BVr (W.2.2.2.1 i) (BK i) := H.2.2.2.1
theorem TR.s {W : TD} {c : Nat → Nat} {VL WT BK SG GM : Nat → Nat → Nat} (H : TR W c VL WT BK SG GM) : ∀ i, i < c 3 → SVr (W.2.2.2.2 i) (SG i) := H.2.2.2.2.1
theorem TR.g {W : TD} {c : Nat → Nat} {VL WT BK SG GM : Nat → Nat → Nat} (H : TR W c VL WT BK SG GM) : ∀ i, i < c 4 → ∀ x, x < 8 → W.2.1 (4 + i) x = nI (GM i x) ∧ GM i x ≤ 60 := H.2.2.2.2.2
theorem TR.row {h : AH} {t : Nat} {W : TD} {c : Nat → Nat} {VL WT BK SG GM : Nat → Nat → Nat} (R : TR W c VL WT BK SG GM) (A : TdAt h t W) {i : Nat} (hi : i < c 1) : TAt h (t + 5 + i) (WT i) := ⟨_, A.tr (by have := (R.n 1 (by decide)).2; omega), R.t i hi⟩
/-! THE CLASS at n -/
def nfs (n : Nat) : List Value := [.ref (n + 1), .ref (n + 47), .ref (n + 48), .ref (n + 72), .ref (n + 78), .ref (n + 79), .ref (n + 80), .ref (n + 81)]
def NT (h : AH) (n : Nat) (W : TD) (c : Nat → Nat) (VL WT BK SG GM : Nat → Nat → Nat) : Prop := (h n = some (.inr (7, nfs n))) ∧ (TdAt h (n + 1) W) ∧ (TR W c VL WT BK SG GM)
theorem NT.o {h : AH} {n : Nat} {W : TD} {c : Nat → Nat} {VL WT BK SG GM : Nat → Nat → Nat} (H : NT h n W c VL WT BK SG GM) : h n = some (.inr (7, nfs n)) := H.1
theorem NT.a {h : AH} {n : Nat} {W : TD} {c : Nat → Nat} {VL WT BK SG GM : Nat → Nat → Nat} (H : NT h n W c VL WT BK SG GM) : TdAt h (n + 1) W := H.2.1
theorem NT.r {h : AH} {n : Nat} {W : TD} {c : Nat → Nat} {VL WT BK SG GM : Nat → Nat → Nat} (H : NT h n W c VL WT BK SG GM) : TR W c VL WT BK SG GM := H.2.2
theorem inB_tdF {x : Int32} {n : Nat} (hn : n < 2 ^ 31) (h : inB x (nI 0) (nI n - nI 1) = false) (hx : ¬ x < 0) : ∃ j, j < 2 ^ 31 ∧ x = nI j ∧ n ≤ j := by
  obtain ⟨j, hj, rfl⟩ := nI_of hx
  refine ⟨j, hj, rfl, ?_⟩
  rw [inB_lt hj hn] at h
  have := of_decide_eq_false h
  omega
theorem told_c {n : Nat} (hn : n < 2 ^ 31) (x : Int32) : (∃ k, k < n ∧ x = nI k) ∨ inB x (nI 0) (nI n - nI 1) = false := by
  by_cases hx : x < 0
  · right
    rw [inB_dl hn, decide_eq_true hx]
    rfl
  · obtain ⟨j, hj, rfl⟩ := nI_of hx
    rcases Nat.lt_or_ge j n with q | q
    · exact .inl ⟨j, q, rfl⟩
    · right
      rw [inB_lt hj hn, decide_eq_false (by omega)]
set_option maxHeartbeats 4000000 in
set_option maxRecDepth 100000 in
theorem c_N_isTold {G : GE} {h : AH} {n : Nat} {W : TD} {c : Nat → Nat} {VL WT BK SG GM : Nat → Nat → Nat} (hN : NT h n W c VL WT BK SG GM) (s : Nat) (hs : s < 5) (x : Int32) : Ctr G y_N_isTold b_N_isTold 3 (some .boolean) r_N_isTold [.ref n, .int (nI s), .int x] h (Pu (.int (bI (inB x (nI 0) (nI (c s) - nI 1)))) h) := by
  refine Ctr.of (by decide +kernel) (by simp) (Nat.le_of_ble_eq_true rfl) (L0 := [some (.ref n), some (.int (nI s)), some (.int x)]) rfl ?_
  have hcs := (hN.r.n s hs).2
  by_cases hx : x < 0
  · refine A_iload_n2 d_N_isTold_0 ?_
    refine A_if_lt (tgt := 21) d_N_isTold_1 (by decide) (fun c_1 => ?_) (fun c_1 => ?_)
    · refine A_iconst (v := nI 0) d_N_isTold_21 (by decide) ?_
      refine A_zret d_N_isTold_22 rfl (by first | rfl | exact bI_nar _ | decide) ⟨Nat.zero_le _, Nat.zero_le _⟩ ?_
      exact pu (by rw [inB_dl (by omega), decide_eq_true hx]; rfl)
    · exact absurd hx c_1
  · obtain ⟨j, hj, rfl⟩ := nI_of hx
    refine A_iload_n2 d_N_isTold_0 ?_
    refine A_if_lt (tgt := 21) d_N_isTold_1 (by decide) (fun c_1 => ?_) (fun c_1 => ?_)
    · refine A_iconst (v := nI 0) d_N_isTold_21 (by decide) ?_
      refine A_zret d_N_isTold_22 rfl (by first | rfl | exact bI_nar _ | decide) ⟨Nat.zero_le _, Nat.zero_le _⟩ ?_
      exact pu (by
        rw [inB_lt (by omega) (by omega)]
        first
          | exact absurd c_1 hx
          | (rw [decide_eq_false (by omega)]; rfl)
          | (rw [decide_eq_true (by omega)]; rfl))
    · refine A_iload_n2 d_N_isTold_4 ?_
      refine A_aload_n0 d_N_isTold_5 ?_
      refine A_getf (kf := 0) d_N_isTold_6 hN.o ok_7 (by decide) q_368 rfl ?_
      refine A_getf (kf := 4) d_N_isTold_9 hN.a.o ok_6 (by decide) q_201 rfl ?_
      refine A_iload_n1 d_N_isTold_12 ?_
      refine A_ialdN d_N_isTold_13 hN.a.counts ⟨by omega, by decide⟩ ?_
      refine A_topI (hN.r.n (s) (by omega)).1 ?_
      first | refine A_icmp_geN (tgt := 21) d_N_isTold_14 (by decide) (by with_reducible rfl) (by with_reducible rfl) (by omega) (by omega) (fun c_14 => ?_) (fun c_14 => ?_) | refine A_icmp_ge (tgt := 21) d_N_isTold_14 (by decide) (fun c_14 => ?_) (fun c_14 => ?_)
      · refine A_iconst (v := nI 0) d_N_isTold_21 (by decide) ?_
        refine A_zret d_N_isTold_22 rfl (by first | rfl | exact bI_nar _ | decide) ⟨Nat.zero_le _, Nat.zero_le _⟩ ?_
        exact pu (by
          rw [inB_lt (by omega) (by omega)]
          first
            | exact absurd c_1 hx
            | (rw [decide_eq_false (by omega)]; rfl)
            | (rw [decide_eq_true (by omega)]; rfl))
      · refine A_iconst (v := nI 1) d_N_isTold_17 (by decide) ?_
        refine A_goto (tgt := 22) d_N_isTold_18 (by decide) ?_
        refine A_zret d_N_isTold_22 rfl (by first | rfl | exact bI_nar _ | decide) ⟨Nat.zero_le _, Nat.zero_le _⟩ ?_
        exact pu (by
          rw [inB_lt (by omega) (by omega)]
          first
            | exact absurd c_1 hx
            | (rw [decide_eq_false (by omega)]; rfl)
            | (rw [decide_eq_true (by omega)]; rfl))
theorem c_N_isToldT {G : GE} {h : AH} {n : Nat} {W : TD} {c : Nat → Nat} {VL WT BK SG GM : Nat → Nat → Nat} (hN : NT h n W c VL WT BK SG GM) {s k : Nat} (hs : s < 5) (hk : k < c s) : Ctr G y_N_isTold b_N_isTold 3 (some .boolean) r_N_isTold [.ref n, .int (nI s), .int (nI k)] h (Pu (.int (bI true)) h) := by
  have := c_N_isTold (G := G) hN s hs (nI k)
  rw [inB_nI hk (by have := (hN.r.n s hs).2; omega)] at this
  exact this
theorem c_N_isToldF {G : GE} {h : AH} {n : Nat} {W : TD} {c : Nat → Nat} {VL WT BK SG GM : Nat → Nat → Nat} (hN : NT h n W c VL WT BK SG GM) {s : Nat} {x : Int32} (hs : s < 5) (hk : inB x (nI 0) (nI (c s) - nI 1) = false) : Ctr G y_N_isTold b_N_isTold 3 (some .boolean) r_N_isTold [.ref n, .int (nI s), .int x] h (Pu (.int (bI false)) h) := by
  have := c_N_isTold (G := G) hN s hs x
  rw [hk] at this
  exact this
set_option maxHeartbeats 4000000 in
set_option maxRecDepth 100000 in
theorem c_N_hasRow {G : GE} {h : AH} {n : Nat} {W : TD} {c : Nat → Nat} {VL WT BK SG GM : Nat → Nat → Nat} (hN : NT h n W c VL WT BK SG GM) (x z : Int32) : Ctr G y_N_hasRow b_N_hasRow 3 (some .boolean) r_N_hasRow [.ref n, .int x, .int z] h (Pu (.int (bI (inB x (nI 0) (nI (c 0) - nI 1) && inB z (nI 0) (nI (c 1) - nI 1)))) h) := by
  refine Ctr.of (by decide +kernel) (by simp) (Nat.le_of_ble_eq_true rfl) (L0 := [some (.ref n), some (.int x), some (.int z)]) rfl ?_
  refine A_aload_n0 d_N_hasRow_0 ?_
  refine A_iconst (v := nI 0) d_N_hasRow_1 (by decide) ?_
  refine A_iload_n1 d_N_hasRow_2 ?_
  refine A_callVP d_N_hasRow_3 (c_N_isTold hN 0 (by decide) x) hN.o rfl q_644 q_646 qs_2 mk_N_isTold rfl (by decide) rfl (Nat.le_of_ble_eq_true rfl) ⟨Nat.le_of_ble_eq_true rfl, Nat.le_of_ble_eq_true rfl⟩ ⟨rfl, rfl⟩ ?_
  refine A_if_eqB (tgt := 22) d_N_hasRow_6 (by decide) (fun c_6 => ?_) (fun c_6 => ?_)
  · refine A_iconst (v := nI 0) d_N_hasRow_22 (by decide) ?_
    refine A_zret d_N_hasRow_23 rfl (by first | rfl | exact bI_nar _ | decide) ⟨Nat.zero_le _, Nat.zero_le _⟩ ?_
    exact pu (by
      first
        | (rw [c_6, c_15]; rfl)
        | (rw [c_6, c_15, Bool.and_false]; rfl)
        | (rw [c_6, Bool.false_and]; rfl))
  · refine A_aload_n0 d_N_hasRow_9 ?_
    refine A_iconst (v := nI 1) d_N_hasRow_10 (by decide) ?_
    refine A_iload_n2 d_N_hasRow_11 ?_
    refine A_callVP d_N_hasRow_12 (c_N_isTold hN 1 (by decide) z) hN.o rfl q_644 q_646 qs_2 mk_N_isTold rfl (by decide) rfl (Nat.le_of_ble_eq_true rfl) ⟨Nat.le_of_ble_eq_true rfl, Nat.le_of_ble_eq_true rfl⟩ ⟨rfl, rfl⟩ ?_
    refine A_if_eqB (tgt := 22) d_N_hasRow_15 (by decide) (fun c_15 => ?_) (fun c_15 => ?_)
    · refine A_iconst (v := nI 0) d_N_hasRow_22 (by decide) ?_
      refine A_zret d_N_hasRow_23 rfl (by first | rfl | exact bI_nar _ | decide) ⟨Nat.zero_le _, Nat.zero_le _⟩ ?_
      exact pu (by
        first
          | (rw [c_6, c_15]; rfl)
          | (rw [c_6, c_15, Bool.and_false]; rfl)
          | (rw [c_6, Bool.false_and]; rfl))
    · refine A_iconst (v := nI 1) d_N_hasRow_18 (by decide) ?_
      refine A_goto (tgt := 23) d_N_hasRow_19 (by decide) ?_
      refine A_zret d_N_hasRow_23 rfl (by first | rfl | exact bI_nar _ | decide) ⟨Nat.zero_le _, Nat.zero_le _⟩ ?_
      exact pu (by
        first
          | (rw [c_6, c_15]; rfl)
          | (rw [c_6, c_15, Bool.and_false]; rfl)
          | (rw [c_6, Bool.false_and]; rfl))
theorem c_N_hasRowT {G : GE} {h : AH} {n : Nat} {W : TD} {c : Nat → Nat} {VL WT BK SG GM : Nat → Nat → Nat} (hN : NT h n W c VL WT BK SG GM) {k j : Nat} (hk : k < c 0) (hj : j < c 1) : Ctr G y_N_hasRow b_N_hasRow 3 (some .boolean) r_N_hasRow [.ref n, .int (nI k), .int (nI j)] h (Pu (.int (bI true)) h) := by
  have := c_N_hasRow (G := G) hN (nI k) (nI j)
  rw [inB_nI hk (by have := (hN.r.n 0 (by decide)).2; omega), inB_nI hj (by have := (hN.r.n 1 (by decide)).2; omega)] at this
  exact this
theorem c_N_hasRowF {G : GE} {h : AH} {n : Nat} {W : TD} {c : Nat → Nat} {VL WT BK SG GM : Nat → Nat → Nat} (hN : NT h n W c VL WT BK SG GM) {x z : Int32} (hk : inB x (nI 0) (nI (c 0) - nI 1) = false ∨ inB z (nI 0) (nI (c 1) - nI 1) = false) : Ctr G y_N_hasRow b_N_hasRow 3 (some .boolean) r_N_hasRow [.ref n, .int x, .int z] h (Pu (.int (bI false)) h) := by
  have := c_N_hasRow (G := G) hN x z
  have e : (inB x (nI 0) (nI (c 0) - nI 1) && inB z (nI 0) (nI (c 1) - nI 1)) = false := by
    rcases hk with e | e
    · rw [e]; rfl
    · rw [e, Bool.and_false]
  rw [e] at this
  exact this
