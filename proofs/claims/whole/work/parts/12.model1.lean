/-! what small methods answer -/
def inB (v lo hi : Int32) : Bool := !decide (v < lo) && !decide (hi < v)
def hasB (x k : Int32) : Bool := decide ((x >>> (k &&& 31)) &&& nI 1 = nI 1)
theorem inB_N {a b c : Nat} (ha : a < 2 ^ 31) (hb : b < 2 ^ 31) (hc : c < 2 ^ 31) : inB (nI a) (nI b) (nI c) = (decide (b ≤ a) && decide (a ≤ c)) := by
  simp only [inB, nI_ltI ha hb, nI_ltI hc ha]
  by_cases h1 : b ≤ a <;> by_cases h2 : a ≤ c <;> simp [h1, h2] <;> omega
/-- a land's numbers, as the reference lays them, within their bounds -/
def VOK (V : Nat → Nat) : Prop := (4 ≤ V 0 ∧ V 0 ≤ 24) ∧ V 1 ≤ 3 ∧ V 2 ≤ 9 ∧ (1 ≤ V 3 ∧ V 3 ≤ 4) ∧ V 4 ≤ 10 ∧ V 5 ≤ 6 ∧ (∀ p, p < 10 → V (42 + 27 * p + 0) ≤ 1 ∧ V (42 + 27 * p + 1) ≤ 12 ∧ V (42 + 27 * p + 2) ≤ 12 ∧ ∀ h, h < 24 → V (42 + 27 * p + (3 + h)) ≤ 9) ∧ (∀ b, b < 6 → V (30 + 2 * b) ≤ 99 ∧ V (30 + 2 * b + 1) ≤ 10) ∧ ∀ h, h < 24 → V (6 + h) ≤ 99
/-- the reference's land of number l has the numbers V -/
def ML (S : MS) (l : Nat) (V : Nat → Nat) : Prop := l < 2 ∧ VOK V ∧ ∀ i, i < 312 → S.2.2.1 6 (312 * l + i) = nI (V i)
/-- a land is handed -/
def HS (S : MS) (l : Nat) (V : Nat → Nat) : Prop := ML S l V ∧ S.1 26 = nI l ∧ S.1 27 = nI (V 0) ∧ S.1 28 = nI (V 1) ∧ S.1 29 = nI (V 4) ∧ S.1 30 = nI (V 5)
theorem HS.ok {S : MS} {l : Nat} {V : Nat → Nat} (h : HS S l V) : VOK V := h.1.2.1
theorem HS.hours {S : MS} {l : Nat} {V : Nat → Nat} (h : HS S l V) : S.1 27 = nI (V 0) := h.2.2.1
theorem HS.cross {S : MS} {l : Nat} {V : Nat → Nat} (h : HS S l V) : S.1 28 = nI (V 1) := h.2.2.2.1
theorem HS.people {S : MS} {l : Nat} {V : Nat → Nat} (h : HS S l V) : S.1 29 = nI (V 4) := h.2.2.2.2.1
theorem HS.bearers {S : MS} {l : Nat} {V : Nat → Nat} (h : HS S l V) : S.1 30 = nI (V 5) := h.2.2.2.2.2
def foldN {α : Type} (f : Nat → α → α) (a : α) : Nat → α
  | 0 => a
  | n + 1 => f n (foldN f a n)
def firstN {α : Type} (c : Nat → Bool) (r : Nat → α) (d : α) : Nat → Nat → α
  | 0, _ => d
  | n + 1, k => if c k then r k else firstN c r d n (k + 1)
/-- the first i of those from k to n (not with) that c holds of, its r, else d -/
def firstU {α : Type} (c : Nat → Bool) (r : Nat → α) (d : α) (n k : Nat) : α := firstN c r d (n - k) k
theorem firstU_step {α : Type} (c : Nat → Bool) (r : Nat → α) (d : α) {n k : Nat} (h : k < n) : firstU c r d n k = if c k then r k else firstU c r d n (k + 1) := by
  unfold firstU
  rw [show n - k = (n - (k + 1)) + 1 by omega]
  rfl
theorem firstU_end {α : Type} (c : Nat → Bool) (r : Nat → α) (d : α) (n : Nat) : firstU c r d n n = d := by
  unfold firstU
  rw [Nat.sub_self]
  rfl
def sumN (f : Nat → Nat) : Nat → Nat
  | 0 => 0
  | n + 1 => sumN f n + f n
theorem sumN_le {f : Nat → Nat} {c : Nat} : ∀ n, (∀ i, i < n → f i ≤ c) → sumN f n ≤ n * c
  | 0, _ => by simp [sumN]
  | n + 1, h => by
    have h1 := sumN_le n (fun i hi => h i (by omega))
    have h2 := h n (by omega)
    simp only [sumN, Nat.add_mul, Nat.one_mul]
    omega
theorem sumN_congr {f g : Nat → Nat} : ∀ n, (∀ i, i < n → f i = g i) → sumN f n = sumN g n
  | 0, _ => rfl
  | n + 1, h => by simp only [sumN]; rw [sumN_congr n (fun i hi => h i (by omega)), h n (by omega)]
def likedInN (V : Nat → Nat) (c h : Nat) : Nat := sumN (fun p => if V (42 + 27 * p + 0) = c then V (42 + 27 * p + (3 + h)) else 0) (V 4)
theorem likedInN_le {V : Nat → Nat} (ok : VOK V) (c : Nat) {h : Nat} (hh : h < 24) : likedInN V c h ≤ 90 := by
  have h1 := ok.2.2.2.2.1
  have := sumN_le (f := fun p => if V (42 + 27 * p + 0) = c then V (42 + 27 * p + (3 + h)) else 0) (c := 9) (V 4) (fun i hi => by
    have := (ok.2.2.2.2.2.2.1 i (by omega)).2.2.2 h hh
    split <;> omega)
  unfold likedInN
  omega
set_option maxHeartbeats 4000000 in
set_option maxRecDepth 100000 in
theorem c_M_in {G : GE} (v lo hi : Int32) (h : AH) : Ctr G y_M_in b_M_in 3 (some .boolean) r_M_in [.int v, .int lo, .int hi] h (Pu (.int (bI (inB v lo hi))) h) := by
  refine Ctr.of (by decide +kernel) (by simp) (Nat.le_of_ble_eq_true rfl) (L0 := [some (.int v), some (.int lo), some (.int hi)]) rfl ?_
  refine A_iload_n0 d_M_in_0 ?_
  refine A_iload_n1 d_M_in_1 ?_
  first | refine A_icmp_ltN (tgt := 14) d_M_in_2 (by decide) (by with_reducible rfl) (by with_reducible rfl) (by omega) (by omega) (fun c_2 => ?_) (fun c_2 => ?_) | refine A_icmp_lt (tgt := 14) d_M_in_2 (by decide) (fun c_2 => ?_) (fun c_2 => ?_)
  · refine A_iconst (v := nI 0) d_M_in_14 (by decide) ?_
    refine A_zret d_M_in_15 rfl (by first | rfl | decide) ⟨Nat.zero_le _, Nat.zero_le _⟩ ?_
    exact pu (by simp [inB, bI, *])
  · refine A_iload_n0 d_M_in_5 ?_
    refine A_iload_n2 d_M_in_6 ?_
    first | refine A_icmp_gtN (tgt := 14) d_M_in_7 (by decide) (by with_reducible rfl) (by with_reducible rfl) (by omega) (by omega) (fun c_7 => ?_) (fun c_7 => ?_) | refine A_icmp_gt (tgt := 14) d_M_in_7 (by decide) (fun c_7 => ?_) (fun c_7 => ?_)
    · refine A_iconst (v := nI 0) d_M_in_14 (by decide) ?_
      refine A_zret d_M_in_15 rfl (by first | rfl | decide) ⟨Nat.zero_le _, Nat.zero_le _⟩ ?_
      exact pu (by simp [inB, bI, *])
    · refine A_iconst (v := nI 1) d_M_in_10 (by decide) ?_
      refine A_goto (tgt := 15) d_M_in_11 (by decide) ?_
      refine A_zret d_M_in_15 rfl (by first | rfl | decide) ⟨Nat.zero_le _, Nat.zero_le _⟩ ?_
      exact pu (by simp [inB, bI, *])
set_option maxHeartbeats 4000000 in
set_option maxRecDepth 100000 in
theorem c_M_has {G : GE} (x k : Int32) (h : AH) : Ctr G y_M_has b_M_has 2 (some .boolean) r_M_has [.int x, .int k] h (Pu (.int (bI (hasB x k))) h) := by
  refine Ctr.of (by decide +kernel) (by simp) (Nat.le_of_ble_eq_true rfl) (L0 := [some (.int x), some (.int k)]) rfl ?_
  refine A_iload_n0 d_M_has_0 ?_
  refine A_iload_n1 d_M_has_1 ?_
  refine A_ishr d_M_has_2 ?_
  refine A_iconst (v := nI 1) d_M_has_3 (by decide) ?_
  refine A_iand d_M_has_4 ?_
  refine A_iconst (v := nI 1) d_M_has_5 (by decide) ?_
  first | refine A_icmp_neN (tgt := 13) d_M_has_6 (by decide) (by with_reducible rfl) (by with_reducible rfl) (by omega) (by omega) (fun c_6 => ?_) (fun c_6 => ?_) | refine A_icmp_ne (tgt := 13) d_M_has_6 (by decide) (fun c_6 => ?_) (fun c_6 => ?_)
  · refine A_iconst (v := nI 0) d_M_has_13 (by decide) ?_
    refine A_zret d_M_has_14 rfl (by first | rfl | decide) ⟨Nat.zero_le _, Nat.zero_le _⟩ ?_
    exact pu (by simp_all [hasB, bI])
  · refine A_iconst (v := nI 1) d_M_has_9 (by decide) ?_
    refine A_goto (tgt := 14) d_M_has_10 (by decide) ?_
    refine A_zret d_M_has_14 rfl (by first | rfl | decide) ⟨Nat.zero_le _, Nat.zero_le _⟩ ?_
    exact pu (by simp_all [hasB, bI])
set_option maxHeartbeats 4000000 in
set_option maxRecDepth 100000 in
theorem c_M_greater {G : GE} (a b : Int32) (h : AH) : Ctr G y_M_greater b_M_greater 2 (some .int) r_M_greater [.int a, .int b] h (Pu (.int (if a ≤ b then b else a)) h) := by
  refine Ctr.of (by decide +kernel) (by simp) (Nat.le_of_ble_eq_true rfl) (L0 := [some (.int a), some (.int b)]) rfl ?_
  refine A_iload_n0 d_M_greater_0 ?_
  refine A_iload_n1 d_M_greater_1 ?_
  first | refine A_icmp_leN (tgt := 9) d_M_greater_2 (by decide) (by with_reducible rfl) (by with_reducible rfl) (by omega) (by omega) (fun c_2 => ?_) (fun c_2 => ?_) | refine A_icmp_le (tgt := 9) d_M_greater_2 (by decide) (fun c_2 => ?_) (fun c_2 => ?_)
  · refine A_iload_n1 d_M_greater_9 ?_
    refine A_iret d_M_greater_10 rfl ⟨Nat.zero_le _, Nat.zero_le _⟩ ?_
    exact pu (by simp [*])
  · refine A_iload_n0 d_M_greater_5 ?_
    refine A_goto (tgt := 10) d_M_greater_6 (by decide) ?_
    refine A_iret d_M_greater_10 rfl ⟨Nat.zero_le _, Nat.zero_le _⟩ ?_
    exact pu (by simp [*])
set_option maxHeartbeats 4000000 in
set_option maxRecDepth 100000 in
theorem c_M_lesser {G : GE} (a b : Int32) (h : AH) : Ctr G y_M_lesser b_M_lesser 2 (some .int) r_M_lesser [.int a, .int b] h (Pu (.int (if b ≤ a then b else a)) h) := by
  refine Ctr.of (by decide +kernel) (by simp) (Nat.le_of_ble_eq_true rfl) (L0 := [some (.int a), some (.int b)]) rfl ?_
  refine A_iload_n0 d_M_lesser_0 ?_
  refine A_iload_n1 d_M_lesser_1 ?_
  first | refine A_icmp_geN (tgt := 9) d_M_lesser_2 (by decide) (by with_reducible rfl) (by with_reducible rfl) (by omega) (by omega) (fun c_2 => ?_) (fun c_2 => ?_) | refine A_icmp_ge (tgt := 9) d_M_lesser_2 (by decide) (fun c_2 => ?_) (fun c_2 => ?_)
  · refine A_iload_n1 d_M_lesser_9 ?_
    refine A_iret d_M_lesser_10 rfl ⟨Nat.zero_le _, Nat.zero_le _⟩ ?_
    exact pu (by simp [*])
  · refine A_iload_n0 d_M_lesser_5 ?_
    refine A_goto (tgt := 10) d_M_lesser_6 (by decide) ?_
    refine A_iret d_M_lesser_10 rfl ⟨Nat.zero_le _, Nat.zero_le _⟩ ?_
    exact pu (by simp [*])
set_option maxHeartbeats 4000000 in
set_option maxRecDepth 100000 in
theorem c_M_size {G : GE} (a : Int32) (h : AH) : Ctr G y_M_size b_M_size 1 (some .int) r_M_size [.int a] h (Pu (.int (if 0 ≤ a then a else -a)) h) := by
  refine Ctr.of (by decide +kernel) (by simp) (Nat.le_of_ble_eq_true rfl) (L0 := [some (.int a)]) rfl ?_
  refine A_iload_n0 d_M_size_0 ?_
  refine A_if_ge (tgt := 9) d_M_size_1 (by decide) (fun c_1 => ?_) (fun c_1 => ?_)
  · refine A_iload_n0 d_M_size_9 ?_
    refine A_iret d_M_size_10 rfl ⟨Nat.zero_le _, Nat.zero_le _⟩ ?_
    exact pu (by simp [*])
  · refine A_iload_n0 d_M_size_4 ?_
    refine A_ineg d_M_size_5 ?_
    refine A_goto (tgt := 10) d_M_size_6 (by decide) ?_
    refine A_iret d_M_size_10 rfl ⟨Nat.zero_le _, Nat.zero_le _⟩ ?_
    exact pu (by simp [*])
set_option maxHeartbeats 4000000 in
set_option maxRecDepth 100000 in
theorem c_M_is {G : GE} {h0 h : AH} {m : Nat} {S : MS} (hM : MW h0 h m S) (s : Nat) (hs : s < 20) (k : Int32) : Ctr G y_M_is b_M_is 3 (some .boolean) r_M_is [.ref m, .int (nI s), .int k] h (Pu (.int (bI (inB k (nI 0) (S.2.2.1 5 s - nI 1)))) h) := by
  refine Ctr.of (by decide +kernel) (by simp) (Nat.le_of_ble_eq_true rfl) (L0 := [some (.ref m), some (.int (nI s)), some (.int k)]) rfl ?_
  refine A_iload_n2 d_M_is_0 ?_
  refine A_iconst (v := nI 0) d_M_is_1 (by decide) ?_
  refine A_aload_n0 d_M_is_2 ?_
  refine A_getf (kf := 5) d_M_is_3 hM.o ok_8 (by decide) q_1054 rfl ?_
  refine A_iload_n1 d_M_is_6 ?_
  refine A_ialdN d_M_is_7 hM.a5 ⟨hs, by decide⟩ ?_
  refine A_iconst (v := nI 1) d_M_is_8 (by decide) ?_
  first | refine A_isubN d_M_is_9 (by with_reducible rfl) (by with_reducible rfl) (by omega) ?_ | refine A_isub d_M_is_9 ?_
  refine A_callSP d_M_is_10 (c_M_in _ _ _ _) q_1231 q_1232 mk_M_in rfl (by decide) rfl (Nat.le_of_ble_eq_true rfl) ⟨Nat.le_of_ble_eq_true rfl, Nat.le_of_ble_eq_true rfl⟩ ⟨rfl, rfl⟩ ?_
  refine A_zret d_M_is_13 rfl (bI_nar _) ⟨Nat.zero_le _, Nat.zero_le _⟩ ?_
  exact pu rfl
set_option maxHeartbeats 4000000 in
set_option maxRecDepth 100000 in
theorem c_M_of {G : GE} {h0 h : AH} {m : Nat} {S : MS} (hM : MW h0 h m S) {l : Nat} {V : Nat → Nat} (hS : HS S l V) (k : Nat) (hk : k < 312) : Ctr G y_M_of b_M_of 2 (some .int) r_M_of [.ref m, .int (nI k)] h (Pu (.int (nI (V k))) h) := by
  have hl := hS.1.1
  refine Ctr.of (by decide +kernel) (by simp) (Nat.le_of_ble_eq_true rfl) (L0 := [some (.ref m), some (.int (nI k))]) rfl ?_
  refine A_aload_n0 d_M_of_0 ?_
  refine A_getf (kf := 6) d_M_of_1 hM.o ok_8 (by decide) q_1055 rfl ?_
  refine A_sipush (v := nI 312) d_M_of_4 (by decide) ?_
  refine A_aload_n0 d_M_of_7 ?_
  refine A_getf (kf := 26) d_M_of_8 hM.o ok_8 (by decide) q_1075 rfl ?_
  refine A_topI hS.2.1 ?_
  first | refine A_imulN d_M_of_11 (by with_reducible rfl) (by with_reducible rfl) ?_ | refine A_imul d_M_of_11 ?_
  refine A_iload_n1 d_M_of_12 ?_
  first | refine A_iaddN d_M_of_13 (by with_reducible rfl) (by with_reducible rfl) ?_ | refine A_iadd d_M_of_13 ?_
  refine A_ialdN d_M_of_14 hM.a6 ⟨by omega, by decide⟩ ?_
  refine A_iret d_M_of_15 rfl ⟨Nat.zero_le _, Nat.zero_le _⟩ ?_
  exact pu (by rw [hS.1.2.2 k hk])
set_option maxHeartbeats 4000000 in
set_option maxRecDepth 100000 in
theorem c_M_ofOne {G : GE} {h0 h : AH} {m : Nat} {S : MS} (hM : MW h0 h m S) {l : Nat} {V : Nat → Nat} (hS : HS S l V) (p w : Nat) (hk : 42 + 27 * p + w < 312) : Ctr G y_M_ofOne b_M_ofOne 3 (some .int) r_M_ofOne [.ref m, .int (nI p), .int (nI w)] h (Pu (.int (nI (V (42 + 27 * p + w)))) h) := by
  refine Ctr.of (by decide +kernel) (by simp) (Nat.le_of_ble_eq_true rfl) (L0 := [some (.ref m), some (.int (nI p)), some (.int (nI w))]) rfl ?_
  refine A_aload_n0 d_M_ofOne_0 ?_
  refine A_bipush (v := nI 42) d_M_ofOne_1 (by decide) ?_
  refine A_bipush (v := nI 27) d_M_ofOne_3 (by decide) ?_
  refine A_iload_n1 d_M_ofOne_5 ?_
  first | refine A_imulN d_M_ofOne_6 (by with_reducible rfl) (by with_reducible rfl) ?_ | refine A_imul d_M_ofOne_6 ?_
  first | refine A_iaddN d_M_ofOne_7 (by with_reducible rfl) (by with_reducible rfl) ?_ | refine A_iadd d_M_ofOne_7 ?_
  refine A_iload_n2 d_M_ofOne_8 ?_
  first | refine A_iaddN d_M_ofOne_9 (by with_reducible rfl) (by with_reducible rfl) ?_ | refine A_iadd d_M_ofOne_9 ?_
  refine A_callVP d_M_ofOne_10 (c_M_of hM hS (42 + 27 * p + w) hk) hM.o rfl q_1343 q_1345 qs_36 mk_M_of rfl (by decide) rfl (Nat.le_of_ble_eq_true rfl) ⟨Nat.le_of_ble_eq_true rfl, Nat.le_of_ble_eq_true rfl⟩ ⟨rfl, rfl⟩ ?_
  refine A_iret d_M_ofOne_13 rfl ⟨Nat.zero_le _, Nat.zero_le _⟩ ?_
  exact pu rfl
set_option maxHeartbeats 4000000 in
set_option maxRecDepth 100000 in
theorem c_M_likeOf {G : GE} {h0 h : AH} {m : Nat} {S : MS} (hM : MW h0 h m S) {l : Nat} {V : Nat → Nat} (hS : HS S l V) (p w : Nat) (hk : 42 + 27 * p + (3 + w) < 312) : Ctr G y_M_likeOf b_M_likeOf 3 (some .int) r_M_likeOf [.ref m, .int (nI p), .int (nI w)] h (Pu (.int (nI (V (42 + 27 * p + (3 + w))))) h) := by
  refine Ctr.of (by decide +kernel) (by simp) (Nat.le_of_ble_eq_true rfl) (L0 := [some (.ref m), some (.int (nI p)), some (.int (nI w))]) rfl ?_
  refine A_aload_n0 d_M_likeOf_0 ?_
  refine A_iload_n1 d_M_likeOf_1 ?_
  refine A_iconst (v := nI 3) d_M_likeOf_2 (by decide) ?_
  refine A_iload_n2 d_M_likeOf_3 ?_
  first | refine A_iaddN d_M_likeOf_4 (by with_reducible rfl) (by with_reducible rfl) ?_ | refine A_iadd d_M_likeOf_4 ?_
  refine A_callVP d_M_likeOf_5 (c_M_ofOne hM hS p (3 + w) hk) hM.o rfl q_1355 q_1357 qs_38 mk_M_ofOne rfl (by decide) rfl (Nat.le_of_ble_eq_true rfl) ⟨Nat.le_of_ble_eq_true rfl, Nat.le_of_ble_eq_true rfl⟩ ⟨rfl, rfl⟩ ?_
  refine A_iret d_M_likeOf_8 rfl ⟨Nat.zero_le _, Nat.zero_le _⟩ ?_
  exact pu rfl
set_option maxHeartbeats 4000000 in
set_option maxRecDepth 100000 in
theorem c_M_isOne {G : GE} {h0 h : AH} {m : Nat} {S : MS} (hM : MW h0 h m S) (p : Int32) : Ctr G y_M_isOne b_M_isOne 2 (some .boolean) r_M_isOne [.ref m, .int p] h (Pu (.int (bI (inB p (nI 0) (S.1 29 - nI 1)))) h) := by
  refine Ctr.of (by decide +kernel) (by simp) (Nat.le_of_ble_eq_true rfl) (L0 := [some (.ref m), some (.int p)]) rfl ?_
  refine A_iload_n1 d_M_isOne_0 ?_
  refine A_iconst (v := nI 0) d_M_isOne_1 (by decide) ?_
  refine A_aload_n0 d_M_isOne_2 ?_
  refine A_getf (kf := 29) d_M_isOne_3 hM.o ok_8 (by decide) q_1078 rfl ?_
  refine A_iconst (v := nI 1) d_M_isOne_6 (by decide) ?_
  first | refine A_isubN d_M_isOne_7 (by with_reducible rfl) (by with_reducible rfl) (by omega) ?_ | refine A_isub d_M_isOne_7 ?_
  refine A_callSP d_M_isOne_8 (c_M_in _ _ _ _) q_1231 q_1232 mk_M_in rfl (by decide) rfl (Nat.le_of_ble_eq_true rfl) ⟨Nat.le_of_ble_eq_true rfl, Nat.le_of_ble_eq_true rfl⟩ ⟨rfl, rfl⟩ ?_
  refine A_zret d_M_isOne_11 rfl (bI_nar _) ⟨Nat.zero_le _, Nat.zero_le _⟩ ?_
  exact pu rfl
set_option maxHeartbeats 4000000 in
set_option maxRecDepth 100000 in
theorem c_M_isHour {G : GE} {h0 h : AH} {m : Nat} {S : MS} (hM : MW h0 h m S) (p : Int32) : Ctr G y_M_isHour b_M_isHour 2 (some .boolean) r_M_isHour [.ref m, .int p] h (Pu (.int (bI (inB p (nI 0) (S.1 27 - nI 1)))) h) := by
  refine Ctr.of (by decide +kernel) (by simp) (Nat.le_of_ble_eq_true rfl) (L0 := [some (.ref m), some (.int p)]) rfl ?_
  refine A_iload_n1 d_M_isHour_0 ?_
  refine A_iconst (v := nI 0) d_M_isHour_1 (by decide) ?_
  refine A_aload_n0 d_M_isHour_2 ?_
  refine A_getf (kf := 27) d_M_isHour_3 hM.o ok_8 (by decide) q_1076 rfl ?_
  refine A_iconst (v := nI 1) d_M_isHour_6 (by decide) ?_
  first | refine A_isubN d_M_isHour_7 (by with_reducible rfl) (by with_reducible rfl) (by omega) ?_ | refine A_isub d_M_isHour_7 ?_
  refine A_callSP d_M_isHour_8 (c_M_in _ _ _ _) q_1231 q_1232 mk_M_in rfl (by decide) rfl (Nat.le_of_ble_eq_true rfl) ⟨Nat.le_of_ble_eq_true rfl, Nat.le_of_ble_eq_true rfl⟩ ⟨rfl, rfl⟩ ?_
  refine A_zret d_M_isHour_11 rfl (bI_nar _) ⟨Nat.zero_le _, Nat.zero_le _⟩ ?_
  exact pu rfl
set_option maxHeartbeats 4000000 in
set_option maxRecDepth 100000 in
theorem c_M_tiredOf {G : GE} {h0 h : AH} {m : Nat} {S : MS} (hM : MW h0 h m S) {l : Nat} {V : Nat → Nat} (hS : HS S l V) (b : Nat) (hb : b < 6) : Ctr G y_M_tiredOf b_M_tiredOf 2 (some .int) r_M_tiredOf [.ref m, .int (nI b)] h (Pu (.int (nI (V (30 + 2 * b + 1)))) h) := by
  refine Ctr.of (by decide +kernel) (by simp) (Nat.le_of_ble_eq_true rfl) (L0 := [some (.ref m), some (.int (nI b))]) rfl ?_
  refine A_aload_n0 d_M_tiredOf_0 ?_
  refine A_bipush (v := nI 30) d_M_tiredOf_1 (by decide) ?_
  refine A_iconst (v := nI 2) d_M_tiredOf_3 (by decide) ?_
  refine A_iload_n1 d_M_tiredOf_4 ?_
  first | refine A_imulN d_M_tiredOf_5 (by with_reducible rfl) (by with_reducible rfl) ?_ | refine A_imul d_M_tiredOf_5 ?_
  first | refine A_iaddN d_M_tiredOf_6 (by with_reducible rfl) (by with_reducible rfl) ?_ | refine A_iadd d_M_tiredOf_6 ?_
  refine A_iconst (v := nI 1) d_M_tiredOf_7 (by decide) ?_
  first | refine A_iaddN d_M_tiredOf_8 (by with_reducible rfl) (by with_reducible rfl) ?_ | refine A_iadd d_M_tiredOf_8 ?_
  refine A_callVP d_M_tiredOf_9 (c_M_of hM hS (30 + 2 * b + 1) (by omega)) hM.o rfl q_1343 q_1345 qs_36 mk_M_of rfl (by decide) rfl (Nat.le_of_ble_eq_true rfl) ⟨Nat.le_of_ble_eq_true rfl, Nat.le_of_ble_eq_true rfl⟩ ⟨rfl, rfl⟩ ?_
  refine A_iret d_M_tiredOf_12 rfl ⟨Nat.zero_le _, Nat.zero_le _⟩ ?_
  exact pu rfl
set_option maxHeartbeats 4000000 in
set_option maxRecDepth 100000 in
theorem c_M_allHours {G : GE} {h0 h : AH} {m : Nat} {S : MS} (hM : MW h0 h m S)  : Ctr G y_M_allHours b_M_allHours 1 (some .int) r_M_allHours [.ref m] h (Pu (.int ((nI 1) <<< (S.1 27 &&& 31) - nI 1)) h) := by
  refine Ctr.of (by decide +kernel) (by simp) (Nat.le_of_ble_eq_true rfl) (L0 := [some (.ref m)]) rfl ?_
  refine A_iconst (v := nI 1) d_M_allHours_0 (by decide) ?_
  refine A_aload_n0 d_M_allHours_1 ?_
  refine A_getf (kf := 27) d_M_allHours_2 hM.o ok_8 (by decide) q_1076 rfl ?_
  refine A_ishl d_M_allHours_5 ?_
  refine A_iconst (v := nI 1) d_M_allHours_6 (by decide) ?_
  first | refine A_isubN d_M_allHours_7 (by with_reducible rfl) (by with_reducible rfl) (by omega) ?_ | refine A_isub d_M_allHours_7 ?_
  refine A_iret d_M_allHours_8 rfl ⟨Nat.zero_le _, Nat.zero_le _⟩ ?_
  exact pu rfl
set_option maxHeartbeats 4000000 in
set_option maxRecDepth 100000 in
theorem c_M_darkOf {G : GE} {h0 h : AH} {m : Nat} {S : MS} (hM : MW h0 h m S) (c : Int32) : Ctr G y_M_darkOf b_M_darkOf 2 (some .int) r_M_darkOf [.ref m, .int c] h (Pu (.int (if c = 0 then S.1 32 else S.1 33)) h) := by
  refine Ctr.of (by decide +kernel) (by simp) (Nat.le_of_ble_eq_true rfl) (L0 := [some (.ref m), some (.int c)]) rfl ?_
  refine A_iload_n1 d_M_darkOf_0 ?_
  first | refine A_if_neN (tgt := 11) d_M_darkOf_1 (by decide) (by with_reducible rfl) (by omega) (fun c_1 => ?_) (fun c_1 => ?_) | refine A_if_ne (tgt := 11) d_M_darkOf_1 (by decide) (fun c_1 => ?_) (fun c_1 => ?_)
  · refine A_aload_n0 d_M_darkOf_11 ?_
    refine A_getf (kf := 33) d_M_darkOf_12 hM.o ok_8 (by decide) q_1082 rfl ?_
    refine A_iret d_M_darkOf_15 rfl ⟨Nat.zero_le _, Nat.zero_le _⟩ ?_
    exact pu (by simp [*])
  · refine A_aload_n0 d_M_darkOf_4 ?_
    refine A_getf (kf := 32) d_M_darkOf_5 hM.o ok_8 (by decide) q_1081 rfl ?_
    refine A_goto (tgt := 15) d_M_darkOf_8 (by decide) ?_
    refine A_iret d_M_darkOf_15 rfl ⟨Nat.zero_le _, Nat.zero_le _⟩ ?_
    exact pu (by simp [*])
set_option maxHeartbeats 4000000 in
set_option maxRecDepth 100000 in
theorem c_M_stateMany {G : GE} {h0 h : AH} {m : Nat} {S : MS} (hM : MW h0 h m S)  : Ctr G y_M_stateMany b_M_stateMany 1 (some .int) r_M_stateMany [.ref m] h (Pu (.int (nI 2 + nI 2 * S.1 28)) h) := by
  refine Ctr.of (by decide +kernel) (by simp) (Nat.le_of_ble_eq_true rfl) (L0 := [some (.ref m)]) rfl ?_
  refine A_iconst (v := nI 2) d_M_stateMany_0 (by decide) ?_
  refine A_iconst (v := nI 2) d_M_stateMany_1 (by decide) ?_
  refine A_aload_n0 d_M_stateMany_2 ?_
  refine A_getf (kf := 28) d_M_stateMany_3 hM.o ok_8 (by decide) q_1077 rfl ?_
  first | refine A_imulN d_M_stateMany_6 (by with_reducible rfl) (by with_reducible rfl) ?_ | refine A_imul d_M_stateMany_6 ?_
  first | refine A_iaddN d_M_stateMany_7 (by with_reducible rfl) (by with_reducible rfl) ?_ | refine A_iadd d_M_stateMany_7 ?_
  refine A_iret d_M_stateMany_8 rfl ⟨Nat.zero_le _, Nat.zero_le _⟩ ?_
  exact pu rfl
set_option maxHeartbeats 4000000 in
set_option maxRecDepth 100000 in
theorem c_M_cityOf {G : GE} {h0 h : AH} {m : Nat} {S : MS} (hM : MW h0 h m S) (c : Int32) : Ctr G y_M_cityOf b_M_cityOf 2 (some .int) r_M_cityOf [.ref m, .int c] h (Pu (.int (if nI 2 ≤ c then nI 2 else c)) h) := by
  refine Ctr.of (by decide +kernel) (by simp) (Nat.le_of_ble_eq_true rfl) (L0 := [some (.ref m), some (.int c)]) rfl ?_
  refine A_iload_n1 d_M_cityOf_0 ?_
  refine A_iconst (v := nI 2) d_M_cityOf_1 (by decide) ?_
  first | refine A_icmp_geN (tgt := 9) d_M_cityOf_2 (by decide) (by with_reducible rfl) (by with_reducible rfl) (by omega) (by omega) (fun c_2 => ?_) (fun c_2 => ?_) | refine A_icmp_ge (tgt := 9) d_M_cityOf_2 (by decide) (fun c_2 => ?_) (fun c_2 => ?_)
  · refine A_iconst (v := nI 2) d_M_cityOf_9 (by decide) ?_
    refine A_iret d_M_cityOf_10 rfl ⟨Nat.zero_le _, Nat.zero_le _⟩ ?_
    exact pu (by simp [*])
  · refine A_iload_n1 d_M_cityOf_5 ?_
    refine A_goto (tgt := 10) d_M_cityOf_6 (by decide) ?_
    refine A_iret d_M_cityOf_10 rfl ⟨Nat.zero_le _, Nat.zero_le _⟩ ?_
    exact pu (by simp [*])
set_option maxHeartbeats 4000000 in
set_option maxRecDepth 100000 in
theorem c_M_more {G : GE} {h0 h : AH} {m : Nat} {S : MS} (hM : MW h0 h m S) (a b : Int32) : Ctr G y_M_more b_M_more 3 (some .int) r_M_more [.ref m, .int a, .int b] h (Pu (.int (bI (decide (a = b)))) h) := by
  refine Ctr.of (by decide +kernel) (by simp) (Nat.le_of_ble_eq_true rfl) (L0 := [some (.ref m), some (.int a), some (.int b)]) rfl ?_
  refine A_iload_n1 d_M_more_0 ?_
  refine A_iload_n2 d_M_more_1 ?_
  first | refine A_icmp_neN (tgt := 9) d_M_more_2 (by decide) (by with_reducible rfl) (by with_reducible rfl) (by omega) (by omega) (fun c_2 => ?_) (fun c_2 => ?_) | refine A_icmp_ne (tgt := 9) d_M_more_2 (by decide) (fun c_2 => ?_) (fun c_2 => ?_)
  · refine A_iconst (v := nI 0) d_M_more_9 (by decide) ?_
    refine A_iret d_M_more_10 rfl ⟨Nat.zero_le _, Nat.zero_le _⟩ ?_
    exact pu (by simp [bI, *])
  · refine A_iconst (v := nI 1) d_M_more_5 (by decide) ?_
    refine A_goto (tgt := 10) d_M_more_6 (by decide) ?_
    refine A_iret d_M_more_10 rfl ⟨Nat.zero_le _, Nat.zero_le _⟩ ?_
    exact pu (by simp [bI, *])
set_option maxHeartbeats 4000000 in
set_option maxRecDepth 100000 in
theorem c_M_grid {G : GE} {h0 h : AH} {m : Nat} {S : MS} (hM : MW h0 h m S) (a b c : Nat) : Ctr G y_M_grid b_M_grid 4 (some .int) r_M_grid [.ref m, .int (nI a), .int (nI b), .int (nI c)] h (Pu (.int (nI (625 * a + 25 * b + c))) h) := by
  refine Ctr.of (by decide +kernel) (by simp) (Nat.le_of_ble_eq_true rfl) (L0 := [some (.ref m), some (.int (nI a)), some (.int (nI b)), some (.int (nI c))]) rfl ?_
  refine A_sipush (v := nI 625) d_M_grid_0 (by decide) ?_
  refine A_iload_n1 d_M_grid_3 ?_
  first | refine A_imulN d_M_grid_4 (by with_reducible rfl) (by with_reducible rfl) ?_ | refine A_imul d_M_grid_4 ?_
  refine A_bipush (v := nI 25) d_M_grid_5 (by decide) ?_
  refine A_iload_n2 d_M_grid_7 ?_
  first | refine A_imulN d_M_grid_8 (by with_reducible rfl) (by with_reducible rfl) ?_ | refine A_imul d_M_grid_8 ?_
  first | refine A_iaddN d_M_grid_9 (by with_reducible rfl) (by with_reducible rfl) ?_ | refine A_iadd d_M_grid_9 ?_
  refine A_iload_n3 d_M_grid_10 ?_
  first | refine A_iaddN d_M_grid_11 (by with_reducible rfl) (by with_reducible rfl) ?_ | refine A_iadd d_M_grid_11 ?_
  refine A_iret d_M_grid_12 rfl ⟨Nat.zero_le _, Nat.zero_le _⟩ ?_
  exact pu rfl
set_option maxHeartbeats 4000000 in
set_option maxRecDepth 100000 in
theorem c_M_likedIn {G : GE} {h0 h : AH} {m : Nat} {S : MS} (hM : MW h0 h m S) {l : Nat} {V : Nat → Nat} (hS : HS S l V) (c w : Nat) (hc : c < 2 ^ 31) (hw : w < 24) : Ctr G y_M_likedIn b_M_likedIn 5 (some .int) r_M_likedIn [.ref m, .int (nI c), .int (nI w)] h (Pu (.int (nI (likedInN V c w))) h) := by
  have hP := hS.ok.2.2.2.2.1
  have hV := hS.ok.2.2.2.2.2.2.1
  generalize hf : (fun p => if V (42 + 27 * p + 0) = c then V (42 + 27 * p + (3 + w)) else 0) = f
  have key : ∀ i, i ≤ V 4 → WA G y_M_likedIn b_M_likedIn 5 (some .int) r_M_likedIn 0 0 (Pu (.int (nI (likedInN V c w))) h) 0 0 5 [some (.ref m), some (.int (nI c)), some (.int (nI w)), some (.int (nI (sumN f i))), some (.int (nI i))] [] h := by
    refine down ?_ (fun i hi ih => ?_)
    · refine A_iload4 d_M_likedIn_5 ?_
      refine A_aload_n0 d_M_likedIn_7 ?_
      refine A_getf (kf := 29) d_M_likedIn_8 hM.o ok_8 (by decide) q_1078 rfl ?_
      refine A_topI hS.people ?_
      first | refine A_icmp_geN (tgt := 45) d_M_likedIn_11 (by decide) (by with_reducible rfl) (by with_reducible rfl) (by omega) (by omega) (fun c_11 => ?_) (fun c_11 => ?_) | refine A_icmp_ge (tgt := 45) d_M_likedIn_11 (by decide) (fun c_11 => ?_) (fun c_11 => ?_)
      · refine A_iload_n3 d_M_likedIn_45 ?_
        refine A_iret d_M_likedIn_46 rfl ⟨Nat.zero_le _, Nat.zero_le _⟩ ?_
        exact pu (by rw [likedInN, hf])
      · exact absurd c_11 (by omega)
    · have hVi := hV i (by omega)
      refine A_iload4 d_M_likedIn_5 ?_
      refine A_aload_n0 d_M_likedIn_7 ?_
      refine A_getf (kf := 29) d_M_likedIn_8 hM.o ok_8 (by decide) q_1078 rfl ?_
      refine A_topI hS.people ?_
      first | refine A_icmp_geN (tgt := 45) d_M_likedIn_11 (by decide) (by with_reducible rfl) (by with_reducible rfl) (by omega) (by omega) (fun c_11 => ?_) (fun c_11 => ?_) | refine A_icmp_ge (tgt := 45) d_M_likedIn_11 (by decide) (fun c_11 => ?_) (fun c_11 => ?_)
      · exact absurd c_11 (by omega)
      · refine A_iload_n3 d_M_likedIn_14 ?_
        refine A_aload_n0 d_M_likedIn_15 ?_
        refine A_iload4 d_M_likedIn_16 ?_
        refine A_iconst (v := nI 0) d_M_likedIn_18 (by decide) ?_
        refine A_callVP d_M_likedIn_19 (c_M_ofOne hM hS i 0 (by omega)) hM.o rfl q_1355 q_1357 qs_38 mk_M_ofOne rfl (by decide) rfl (Nat.le_of_ble_eq_true rfl) ⟨Nat.le_of_ble_eq_true rfl, Nat.le_of_ble_eq_true rfl⟩ ⟨rfl, rfl⟩ ?_
        refine A_iload_n1 d_M_likedIn_22 ?_
        first | refine A_icmp_neN (tgt := 36) d_M_likedIn_23 (by decide) (by with_reducible rfl) (by with_reducible rfl) (by omega) (by omega) (fun c_23 => ?_) (fun c_23 => ?_) | refine A_icmp_ne (tgt := 36) d_M_likedIn_23 (by decide) (fun c_23 => ?_) (fun c_23 => ?_)
        · refine A_iconst (v := nI 0) d_M_likedIn_36 (by decide) ?_
          first | refine A_iaddN d_M_likedIn_37 (by with_reducible rfl) (by with_reducible rfl) ?_ | refine A_iadd d_M_likedIn_37 ?_
          refine A_istore3 d_M_likedIn_38 trivial ?_
          first | refine A_iinc4 d_M_likedIn_39 (nI_1 _) trivial ?_ | refine A_iinc4 d_M_likedIn_39 rfl trivial ?_
          refine A_goto (tgt := 5) d_M_likedIn_42 (by decide) ?_
          have hVi := hV i (by omega)
          exact A_loc (by simp only [sumN, ← hf, c_11, c_23, reduceIte]) ih
        · refine A_aload_n0 d_M_likedIn_26 ?_
          refine A_iload4 d_M_likedIn_27 ?_
          refine A_iload_n2 d_M_likedIn_29 ?_
          refine A_callVP d_M_likedIn_30 (c_M_likeOf hM hS i w (by omega)) hM.o rfl q_1359 q_1361 qs_39 mk_M_likeOf rfl (by decide) rfl (Nat.le_of_ble_eq_true rfl) ⟨Nat.le_of_ble_eq_true rfl, Nat.le_of_ble_eq_true rfl⟩ ⟨rfl, rfl⟩ ?_
          refine A_goto (tgt := 37) d_M_likedIn_33 (by decide) ?_
          first | refine A_iaddN d_M_likedIn_37 (by with_reducible rfl) (by with_reducible rfl) ?_ | refine A_iadd d_M_likedIn_37 ?_
          refine A_istore3 d_M_likedIn_38 trivial ?_
          first | refine A_iinc4 d_M_likedIn_39 (nI_1 _) trivial ?_ | refine A_iinc4 d_M_likedIn_39 rfl trivial ?_
          refine A_goto (tgt := 5) d_M_likedIn_42 (by decide) ?_
          have hVi := hV i (by omega)
          exact A_loc (by simp only [sumN, ← hf, c_11, c_23, reduceIte]) ih
  refine Ctr.of (by decide +kernel) (by simp) (Nat.le_of_ble_eq_true rfl) (L0 := [some (.ref m), some (.int (nI c)), some (.int (nI w)), none, none]) rfl ?_
  refine A_iconst (v := nI 0) d_M_likedIn_0 (by decide) ?_
  refine A_istore3 d_M_likedIn_1 trivial ?_
  refine A_iconst (v := nI 0) d_M_likedIn_2 (by decide) ?_
  refine A_istore4 d_M_likedIn_3 trivial ?_
  exact key 0 (Nat.zero_le _)
