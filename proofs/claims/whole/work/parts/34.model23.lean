def encZ : Option Int → Int32
  | none => -2000000000
  | some z => Int32.ofInt z
def maxO : Option Int → Option Int → Option Int
  | none, b => b
  | some x, none => some x
  | some x, some y => some (if x ≤ y then y else x)
def addO (o : Option Int) (g : Int) : Option Int := o.map (fun z => z + g)
def bdO (o : Option Int) (lo hi : Int) : Prop := ∀ z, o = some z → lo ≤ z ∧ z ≤ hi
theorem bdO.max {a b : Option Int} {lo hi : Int} (ha : bdO a lo hi) (hb : bdO b lo hi) : bdO (maxO a b) lo hi := by
  intro z hz
  cases a with
  | none => exact hb z hz
  | some x =>
    cases b with
    | none => exact ha z hz
    | some y =>
      simp only [maxO, Option.some.injEq] at hz
      have h1 := ha x rfl
      have h2 := hb y rfl
      split at hz <;> omega
theorem bdO.add {a : Option Int} {lo hi g lo' hi' : Int} (ha : bdO a lo hi) (h1 : lo' ≤ lo + g) (h2 : hi + g ≤ hi') : bdO (addO a g) lo' hi' := by
  intro z hz
  cases a with
  | none => cases hz
  | some x =>
    simp only [addO, Option.map_some, Option.some.injEq] at hz
    have h1 := ha x rfl
    omega
theorem ofInt_toInt {z : Int} (h1 : -1073741824 ≤ z) (h2 : z ≤ 1073741824) : (Int32.ofInt z).toInt = z := Int32.toInt_ofInt_of_le (by omega) (by omega)
theorem encZ_none {a : Option Int} (ha : bdO a (-1073741824) 1073741824) : encZ a = -2000000000 ↔ a = none := by
  cases a with
  | none => exact ⟨fun _ => rfl, fun _ => rfl⟩
  | some z =>
    refine ⟨fun q => ?_, fun q => by cases q⟩
    exfalso
    have q2 := congrArg Int32.toInt q
    have e : (encZ (some z)).toInt = z := ofInt_toInt (ha z rfl).1 (ha z rfl).2
    rw [e] at q2
    have e2 : (-2000000000 : Int32).toInt = -2000000000 := rfl
    rw [e2] at q2
    have := (ha z rfl).1
    omega
theorem encZ_max {a : Option Int} {c : Int} (ha : bdO a (-1073741824) 1073741824) (h1 : -1073741824 ≤ c) (h2 : c ≤ 1073741824) : (if encZ a ≤ Int32.ofInt c then Int32.ofInt c else encZ a) = encZ (maxO a (some c)) := by
  cases a with
  | none =>
    rw [if_pos]
    · rfl
    · rw [Int32.le_iff_toInt_le, ofInt_toInt h1 h2]
      have e2 : (encZ none).toInt = -2000000000 := rfl
      omega
  | some z =>
    show (if Int32.ofInt z ≤ Int32.ofInt c then Int32.ofInt c else Int32.ofInt z) = Int32.ofInt (if z ≤ c then c else z)
    by_cases q : z ≤ c
    · rw [if_pos q, if_pos (by rw [Int32.le_iff_toInt_le, ofInt_toInt h1 h2, ofInt_toInt (ha z rfl).1 (ha z rfl).2]; exact q)]
    · rw [if_neg q, if_neg (by rw [Int32.le_iff_toInt_le, ofInt_toInt h1 h2, ofInt_toInt (ha z rfl).1 (ha z rfl).2]; exact q)]
theorem nI_Z (n : Nat) : nI n = Int32.ofInt (n : Int) := Int32.ofInt_eq_ofNat.symm
def gainsZ (few : Bool) (V : Nat → Nat) (s to h : Nat) : Int := (if carB s to = true then -(if few = true then 1 else ((V (6 + h) + cheapN V : Nat) : Int)) else 0) + (if few = true ∨ 2 ≤ to then 0 else ((10000 * likedInN V to h : Nat) : Int))
theorem cheapN_99 {V : Nat → Nat} (ok : VOK V) : cheapN V ≤ 99 := by
  unfold cheapN
  have hb := ok.2.2.2.2.2.2.2.1
  have h6 := ok.2.2.2.2.2.1
  by_cases q : V 5 = 0
  · rw [if_pos q, q]; exact Nat.zero_le _
  · rw [if_neg q]
    have : ∀ n, n < V 5 → foldN (fun b x => min x (V (30 + 2 * b))) 1000000 (n + 1) ≤ 99 := fun n hn => Nat.le_trans (Nat.min_le_right _ _) (hb n (by omega)).1
    have h := this (V 5 - 1) (by omega)
    rwa [show V 5 - 1 + 1 = V 5 by omega] at h
theorem gainsZ_bd {few : Bool} {V : Nat → Nat} (ok : VOK V) {s to h : Nat} (hh : h < 24) : -198 ≤ gainsZ few V s to h ∧ gainsZ few V s to h ≤ 900000 := by
  have h1 := cheapN_99 ok
  have h2 := ok.2.2.2.2.2.2.2.2 h hh
  have h3 := likedInN_le ok to hh
  unfold gainsZ
  constructor
  · split <;> split <;> (try split) <;> omega
  · split <;> split <;> (try split) <;> omega
def bestB (few : Bool) (V : Nat → Nat) (first : Nat) : Nat → Nat → Nat → Nat → Option Int
  | 0, s, d0, d1 => if goesB (V 1) s first = true ∧ fitsB V d0 d1 = true then some (gainsZ few V s first 0) else none
  | n + 1, s, d0, d1 => maxO (addO (bestB few V first n (nextN (V 1) s 0) (d0 + moN (nextN (V 1) s 0) 0) (d1 + moN (nextN (V 1) s 0) 1)) (gainsZ few V s (nextN (V 1) s 0) (V 0 - 1 - n)))
      (if 2 ≤ s then none else addO (bestB few V first n (nextN (V 1) s 1) (d0 + moN (nextN (V 1) s 1) 0) (d1 + moN (nextN (V 1) s 1) 1)) (gainsZ few V s (nextN (V 1) s 1) (V 0 - 1 - n)))
theorem bestB_bd {few : Bool} {V : Nat → Nat} (ok : VOK V) {first : Nat} : ∀ n, n < 24 → ∀ s d0 d1, bdO (bestB few V first n s d0 d1) (-198 * (n + 1 : Nat)) (900000 * (n + 1 : Nat))
  | 0, _, s, d0, d1 => by
    intro z hz
    simp only [bestB] at hz
    split at hz
    · simp only [Option.some.injEq] at hz
      have := gainsZ_bd (few := few) (s := s) (to := first) ok (show 0 < 24 by decide)
      omega
    · cases hz
  | n + 1, hn, s, d0, d1 => by
    have h0 := ok.1
    simp only [bestB]
    have ih := bestB_bd (few := few) (first := first) ok n (by omega)
    have g := fun to => gainsZ_bd (few := few) (s := s) (to := to) (h := V 0 - 1 - n) ok (by omega)
    refine bdO.max (bdO.add (ih _ _ _) ?_ ?_) ?_
    · have := g (nextN (V 1) s 0); omega
    · have := g (nextN (V 1) s 0); omega
    · split
      · intro z hz; cases hz
      · refine bdO.add (ih _ _ _) ?_ ?_
        · have := g (nextN (V 1) s 1); omega
        · have := g (nextN (V 1) s 1); omega
theorem bestB_bd2 {few : Bool} {V : Nat → Nat} (ok : VOK V) {first n s d0 d1 : Nat} (hn : n < 24) : bdO (bestB few V first n s d0 d1) (-1000000) 30000000 := by
  intro z hz
  have := bestB_bd ok n hn s d0 d1 z hz
  omega
theorem bdO.wide {a : Option Int} (ha : bdO a (-1000000) 30000000) : bdO a (-1073741824) 1073741824 := fun z hz => by have := ha z hz; omega
/-- the reference's best of hour h -/
def BA (S : MS) (few : Bool) (V : Nat → Nat) (first h : Nat) : Prop := ∀ s d, s < 2 + 2 * V 1 → d < 625 → S.2.2.1 39 (5000 * h + 625 * s + d) = if h + 1 < d / 25 + d % 25 then -2000000000 else encZ (bestB few V first (V 0 - 1 - h) s (d / 25) (d % 25))
def SA9 (S S1 : MS) : Prop := S1.1 = S.1 ∧ ∀ k, k ≠ 39 → S1.2.2.1 k = S.2.2.1 k
theorem SA9.rf (S : MS) : SA9 S S := ⟨rfl, fun _ _ => rfl⟩
theorem SA9.tr {S S1 S2 : MS} (a : SA9 S S1) (b : SA9 S1 S2) : SA9 S S2 := ⟨b.1.trans a.1, fun k hk => (b.2 k hk).trans (a.2 k hk)⟩
theorem SA9.hs {S S1 : MS} (a : SA9 S S1) {l : Nat} {V : Nat → Nat} (h : HS S l V) : HS S1 l V := h.keepF (fun k hk => a.2 k (by omega)) (fun j _ _ => by rw [a.1])
theorem SA9.nd {S S1 : MS} (a : SA9 S S1) {V : Nat → Nat} (h : ND S V) : ND S1 V := by
  obtain ⟨n1, n2, n3, n4, n5⟩ := h
  exact ⟨by rw [a.1]; exact n1, by rw [a.1]; exact n2, by rw [a.1]; exact n3, by rw [a.1]; exact n4, fun h hh => by rw [a.2 40 (by decide)]; exact n5 h hh⟩
theorem opa9 {h0 h : AH} {m : Nat} {S : MS} {g : Nat → Int32} (hM : MW h0 h m (S.sa 39 g)) : ∃ S2 : MS, MW h0 h m S2 ∧ S2.2.2.1 39 = g ∧ SA9 S S2 := ⟨_, hM, fup_eq S.2.2.1 39 g, rfl, fun j hj => fup_ne S.2.2.1 g hj⟩
theorem gI0 (x y : Nat) : nI 0 - nI x + nI y = Int32.ofInt (-(x : Int) + (y : Int)) := by
  rw [Int32.ofInt_add, Int32.ofInt_neg, ← nI_Z, ← nI_Z, show nI 0 - nI x = -nI x from Int32.zero_sub _]
theorem gI1 (x : Nat) : nI 0 - nI x = Int32.ofInt (-(x : Int) + 0) := by
  rw [Int.add_zero, Int32.ofInt_neg, ← nI_Z]; exact Int32.zero_sub _
theorem gI2 (y : Nat) : nI (0 + y) = Int32.ofInt (0 + (y : Int)) := by
  rw [Int.zero_add, Nat.zero_add, nI_Z]
set_option maxHeartbeats 4000000 in
set_option maxRecDepth 100000 in
theorem c_M_gains {G : GE} {h0 h : AH} {m : Nat} {S : MS} (hM : MW h0 h m S) {few : Bool} (hw : S.1 45 = bI few) {l : Nat} {V : Nat → Nat} (hS : HS S l V) (hN : ND S V) (s to h9 : Nat) (hs : s < 8) (hto : to < 8) (hh : h9 < V 0) : Ctr G y_M_gains b_M_gains 5 (some .int) r_M_gains [.ref m, .int (nI s), .int (nI to), .int (nI h9)] h (Pu (.int (Int32.ofInt (gainsZ few V s to h9))) h) := by
  have hH := hS.ok.1
  have hlk : to < 2 → S.2.2.1 40 (24 * to + h9) = nI (likedInN V to h9) := fun q => by
    rcases (show to = 0 ∨ to = 1 by omega) with e | e <;> subst e
    · rw [Nat.mul_zero, Nat.zero_add]; exact (hN.2.2.2.2 h9 hh).1
    · rw [Nat.mul_one]; exact (hN.2.2.2.2 h9 hh).2
  refine Ctr.of (by decide +kernel) (by simp) (Nat.le_of_ble_eq_true rfl) (L0 := [some (.ref m), some (.int (nI s)), some (.int (nI to)), some (.int (nI h9)), none]) rfl ?_
  refine A_iconst (v := nI 0) d_M_gains_0 (by decide) ?_
  refine A_istore4 d_M_gains_1 trivial ?_
  refine A_aload_n0 d_M_gains_3 ?_
  refine A_iload_n1 d_M_gains_4 ?_
  refine A_iload_n2 d_M_gains_5 ?_
  refine A_callVP d_M_gains_6 (c_M_carries hM s to (by omega) (by omega)) hM.o rfl q_1525 q_1527 qs_72 mk_M_carries rfl (by decide) rfl (Nat.le_of_ble_eq_true rfl) ⟨Nat.le_of_ble_eq_true rfl, Nat.le_of_ble_eq_true rfl⟩ ⟨rfl, rfl⟩ ?_
  refine A_if_eqB (tgt := 41) d_M_gains_9 (by decide) (fun c_9 => ?_) (fun c_9 => ?_)
  · refine A_aload_n0 d_M_gains_41 ?_
    refine A_getf (kf := 45) d_M_gains_42 hM.o ok_8 (by decide) q_1094 rfl ?_
    refine A_topI hw ?_
    refine A_if_neB (tgt := 53) d_M_gains_45 (by decide) (fun c_45 => ?_) (fun c_45 => ?_)
    · refine A_iload4 d_M_gains_53 ?_
      refine A_goto (tgt := 76) d_M_gains_55 (by decide) ?_
      refine A_iret d_M_gains_76 rfl ⟨Nat.zero_le _, Nat.zero_le _⟩ ?_
      first
        | (exfalso; rw [c_18] at c_45; cases c_45; done)
        | exact pu (congrArg Value.int (by
            unfold gainsZ
            simp only [c_9, c_45, reduceIte, Bool.false_eq_true, true_or, false_or, if_pos, or_true]
            first
              | exact gI1 _
              | rfl
              | (rw [if_pos (by omega)]; first | exact gI1 _ | rfl)
              | (rw [if_neg (by omega)]; first | exact gI0 _ _ | exact gI2 _)))
    · refine A_iload_n2 d_M_gains_48 ?_
      refine A_iconst (v := nI 2) d_M_gains_49 (by decide) ?_
      first | refine A_icmp_ltN (tgt := 58) d_M_gains_50 (by decide) (by with_reducible rfl) (by with_reducible rfl) (by omega) (by omega) (fun c_50 => ?_) (fun c_50 => ?_) | refine A_icmp_lt (tgt := 58) d_M_gains_50 (by decide) (fun c_50 => ?_) (fun c_50 => ?_)
      · refine A_iload4 d_M_gains_58 ?_
        refine A_sipush (v := nI 10000) d_M_gains_60 (by decide) ?_
        refine A_aload_n0 d_M_gains_63 ?_
        refine A_getf (kf := 40) d_M_gains_64 hM.o ok_8 (by decide) q_1089 rfl ?_
        refine A_bipush (v := nI 24) d_M_gains_67 (by decide) ?_
        refine A_iload_n2 d_M_gains_69 ?_
        first | refine A_imulN d_M_gains_70 (by with_reducible rfl) (by with_reducible rfl) ?_ | refine A_imul d_M_gains_70 ?_
        refine A_iload_n3 d_M_gains_71 ?_
        first | refine A_iaddN d_M_gains_72 (by with_reducible rfl) (by with_reducible rfl) ?_ | refine A_iadd d_M_gains_72 ?_
        refine A_ialdN d_M_gains_73 hM.a40 ⟨by omega, by decide⟩ ?_
        refine A_topI (hlk (by omega)) ?_
        first | refine A_imulN d_M_gains_74 (by with_reducible rfl) (by with_reducible rfl) ?_ | refine A_imul d_M_gains_74 ?_
        first | refine A_iaddN d_M_gains_75 (by with_reducible rfl) (by with_reducible rfl) ?_ | refine A_iadd d_M_gains_75 ?_
        refine A_iret d_M_gains_76 rfl ⟨Nat.zero_le _, Nat.zero_le _⟩ ?_
        first
          | (exfalso; rw [c_18] at c_45; cases c_45; done)
          | exact pu (congrArg Value.int (by
              unfold gainsZ
              simp only [c_9, c_45, c_50, reduceIte, Bool.false_eq_true, true_or, false_or, if_pos, or_true]
              first
                | exact gI1 _
                | rfl
                | (rw [if_pos (by omega)]; first | exact gI1 _ | rfl)
                | (rw [if_neg (by omega)]; first | exact gI0 _ _ | exact gI2 _)))
      · refine A_iload4 d_M_gains_53 ?_
        refine A_goto (tgt := 76) d_M_gains_55 (by decide) ?_
        refine A_iret d_M_gains_76 rfl ⟨Nat.zero_le _, Nat.zero_le _⟩ ?_
        first
          | (exfalso; rw [c_18] at c_45; cases c_45; done)
          | exact pu (congrArg Value.int (by
              unfold gainsZ
              simp only [c_9, c_45, c_50, reduceIte, Bool.false_eq_true, true_or, false_or, if_pos, or_true]
              first
                | exact gI1 _
                | rfl
                | (rw [if_pos (by omega)]; first | exact gI1 _ | rfl)
                | (rw [if_neg (by omega)]; first | exact gI0 _ _ | exact gI2 _)))
  · refine A_iload4 d_M_gains_12 ?_
    refine A_aload_n0 d_M_gains_14 ?_
    refine A_getf (kf := 45) d_M_gains_15 hM.o ok_8 (by decide) q_1094 rfl ?_
    refine A_topI hw ?_
    refine A_if_eqB (tgt := 25) d_M_gains_18 (by decide) (fun c_18 => ?_) (fun c_18 => ?_)
    · refine A_aload_n0 d_M_gains_25 ?_
      refine A_bipush (v := nI 6) d_M_gains_26 (by decide) ?_
      refine A_iload_n3 d_M_gains_28 ?_
      first | refine A_iaddN d_M_gains_29 (by with_reducible rfl) (by with_reducible rfl) ?_ | refine A_iadd d_M_gains_29 ?_
      refine A_callVP d_M_gains_30 (c_M_of hM hS (6 + h9) (by omega)) hM.o rfl q_1343 q_1345 qs_36 mk_M_of rfl (by decide) rfl (Nat.le_of_ble_eq_true rfl) ⟨Nat.le_of_ble_eq_true rfl, Nat.le_of_ble_eq_true rfl⟩ ⟨rfl, rfl⟩ ?_
      refine A_aload_n0 d_M_gains_33 ?_
      refine A_callVP d_M_gains_34 (c_M_cheapest hM hS) hM.o rfl q_1391 q_1393 qs_45 mk_M_cheapest rfl (by decide) rfl (Nat.le_of_ble_eq_true rfl) ⟨Nat.le_of_ble_eq_true rfl, Nat.le_of_ble_eq_true rfl⟩ ⟨rfl, rfl⟩ ?_
      first | refine A_iaddN d_M_gains_37 (by with_reducible rfl) (by with_reducible rfl) ?_ | refine A_iadd d_M_gains_37 ?_
      first | refine A_isubN d_M_gains_38 (by with_reducible rfl) (by with_reducible rfl) (by omega) ?_ | refine A_isub d_M_gains_38 ?_
      refine A_istore4 d_M_gains_39 trivial ?_
      refine A_aload_n0 d_M_gains_41 ?_
      refine A_getf (kf := 45) d_M_gains_42 hM.o ok_8 (by decide) q_1094 rfl ?_
      refine A_topI hw ?_
      refine A_if_neB (tgt := 53) d_M_gains_45 (by decide) (fun c_45 => ?_) (fun c_45 => ?_)
      · refine A_iload4 d_M_gains_53 ?_
        refine A_goto (tgt := 76) d_M_gains_55 (by decide) ?_
        refine A_iret d_M_gains_76 rfl ⟨Nat.zero_le _, Nat.zero_le _⟩ ?_
        first
          | (exfalso; rw [c_18] at c_45; cases c_45; done)
          | exact pu (congrArg Value.int (by
              unfold gainsZ
              simp only [c_9, c_18, c_45, reduceIte, Bool.false_eq_true, true_or, false_or, if_pos, or_true]
              first
                | exact gI1 _
                | rfl
                | (rw [if_pos (by omega)]; first | exact gI1 _ | rfl)
                | (rw [if_neg (by omega)]; first | exact gI0 _ _ | exact gI2 _)))
      · refine A_iload_n2 d_M_gains_48 ?_
        refine A_iconst (v := nI 2) d_M_gains_49 (by decide) ?_
        first | refine A_icmp_ltN (tgt := 58) d_M_gains_50 (by decide) (by with_reducible rfl) (by with_reducible rfl) (by omega) (by omega) (fun c_50 => ?_) (fun c_50 => ?_) | refine A_icmp_lt (tgt := 58) d_M_gains_50 (by decide) (fun c_50 => ?_) (fun c_50 => ?_)
        · refine A_iload4 d_M_gains_58 ?_
          refine A_sipush (v := nI 10000) d_M_gains_60 (by decide) ?_
          refine A_aload_n0 d_M_gains_63 ?_
          refine A_getf (kf := 40) d_M_gains_64 hM.o ok_8 (by decide) q_1089 rfl ?_
          refine A_bipush (v := nI 24) d_M_gains_67 (by decide) ?_
          refine A_iload_n2 d_M_gains_69 ?_
          first | refine A_imulN d_M_gains_70 (by with_reducible rfl) (by with_reducible rfl) ?_ | refine A_imul d_M_gains_70 ?_
          refine A_iload_n3 d_M_gains_71 ?_
          first | refine A_iaddN d_M_gains_72 (by with_reducible rfl) (by with_reducible rfl) ?_ | refine A_iadd d_M_gains_72 ?_
          refine A_ialdN d_M_gains_73 hM.a40 ⟨by omega, by decide⟩ ?_
          refine A_topI (hlk (by omega)) ?_
          first | refine A_imulN d_M_gains_74 (by with_reducible rfl) (by with_reducible rfl) ?_ | refine A_imul d_M_gains_74 ?_
          first | refine A_iaddN d_M_gains_75 (by with_reducible rfl) (by with_reducible rfl) ?_ | refine A_iadd d_M_gains_75 ?_
          refine A_iret d_M_gains_76 rfl ⟨Nat.zero_le _, Nat.zero_le _⟩ ?_
          first
            | (exfalso; rw [c_18] at c_45; cases c_45; done)
            | exact pu (congrArg Value.int (by
                unfold gainsZ
                simp only [c_9, c_18, c_45, c_50, reduceIte, Bool.false_eq_true, true_or, false_or, if_pos, or_true]
                first
                  | exact gI1 _
                  | rfl
                  | (rw [if_pos (by omega)]; first | exact gI1 _ | rfl)
                  | (rw [if_neg (by omega)]; first | exact gI0 _ _ | exact gI2 _)))
        · refine A_iload4 d_M_gains_53 ?_
          refine A_goto (tgt := 76) d_M_gains_55 (by decide) ?_
          refine A_iret d_M_gains_76 rfl ⟨Nat.zero_le _, Nat.zero_le _⟩ ?_
          first
            | (exfalso; rw [c_18] at c_45; cases c_45; done)
            | exact pu (congrArg Value.int (by
                unfold gainsZ
                simp only [c_9, c_18, c_45, c_50, reduceIte, Bool.false_eq_true, true_or, false_or, if_pos, or_true]
                first
                  | exact gI1 _
                  | rfl
                  | (rw [if_pos (by omega)]; first | exact gI1 _ | rfl)
                  | (rw [if_neg (by omega)]; first | exact gI0 _ _ | exact gI2 _)))
    · refine A_iconst (v := nI 1) d_M_gains_21 (by decide) ?_
      refine A_goto (tgt := 38) d_M_gains_22 (by decide) ?_
      first | refine A_isubN d_M_gains_38 (by with_reducible rfl) (by with_reducible rfl) (by omega) ?_ | refine A_isub d_M_gains_38 ?_
      refine A_istore4 d_M_gains_39 trivial ?_
      refine A_aload_n0 d_M_gains_41 ?_
      refine A_getf (kf := 45) d_M_gains_42 hM.o ok_8 (by decide) q_1094 rfl ?_
      refine A_topI hw ?_
      refine A_if_neB (tgt := 53) d_M_gains_45 (by decide) (fun c_45 => ?_) (fun c_45 => ?_)
      · refine A_iload4 d_M_gains_53 ?_
        refine A_goto (tgt := 76) d_M_gains_55 (by decide) ?_
        refine A_iret d_M_gains_76 rfl ⟨Nat.zero_le _, Nat.zero_le _⟩ ?_
        first
          | (exfalso; rw [c_18] at c_45; cases c_45; done)
          | exact pu (congrArg Value.int (by
              unfold gainsZ
              simp only [c_9, c_18, c_45, reduceIte, Bool.false_eq_true, true_or, false_or, if_pos, or_true]
              first
                | exact gI1 _
                | rfl
                | (rw [if_pos (by omega)]; first | exact gI1 _ | rfl)
                | (rw [if_neg (by omega)]; first | exact gI0 _ _ | exact gI2 _)))
      · refine A_iload_n2 d_M_gains_48 ?_
        refine A_iconst (v := nI 2) d_M_gains_49 (by decide) ?_
        first | refine A_icmp_ltN (tgt := 58) d_M_gains_50 (by decide) (by with_reducible rfl) (by with_reducible rfl) (by omega) (by omega) (fun c_50 => ?_) (fun c_50 => ?_) | refine A_icmp_lt (tgt := 58) d_M_gains_50 (by decide) (fun c_50 => ?_) (fun c_50 => ?_)
        · refine A_iload4 d_M_gains_58 ?_
          refine A_sipush (v := nI 10000) d_M_gains_60 (by decide) ?_
          refine A_aload_n0 d_M_gains_63 ?_
          refine A_getf (kf := 40) d_M_gains_64 hM.o ok_8 (by decide) q_1089 rfl ?_
          refine A_bipush (v := nI 24) d_M_gains_67 (by decide) ?_
          refine A_iload_n2 d_M_gains_69 ?_
          first | refine A_imulN d_M_gains_70 (by with_reducible rfl) (by with_reducible rfl) ?_ | refine A_imul d_M_gains_70 ?_
          refine A_iload_n3 d_M_gains_71 ?_
          first | refine A_iaddN d_M_gains_72 (by with_reducible rfl) (by with_reducible rfl) ?_ | refine A_iadd d_M_gains_72 ?_
          refine A_ialdN d_M_gains_73 hM.a40 ⟨by omega, by decide⟩ ?_
          refine A_topI (hlk (by omega)) ?_
          first | refine A_imulN d_M_gains_74 (by with_reducible rfl) (by with_reducible rfl) ?_ | refine A_imul d_M_gains_74 ?_
          first | refine A_iaddN d_M_gains_75 (by with_reducible rfl) (by with_reducible rfl) ?_ | refine A_iadd d_M_gains_75 ?_
          refine A_iret d_M_gains_76 rfl ⟨Nat.zero_le _, Nat.zero_le _⟩ ?_
          first
            | (exfalso; rw [c_18] at c_45; cases c_45; done)
            | exact pu (congrArg Value.int (by
                unfold gainsZ
                simp only [c_9, c_18, c_45, c_50, reduceIte, Bool.false_eq_true, true_or, false_or, if_pos, or_true]
                first
                  | exact gI1 _
                  | rfl
                  | (rw [if_pos (by omega)]; first | exact gI1 _ | rfl)
                  | (rw [if_neg (by omega)]; first | exact gI0 _ _ | exact gI2 _)))
        · refine A_iload4 d_M_gains_53 ?_
          refine A_goto (tgt := 76) d_M_gains_55 (by decide) ?_
          refine A_iret d_M_gains_76 rfl ⟨Nat.zero_le _, Nat.zero_le _⟩ ?_
          first
            | (exfalso; rw [c_18] at c_45; cases c_45; done)
            | exact pu (congrArg Value.int (by
                unfold gainsZ
                simp only [c_9, c_18, c_45, c_50, reduceIte, Bool.false_eq_true, true_or, false_or, if_pos, or_true]
                first
                  | exact gI1 _
                  | rfl
                  | (rw [if_pos (by omega)]; first | exact gI1 _ | rfl)
                  | (rw [if_neg (by omega)]; first | exact gI0 _ _ | exact gI2 _)))
