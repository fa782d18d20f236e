/-- of the hours left the one that a city likes most, of several the least -/
def pkO (V : Nat → Nat) (who : Nat) (left : Int32) : Nat → Option Nat := foldN (fun h q => if hasB left (nI h) = true then (match q with
  | none => some h
  | some p => if likedInN V who p < likedInN V who h then some h else some p) else q) none
def whoN (cc : Nat) : Nat → Nat
  | 0 => cc
  | i + 1 => 1 - whoN cc i
theorem whoN_le {cc : Nat} (h : cc ≤ 1) : ∀ i, whoN cc i ≤ 1
  | 0 => h
  | i + 1 => by show 1 - whoN cc i ≤ 1; omega
def turnS (V : Nat → Nat) (cc : Nat) : Nat → Int32 × Int32
  | 0 => (allI (V 0), nI 0)
  | i + 1 => (clrI (turnS V cc i).1 ((pkO V (whoN cc i) (turnS V cc i).1 (V 0)).getD 0), (turnS V cc i).2 ||| (if whoN cc i = 1 then nI 1 <<< (nI ((pkO V (whoN cc i) (turnS V cc i).1 (V 0)).getD 0) &&& 31) else nI 0))
theorem pkO_keep {V : Nat → Nat} {who : Nat} {left : Int32} {n : Nat} (h : pkO V who left n ≠ none) : pkO V who left (n + 1) ≠ none := by
  show (if hasB left (nI n) = true then _ else pkO V who left n) ≠ none
  split
  · split
    · simp
    · split <;> simp
  · exact h
theorem pkO_ex {V : Nat → Nat} {who : Nat} {left : Int32} {i : Nat} (hb : hasB left (nI i) = true) : ∀ n, i < n → pkO V who left n ≠ none
  | 0, h => absurd h (Nat.not_lt_zero i)
  | n + 1, h => by
    by_cases q : i = n
    · subst q
      show (if hasB left (nI i) = true then _ else pkO V who left i) ≠ none
      rw [if_pos hb]
      split
      · simp
      · split <;> simp
    · exact pkO_keep (pkO_ex hb n (by omega))
theorem pkO_lt {V : Nat → Nat} {who : Nat} {left : Int32} : ∀ n p, pkO V who left n = some p → p < n ∧ hasB left (nI p) = true
  | 0, p, h => by cases h
  | n + 1, p, h => by
    have ih := pkO_lt (V := V) (who := who) (left := left) n
    have h : (if hasB left (nI n) = true then (match pkO V who left n with | none => some n | some p => if likedInN V who p < likedInN V who n then some n else some p) else pkO V who left n) = some p := h
    split at h
    · rename_i c
      split at h
      · cases h; exact ⟨by omega, c⟩
      · rename_i p2 e
        split at h
        · cases h; exact ⟨by omega, c⟩
        · cases h
          have := ih _ e
          exact ⟨by omega, this.2⟩
    · have := ih _ h
      exact ⟨by omega, this.2⟩
theorem turn_pk {V : Nat → Nat} (hH : V 0 ≤ 24) {who : Nat} {left : Int32} (h1 : ∀ j, j < 32 → bt left j = true → j < V 0) (h2 : cntB left 32 ≠ 0) : ∃ p, pkO V who left (V 0) = some p ∧ p < V 0 ∧ bt left p = true := by
  obtain ⟨j, hj, hb⟩ := cnt_ex 32 h2
  have hj2 := h1 j hj hb
  cases q : pkO V who left (V 0) with
  | none => exact absurd q (pkO_ex (by rw [hasB_bt _ hj]; exact hb) _ hj2)
  | some p =>
    have := pkO_lt _ _ q
    exact ⟨p, rfl, this.1, by rw [← hasB_bt _ (by omega)]; exact this.2⟩
theorem turn_inv {V : Nat → Nat} (hH : V 0 ≤ 24) {cc : Nat} : ∀ i, i ≤ V 0 → (∀ j, j < 32 → bt (turnS V cc i).1 j = true → j < V 0) ∧ cntB (turnS V cc i).1 32 + i = V 0 ∧ (i < V 0 → ∃ p, pkO V (whoN cc i) (turnS V cc i).1 (V 0) = some p ∧ p < V 0 ∧ bt (turnS V cc i).1 p = true)
  | 0, _ => by
    have h1 : ∀ j, j < 32 → bt (turnS V cc 0).1 j = true → j < V 0 := fun j hj hb => by
      have : bt (allI (V 0)) j = true := hb
      rw [b_all _ (by omega) _ hj] at this
      exact of_decide_eq_true this
    have h2 : cntB (turnS V cc 0).1 32 + 0 = V 0 := by
      show cntB (allI (V 0)) 32 + 0 = _
      rw [cnt_all (by omega) 32 (by omega)]
      omega
    exact ⟨h1, h2, fun hi => turn_pk hH h1 (by omega)⟩
  | i + 1, hi => by
    obtain ⟨h1, h2, h3⟩ := turn_inv hH (cc := cc) i (by omega)
    obtain ⟨p, hp, hp2, hp3⟩ := h3 (by omega)
    have e : (turnS V cc (i + 1)).1 = clrI (turnS V cc i).1 p := by
      show clrI (turnS V cc i).1 ((pkO V (whoN cc i) (turnS V cc i).1 (V 0)).getD 0) = _
      rw [hp]
      rfl
    have k1 : ∀ j, j < 32 → bt (turnS V cc (i + 1)).1 j = true → j < V 0 := fun j hj hb => by
      rw [e, b_clr _ (by omega) hj] at hb
      exact h1 j hj (by cases q : bt (turnS V cc i).1 j <;> simp_all)
    have k2 : cntB (turnS V cc (i + 1)).1 32 + (i + 1) = V 0 := by
      have := cnt_clr (x := (turnS V cc i).1) (p := p) (by omega) hp3 32 (by omega)
      rw [if_pos (by omega)] at this
      rw [e]
      omega
    exact ⟨k1, k2, fun hi => turn_pk hH k1 (by omega)⟩
theorem turn_0 {V : Nat → Nat} (hH : V 0 ≤ 24) {cc : Nat} : (turnS V cc (V 0)).1 = 0 := by
  obtain ⟨-, h2, -⟩ := turn_inv hH (cc := cc) (V 0) (Nat.le_refl _)
  exact b_zero (cnt_0 32 (by omega))
theorem turn_n0 {V : Nat → Nat} (hH : V 0 ≤ 24) {cc i : Nat} (hi : i < V 0) : (turnS V cc i).1 ≠ 0 := by
  obtain ⟨-, -, h3⟩ := turn_inv hH (cc := cc) i (by omega)
  obtain ⟨p, -, -, hp⟩ := h3 hi
  intro e
  rw [e, b_0] at hp
  cases hp
def turnsV (V : Nat → Nat) (cc : Nat) : Int32 := (turnS V cc (V 0)).2
set_option maxHeartbeats 4000000 in
set_option maxRecDepth 100000 in
theorem c_M_turn2 {G : GE} {h0 h : AH} {m : Nat} {S : MS} (hM : MW h0 h m S) {l : Nat} {V : Nat → Nat} (hS : HS S l V) {K : Option Value → AH → Prop} {cc who : Nat} {lft ct : Int32} (hwho : who ≤ 1) (hk : WA G y_M_byTurns b_M_byTurns 7 (some .int) r_M_byTurns 0 0 K 0 0 78 [some (.ref m), some (.int (nI cc)), some (.int lft), some (.int ct), some (.int (nI who)), some (.int (encN (pkO V who lft (V 0)))), none] [] h) : ∀ j, j ≤ V 0 → WA G y_M_byTurns b_M_byTurns 7 (some .int) r_M_byTurns 0 0 K 0 0 20 [some (.ref m), some (.int (nI cc)), some (.int lft), some (.int ct), some (.int (nI who)), some (.int (encN (pkO V who lft j))), some (.int (nI j))] [] h := by
  have ok := hS.ok
  have hH := ok.1
  refine down ?_ (fun j hj ih => ?_)
  · refine A_iload6 d_M_byTurns_20 ?_
    refine A_aload_n0 d_M_byTurns_22 ?_
    refine A_getf (kf := 27) d_M_byTurns_23 hM.o ok_8 (by decide) q_1076 rfl ?_
    refine A_topI hS.hours ?_
    first | refine A_icmp_geN (tgt := 78) d_M_byTurns_26 (by decide) (by with_reducible rfl) (by with_reducible rfl) (by omega) (by omega) (fun c_26 => ?_) (fun c_26 => ?_) | refine A_icmp_ge (tgt := 78) d_M_byTurns_26 (by decide) (fun c_26 => ?_) (fun c_26 => ?_)
    · exact A_drop6 hk
    · exact absurd c_26 (by omega)
  · refine A_iload6 d_M_byTurns_20 ?_
    refine A_aload_n0 d_M_byTurns_22 ?_
    refine A_getf (kf := 27) d_M_byTurns_23 hM.o ok_8 (by decide) q_1076 rfl ?_
    refine A_topI hS.hours ?_
    first | refine A_icmp_geN (tgt := 78) d_M_byTurns_26 (by decide) (by with_reducible rfl) (by with_reducible rfl) (by omega) (by omega) (fun c_26 => ?_) (fun c_26 => ?_) | refine A_icmp_ge (tgt := 78) d_M_byTurns_26 (by decide) (fun c_26 => ?_) (fun c_26 => ?_)
    · exact absurd c_26 (by omega)
    · have hst : pkO V who lft (j + 1) = if hasB lft (nI j) = true then (match pkO V who lft j with | none => some j | some p => if likedInN V who p < likedInN V who j then some j else some p) else pkO V who lft j := rfl
      cases hq : pkO V who lft j
      · refine A_iload_n2 d_M_byTurns_29 ?_
        refine A_iload6 d_M_byTurns_30 ?_
        refine A_callSP d_M_byTurns_32 (c_M_has lft (nI j) h) q_1553 q_1554 mk_M_has rfl (by decide) rfl (Nat.le_of_ble_eq_true rfl) ⟨Nat.le_of_ble_eq_true rfl, Nat.le_of_ble_eq_true rfl⟩ ⟨rfl, rfl⟩ ?_
        refine A_if_eqB (tgt := 68) d_M_byTurns_35 (by decide) (fun c_35 => ?_) (fun c_35 => ?_)
        · refine A_iload5 d_M_byTurns_68 ?_
          refine A_istore5 d_M_byTurns_70 trivial ?_
          first | refine A_iinc6 d_M_byTurns_72 (nI_1 _) trivial ?_ | refine A_iinc6 d_M_byTurns_72 rfl trivial ?_
          refine A_goto (tgt := 20) d_M_byTurns_75 (by decide) ?_
          refine A_loc ?_ ih
          rw [hst, hq]
          first | rw [if_pos c_35] | (rw [c_35, if_neg (by decide)])
          try rfl
        · refine A_iload5 d_M_byTurns_38 ?_
          refine A_iconst (v := (-1)) d_M_byTurns_40 (by decide) ?_
          refine A_icmp_eq (tgt := 63) d_M_byTurns_41 (by decide) (fun c_41 => ?_) (fun c => absurd rfl c)
          refine A_iload6 d_M_byTurns_63 ?_
          refine A_goto (tgt := 70) d_M_byTurns_65 (by decide) ?_
          refine A_istore5 d_M_byTurns_70 trivial ?_
          first | refine A_iinc6 d_M_byTurns_72 (nI_1 _) trivial ?_ | refine A_iinc6 d_M_byTurns_72 rfl trivial ?_
          refine A_goto (tgt := 20) d_M_byTurns_75 (by decide) ?_
          refine A_loc ?_ ih
          rw [hst, hq]
          first | rw [if_pos c_35] | (rw [c_35, if_neg (by decide)])
          try rfl
      · rename_i p
        have hpl := pkO_lt _ _ hq
        refine A_iload_n2 d_M_byTurns_29 ?_
        refine A_iload6 d_M_byTurns_30 ?_
        refine A_callSP d_M_byTurns_32 (c_M_has lft (nI j) h) q_1553 q_1554 mk_M_has rfl (by decide) rfl (Nat.le_of_ble_eq_true rfl) ⟨Nat.le_of_ble_eq_true rfl, Nat.le_of_ble_eq_true rfl⟩ ⟨rfl, rfl⟩ ?_
        refine A_if_eqB (tgt := 68) d_M_byTurns_35 (by decide) (fun c_35 => ?_) (fun c_35 => ?_)
        · refine A_iload5 d_M_byTurns_68 ?_
          refine A_istore5 d_M_byTurns_70 trivial ?_
          first | refine A_iinc6 d_M_byTurns_72 (nI_1 _) trivial ?_ | refine A_iinc6 d_M_byTurns_72 rfl trivial ?_
          refine A_goto (tgt := 20) d_M_byTurns_75 (by decide) ?_
          refine A_loc ?_ ih
          rw [hst, hq]
          first
            | (rw [if_pos c_35]
               show _ = [_, _, _, _, _, some (Value.int (encN (if likedInN V who p < likedInN V who j then some j else some p))), _]
               first | rw [if_pos c_60] | rw [if_neg (by omega)])
            | (rw [c_35, if_neg (by decide)])
          try rfl
        · refine A_iload5 d_M_byTurns_38 ?_
          refine A_iconst (v := (-1)) d_M_byTurns_40 (by decide) ?_
          refine A_icmp_eq (tgt := 63) d_M_byTurns_41 (by decide) (fun c => absurd c (nI_neM1 (by omega))) (fun c_41 => ?_)
          refine A_aload_n0 d_M_byTurns_44 ?_
          refine A_iload4 d_M_byTurns_45 ?_
          refine A_iload6 d_M_byTurns_47 ?_
          refine A_callVP d_M_byTurns_49 (c_M_likedIn hM hS who j (by omega) (by omega)) hM.o rfl q_1379 q_1381 qs_42 mk_M_likedIn rfl (by decide) rfl (Nat.le_of_ble_eq_true rfl) ⟨Nat.le_of_ble_eq_true rfl, Nat.le_of_ble_eq_true rfl⟩ ⟨rfl, rfl⟩ ?_
          refine A_aload_n0 d_M_byTurns_52 ?_
          refine A_iload4 d_M_byTurns_53 ?_
          refine A_iload5 d_M_byTurns_55 ?_
          refine A_callVP d_M_byTurns_57 (c_M_likedIn hM hS who p (by omega) (by omega)) hM.o rfl q_1379 q_1381 qs_42 mk_M_likedIn rfl (by decide) rfl (Nat.le_of_ble_eq_true rfl) ⟨Nat.le_of_ble_eq_true rfl, Nat.le_of_ble_eq_true rfl⟩ ⟨rfl, rfl⟩ ?_
          have l1 := likedInN_le ok who (h := j) (by omega)
          have l2 := likedInN_le ok who (h := p) (by omega)
          first | refine A_icmp_leN (tgt := 68) d_M_byTurns_60 (by decide) (by with_reducible rfl) (by with_reducible rfl) (by omega) (by omega) (fun c_60 => ?_) (fun c_60 => ?_) | refine A_icmp_le (tgt := 68) d_M_byTurns_60 (by decide) (fun c_60 => ?_) (fun c_60 => ?_)
          · refine A_iload5 d_M_byTurns_68 ?_
            refine A_istore5 d_M_byTurns_70 trivial ?_
            first | refine A_iinc6 d_M_byTurns_72 (nI_1 _) trivial ?_ | refine A_iinc6 d_M_byTurns_72 rfl trivial ?_
            refine A_goto (tgt := 20) d_M_byTurns_75 (by decide) ?_
            refine A_loc ?_ ih
            rw [hst, hq]
            first
              | (rw [if_pos c_35]
                 show _ = [_, _, _, _, _, some (Value.int (encN (if likedInN V who p < likedInN V who j then some j else some p))), _]
                 first | rw [if_pos c_60] | rw [if_neg (by omega)])
              | (rw [c_35, if_neg (by decide)])
            try rfl
          · refine A_iload6 d_M_byTurns_63 ?_
            refine A_goto (tgt := 70) d_M_byTurns_65 (by decide) ?_
            refine A_istore5 d_M_byTurns_70 trivial ?_
            first | refine A_iinc6 d_M_byTurns_72 (nI_1 _) trivial ?_ | refine A_iinc6 d_M_byTurns_72 rfl trivial ?_
            refine A_goto (tgt := 20) d_M_byTurns_75 (by decide) ?_
            refine A_loc ?_ ih
            rw [hst, hq]
            first
              | (rw [if_pos c_35]
                 show _ = [_, _, _, _, _, some (Value.int (encN (if likedInN V who p < likedInN V who j then some j else some p))), _]
                 first | rw [if_pos c_60] | rw [if_neg (by omega)])
              | (rw [c_35, if_neg (by decide)])
            try rfl
set_option maxHeartbeats 4000000 in
set_option maxRecDepth 100000 in
theorem c_M_byTurns {G : GE} {h0 h : AH} {m : Nat} {S : MS} (hM : MW h0 h m S) {l : Nat} {V : Nat → Nat} (hS : HS S l V) (cc : Nat) (hcc : cc ≤ 1) : Ctr G y_M_byTurns b_M_byTurns 7 (some .int) r_M_byTurns [.ref m, .int (nI cc)] h (Pu (.int (turnsV V cc)) h) := by
  have hH := hS.ok.1
  have key : ∀ i, i ≤ V 0 → WA G y_M_byTurns b_M_byTurns 7 (some .int) r_M_byTurns 0 0 (Pu (.int (turnsV V cc)) h) 0 0 10 [some (.ref m), some (.int (nI cc)), some (.int (turnS V cc i).1), some (.int (turnS V cc i).2), some (.int (nI (whoN cc i))), none, none] [] h := by
    refine down ?_ (fun i hi ih => ?_)
    · refine A_iload_n2 d_M_byTurns_10 ?_
      refine A_if_eq (tgt := 113) d_M_byTurns_11 (by decide) (fun c_11 => ?_) (fun c => absurd (turn_0 hH.2) c)
      refine A_iload_n3 d_M_byTurns_113 ?_
      refine A_iret d_M_byTurns_114 rfl ⟨Nat.zero_le _, Nat.zero_le _⟩ ?_
      exact pu rfl
    · refine A_iload_n2 d_M_byTurns_10 ?_
      refine A_if_eq (tgt := 113) d_M_byTurns_11 (by decide) (fun c => absurd c (turn_n0 hH.2 hi)) (fun c_11 => ?_)
      refine A_iconst (v := (-1)) d_M_byTurns_14 (by decide) ?_
      refine A_istore5 d_M_byTurns_15 trivial ?_
      refine A_iconst (v := nI 0) d_M_byTurns_17 (by decide) ?_
      refine A_istore6 d_M_byTurns_18 trivial ?_
      obtain ⟨-, -, h3⟩ := turn_inv hH.2 (cc := cc) i (by omega)
      obtain ⟨p, hp, hp2, -⟩ := h3 hi
      have hw1 := whoN_le hcc i
      refine c_M_turn2 hM hS hw1 ?_ 0 (Nat.zero_le _)
      rw [hp]
      have e1 : (turnS V cc (i + 1)).1 = (turnS V cc i).1 &&& ((nI 1 <<< (nI p &&& 31)) ^^^ (-1)) := by
        show clrI (turnS V cc i).1 ((pkO V (whoN cc i) (turnS V cc i).1 (V 0)).getD 0) = _
        rw [hp]
        rfl
      have e2 : (turnS V cc (i + 1)).2 = (turnS V cc i).2 ||| (if whoN cc i = 1 then nI 1 <<< (nI p &&& 31) else nI 0) := by
        show (turnS V cc i).2 ||| (if whoN cc i = 1 then nI 1 <<< (nI ((pkO V (whoN cc i) (turnS V cc i).1 (V 0)).getD 0) &&& 31) else nI 0) = _
        rw [hp]
        rfl
      refine A_iload_n2 d_M_byTurns_78 ?_
      refine A_iconst (v := nI 1) d_M_byTurns_79 (by decide) ?_
      refine A_iload5 d_M_byTurns_80 ?_
      refine A_ishl d_M_byTurns_82 ?_
      refine A_iconst (v := (-1)) d_M_byTurns_83 (by decide) ?_
      refine A_ixor d_M_byTurns_84 ?_
      refine A_iand d_M_byTurns_85 ?_
      refine A_istore2 d_M_byTurns_86 trivial ?_
      refine A_iload_n3 d_M_byTurns_87 ?_
      refine A_iload4 d_M_byTurns_88 ?_
      refine A_iconst (v := nI 1) d_M_byTurns_90 (by decide) ?_
      first | refine A_icmp_neN (tgt := 101) d_M_byTurns_91 (by decide) (by with_reducible rfl) (by with_reducible rfl) (by omega) (by omega) (fun c_91 => ?_) (fun c_91 => ?_) | refine A_icmp_ne (tgt := 101) d_M_byTurns_91 (by decide) (fun c_91 => ?_) (fun c_91 => ?_)
      · refine A_iconst (v := nI 0) d_M_byTurns_101 (by decide) ?_
        refine A_ior d_M_byTurns_102 ?_
        refine A_istore3 d_M_byTurns_103 trivial ?_
        refine A_iconst (v := nI 1) d_M_byTurns_104 (by decide) ?_
        refine A_iload4 d_M_byTurns_105 ?_
        first | refine A_isubN d_M_byTurns_107 (by with_reducible rfl) (by with_reducible rfl) (by omega) ?_ | refine A_isub d_M_byTurns_107 ?_
        refine A_istore4 d_M_byTurns_108 trivial ?_
        refine A_goto (tgt := 10) d_M_byTurns_110 (by decide) ?_
        refine A_drop5 (A_loc ?_ ih)
        rw [e1, e2]
        first | rw [if_pos c_91] | rw [if_neg c_91]
        rfl
      · refine A_iconst (v := nI 1) d_M_byTurns_94 (by decide) ?_
        refine A_iload5 d_M_byTurns_95 ?_
        refine A_ishl d_M_byTurns_97 ?_
        refine A_goto (tgt := 102) d_M_byTurns_98 (by decide) ?_
        refine A_ior d_M_byTurns_102 ?_
        refine A_istore3 d_M_byTurns_103 trivial ?_
        refine A_iconst (v := nI 1) d_M_byTurns_104 (by decide) ?_
        refine A_iload4 d_M_byTurns_105 ?_
        first | refine A_isubN d_M_byTurns_107 (by with_reducible rfl) (by with_reducible rfl) (by omega) ?_ | refine A_isub d_M_byTurns_107 ?_
        refine A_istore4 d_M_byTurns_108 trivial ?_
        refine A_goto (tgt := 10) d_M_byTurns_110 (by decide) ?_
        refine A_drop5 (A_loc ?_ ih)
        rw [e1, e2]
        first | rw [if_pos c_91] | rw [if_neg c_91]
        rfl
  refine Ctr.of (by decide +kernel) (by simp) (Nat.le_of_ble_eq_true rfl) (L0 := [some (.ref m), some (.int (nI cc)), none, none, none, none, none]) rfl ?_
  refine A_aload_n0 d_M_byTurns_0 ?_
  refine A_callVP d_M_byTurns_1 (c_M_allHours hM) hM.o rfl q_1564 q_1566 qs_79 mk_M_allHours rfl (by decide) rfl (Nat.le_of_ble_eq_true rfl) ⟨Nat.le_of_ble_eq_true rfl, Nat.le_of_ble_eq_true rfl⟩ ⟨rfl, rfl⟩ ?_
  refine A_topI (show nI 1 <<< (S.1 27 &&& 31) - nI 1 = allI (V 0) by rw [hS.hours]; rfl) ?_
  refine A_istore2 d_M_byTurns_4 trivial ?_
  refine A_iconst (v := nI 0) d_M_byTurns_5 (by decide) ?_
  refine A_istore3 d_M_byTurns_6 trivial ?_
  refine A_iload_n1 d_M_byTurns_7 ?_
  refine A_istore4 d_M_byTurns_8 trivial ?_
  exact key 0 (Nat.zero_le _)
def offD (a b : Nat) : Nat := if b ≤ a then a - b else b - a
theorem szD {a b : Nat} (ha : a < 2 ^ 30) (hb : b < 2 ^ 30) : (if 0 ≤ nI a - nI b then nI a - nI b else -(nI a - nI b)) = nI (offD a b) := by
  unfold offD
  by_cases q : b ≤ a
  · rw [nI_sub q, if_pos (nI_pos' (by omega)), if_pos q]
  · rw [if_neg (fun z => Int32.not_le.mpr (pk_sneg (a := a) (b := b) hb (by omega)) z), if_neg q, Int32.neg_sub, nI_sub (by omega)]
def offK (V : Nat → Nat) (cc k : Nat) : Nat := offD (worthN V cc (allI k)) (worthN V cc (allI (V 0) &&& (allI k ^^^ (-1))))
theorem offK_le {V : Nat → Nat} (ok : VOK V) (cc k : Nat) : offK V cc k ≤ 2160 := by
  have h1 := worthN_le ok cc (allI k)
  have h2 := worthN_le ok cc (allI (V 0) &&& (allI k ^^^ (-1)))
  unfold offK offD
  split <;> omega
/-- ahead of which hour, and how little apart, of the first so many -/
def knS (V : Nat → Nat) (cc : Nat) : Nat → Option Nat × Nat
  | 0 => (none, 1000000)
  | j + 1 => if offK V cc (j + 1) < (knS V cc j).2 then (some (j + 1), offK V cc (j + 1)) else knS V cc j
theorem knS_le {V : Nat → Nat} (ok : VOK V) (cc : Nat) : ∀ j, (knS V cc j).2 ≤ 1000000
  | 0 => Nat.le_refl _
  | j + 1 => by
    have := knS_le ok cc j
    have := offK_le ok cc (j + 1)
    show (if offK V cc (j + 1) < (knS V cc j).2 then (some (j + 1), offK V cc (j + 1)) else knS V cc j).2 ≤ _
    split
    · show offK V cc (j + 1) ≤ _
      omega
    · omega
theorem knS_ex {V : Nat → Nat} (ok : VOK V) (cc : Nat) : ∀ j, ∃ k, (knS V cc (j + 1)).1 = some k ∧ 1 ≤ k ∧ k ≤ j + 1
  | 0 => by
    have := offK_le ok cc 1
    have e : knS V cc 1 = (some 1, offK V cc 1) := if_pos (show offK V cc 1 < 1000000 by omega)
    exact ⟨1, by rw [e], by omega, by omega⟩
  | j + 1 => by
    obtain ⟨k, h1, h2, h3⟩ := knS_ex ok cc j
    by_cases q : offK V cc (j + 1 + 1) < (knS V cc (j + 1)).2
    · have e : knS V cc (j + 1 + 1) = (some (j + 1 + 1), offK V cc (j + 1 + 1)) := if_pos q
      exact ⟨j + 1 + 1, by rw [e], by omega, by omega⟩
    · have e : knS V cc (j + 1 + 1) = knS V cc (j + 1) := if_neg q
      exact ⟨k, by rw [e]; exact h1, h2, by omega⟩
def knB (V : Nat → Nat) (cc : Nat) : Nat := ((knS V cc (V 0 - 1)).1).getD 0
def knifeV (V : Nat → Nat) (cc : Nat) : Int32 :=
  if decide (worthN V (1 - cc) (allI (V 0) &&& (allI (knB V cc) ^^^ (-1))) ≤ worthN V (1 - cc) (allI (knB V cc))) = decide (cc = 0) then allI (knB V cc) else allI (V 0) &&& (allI (knB V cc) ^^^ (-1))
set_option maxHeartbeats 4000000 in
set_option maxRecDepth 100000 in
theorem c_M_byKnife {G : GE} {h0 h : AH} {m : Nat} {S : MS} (hM : MW h0 h m S) {l : Nat} {V : Nat → Nat} (hS : HS S l V) (cc : Nat) (hcc : cc ≤ 1) : Ctr G y_M_byKnife b_M_byKnife 7 (some .int) r_M_byKnife [.ref m, .int (nI cc)] h (Pu (.int (knifeV V cc)) h) := by
  have ok := hS.ok
  have hH := ok.1
  obtain ⟨k, hkn, hk1, hk2⟩ := knS_ex ok cc (V 0 - 2)
  rw [show V 0 - 2 + 1 = V 0 - 1 by omega] at hkn
  have key : ∀ j, j ≤ V 0 - 1 → WA G y_M_byKnife b_M_byKnife 7 (some .int) r_M_byKnife 0 0 (Pu (.int (knifeV V cc)) h) 0 0 9 [some (.ref m), some (.int (nI cc)), some (.int (encN (knS V cc j).1)), some (.int (nI (knS V cc j).2)), some (.int (nI (j + 1))), none, none] [] h := by
    refine down ?_ (fun j hj ih => ?_)
    · rw [show nI (V 0 - 1 + 1) = nI (V 0) from congrArg nI (by omega)]
      refine A_iload4 d_M_byKnife_9 ?_
      refine A_aload_n0 d_M_byKnife_11 ?_
      refine A_getf (kf := 27) d_M_byKnife_12 hM.o ok_8 (by decide) q_1076 rfl ?_
      refine A_topI hS.hours ?_
      first | refine A_icmp_geN (tgt := 79) d_M_byKnife_15 (by decide) (by with_reducible rfl) (by with_reducible rfl) (by omega) (by omega) (fun c_15 => ?_) (fun c_15 => ?_) | refine A_icmp_ge (tgt := 79) d_M_byKnife_15 (by decide) (fun c_15 => ?_) (fun c_15 => ?_)
      · rw [hkn]
        refine A_iconst (v := nI 1) d_M_byKnife_79 (by decide) ?_
        refine A_iload_n2 d_M_byKnife_80 ?_
        refine A_ishl d_M_byKnife_81 ?_
        refine A_iconst (v := nI 1) d_M_byKnife_82 (by decide) ?_
        first | refine A_isubN d_M_byKnife_83 (by with_reducible rfl) (by with_reducible rfl) (by omega) ?_ | refine A_isub d_M_byKnife_83 ?_
        refine A_topI (show nI 1 <<< (nI k &&& 31) - nI 1 = allI (knB V cc) by rw [show knB V cc = k by unfold knB; rw [hkn]; rfl]; rfl) ?_
        refine A_istore4 d_M_byKnife_84 trivial ?_
        refine A_aload_n0 d_M_byKnife_86 ?_
        refine A_callVP d_M_byKnife_87 (c_M_allHours hM) hM.o rfl q_1564 q_1566 qs_79 mk_M_allHours rfl (by decide) rfl (Nat.le_of_ble_eq_true rfl) ⟨Nat.le_of_ble_eq_true rfl, Nat.le_of_ble_eq_true rfl⟩ ⟨rfl, rfl⟩ ?_
        refine A_topI (show nI 1 <<< (S.1 27 &&& 31) - nI 1 = allI (V 0) by rw [hS.hours]; rfl) ?_
        refine A_iload4 d_M_byKnife_90 ?_
        refine A_iconst (v := (-1)) d_M_byKnife_92 (by decide) ?_
        refine A_ixor d_M_byKnife_93 ?_
        refine A_iand d_M_byKnife_94 ?_
        refine A_istore5 d_M_byKnife_95 trivial ?_
        refine A_aload_n0 d_M_byKnife_97 ?_
        refine A_iconst (v := nI 1) d_M_byKnife_98 (by decide) ?_
        refine A_iload_n1 d_M_byKnife_99 ?_
        first | refine A_isubN d_M_byKnife_100 (by with_reducible rfl) (by with_reducible rfl) (by omega) ?_ | refine A_isub d_M_byKnife_100 ?_
        refine A_iload4 d_M_byKnife_101 ?_
        refine A_callVP d_M_byKnife_103 (c_M_worthOf hM hS (1 - cc) (by omega) (allI (knB V cc))) hM.o rfl q_1549 q_1551 qs_77 mk_M_worthOf rfl (by decide) rfl (Nat.le_of_ble_eq_true rfl) ⟨Nat.le_of_ble_eq_true rfl, Nat.le_of_ble_eq_true rfl⟩ ⟨rfl, rfl⟩ ?_
        have w1 := worthN_le ok (1 - cc) (allI (knB V cc))
        have w2 := worthN_le ok (1 - cc) (allI (V 0) &&& (allI (knB V cc) ^^^ (-1)))
        refine A_aload_n0 d_M_byKnife_106 ?_
        refine A_iconst (v := nI 1) d_M_byKnife_107 (by decide) ?_
        refine A_iload_n1 d_M_byKnife_108 ?_
        first | refine A_isubN d_M_byKnife_109 (by with_reducible rfl) (by with_reducible rfl) (by omega) ?_ | refine A_isub d_M_byKnife_109 ?_
        refine A_iload5 d_M_byKnife_110 ?_
        refine A_callVP d_M_byKnife_112 (c_M_worthOf hM hS (1 - cc) (by omega) (allI (V 0) &&& (allI (knB V cc) ^^^ (-1)))) hM.o rfl q_1549 q_1551 qs_77 mk_M_worthOf rfl (by decide) rfl (Nat.le_of_ble_eq_true rfl) ⟨Nat.le_of_ble_eq_true rfl, Nat.le_of_ble_eq_true rfl⟩ ⟨rfl, rfl⟩ ?_
        first | refine A_icmp_ltN (tgt := 122) d_M_byKnife_115 (by decide) (by with_reducible rfl) (by with_reducible rfl) (by omega) (by omega) (fun c_115 => ?_) (fun c_115 => ?_) | refine A_icmp_lt (tgt := 122) d_M_byKnife_115 (by decide) (fun c_115 => ?_) (fun c_115 => ?_)
        · refine A_iconst (v := nI 0) d_M_byKnife_122 (by decide) ?_
          refine A_istore6 d_M_byKnife_123 trivial ?_
          refine A_iload6 d_M_byKnife_125 ?_
          refine A_iload_n1 d_M_byKnife_127 ?_
          first | refine A_if_neN (tgt := 135) d_M_byKnife_128 (by decide) (by with_reducible rfl) (by omega) (fun c_128 => ?_) (fun c_128 => ?_) | refine A_if_ne (tgt := 135) d_M_byKnife_128 (by decide) (fun c_128 => ?_) (fun c_128 => ?_)
          · refine A_iconst (v := nI 0) d_M_byKnife_135 (by decide) ?_
            first | refine A_icmp_neN (tgt := 144) d_M_byKnife_136 (by decide) (by with_reducible rfl) (by with_reducible rfl) (by omega) (by omega) (fun c_136 => ?_) (fun c_136 => ?_) | refine A_icmp_ne (tgt := 144) d_M_byKnife_136 (by decide) (fun c_136 => ?_) (fun c_136 => ?_)
            · refine A_iload5 d_M_byKnife_144 ?_
              refine A_iret d_M_byKnife_146 rfl ⟨Nat.zero_le _, Nat.zero_le _⟩ ?_
              first
                | (exfalso; omega)
                | (refine pu ?_
                   unfold knifeV
                   first | rw [if_pos (by rw [decide_eq_decide]; omega)] | rw [if_neg (by rw [decide_eq_decide]; omega)]
                   done)
            · refine A_iload4 d_M_byKnife_139 ?_
              refine A_goto (tgt := 146) d_M_byKnife_141 (by decide) ?_
              refine A_iret d_M_byKnife_146 rfl ⟨Nat.zero_le _, Nat.zero_le _⟩ ?_
              first
                | (exfalso; omega)
                | (refine pu ?_
                   unfold knifeV
                   first | rw [if_pos (by rw [decide_eq_decide]; omega)] | rw [if_neg (by rw [decide_eq_decide]; omega)]
                   done)
          · refine A_iconst (v := nI 1) d_M_byKnife_131 (by decide) ?_
            refine A_goto (tgt := 136) d_M_byKnife_132 (by decide) ?_
            first | refine A_icmp_neN (tgt := 144) d_M_byKnife_136 (by decide) (by with_reducible rfl) (by with_reducible rfl) (by omega) (by omega) (fun c_136 => ?_) (fun c_136 => ?_) | refine A_icmp_ne (tgt := 144) d_M_byKnife_136 (by decide) (fun c_136 => ?_) (fun c_136 => ?_)
            · refine A_iload5 d_M_byKnife_144 ?_
              refine A_iret d_M_byKnife_146 rfl ⟨Nat.zero_le _, Nat.zero_le _⟩ ?_
              first
                | (exfalso; omega)
                | (refine pu ?_
                   unfold knifeV
                   first | rw [if_pos (by rw [decide_eq_decide]; omega)] | rw [if_neg (by rw [decide_eq_decide]; omega)]
                   done)
            · refine A_iload4 d_M_byKnife_139 ?_
              refine A_goto (tgt := 146) d_M_byKnife_141 (by decide) ?_
              refine A_iret d_M_byKnife_146 rfl ⟨Nat.zero_le _, Nat.zero_le _⟩ ?_
              first
                | (exfalso; omega)
                | (refine pu ?_
                   unfold knifeV
                   first | rw [if_pos (by rw [decide_eq_decide]; omega)] | rw [if_neg (by rw [decide_eq_decide]; omega)]
                   done)
        · refine A_iconst (v := nI 1) d_M_byKnife_118 (by decide) ?_
          refine A_goto (tgt := 123) d_M_byKnife_119 (by decide) ?_
          refine A_istore6 d_M_byKnife_123 trivial ?_
          refine A_iload6 d_M_byKnife_125 ?_
          refine A_iload_n1 d_M_byKnife_127 ?_
          first | refine A_if_neN (tgt := 135) d_M_byKnife_128 (by decide) (by with_reducible rfl) (by omega) (fun c_128 => ?_) (fun c_128 => ?_) | refine A_if_ne (tgt := 135) d_M_byKnife_128 (by decide) (fun c_128 => ?_) (fun c_128 => ?_)
          · refine A_iconst (v := nI 0) d_M_byKnife_135 (by decide) ?_
            first | refine A_icmp_neN (tgt := 144) d_M_byKnife_136 (by decide) (by with_reducible rfl) (by with_reducible rfl) (by omega) (by omega) (fun c_136 => ?_) (fun c_136 => ?_) | refine A_icmp_ne (tgt := 144) d_M_byKnife_136 (by decide) (fun c_136 => ?_) (fun c_136 => ?_)
            · refine A_iload5 d_M_byKnife_144 ?_
              refine A_iret d_M_byKnife_146 rfl ⟨Nat.zero_le _, Nat.zero_le _⟩ ?_
              first
                | (exfalso; omega)
                | (refine pu ?_
                   unfold knifeV
                   first | rw [if_pos (by rw [decide_eq_decide]; omega)] | rw [if_neg (by rw [decide_eq_decide]; omega)]
                   done)
            · refine A_iload4 d_M_byKnife_139 ?_
              refine A_goto (tgt := 146) d_M_byKnife_141 (by decide) ?_
              refine A_iret d_M_byKnife_146 rfl ⟨Nat.zero_le _, Nat.zero_le _⟩ ?_
              first
                | (exfalso; omega)
                | (refine pu ?_
                   unfold knifeV
                   first | rw [if_pos (by rw [decide_eq_decide]; omega)] | rw [if_neg (by rw [decide_eq_decide]; omega)]
                   done)
          · refine A_iconst (v := nI 1) d_M_byKnife_131 (by decide) ?_
            refine A_goto (tgt := 136) d_M_byKnife_132 (by decide) ?_
            first | refine A_icmp_neN (tgt := 144) d_M_byKnife_136 (by decide) (by with_reducible rfl) (by with_reducible rfl) (by omega) (by omega) (fun c_136 => ?_) (fun c_136 => ?_) | refine A_icmp_ne (tgt := 144) d_M_byKnife_136 (by decide) (fun c_136 => ?_) (fun c_136 => ?_)
            · refine A_iload5 d_M_byKnife_144 ?_
              refine A_iret d_M_byKnife_146 rfl ⟨Nat.zero_le _, Nat.zero_le _⟩ ?_
              first
                | (exfalso; omega)
                | (refine pu ?_
                   unfold knifeV
                   first | rw [if_pos (by rw [decide_eq_decide]; omega)] | rw [if_neg (by rw [decide_eq_decide]; omega)]
                   done)
            · refine A_iload4 d_M_byKnife_139 ?_
              refine A_goto (tgt := 146) d_M_byKnife_141 (by decide) ?_
              refine A_iret d_M_byKnife_146 rfl ⟨Nat.zero_le _, Nat.zero_le _⟩ ?_
              first
                | (exfalso; omega)
                | (refine pu ?_
                   unfold knifeV
                   first | rw [if_pos (by rw [decide_eq_decide]; omega)] | rw [if_neg (by rw [decide_eq_decide]; omega)]
                   done)
      · exact absurd c_15 (by omega)
    · refine A_iload4 d_M_byKnife_9 ?_
      refine A_aload_n0 d_M_byKnife_11 ?_
      refine A_getf (kf := 27) d_M_byKnife_12 hM.o ok_8 (by decide) q_1076 rfl ?_
      refine A_topI hS.hours ?_
      first | refine A_icmp_geN (tgt := 79) d_M_byKnife_15 (by decide) (by with_reducible rfl) (by with_reducible rfl) (by omega) (by omega) (fun c_15 => ?_) (fun c_15 => ?_) | refine A_icmp_ge (tgt := 79) d_M_byKnife_15 (by decide) (fun c_15 => ?_) (fun c_15 => ?_)
      · exact absurd c_15 (by omega)
      · refine A_iconst (v := nI 1) d_M_byKnife_18 (by decide) ?_
        refine A_iload4 d_M_byKnife_19 ?_
        refine A_ishl d_M_byKnife_21 ?_
        refine A_iconst (v := nI 1) d_M_byKnife_22 (by decide) ?_
        first | refine A_isubN d_M_byKnife_23 (by with_reducible rfl) (by with_reducible rfl) (by omega) ?_ | refine A_isub d_M_byKnife_23 ?_
        refine A_topI (show nI 1 <<< (nI (j + 1) &&& 31) - nI 1 = allI (j + 1) from rfl) ?_
        refine A_istore5 d_M_byKnife_24 trivial ?_
        refine A_aload_n0 d_M_byKnife_26 ?_
        refine A_iload_n1 d_M_byKnife_27 ?_
        refine A_iload5 d_M_byKnife_28 ?_
        refine A_callVP d_M_byKnife_30 (c_M_worthOf hM hS cc (by omega) (allI (j + 1))) hM.o rfl q_1549 q_1551 qs_77 mk_M_worthOf rfl (by decide) rfl (Nat.le_of_ble_eq_true rfl) ⟨Nat.le_of_ble_eq_true rfl, Nat.le_of_ble_eq_true rfl⟩ ⟨rfl, rfl⟩ ?_
        have w1 := worthN_le ok cc (allI (j + 1))
        have w2 := worthN_le ok cc (allI (V 0) &&& (allI (j + 1) ^^^ (-1)))
        refine A_aload_n0 d_M_byKnife_33 ?_
        refine A_iload_n1 d_M_byKnife_34 ?_
        refine A_aload_n0 d_M_byKnife_35 ?_
        refine A_callVP d_M_byKnife_36 (c_M_allHours hM) hM.o rfl q_1564 q_1566 qs_79 mk_M_allHours rfl (by decide) rfl (Nat.le_of_ble_eq_true rfl) ⟨Nat.le_of_ble_eq_true rfl, Nat.le_of_ble_eq_true rfl⟩ ⟨rfl, rfl⟩ ?_
        refine A_topI (show nI 1 <<< (S.1 27 &&& 31) - nI 1 = allI (V 0) by rw [hS.hours]; rfl) ?_
        refine A_iload5 d_M_byKnife_39 ?_
        refine A_iconst (v := (-1)) d_M_byKnife_41 (by decide) ?_
        refine A_ixor d_M_byKnife_42 ?_
        refine A_iand d_M_byKnife_43 ?_
        refine A_callVP d_M_byKnife_44 (c_M_worthOf hM hS cc (by omega) (allI (V 0) &&& (allI (j + 1) ^^^ (-1)))) hM.o rfl q_1549 q_1551 qs_77 mk_M_worthOf rfl (by decide) rfl (Nat.le_of_ble_eq_true rfl) ⟨Nat.le_of_ble_eq_true rfl, Nat.le_of_ble_eq_true rfl⟩ ⟨rfl, rfl⟩ ?_
        first | refine A_isubN d_M_byKnife_47 (by with_reducible rfl) (by with_reducible rfl) (by omega) ?_ | refine A_isub d_M_byKnife_47 ?_
        refine A_callSP d_M_byKnife_48 (c_M_size _ h) q_1572 q_1573 mk_M_size rfl (by decide) rfl (Nat.le_of_ble_eq_true rfl) ⟨Nat.le_of_ble_eq_true rfl, Nat.le_of_ble_eq_true rfl⟩ ⟨rfl, rfl⟩ ?_
        refine A_topI (szD (by omega) (by omega)) ?_
        refine A_topI (show nI (offD (worthN V cc (allI (j + 1))) (worthN V cc (allI (V 0) &&& (allI (j + 1) ^^^ (-1))))) = nI (offK V cc (j + 1)) from rfl) ?_
        have w3 := offK_le ok cc (j + 1)
        have w4 := knS_le ok cc j
        refine A_istore6 d_M_byKnife_51 trivial ?_
        refine A_iload6 d_M_byKnife_53 ?_
        refine A_iload_n3 d_M_byKnife_55 ?_
        first | refine A_icmp_geN (tgt := 64) d_M_byKnife_56 (by decide) (by with_reducible rfl) (by with_reducible rfl) (by omega) (by omega) (fun c_56 => ?_) (fun c_56 => ?_) | refine A_icmp_ge (tgt := 64) d_M_byKnife_56 (by decide) (fun c_56 => ?_) (fun c_56 => ?_)
        · refine A_iload_n2 d_M_byKnife_64 ?_
          refine A_istore2 d_M_byKnife_65 trivial ?_
          refine A_iload_n3 d_M_byKnife_66 ?_
          refine A_iload6 d_M_byKnife_67 ?_
          refine A_callSP d_M_byKnife_69 (c_M_lesser _ _ _) q_1396 q_1397 mk_M_lesser rfl (by decide) rfl (Nat.le_of_ble_eq_true rfl) ⟨Nat.le_of_ble_eq_true rfl, Nat.le_of_ble_eq_true rfl⟩ ⟨rfl, rfl⟩ ?_
          refine A_topI (nI_min (by omega) (by omega)) ?_
          refine A_istore3 d_M_byKnife_72 trivial ?_
          first | refine A_iinc4 d_M_byKnife_73 (nI_1 _) trivial ?_ | refine A_iinc4 d_M_byKnife_73 rfl trivial ?_
          refine A_goto (tgt := 9) d_M_byKnife_76 (by decide) ?_
          refine A_drop5 (A_drop6 (A_loc ?_ ih))
          have e : knS V cc (j + 1) = if offK V cc (j + 1) < (knS V cc j).2 then (some (j + 1), offK V cc (j + 1)) else knS V cc j := rfl
          rw [e]
          first
            | (rw [if_pos c_56, show min (knS V cc j).2 (offK V cc (j + 1)) = offK V cc (j + 1) by omega]
               try rfl
               done)
            | (rw [if_neg (by omega), show min (knS V cc j).2 (offK V cc (j + 1)) = (knS V cc j).2 by omega]
               try rfl
               done)
        · refine A_iload4 d_M_byKnife_59 ?_
          refine A_goto (tgt := 65) d_M_byKnife_61 (by decide) ?_
          refine A_istore2 d_M_byKnife_65 trivial ?_
          refine A_iload_n3 d_M_byKnife_66 ?_
          refine A_iload6 d_M_byKnife_67 ?_
          refine A_callSP d_M_byKnife_69 (c_M_lesser _ _ _) q_1396 q_1397 mk_M_lesser rfl (by decide) rfl (Nat.le_of_ble_eq_true rfl) ⟨Nat.le_of_ble_eq_true rfl, Nat.le_of_ble_eq_true rfl⟩ ⟨rfl, rfl⟩ ?_
          refine A_topI (nI_min (by omega) (by omega)) ?_
          refine A_istore3 d_M_byKnife_72 trivial ?_
          first | refine A_iinc4 d_M_byKnife_73 (nI_1 _) trivial ?_ | refine A_iinc4 d_M_byKnife_73 rfl trivial ?_
          refine A_goto (tgt := 9) d_M_byKnife_76 (by decide) ?_
          refine A_drop5 (A_drop6 (A_loc ?_ ih))
          have e : knS V cc (j + 1) = if offK V cc (j + 1) < (knS V cc j).2 then (some (j + 1), offK V cc (j + 1)) else knS V cc j := rfl
          rw [e]
          first
            | (rw [if_pos c_56, show min (knS V cc j).2 (offK V cc (j + 1)) = offK V cc (j + 1) by omega]
               try rfl
               done)
            | (rw [if_neg (by omega), show min (knS V cc j).2 (offK V cc (j + 1)) = (knS V cc j).2 by omega]
               try rfl
               done)
  refine Ctr.of (by decide +kernel) (by simp) (Nat.le_of_ble_eq_true rfl) (L0 := [some (.ref m), some (.int (nI cc)), none, none, none, none, none]) rfl ?_
  refine A_iconst (v := (-1)) d_M_byKnife_0 (by decide) ?_
  refine A_istore2 d_M_byKnife_1 trivial ?_
  refine A_ldcw d_M_byKnife_2 q_1395 ?_
  refine A_istore3 d_M_byKnife_5 trivial ?_
  refine A_iconst (v := nI 1) d_M_byKnife_6 (by decide) ?_
  refine A_istore4 d_M_byKnife_7 trivial ?_
  exact key 0 (Nat.zero_le _)
