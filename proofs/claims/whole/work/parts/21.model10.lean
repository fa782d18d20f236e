/-! people who move: lives are bits -/
def bN (b : Bool) : Nat := if b then 1 else 0
def livN (V : Nat → Nat) (cc : Nat) (x : Int32) (but : Nat) : Nat := sumN (fun p => if p = but then 0 else if bN (hasB x (nI p)) = cc then 1 else 0) (V 4)
def gainI (V w : Nat → Nat) (p cc : Nat) (x : Int32) : Int32 := foldN (fun h z => z + nI (if w h = cc then V (42 + 27 * p + (3 + h)) else 0)) (-(nI (V 2)) * nI (livN V cc x p)) (V 0)
def wouldB (V w : Nat → Nat) (p : Nat) (x : Int32) : Bool := !decide (gainI V w p (1 - bN (hasB x (nI p))) x ≤ gainI V w p (bN (hasB x (nI p))) x)
def restB (V w : Nat → Nat) (x : Int32) : Bool := firstU (fun p => wouldB V w p x) (fun _ => false) true (V 4) 0
def toldI (V : Nat → Nat) : Int32 := foldN (fun p x => x ||| nI (if V (42 + 27 * p + 0) = 1 then 2 ^ p else 0)) (nI 0) (V 4)
/-- the k-th of those i that c holds of, from i on, n gone by, r to go; with k -1: how many -/
def scanN (c : Nat → Bool) (k : Int32) : Nat → Nat → Nat → Int32
  | 0, _, n => if k = -1 then nI n else -1
  | r + 1, i, n => if c i then (if nI n = k then nI i else scanN c k r (i + 1) (n + 1)) else scanN c k r (i + 1) n
def restV (V w : Nat → Nat) (k : Int32) : Int32 := scanN (fun i => restB V w (nI i)) k (2 ^ V 4) 0 0
/-- one round: lives, and whether one has moved -/
def roundF (V w : Nat → Nat) (x : Int32) : Nat → Int32 × Nat := foldN (fun p q => if wouldB V w p q.1 then (q.1 ^^^ nI (2 ^ p), 1) else q) (x, 0)
/-- rounds until nobody moves, r to go: the round, and where all live -/
def roundsN (V w : Nat → Nat) : Nat → Nat → Int32 → Option (Nat × Int32)
  | 0, _, _ => none
  | r + 1, i, x => if (roundF V w x (V 4)).2 = 0 then some (i, x) else roundsN V w r (i + 1) (roundF V w x (V 4)).1
def movesV (V w : Nat → Nat) (k : Int32) : Int32 :=
  if k < nI 2 then (match roundsN V w 60 0 (toldI V) with | none => -1 | some q => if k = 0 then nI q.1 else q.2) else restV V w (if k = nI 2 then -1 else k - nI 100)
theorem livN_le {V : Nat → Nat} (cc : Nat) (x : Int32) (but : Nat) : livN V cc x but ≤ V 4 := by
  have := sumN_le (f := fun p => if p = but then 0 else if bN (hasB x (nI p)) = cc then 1 else 0) (c := 1) (V 4) (fun i hi => by split; omega; split <;> omega)
  unfold livN
  omega
set_option maxHeartbeats 4000000 in
set_option maxRecDepth 100000 in
theorem c_M_livingIn {G : GE} {h0 h : AH} {m : Nat} {S : MS} (hM : MW h0 h m S) {l : Nat} {V : Nat → Nat} (hS : HS S l V) (cc : Nat) (x : Int32) (but : Nat) (hcc : cc < 2 ^ 31) (hbut : but < 2 ^ 31) : Ctr G y_M_livingIn b_M_livingIn 6 (some .int) r_M_livingIn [.ref m, .int (nI cc), .int x, .int (nI but)] h (Pu (.int (nI (livN V cc x but))) h) := by
  have hP := hS.ok.2.2.2.2.1
  generalize hf : (fun p => if p = but then 0 else if bN (hasB x (nI p)) = cc then 1 else 0) = f
  have key : ∀ i, i ≤ V 4 → WA G y_M_livingIn b_M_livingIn 6 (some .int) r_M_livingIn 0 0 (Pu (.int (nI (livN V cc x but))) h) 0 0 6 [some (.ref m), some (.int (nI cc)), some (.int x), some (.int (nI but)), some (.int (nI (sumN f i))), some (.int (nI i))] [] h := by
    refine down ?_ (fun i hi ih => ?_)
    · refine A_iload5 d_M_livingIn_6 ?_
      refine A_aload_n0 d_M_livingIn_8 ?_
      refine A_getf (kf := 29) d_M_livingIn_9 hM.o ok_8 (by decide) q_1078 rfl ?_
      refine A_topI hS.people ?_
      first | refine A_icmp_geN (tgt := 55) d_M_livingIn_12 (by decide) (by with_reducible rfl) (by with_reducible rfl) (by omega) (by omega) (fun c_12 => ?_) (fun c_12 => ?_) | refine A_icmp_ge (tgt := 55) d_M_livingIn_12 (by decide) (fun c_12 => ?_) (fun c_12 => ?_)
      · refine A_iload4 d_M_livingIn_55 ?_
        refine A_iret d_M_livingIn_57 rfl ⟨Nat.zero_le _, Nat.zero_le _⟩ ?_
        exact pu (by rw [livN, hf])
      · exact absurd c_12 (by omega)
    · refine A_iload5 d_M_livingIn_6 ?_
      refine A_aload_n0 d_M_livingIn_8 ?_
      refine A_getf (kf := 29) d_M_livingIn_9 hM.o ok_8 (by decide) q_1078 rfl ?_
      refine A_topI hS.people ?_
      first | refine A_icmp_geN (tgt := 55) d_M_livingIn_12 (by decide) (by with_reducible rfl) (by with_reducible rfl) (by omega) (by omega) (fun c_12 => ?_) (fun c_12 => ?_) | refine A_icmp_ge (tgt := 55) d_M_livingIn_12 (by decide) (fun c_12 => ?_) (fun c_12 => ?_)
      · exact absurd c_12 (by omega)
      · refine A_iload4 d_M_livingIn_15 ?_
        refine A_iload5 d_M_livingIn_17 ?_
        refine A_iload_n3 d_M_livingIn_19 ?_
        first | refine A_icmp_eqN (tgt := 45) d_M_livingIn_20 (by decide) (by with_reducible rfl) (by with_reducible rfl) (by omega) (by omega) (fun c_20 => ?_) (fun c_20 => ?_) | refine A_icmp_eq (tgt := 45) d_M_livingIn_20 (by decide) (fun c_20 => ?_) (fun c_20 => ?_)
        · refine A_iconst (v := nI 0) d_M_livingIn_45 (by decide) ?_
          first | refine A_iaddN d_M_livingIn_46 (by with_reducible rfl) (by with_reducible rfl) ?_ | refine A_iadd d_M_livingIn_46 ?_
          refine A_istore4 d_M_livingIn_47 trivial ?_
          first | refine A_iinc5 d_M_livingIn_49 (nI_1 _) trivial ?_ | refine A_iinc5 d_M_livingIn_49 rfl trivial ?_
          refine A_goto (tgt := 6) d_M_livingIn_52 (by decide) ?_
          refine A_loc ?_ ih
          first | (simp only [sumN, ← hf, bN, c_12, c_20, reduceIte, Bool.false_eq_true]; done) | (exfalso; omega)
        · refine A_iload_n2 d_M_livingIn_23 ?_
          refine A_iload5 d_M_livingIn_24 ?_
          refine A_callSP d_M_livingIn_26 (c_M_has _ _ _) q_1553 q_1554 mk_M_has rfl (by decide) rfl (Nat.le_of_ble_eq_true rfl) ⟨Nat.le_of_ble_eq_true rfl, Nat.le_of_ble_eq_true rfl⟩ ⟨rfl, rfl⟩ ?_
          refine A_if_eqB (tgt := 36) d_M_livingIn_29 (by decide) (fun c_29 => ?_) (fun c_29 => ?_)
          · refine A_iconst (v := nI 0) d_M_livingIn_36 (by decide) ?_
            refine A_iload_n1 d_M_livingIn_37 ?_
            first | refine A_icmp_neN (tgt := 45) d_M_livingIn_38 (by decide) (by with_reducible rfl) (by with_reducible rfl) (by omega) (by omega) (fun c_38 => ?_) (fun c_38 => ?_) | refine A_icmp_ne (tgt := 45) d_M_livingIn_38 (by decide) (fun c_38 => ?_) (fun c_38 => ?_)
            · refine A_iconst (v := nI 0) d_M_livingIn_45 (by decide) ?_
              first | refine A_iaddN d_M_livingIn_46 (by with_reducible rfl) (by with_reducible rfl) ?_ | refine A_iadd d_M_livingIn_46 ?_
              refine A_istore4 d_M_livingIn_47 trivial ?_
              first | refine A_iinc5 d_M_livingIn_49 (nI_1 _) trivial ?_ | refine A_iinc5 d_M_livingIn_49 rfl trivial ?_
              refine A_goto (tgt := 6) d_M_livingIn_52 (by decide) ?_
              refine A_loc ?_ ih
              first | (simp only [sumN, ← hf, bN, c_12, c_20, c_29, c_38, reduceIte, Bool.false_eq_true]; done) | (exfalso; omega)
            · refine A_iconst (v := nI 1) d_M_livingIn_41 (by decide) ?_
              refine A_goto (tgt := 46) d_M_livingIn_42 (by decide) ?_
              first | refine A_iaddN d_M_livingIn_46 (by with_reducible rfl) (by with_reducible rfl) ?_ | refine A_iadd d_M_livingIn_46 ?_
              refine A_istore4 d_M_livingIn_47 trivial ?_
              first | refine A_iinc5 d_M_livingIn_49 (nI_1 _) trivial ?_ | refine A_iinc5 d_M_livingIn_49 rfl trivial ?_
              refine A_goto (tgt := 6) d_M_livingIn_52 (by decide) ?_
              refine A_loc ?_ ih
              first | (simp only [sumN, ← hf, bN, c_12, c_20, c_29, c_38, reduceIte, Bool.false_eq_true]; done) | (exfalso; omega)
          · refine A_iconst (v := nI 1) d_M_livingIn_32 (by decide) ?_
            refine A_goto (tgt := 37) d_M_livingIn_33 (by decide) ?_
            refine A_iload_n1 d_M_livingIn_37 ?_
            first | refine A_icmp_neN (tgt := 45) d_M_livingIn_38 (by decide) (by with_reducible rfl) (by with_reducible rfl) (by omega) (by omega) (fun c_38 => ?_) (fun c_38 => ?_) | refine A_icmp_ne (tgt := 45) d_M_livingIn_38 (by decide) (fun c_38 => ?_) (fun c_38 => ?_)
            · refine A_iconst (v := nI 0) d_M_livingIn_45 (by decide) ?_
              first | refine A_iaddN d_M_livingIn_46 (by with_reducible rfl) (by with_reducible rfl) ?_ | refine A_iadd d_M_livingIn_46 ?_
              refine A_istore4 d_M_livingIn_47 trivial ?_
              first | refine A_iinc5 d_M_livingIn_49 (nI_1 _) trivial ?_ | refine A_iinc5 d_M_livingIn_49 rfl trivial ?_
              refine A_goto (tgt := 6) d_M_livingIn_52 (by decide) ?_
              refine A_loc ?_ ih
              first | (simp only [sumN, ← hf, bN, c_12, c_20, c_29, c_38, reduceIte, Bool.false_eq_true]; done) | (exfalso; omega)
            · refine A_iconst (v := nI 1) d_M_livingIn_41 (by decide) ?_
              refine A_goto (tgt := 46) d_M_livingIn_42 (by decide) ?_
              first | refine A_iaddN d_M_livingIn_46 (by with_reducible rfl) (by with_reducible rfl) ?_ | refine A_iadd d_M_livingIn_46 ?_
              refine A_istore4 d_M_livingIn_47 trivial ?_
              first | refine A_iinc5 d_M_livingIn_49 (nI_1 _) trivial ?_ | refine A_iinc5 d_M_livingIn_49 rfl trivial ?_
              refine A_goto (tgt := 6) d_M_livingIn_52 (by decide) ?_
              refine A_loc ?_ ih
              first | (simp only [sumN, ← hf, bN, c_12, c_20, c_29, c_38, reduceIte, Bool.false_eq_true]; done) | (exfalso; omega)
  refine Ctr.of (by decide +kernel) (by simp) (Nat.le_of_ble_eq_true rfl) (L0 := [some (.ref m), some (.int (nI cc)), some (.int x), some (.int (nI but)), none, none]) rfl ?_
  refine A_iconst (v := nI 0) d_M_livingIn_0 (by decide) ?_
  refine A_istore4 d_M_livingIn_1 trivial ?_
  refine A_iconst (v := nI 0) d_M_livingIn_3 (by decide) ?_
  refine A_istore5 d_M_livingIn_4 trivial ?_
  exact key 0 (Nat.zero_le _)
set_option maxHeartbeats 4000000 in
set_option maxRecDepth 100000 in
theorem c_M_gainOf {G : GE} {h0 h : AH} {m : Nat} {S : MS} (hM : MW h0 h m S) {l : Nat} {V : Nat → Nat} (hS : HS S l V) {w : Nat → Nat} (hw : RW S w (V 0)) (p cc : Nat) (x : Int32) (hp : p < V 4) (hcc : cc < 2 ^ 31) : Ctr G y_M_gainOf b_M_gainOf 6 (some .int) r_M_gainOf [.ref m, .int (nI p), .int (nI cc), .int x] h (Pu (.int (gainI V w p cc x)) h) := by
  have hH := hS.ok.1
  have hP := hS.ok.2.2.2.2.1
  generalize hf : (fun h z => z + nI (if w h = cc then V (42 + 27 * p + (3 + h)) else 0)) = f
  generalize hz : -(nI (V 2)) * nI (livN V cc x p) = z0
  have key : ∀ i, i ≤ V 0 → WA G y_M_gainOf b_M_gainOf 6 (some .int) r_M_gainOf 0 0 (Pu (.int (gainI V w p cc x)) h) 0 0 19 [some (.ref m), some (.int (nI p)), some (.int (nI cc)), some (.int x), some (.int (foldN f z0 i)), some (.int (nI i))] [] h := by
    refine down ?_ (fun i hi ih => ?_)
    · refine A_iload5 d_M_gainOf_19 ?_
      refine A_aload_n0 d_M_gainOf_21 ?_
      refine A_getf (kf := 27) d_M_gainOf_22 hM.o ok_8 (by decide) q_1076 rfl ?_
      refine A_topI hS.hours ?_
      first | refine A_icmp_geN (tgt := 61) d_M_gainOf_25 (by decide) (by with_reducible rfl) (by with_reducible rfl) (by omega) (by omega) (fun c_25 => ?_) (fun c_25 => ?_) | refine A_icmp_ge (tgt := 61) d_M_gainOf_25 (by decide) (fun c_25 => ?_) (fun c_25 => ?_)
      · refine A_iload4 d_M_gainOf_61 ?_
        refine A_iret d_M_gainOf_63 rfl ⟨Nat.zero_le _, Nat.zero_le _⟩ ?_
        exact pu (by rw [gainI, hf, hz])
      · exact absurd c_25 (by omega)
    · have hwi := (hw i hi).2
      refine A_iload5 d_M_gainOf_19 ?_
      refine A_aload_n0 d_M_gainOf_21 ?_
      refine A_getf (kf := 27) d_M_gainOf_22 hM.o ok_8 (by decide) q_1076 rfl ?_
      refine A_topI hS.hours ?_
      first | refine A_icmp_geN (tgt := 61) d_M_gainOf_25 (by decide) (by with_reducible rfl) (by with_reducible rfl) (by omega) (by omega) (fun c_25 => ?_) (fun c_25 => ?_) | refine A_icmp_ge (tgt := 61) d_M_gainOf_25 (by decide) (fun c_25 => ?_) (fun c_25 => ?_)
      · exact absurd c_25 (by omega)
      · refine A_iload4 d_M_gainOf_28 ?_
        refine A_aload_n0 d_M_gainOf_30 ?_
        refine A_getf (kf := 31) d_M_gainOf_31 hM.o ok_8 (by decide) q_1080 rfl ?_
        refine A_iload5 d_M_gainOf_34 ?_
        refine A_ialdN d_M_gainOf_36 hM.a31 ⟨by omega, by decide⟩ ?_
        refine A_topI (hw i hi).1 ?_
        refine A_iload_n2 d_M_gainOf_37 ?_
        first | refine A_icmp_neN (tgt := 51) d_M_gainOf_38 (by decide) (by with_reducible rfl) (by with_reducible rfl) (by omega) (by omega) (fun c_38 => ?_) (fun c_38 => ?_) | refine A_icmp_ne (tgt := 51) d_M_gainOf_38 (by decide) (fun c_38 => ?_) (fun c_38 => ?_)
        · refine A_iconst (v := nI 0) d_M_gainOf_51 (by decide) ?_
          first | refine A_iaddN d_M_gainOf_52 (by with_reducible rfl) (by with_reducible rfl) ?_ | refine A_iadd d_M_gainOf_52 ?_
          refine A_istore4 d_M_gainOf_53 trivial ?_
          first | refine A_iinc5 d_M_gainOf_55 (nI_1 _) trivial ?_ | refine A_iinc5 d_M_gainOf_55 rfl trivial ?_
          refine A_goto (tgt := 19) d_M_gainOf_58 (by decide) ?_
          exact A_loc (by simp only [foldN, ← hf, c_25, c_38, reduceIte]) ih
        · refine A_aload_n0 d_M_gainOf_41 ?_
          refine A_iload_n1 d_M_gainOf_42 ?_
          refine A_iload5 d_M_gainOf_43 ?_
          refine A_callVP d_M_gainOf_45 (c_M_likeOf hM hS p i (by omega)) hM.o rfl q_1359 q_1361 qs_39 mk_M_likeOf rfl (by decide) rfl (Nat.le_of_ble_eq_true rfl) ⟨Nat.le_of_ble_eq_true rfl, Nat.le_of_ble_eq_true rfl⟩ ⟨rfl, rfl⟩ ?_
          refine A_goto (tgt := 52) d_M_gainOf_48 (by decide) ?_
          first | refine A_iaddN d_M_gainOf_52 (by with_reducible rfl) (by with_reducible rfl) ?_ | refine A_iadd d_M_gainOf_52 ?_
          refine A_istore4 d_M_gainOf_53 trivial ?_
          first | refine A_iinc5 d_M_gainOf_55 (nI_1 _) trivial ?_ | refine A_iinc5 d_M_gainOf_55 rfl trivial ?_
          refine A_goto (tgt := 19) d_M_gainOf_58 (by decide) ?_
          exact A_loc (by simp only [foldN, ← hf, c_25, c_38, reduceIte]) ih
  refine Ctr.of (by decide +kernel) (by simp) (Nat.le_of_ble_eq_true rfl) (L0 := [some (.ref m), some (.int (nI p)), some (.int (nI cc)), some (.int x), none, none]) rfl ?_
  refine A_aload_n0 d_M_gainOf_0 ?_
  refine A_iconst (v := nI 2) d_M_gainOf_1 (by decide) ?_
  refine A_callVP d_M_gainOf_2 (c_M_of hM hS 2 (by decide)) hM.o rfl q_1343 q_1345 qs_36 mk_M_of rfl (by decide) rfl (Nat.le_of_ble_eq_true rfl) ⟨Nat.le_of_ble_eq_true rfl, Nat.le_of_ble_eq_true rfl⟩ ⟨rfl, rfl⟩ ?_
  refine A_ineg d_M_gainOf_5 ?_
  refine A_aload_n0 d_M_gainOf_6 ?_
  refine A_iload_n2 d_M_gainOf_7 ?_
  refine A_iload_n3 d_M_gainOf_8 ?_
  refine A_iload_n1 d_M_gainOf_9 ?_
  refine A_callVP d_M_gainOf_10 (c_M_livingIn hM hS cc x p hcc (by omega)) hM.o rfl q_1595 q_1597 qs_84 mk_M_livingIn rfl (by decide) rfl (Nat.le_of_ble_eq_true rfl) ⟨Nat.le_of_ble_eq_true rfl, Nat.le_of_ble_eq_true rfl⟩ ⟨rfl, rfl⟩ ?_
  first | refine A_imulN d_M_gainOf_13 (by with_reducible rfl) (by with_reducible rfl) ?_ | refine A_imul d_M_gainOf_13 ?_
  refine A_istore4 d_M_gainOf_14 trivial ?_
  refine A_iconst (v := nI 0) d_M_gainOf_16 (by decide) ?_
  refine A_istore5 d_M_gainOf_17 trivial ?_
  exact A_loc (by rw [← hz]; rfl) (key 0 (Nat.zero_le _))
set_option maxHeartbeats 4000000 in
set_option maxRecDepth 100000 in
theorem c_M_asTold {G : GE} {h0 h : AH} {m : Nat} {S : MS} (hM : MW h0 h m S) {l : Nat} {V : Nat → Nat} (hS : HS S l V)  : Ctr G y_M_asTold b_M_asTold 3 (some .int) r_M_asTold [.ref m] h (Pu (.int (toldI V)) h) := by
  have hP := hS.ok.2.2.2.2.1
  generalize hf : (fun p x => x ||| nI (if V (42 + 27 * p + 0) = 1 then 2 ^ p else 0)) = f
  have key : ∀ i, i ≤ V 4 → WA G y_M_asTold b_M_asTold 3 (some .int) r_M_asTold 0 0 (Pu (.int (toldI V)) h) 0 0 4 [some (.ref m), some (.int (foldN f (nI 0) i)), some (.int (nI i))] [] h := by
    refine down ?_ (fun i hi ih => ?_)
    · refine A_iload_n2 d_M_asTold_4 ?_
      refine A_aload_n0 d_M_asTold_5 ?_
      refine A_getf (kf := 29) d_M_asTold_6 hM.o ok_8 (by decide) q_1078 rfl ?_
      refine A_topI hS.people ?_
      first | refine A_icmp_geN (tgt := 38) d_M_asTold_9 (by decide) (by with_reducible rfl) (by with_reducible rfl) (by omega) (by omega) (fun c_9 => ?_) (fun c_9 => ?_) | refine A_icmp_ge (tgt := 38) d_M_asTold_9 (by decide) (fun c_9 => ?_) (fun c_9 => ?_)
      · refine A_iload_n1 d_M_asTold_38 ?_
        refine A_iret d_M_asTold_39 rfl ⟨Nat.zero_le _, Nat.zero_le _⟩ ?_
        exact pu (by rw [toldI, hf])
      · exact absurd c_9 (by omega)
    · have hVi := (hS.ok.2.2.2.2.2.2.1 i (by omega)).1
      refine A_iload_n2 d_M_asTold_4 ?_
      refine A_aload_n0 d_M_asTold_5 ?_
      refine A_getf (kf := 29) d_M_asTold_6 hM.o ok_8 (by decide) q_1078 rfl ?_
      refine A_topI hS.people ?_
      first | refine A_icmp_geN (tgt := 38) d_M_asTold_9 (by decide) (by with_reducible rfl) (by with_reducible rfl) (by omega) (by omega) (fun c_9 => ?_) (fun c_9 => ?_) | refine A_icmp_ge (tgt := 38) d_M_asTold_9 (by decide) (fun c_9 => ?_) (fun c_9 => ?_)
      · exact absurd c_9 (by omega)
      · refine A_iload_n1 d_M_asTold_12 ?_
        refine A_aload_n0 d_M_asTold_13 ?_
        refine A_iload_n2 d_M_asTold_14 ?_
        refine A_iconst (v := nI 0) d_M_asTold_15 (by decide) ?_
        refine A_callVP d_M_asTold_16 (c_M_ofOne hM hS i 0 (by omega)) hM.o rfl q_1355 q_1357 qs_38 mk_M_ofOne rfl (by decide) rfl (Nat.le_of_ble_eq_true rfl) ⟨Nat.le_of_ble_eq_true rfl, Nat.le_of_ble_eq_true rfl⟩ ⟨rfl, rfl⟩ ?_
        refine A_iconst (v := nI 1) d_M_asTold_19 (by decide) ?_
        first | refine A_icmp_neN (tgt := 29) d_M_asTold_20 (by decide) (by with_reducible rfl) (by with_reducible rfl) (by omega) (by omega) (fun c_20 => ?_) (fun c_20 => ?_) | refine A_icmp_ne (tgt := 29) d_M_asTold_20 (by decide) (fun c_20 => ?_) (fun c_20 => ?_)
        · refine A_iconst (v := nI 0) d_M_asTold_29 (by decide) ?_
          refine A_ior d_M_asTold_30 ?_
          refine A_istore1 d_M_asTold_31 trivial ?_
          first | refine A_iinc2 d_M_asTold_32 (nI_1 _) trivial ?_ | refine A_iinc2 d_M_asTold_32 rfl trivial ?_
          refine A_goto (tgt := 4) d_M_asTold_35 (by decide) ?_
          exact A_loc (by simp only [foldN, ← hf, c_9, c_20, reduceIte]) ih
        · refine A_iconst (v := nI 1) d_M_asTold_23 (by decide) ?_
          refine A_iload_n2 d_M_asTold_24 ?_
          refine A_ishl d_M_asTold_25 ?_
          refine A_topI (sh1 (by omega)) ?_
          refine A_goto (tgt := 30) d_M_asTold_26 (by decide) ?_
          refine A_ior d_M_asTold_30 ?_
          refine A_istore1 d_M_asTold_31 trivial ?_
          first | refine A_iinc2 d_M_asTold_32 (nI_1 _) trivial ?_ | refine A_iinc2 d_M_asTold_32 rfl trivial ?_
          refine A_goto (tgt := 4) d_M_asTold_35 (by decide) ?_
          exact A_loc (by simp only [foldN, ← hf, c_9, c_20, reduceIte]) ih
  refine Ctr.of (by decide +kernel) (by simp) (Nat.le_of_ble_eq_true rfl) (L0 := [some (.ref m), none, none]) rfl ?_
  refine A_iconst (v := nI 0) d_M_asTold_0 (by decide) ?_
  refine A_istore1 d_M_asTold_1 trivial ?_
  refine A_iconst (v := nI 0) d_M_asTold_2 (by decide) ?_
  refine A_istore2 d_M_asTold_3 trivial ?_
  exact key 0 (Nat.zero_le _)
/-- of two, one isn't told -/
theorem pick2_out' {n1 n2 : Nat} {x1 x2 : Int32} {f : Nat → Nat → Int32} {d : Int32} (q : inB x1 (nI 0) (nI n1 - nI 1) = false ∨ inB x2 (nI 0) (nI n2 - nI 1) = false) : d = pick n1 x1 (fun l => pick n2 x2 (fun t => f l t) d) d := by
  rcases q with q | q
  · rw [pick_out q]
  · unfold pick
    rw [q]
    simp
theorem pick2_out {n1 n2 : Nat} {x1 x2 : Int32} {f : Nat → Nat → Int32} {d : Int32} (q : inB x1 (nI 0) (nI n1 - nI 1) = false ∨ inB x2 (nI 0) (nI n2 - nI 1) = false) : Value.int d = .int (pick n1 x1 (fun l => pick n2 x2 (fun t => f l t) d) d) := by rw [← pick2_out' q]
set_option maxHeartbeats 4000000 in
set_option maxRecDepth 100000 in
theorem c_M_gain {G : GE} {h0 h : AH} {m : Nat} {S : MS} (hM : MW h0 h m S) {c : Nat → Nat} {VL WT BK SG GM : Nat → Nat → Nat} (hp : MP S c VL WT BK SG GM) (la ta pa ca : Int32) : Ctr G y_M_gain b_M_gain 5 (some .int) r_M_gain [.ref m, .int la, .int ta, .int pa, .int ca] h (TK h0 m S (.int (pick (c 0) la (fun l => pick (c 1) ta (fun t => pick (VL l 4) pa (fun p => rg ca 0 1 (fun cc => gainI (VL l) (WT t) p cc (toldI (VL l))) (-1000)) (-1000)) (-1000)) (-1000)))) := by
  have hc0 := (hp.1 0 (by decide)).2
  have hc1 := (hp.1 1 (by decide)).2
  refine Ctr.of (by decide +kernel) (by simp) (Nat.le_of_ble_eq_true rfl) (L0 := [some (.ref m), some (.int la), some (.int ta), some (.int pa), some (.int ca)]) rfl ?_
  refine A_aload_n0 d_M_gain_0 ?_
  refine A_iconst (v := nI 0) d_M_gain_1 (by decide) ?_
  refine A_putM hM (kf := 0) (ty := .int) d_M_gain_2 (by decide) q_1049 rfl (by decide +kernel) (by first | rfl | exact bI_nar _) rfl (Nat.le_of_ble_eq_true rfl) rfl (fun h hM => ?_)
  have hp := hp.keep (Keep.sf _ 0 (nI 0))
  refine A_aload_n0 d_M_gain_5 ?_
  refine A_iload_n1 d_M_gain_6 ?_
  refine A_iload_n2 d_M_gain_7 ?_
  refine A_callV d_M_gain_8 (c_M_layRow hM hp la ta) hM.o rfl q_1371 q_1373 qs_40 mk_M_layRow rfl (by decide) rfl (Nat.le_of_ble_eq_true rfl) ⟨Nat.le_of_ble_eq_true rfl, Nat.le_of_ble_eq_true rfl⟩ (fun v h1 hv => ?_)
  rcases hv with ⟨l', t', rfl, rfl, hl, ht, rfl, S2, hM, hL, hk, hkf⟩ | ⟨q, rfl, S2, hM, hk⟩
  · obtain ⟨hS, hw, e0, e1⟩ := hL
    obtain ⟨b0, b1, b2, b3, b4, b5, bp, bb, bt⟩ := hS.ok
    have hp := hp.keep hk
    refine A_if_eqB (tgt := 46) d_M_gain_11 (by decide) (fun c => absurd c (by decide)) (fun c_11 => ?_)
    refine A_aload_n0 d_M_gain_14 ?_
    refine A_iload_n3 d_M_gain_15 ?_
    refine A_callVP d_M_gain_16 (c_M_isOne hM pa) hM.o rfl q_1351 q_1353 qs_37 mk_M_isOne rfl (by decide) rfl (Nat.le_of_ble_eq_true rfl) ⟨Nat.le_of_ble_eq_true rfl, Nat.le_of_ble_eq_true rfl⟩ ⟨rfl, rfl⟩ ?_
    refine A_topI (by rw [hS.people]) ?_
    refine A_if_eqB (tgt := 46) d_M_gain_19 (by decide) (fun c_19 => ?_) (fun c_19 => ?_)
    · refine A_sipush (v := (-1000)) d_M_gain_46 (by decide) ?_
      refine A_iret d_M_gain_49 rfl ⟨Nat.zero_le _, Nat.zero_le _⟩ ?_
      first | exact tk hM (fun k hk2 => hk k hk2) (by rw [pick_in hl (by omega), pick_in ht (by omega), pick_out c_19]) | exact tk hM (fun k hk2 => hk k hk2) (by rw [pick_in hl (by omega), pick_in ht (by omega), pick_in hpp (by omega), rg_out c_29]) | exact tk hM (fun k hk2 => hk k hk2) (by rw [pick_in hl (by omega), pick_in ht (by omega), pick_in hpp (by omega), rg_in ⟨hc1, hc2⟩ (by decide)]) | exact tk hM (fun k hk2 => hk k hk2) (pick2_out q)
    · obtain ⟨p, rfl, hpp⟩ := inB_nat (by omega) c_19
      refine A_iload4 d_M_gain_22 ?_
      refine A_iconst (v := nI 0) d_M_gain_24 (by decide) ?_
      refine A_iconst (v := nI 1) d_M_gain_25 (by decide) ?_
      refine A_callSP d_M_gain_26 (c_M_in _ _ _ _) q_1231 q_1232 mk_M_in rfl (by decide) rfl (Nat.le_of_ble_eq_true rfl) ⟨Nat.le_of_ble_eq_true rfl, Nat.le_of_ble_eq_true rfl⟩ ⟨rfl, rfl⟩ ?_
      refine A_if_eqB (tgt := 46) d_M_gain_29 (by decide) (fun c_29 => ?_) (fun c_29 => ?_)
      · refine A_sipush (v := (-1000)) d_M_gain_46 (by decide) ?_
        refine A_iret d_M_gain_49 rfl ⟨Nat.zero_le _, Nat.zero_le _⟩ ?_
        first | exact tk hM (fun k hk2 => hk k hk2) (by rw [pick_in hl (by omega), pick_in ht (by omega), pick_out c_19]) | exact tk hM (fun k hk2 => hk k hk2) (by rw [pick_in hl (by omega), pick_in ht (by omega), pick_in hpp (by omega), rg_out c_29]) | exact tk hM (fun k hk2 => hk k hk2) (by rw [pick_in hl (by omega), pick_in ht (by omega), pick_in hpp (by omega), rg_in ⟨hc1, hc2⟩ (by decide)]) | exact tk hM (fun k hk2 => hk k hk2) (pick2_out q)
      · obtain ⟨cc, rfl, hc1, hc2⟩ := inB_ex (by decide) c_29
        refine A_aload_n0 d_M_gain_32 ?_
        refine A_iload_n3 d_M_gain_33 ?_
        refine A_iload4 d_M_gain_34 ?_
        refine A_aload_n0 d_M_gain_36 ?_
        refine A_callVP d_M_gain_37 (c_M_asTold hM hS) hM.o rfl q_1587 q_1589 qs_82 mk_M_asTold rfl (by decide) rfl (Nat.le_of_ble_eq_true rfl) ⟨Nat.le_of_ble_eq_true rfl, Nat.le_of_ble_eq_true rfl⟩ ⟨rfl, rfl⟩ ?_
        refine A_callVP d_M_gain_40 (c_M_gainOf hM hS hw p cc _ hpp (by omega)) hM.o rfl q_1591 q_1593 qs_83 mk_M_gainOf rfl (by decide) rfl (Nat.le_of_ble_eq_true rfl) ⟨Nat.le_of_ble_eq_true rfl, Nat.le_of_ble_eq_true rfl⟩ ⟨rfl, rfl⟩ ?_
        refine A_goto (tgt := 49) d_M_gain_43 (by decide) ?_
        refine A_iret d_M_gain_49 rfl ⟨Nat.zero_le _, Nat.zero_le _⟩ ?_
        first | exact tk hM (fun k hk2 => hk k hk2) (by rw [pick_in hl (by omega), pick_in ht (by omega), pick_out c_19]) | exact tk hM (fun k hk2 => hk k hk2) (by rw [pick_in hl (by omega), pick_in ht (by omega), pick_in hpp (by omega), rg_out c_29]) | exact tk hM (fun k hk2 => hk k hk2) (by rw [pick_in hl (by omega), pick_in ht (by omega), pick_in hpp (by omega), rg_in ⟨hc1, hc2⟩ (by decide)]) | exact tk hM (fun k hk2 => hk k hk2) (pick2_out q)
  · have hp := hp.keep hk
    refine A_if_eqB (tgt := 46) d_M_gain_11 (by decide) (fun c_11 => ?_) (fun c => absurd c (by decide))
    refine A_sipush (v := (-1000)) d_M_gain_46 (by decide) ?_
    refine A_iret d_M_gain_49 rfl ⟨Nat.zero_le _, Nat.zero_le _⟩ ?_
    first | exact tk hM (fun k hk2 => hk k hk2) (by rw [pick_in hl (by omega), pick_in ht (by omega), pick_out c_19]) | exact tk hM (fun k hk2 => hk k hk2) (by rw [pick_in hl (by omega), pick_in ht (by omega), pick_in hpp (by omega), rg_out c_29]) | exact tk hM (fun k hk2 => hk k hk2) (by rw [pick_in hl (by omega), pick_in ht (by omega), pick_in hpp (by omega), rg_in ⟨hc1, hc2⟩ (by decide)]) | exact tk hM (fun k hk2 => hk k hk2) (pick2_out q)
set_option maxHeartbeats 4000000 in
set_option maxRecDepth 100000 in
theorem c_M_wouldMove {G : GE} {h0 h : AH} {m : Nat} {S : MS} (hM : MW h0 h m S) {l : Nat} {V : Nat → Nat} (hS : HS S l V) {w : Nat → Nat} (hw : RW S w (V 0)) (p : Nat) (x : Int32) (hp : p < V 4) : Ctr G y_M_wouldMove b_M_wouldMove 4 (some .boolean) r_M_wouldMove [.ref m, .int (nI p), .int x] h (Pu (.int (bI (wouldB V w p x))) h) := by
  have hb1 : bN (hasB x (nI p)) ≤ 1 := by unfold bN; split <;> omega
  refine Ctr.of (by decide +kernel) (by simp) (Nat.le_of_ble_eq_true rfl) (L0 := [some (.ref m), some (.int (nI p)), some (.int x), none]) rfl ?_
  refine A_iload_n2 d_M_wouldMove_0 ?_
  refine A_iload_n1 d_M_wouldMove_1 ?_
  refine A_callSP d_M_wouldMove_2 (c_M_has _ _ _) q_1553 q_1554 mk_M_has rfl (by decide) rfl (Nat.le_of_ble_eq_true rfl) ⟨Nat.le_of_ble_eq_true rfl, Nat.le_of_ble_eq_true rfl⟩ ⟨rfl, rfl⟩ ?_
  refine A_if_eqB (tgt := 12) d_M_wouldMove_5 (by decide) (fun c_5 => ?_) (fun c_5 => ?_)
  · refine A_iconst (v := nI 0) d_M_wouldMove_12 (by decide) ?_
    refine A_topN (k := bN (hasB x (nI p))) (by simp only [bN, c_5, reduceIte, Bool.false_eq_true]) ?_
    refine A_istore3 d_M_wouldMove_13 trivial ?_
    refine A_aload_n0 d_M_wouldMove_14 ?_
    refine A_iload_n1 d_M_wouldMove_15 ?_
    refine A_iconst (v := nI 1) d_M_wouldMove_16 (by decide) ?_
    refine A_iload_n3 d_M_wouldMove_17 ?_
    skip
    first | refine A_isubN d_M_wouldMove_18 (by with_reducible rfl) (by with_reducible rfl) (by omega) ?_ | refine A_isub d_M_wouldMove_18 ?_
    refine A_iload_n2 d_M_wouldMove_19 ?_
    refine A_callVP d_M_wouldMove_20 (c_M_gainOf hM hS hw p (1 - bN (hasB x (nI p))) x hp (by omega)) hM.o rfl q_1591 q_1593 qs_83 mk_M_gainOf rfl (by decide) rfl (Nat.le_of_ble_eq_true rfl) ⟨Nat.le_of_ble_eq_true rfl, Nat.le_of_ble_eq_true rfl⟩ ⟨rfl, rfl⟩ ?_
    refine A_aload_n0 d_M_wouldMove_23 ?_
    refine A_iload_n1 d_M_wouldMove_24 ?_
    refine A_iload_n3 d_M_wouldMove_25 ?_
    refine A_iload_n2 d_M_wouldMove_26 ?_
    refine A_callVP d_M_wouldMove_27 (c_M_gainOf hM hS hw p (bN (hasB x (nI p))) x hp (by unfold bN; split <;> omega)) hM.o rfl q_1591 q_1593 qs_83 mk_M_gainOf rfl (by decide) rfl (Nat.le_of_ble_eq_true rfl) ⟨Nat.le_of_ble_eq_true rfl, Nat.le_of_ble_eq_true rfl⟩ ⟨rfl, rfl⟩ ?_
    first | refine A_icmp_leN (tgt := 37) d_M_wouldMove_30 (by decide) (by with_reducible rfl) (by with_reducible rfl) (by omega) (by omega) (fun c_30 => ?_) (fun c_30 => ?_) | refine A_icmp_le (tgt := 37) d_M_wouldMove_30 (by decide) (fun c_30 => ?_) (fun c_30 => ?_)
    · refine A_iconst (v := nI 0) d_M_wouldMove_37 (by decide) ?_
      refine A_zret d_M_wouldMove_38 rfl (by first | rfl | exact bI_nar _ | decide) ⟨Nat.zero_le _, Nat.zero_le _⟩ ?_
      exact pu (by simp only [wouldB, bI]; simp [c_30])
    · refine A_iconst (v := nI 1) d_M_wouldMove_33 (by decide) ?_
      refine A_goto (tgt := 38) d_M_wouldMove_34 (by decide) ?_
      refine A_zret d_M_wouldMove_38 rfl (by first | rfl | exact bI_nar _ | decide) ⟨Nat.zero_le _, Nat.zero_le _⟩ ?_
      exact pu (by simp only [wouldB, bI]; simp [c_30])
  · refine A_iconst (v := nI 1) d_M_wouldMove_8 (by decide) ?_
    refine A_goto (tgt := 13) d_M_wouldMove_9 (by decide) ?_
    refine A_topN (k := bN (hasB x (nI p))) (by simp only [bN, c_5, reduceIte, Bool.false_eq_true]) ?_
    refine A_istore3 d_M_wouldMove_13 trivial ?_
    refine A_aload_n0 d_M_wouldMove_14 ?_
    refine A_iload_n1 d_M_wouldMove_15 ?_
    refine A_iconst (v := nI 1) d_M_wouldMove_16 (by decide) ?_
    refine A_iload_n3 d_M_wouldMove_17 ?_
    skip
    first | refine A_isubN d_M_wouldMove_18 (by with_reducible rfl) (by with_reducible rfl) (by omega) ?_ | refine A_isub d_M_wouldMove_18 ?_
    refine A_iload_n2 d_M_wouldMove_19 ?_
    refine A_callVP d_M_wouldMove_20 (c_M_gainOf hM hS hw p (1 - bN (hasB x (nI p))) x hp (by omega)) hM.o rfl q_1591 q_1593 qs_83 mk_M_gainOf rfl (by decide) rfl (Nat.le_of_ble_eq_true rfl) ⟨Nat.le_of_ble_eq_true rfl, Nat.le_of_ble_eq_true rfl⟩ ⟨rfl, rfl⟩ ?_
    refine A_aload_n0 d_M_wouldMove_23 ?_
    refine A_iload_n1 d_M_wouldMove_24 ?_
    refine A_iload_n3 d_M_wouldMove_25 ?_
    refine A_iload_n2 d_M_wouldMove_26 ?_
    refine A_callVP d_M_wouldMove_27 (c_M_gainOf hM hS hw p (bN (hasB x (nI p))) x hp (by unfold bN; split <;> omega)) hM.o rfl q_1591 q_1593 qs_83 mk_M_gainOf rfl (by decide) rfl (Nat.le_of_ble_eq_true rfl) ⟨Nat.le_of_ble_eq_true rfl, Nat.le_of_ble_eq_true rfl⟩ ⟨rfl, rfl⟩ ?_
    first | refine A_icmp_leN (tgt := 37) d_M_wouldMove_30 (by decide) (by with_reducible rfl) (by with_reducible rfl) (by omega) (by omega) (fun c_30 => ?_) (fun c_30 => ?_) | refine A_icmp_le (tgt := 37) d_M_wouldMove_30 (by decide) (fun c_30 => ?_) (fun c_30 => ?_)
    · refine A_iconst (v := nI 0) d_M_wouldMove_37 (by decide) ?_
      refine A_zret d_M_wouldMove_38 rfl (by first | rfl | exact bI_nar _ | decide) ⟨Nat.zero_le _, Nat.zero_le _⟩ ?_
      exact pu (by simp only [wouldB, bI]; simp [c_30])
    · refine A_iconst (v := nI 1) d_M_wouldMove_33 (by decide) ?_
      refine A_goto (tgt := 38) d_M_wouldMove_34 (by decide) ?_
      refine A_zret d_M_wouldMove_38 rfl (by first | rfl | exact bI_nar _ | decide) ⟨Nat.zero_le _, Nat.zero_le _⟩ ?_
      exact pu (by simp only [wouldB, bI]; simp [c_30])
set_option maxHeartbeats 4000000 in
set_option maxRecDepth 100000 in
theorem c_M_isRest {G : GE} {h0 h : AH} {m : Nat} {S : MS} (hM : MW h0 h m S) {l : Nat} {V : Nat → Nat} (hS : HS S l V) {w : Nat → Nat} (hw : RW S w (V 0)) (x : Int32) : Ctr G y_M_isRest b_M_isRest 3 (some .boolean) r_M_isRest [.ref m, .int x] h (Pu (.int (bI (restB V w x))) h) := by
  have hP := hS.ok.2.2.2.2.1
  have key : ∀ i, i ≤ V 4 → WA G y_M_isRest b_M_isRest 3 (some .boolean) r_M_isRest 0 0 (Pu (.int (bI (firstU (fun p => wouldB V w p x) (fun _ => false) true (V 4) i))) h) 0 0 2 [some (.ref m), some (.int x), some (.int (nI i))] [] h := by
    refine down ?_ (fun i hi ih => ?_)
    · refine A_iload_n2 d_M_isRest_2 ?_
      refine A_aload_n0 d_M_isRest_3 ?_
      refine A_getf (kf := 29) d_M_isRest_4 hM.o ok_8 (by decide) q_1078 rfl ?_
      refine A_topI hS.people ?_
      first | refine A_icmp_geN (tgt := 27) d_M_isRest_7 (by decide) (by with_reducible rfl) (by with_reducible rfl) (by omega) (by omega) (fun c_7 => ?_) (fun c_7 => ?_) | refine A_icmp_ge (tgt := 27) d_M_isRest_7 (by decide) (fun c_7 => ?_) (fun c_7 => ?_)
      · refine A_iconst (v := nI 1) d_M_isRest_27 (by decide) ?_
        refine A_zret d_M_isRest_28 rfl (by first | rfl | exact bI_nar _ | decide) ⟨Nat.zero_le _, Nat.zero_le _⟩ ?_
        exact pu (by rw [firstU_end]; rfl)
      · exact absurd c_7 (by omega)
    · refine A_iload_n2 d_M_isRest_2 ?_
      refine A_aload_n0 d_M_isRest_3 ?_
      refine A_getf (kf := 29) d_M_isRest_4 hM.o ok_8 (by decide) q_1078 rfl ?_
      refine A_topI hS.people ?_
      first | refine A_icmp_geN (tgt := 27) d_M_isRest_7 (by decide) (by with_reducible rfl) (by with_reducible rfl) (by omega) (by omega) (fun c_7 => ?_) (fun c_7 => ?_) | refine A_icmp_ge (tgt := 27) d_M_isRest_7 (by decide) (fun c_7 => ?_) (fun c_7 => ?_)
      · exact absurd c_7 (by omega)
      · refine A_aload_n0 d_M_isRest_10 ?_
        refine A_iload_n2 d_M_isRest_11 ?_
        refine A_iload_n1 d_M_isRest_12 ?_
        refine A_callVP d_M_isRest_13 (c_M_wouldMove hM hS hw i x hi) hM.o rfl q_1611 q_1613 qs_87 mk_M_wouldMove rfl (by decide) rfl (Nat.le_of_ble_eq_true rfl) ⟨Nat.le_of_ble_eq_true rfl, Nat.le_of_ble_eq_true rfl⟩ ⟨rfl, rfl⟩ ?_
        refine A_if_eqB (tgt := 21) d_M_isRest_16 (by decide) (fun c_16 => ?_) (fun c_16 => ?_)
        · first | refine A_iinc2 d_M_isRest_21 (nI_1 _) trivial ?_ | refine A_iinc2 d_M_isRest_21 rfl trivial ?_
          refine A_goto (tgt := 2) d_M_isRest_24 (by decide) ?_
          rw [firstU_step _ _ _ hi, if_neg (by rw [c_16]; decide)]
          exact ih
        · refine A_iconst (v := nI 0) d_M_isRest_19 (by decide) ?_
          refine A_zret d_M_isRest_20 rfl (by first | rfl | exact bI_nar _ | decide) ⟨Nat.zero_le _, Nat.zero_le _⟩ ?_
          exact pu (by rw [firstU_step _ _ _ hi, if_pos c_16]; rfl)
  refine Ctr.of (by decide +kernel) (by simp) (Nat.le_of_ble_eq_true rfl) (L0 := [some (.ref m), some (.int x), none]) rfl ?_
  refine A_iconst (v := nI 0) d_M_isRest_0 (by decide) ?_
  refine A_istore2 d_M_isRest_1 trivial ?_
  exact key 0 (Nat.zero_le _)
set_option maxHeartbeats 4000000 in
set_option maxRecDepth 100000 in
theorem c_M_restAt {G : GE} {h0 h : AH} {m : Nat} {S : MS} (hM : MW h0 h m S) {l : Nat} {V : Nat → Nat} (hS : HS S l V) {w : Nat → Nat} (hw : RW S w (V 0)) (k : Int32) : Ctr G y_M_restAt b_M_restAt 4 (some .int) r_M_restAt [.ref m, .int k] h (Pu (.int (restV V w k)) h) := by
  have hP := hS.ok.2.2.2.2.1
  have h2 : 2 ^ V 4 ≤ 1024 := Nat.pow_le_pow_right (by decide) (show V 4 ≤ 10 by omega)
  have key : ∀ i, i ≤ 2 ^ V 4 → ∀ z, z ≤ i → WA G y_M_restAt b_M_restAt 4 (some .int) r_M_restAt 0 0 (Pu (.int (scanN (fun i => restB V w (nI i)) k (2 ^ V 4 - i) i z)) h) 0 0 4 [some (.ref m), some (.int k), some (.int (nI z)), some (.int (nI i))] [] h := by
    refine down ?_ (fun i hi ih => ?_)
    · intro z hz
      rw [Nat.sub_self]
      refine A_iload_n3 d_M_restAt_4 ?_
      refine A_iconst (v := nI 1) d_M_restAt_5 (by decide) ?_
      refine A_aload_n0 d_M_restAt_6 ?_
      refine A_getf (kf := 29) d_M_restAt_7 hM.o ok_8 (by decide) q_1078 rfl ?_
      refine A_topI hS.people ?_
      refine A_ishl d_M_restAt_10 ?_
      refine A_topI (sh1 (by omega)) ?_
      first | refine A_icmp_geN (tgt := 38) d_M_restAt_11 (by decide) (by with_reducible rfl) (by with_reducible rfl) (by omega) (by omega) (fun c_11 => ?_) (fun c_11 => ?_) | refine A_icmp_ge (tgt := 38) d_M_restAt_11 (by decide) (fun c_11 => ?_) (fun c_11 => ?_)
      · refine A_iload_n1 d_M_restAt_38 ?_
        refine A_iconst (v := (-1)) d_M_restAt_39 (by decide) ?_
        first | refine A_icmp_neN (tgt := 47) d_M_restAt_40 (by decide) (by with_reducible rfl) (by with_reducible rfl) (by omega) (by omega) (fun c_40 => ?_) (fun c_40 => ?_) | refine A_icmp_ne (tgt := 47) d_M_restAt_40 (by decide) (fun c_40 => ?_) (fun c_40 => ?_)
        · refine A_iconst (v := (-1)) d_M_restAt_47 (by decide) ?_
          refine A_iret d_M_restAt_48 rfl ⟨Nat.zero_le _, Nat.zero_le _⟩ ?_
          exact pu (by simp only [scanN, c_11, c_40, reduceIte])
        · refine A_iload_n2 d_M_restAt_43 ?_
          refine A_goto (tgt := 48) d_M_restAt_44 (by decide) ?_
          refine A_iret d_M_restAt_48 rfl ⟨Nat.zero_le _, Nat.zero_le _⟩ ?_
          exact pu (by simp only [scanN, c_11, c_40, reduceIte])
      · exact absurd c_11 (by omega)
    · intro z hz
      rw [show 2 ^ V 4 - i = (2 ^ V 4 - (i + 1)) + 1 by omega]
      refine A_iload_n3 d_M_restAt_4 ?_
      refine A_iconst (v := nI 1) d_M_restAt_5 (by decide) ?_
      refine A_aload_n0 d_M_restAt_6 ?_
      refine A_getf (kf := 29) d_M_restAt_7 hM.o ok_8 (by decide) q_1078 rfl ?_
      refine A_topI hS.people ?_
      refine A_ishl d_M_restAt_10 ?_
      refine A_topI (sh1 (by omega)) ?_
      first | refine A_icmp_geN (tgt := 38) d_M_restAt_11 (by decide) (by with_reducible rfl) (by with_reducible rfl) (by omega) (by omega) (fun c_11 => ?_) (fun c_11 => ?_) | refine A_icmp_ge (tgt := 38) d_M_restAt_11 (by decide) (fun c_11 => ?_) (fun c_11 => ?_)
      · exact absurd c_11 (by omega)
      · refine A_aload_n0 d_M_restAt_14 ?_
        refine A_iload_n3 d_M_restAt_15 ?_
        refine A_callVP d_M_restAt_16 (c_M_isRest hM hS hw (nI i)) hM.o rfl q_1607 q_1609 qs_86 mk_M_isRest rfl (by decide) rfl (Nat.le_of_ble_eq_true rfl) ⟨Nat.le_of_ble_eq_true rfl, Nat.le_of_ble_eq_true rfl⟩ ⟨rfl, rfl⟩ ?_
        refine A_if_eqB (tgt := 32) d_M_restAt_19 (by decide) (fun c_19 => ?_) (fun c_19 => ?_)
        · first | refine A_iinc3 d_M_restAt_32 (nI_1 _) trivial ?_ | refine A_iinc3 d_M_restAt_32 rfl trivial ?_
          refine A_goto (tgt := 4) d_M_restAt_35 (by decide) ?_
          simp only [scanN, c_11, c_19, reduceIte, Bool.false_eq_true]
          first | exact ih (z + 1) (by omega) | exact ih z (by omega)
        · refine A_iload_n2 d_M_restAt_22 ?_
          refine A_iload_n1 d_M_restAt_23 ?_
          first | refine A_icmp_neN (tgt := 29) d_M_restAt_24 (by decide) (by with_reducible rfl) (by with_reducible rfl) (by omega) (by omega) (fun c_24 => ?_) (fun c_24 => ?_) | refine A_icmp_ne (tgt := 29) d_M_restAt_24 (by decide) (fun c_24 => ?_) (fun c_24 => ?_)
          · first | refine A_iinc2 d_M_restAt_29 (nI_1 _) trivial ?_ | refine A_iinc2 d_M_restAt_29 rfl trivial ?_
            first | refine A_iinc3 d_M_restAt_32 (nI_1 _) trivial ?_ | refine A_iinc3 d_M_restAt_32 rfl trivial ?_
            refine A_goto (tgt := 4) d_M_restAt_35 (by decide) ?_
            simp only [scanN, c_11, c_19, c_24, reduceIte, Bool.false_eq_true]
            first | exact ih (z + 1) (by omega) | exact ih z (by omega)
          · refine A_iload_n3 d_M_restAt_27 ?_
            refine A_iret d_M_restAt_28 rfl ⟨Nat.zero_le _, Nat.zero_le _⟩ ?_
            exact pu (by simp only [scanN, c_11, c_19, c_24, reduceIte])
  refine Ctr.of (by decide +kernel) (by simp) (Nat.le_of_ble_eq_true rfl) (L0 := [some (.ref m), some (.int k), none, none]) rfl ?_
  refine A_iconst (v := nI 0) d_M_restAt_0 (by decide) ?_
  refine A_istore2 d_M_restAt_1 trivial ?_
  refine A_iconst (v := nI 0) d_M_restAt_2 (by decide) ?_
  refine A_istore3 d_M_restAt_3 trivial ?_
  exact key 0 (Nat.zero_le _) 0 (Nat.le_refl _)
