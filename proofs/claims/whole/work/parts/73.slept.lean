theorem b_fold (g : Nat → Bool) : ∀ n, n ≤ 32 → ∀ i, i < 32 → bt (foldN (fun p x => x ||| (if g p = true then nI 1 <<< (nI p &&& 31) else nI 0)) (nI 0) n) i = (decide (i < n) && g i)
  | 0, _, i, hi => by
    show bt (nI 0) i = _
    rw [show nI 0 = 0 from rfl, b_0, decide_eq_false (by omega)]
    rfl
  | n + 1, hn, i, hi => by
    rw [foldN_s, b_or, b_fold g n (by omega) i hi]
    by_cases z : i = n
    · subst z
      rw [decide_eq_false (p := i < i) (by omega), decide_eq_true (p := i < i + 1) (by omega), Bool.false_and, Bool.false_or, Bool.true_and]
      cases hg : g i
      · rw [if_neg (by decide), show nI 0 = 0 from rfl, b_0]
      · rw [if_pos rfl, b_1shl (by omega) hi, decide_eq_true rfl]
    · have e : bt (if g n = true then nI 1 <<< (nI n &&& 31) else nI 0) i = false := by
        split
        · rw [b_1shl (by omega) hi, decide_eq_false z]
        · rw [show nI 0 = 0 from rfl, b_0]
      rw [e, Bool.or_false]
      congr 1
      by_cases y : i < n
      · rw [decide_eq_true y, decide_eq_true (by omega)]
      · rw [decide_eq_false y, decide_eq_false (by omega)]
theorem b_awake (V : Nat → Nat) (d0 d1 : Nat) (h4 : V 4 ≤ 32) {i : Nat} (hi : i < 32) : bt (awakeI V d0 d1) i = (decide (i < V 4) && !sleepsB V i (if V (42 + 27 * i + 0) = 0 then d0 else d1)) := by
  have e : awakeI V d0 d1 = foldN (fun p x => x ||| (if (!sleepsB V p (if V (42 + 27 * p + 0) = 0 then d0 else d1)) = true then nI 1 <<< (nI p &&& 31) else nI 0)) (nI 0) (V 4) := by
    unfold awakeI
    refine congrArg (fun f => foldN f (nI 0) (V 4)) (funext fun p => funext fun x => ?_)
    cases sleepsB V p (if V (42 + 27 * p + 0) = 0 then d0 else d1) <;> rfl
  rw [e]
  exact b_fold (fun p => !sleepsB V p (if V (42 + 27 * p + 0) = 0 then d0 else d1)) (V 4) h4 i hi
theorem slept_eq {V w : Nat → Nat} (h4 : V 4 ≤ 10) (hc : ∀ p, p < V 4 → V (42 + 27 * p + 0) < 2) (d : Nat) :
    allI (V 4) &&& (awakeI V (cntN w 0 (V 0 * d) (V 0 * (d + 1))) (cntN w 1 (V 0 * d) (V 0 * (d + 1))) ^^^ (-1)) = sleptI V w d := by
  refine b_ext fun i hi => ?_
  unfold sleptI
  rw [b_and, b_not _ hi, b_all _ (by omega) i hi, b_awake V _ _ (by omega) hi, b_fold (fun p => sleepsB V p (cntN w (V (42 + 27 * p + 0)) (V 0 * d) (V 0 * (d + 1)))) (V 4) (by omega) i hi]
  by_cases z : i < V 4
  · have hci := hc i z
    rw [decide_eq_true z, Bool.true_and, Bool.true_and, Bool.true_and, Bool.not_not]
    rcases (show V (42 + 27 * i + 0) = 0 ∨ V (42 + 27 * i + 0) = 1 by omega) with e | e
    · rw [if_pos e, e]
    · rw [if_neg (by omega), e]
  · rw [decide_eq_false z, Bool.false_and, Bool.false_and]
