theorem hi255 {i : Nat} (q : 8 ≤ i) (hi : i < 32) : (255#32).getLsbD i = false := by
  rcases (show i = 8 ∨ i = 9 ∨ i = 10 ∨ i = 11 ∨ i = 12 ∨ i = 13 ∨ i = 14 ∨ i = 15 ∨ i = 16 ∨ i = 17 ∨ i = 18 ∨ i = 19 ∨ i = 20 ∨ i = 21 ∨ i = 22 ∨ i = 23 ∨ i = 24 ∨ i = 25 ∨ i = 26 ∨ i = 27 ∨ i = 28 ∨ i = 29 ∨ i = 30 ∨ i = 31 by omega) with rfl | rfl | rfl | rfl | rfl | rfl | rfl | rfl | rfl | rfl | rfl | rfl | rfl | rfl | rfl | rfl | rfl | rfl | rfl | rfl | rfl | rfl | rfl | rfl <;> rfl
theorem byt_U (v : Int32) (k : Nat) (hk : k = 24 ∨ k = 16 ∨ k = 8 ∨ k = 0) : byS v (nI k) &&& nI 255 = byU v (nI k) := by
  apply Int32.toBitVec_inj.mp
  rcases hk with rfl | rfl | rfl | rfl
  · show ((v >>> (nI 24 &&& 31)).toInt8.toInt32.toInt8.toInt32 &&& nI 255).toBitVec = ((v.toUInt32 >>> ((nI 24).toUInt32 &&& Int32.toUInt32 31)).toInt32 &&& nI 255).toBitVec
    refine BitVec.eq_of_getLsbD_eq fun i hi => ?_
    simp [nI, BitVec.getLsbD_signExtend]
    rcases Nat.lt_or_ge i 8 with q | q
    · have q2 : 24 + i < 32 := by omega
      have q3 : ¬ 32 ≤ i := by omega
      simp [q, hi, q3, BitVec.getElem_sshiftRight, BitVec.getLsbD_sshiftRight, q2]
    · simp [hi255 q hi]
  · show ((v >>> (nI 16 &&& 31)).toInt8.toInt32.toInt8.toInt32 &&& nI 255).toBitVec = ((v.toUInt32 >>> ((nI 16).toUInt32 &&& Int32.toUInt32 31)).toInt32 &&& nI 255).toBitVec
    refine BitVec.eq_of_getLsbD_eq fun i hi => ?_
    simp [nI, BitVec.getLsbD_signExtend]
    rcases Nat.lt_or_ge i 8 with q | q
    · have q2 : 16 + i < 32 := by omega
      have q3 : ¬ 32 ≤ i := by omega
      simp [q, hi, q3, BitVec.getElem_sshiftRight, BitVec.getLsbD_sshiftRight, q2]
    · simp [hi255 q hi]
  · show ((v >>> (nI 8 &&& 31)).toInt8.toInt32.toInt8.toInt32 &&& nI 255).toBitVec = ((v.toUInt32 >>> ((nI 8).toUInt32 &&& Int32.toUInt32 31)).toInt32 &&& nI 255).toBitVec
    refine BitVec.eq_of_getLsbD_eq fun i hi => ?_
    simp [nI, BitVec.getLsbD_signExtend]
    rcases Nat.lt_or_ge i 8 with q | q
    · have q2 : 8 + i < 32 := by omega
      have q3 : ¬ 32 ≤ i := by omega
      simp [q, hi, q3, BitVec.getElem_sshiftRight, BitVec.getLsbD_sshiftRight, q2]
    · simp [hi255 q hi]
  · show ((v >>> (nI 0 &&& 31)).toInt8.toInt32.toInt8.toInt32 &&& nI 255).toBitVec = ((v.toUInt32 >>> ((nI 0).toUInt32 &&& Int32.toUInt32 31)).toInt32 &&& nI 255).toBitVec
    refine BitVec.eq_of_getLsbD_eq fun i hi => ?_
    simp [nI, BitVec.getLsbD_signExtend]
    rcases Nat.lt_or_ge i 8 with q | q
    · have q2 : 0 + i < 32 := by omega
      have q3 : ¬ 32 ≤ i := by omega
      simp [q, hi, q3, BitVec.getElem_sshiftRight, BitVec.getLsbD_sshiftRight, q2]
    · simp [hi255 q hi]
