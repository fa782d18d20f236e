abbrev FLC : List Cond := flatC (Jvm.Cond.and given_1 narrow_1)
def sIx (i : Nat) : Nat := ([148, 149, 151, 153, 155, 157, 159, 161, 136, 142, 144, 146, 163, 169] : List Nat).getD i 0
def sPo (i : Nat) : Nat := ([162, 171, 181, 192, 203, 217, 231, 247, 262, 279, 294, 311, 331, 351] : List Nat).getD i 0
theorem fl_aNUM : (Cond.arrayOf (.static "NightBridge$Reader" "NUMBERS" "[I") .int) ∈ FLC := List.mem_of_getElem? (i := 10) (by decide +kernel)
theorem fl_lNUM : (Cond.eq (.length (.static "NightBridge$Reader" "NUMBERS" "[I")) (.int (Int32.ofNat 12))) ∈ FLC := List.mem_of_getElem? (i := 11) (by decide +kernel)
theorem fl_eNUM0 : ∀ j, j < 12 → FLC[12 + j]? = some (Cond.eq (.elem (.static "NightBridge$Reader" "NUMBERS" "[I") (.int (Int32.ofNat j))) (.int (NUMl.getD j 0))) := by decide +kernel
theorem fl_eNUM : ∀ j, j < 12 → (Cond.eq (.elem (.static "NightBridge$Reader" "NUMBERS" "[I") (.int (Int32.ofNat j))) (.int (NUMl.getD j 0))) ∈ FLC := fun j hj => List.mem_of_getElem? (i := 12 + j) (fl_eNUM0 j hj)
theorem fl_aLOW : (Cond.arrayOf (.static "NightBridge$Reader" "LOW" "[I") .int) ∈ FLC := List.mem_of_getElem? (i := 25) (by decide +kernel)
theorem fl_lLOW : (Cond.eq (.length (.static "NightBridge$Reader" "LOW" "[I")) (.int (Int32.ofNat 48))) ∈ FLC := List.mem_of_getElem? (i := 26) (by decide +kernel)
theorem fl_eLOW0 : ∀ j, j < 48 → FLC[27 + j]? = some (Cond.eq (.elem (.static "NightBridge$Reader" "LOW" "[I") (.int (Int32.ofNat j))) (.int (LOWl.getD j 0))) := by decide +kernel
theorem fl_eLOW : ∀ j, j < 48 → (Cond.eq (.elem (.static "NightBridge$Reader" "LOW" "[I") (.int (Int32.ofNat j))) (.int (LOWl.getD j 0))) ∈ FLC := fun j hj => List.mem_of_getElem? (i := 27 + j) (fl_eLOW0 j hj)
theorem fl_aHIGH : (Cond.arrayOf (.static "NightBridge$Reader" "HIGH" "[I") .int) ∈ FLC := List.mem_of_getElem? (i := 76) (by decide +kernel)
theorem fl_lHIGH : (Cond.eq (.length (.static "NightBridge$Reader" "HIGH" "[I")) (.int (Int32.ofNat 48))) ∈ FLC := List.mem_of_getElem? (i := 77) (by decide +kernel)
theorem fl_eHIGH0 : ∀ j, j < 48 → FLC[78 + j]? = some (Cond.eq (.elem (.static "NightBridge$Reader" "HIGH" "[I") (.int (Int32.ofNat j))) (.int (HIGHl.getD j 0))) := by decide +kernel
theorem fl_eHIGH : ∀ j, j < 48 → (Cond.eq (.elem (.static "NightBridge$Reader" "HIGH" "[I") (.int (Int32.ofNat j))) (.int (HIGHl.getD j 0))) ∈ FLC := fun j hj => List.mem_of_getElem? (i := 78 + j) (fl_eHIGH0 j hj)
theorem fl_sx0 : ∀ i, i < 14 → FLC[sPo i]? = some (Cond.exactly (.string "NightBridge$Reader" (sIx i)) "java/lang/String") := by decide +kernel
theorem fl_sx : ∀ i, i < 14 → (Cond.exactly (.string "NightBridge$Reader" (sIx i)) "java/lang/String") ∈ FLC := fun i hi => List.mem_of_getElem? (i := sPo i) (fl_sx0 i hi)
theorem fl_sc0 : ∀ i, i < 14 → FLC[sPo i + 1]? = some (Cond.eq (.field (.string "NightBridge$Reader" (sIx i)) "java/lang/String" "coder" "B") (.int 0)) := by decide +kernel
theorem fl_sc : ∀ i, i < 14 → (Cond.eq (.field (.string "NightBridge$Reader" (sIx i)) "java/lang/String" "coder" "B") (.int 0)) ∈ FLC := fun i hi => List.mem_of_getElem? (i := sPo i + 1) (fl_sc0 i hi)
theorem fl_sa0 : ∀ i, i < 14 → FLC[sPo i + 2]? = some (Cond.arrayOf (.field (.string "NightBridge$Reader" (sIx i)) "java/lang/String" "value" "[B") .byte) := by decide +kernel
theorem fl_sa : ∀ i, i < 14 → (Cond.arrayOf (.field (.string "NightBridge$Reader" (sIx i)) "java/lang/String" "value" "[B") .byte) ∈ FLC := fun i hi => List.mem_of_getElem? (i := sPo i + 2) (fl_sa0 i hi)
theorem fl_sl0 : ∀ i, i < 14 → FLC[sPo i + 3]? = some (Cond.eq (.length (.field (.string "NightBridge$Reader" (sIx i)) "java/lang/String" "value" "[B")) (.int (Int32.ofNat (wa_len.getD i 0)))) := by decide +kernel
theorem fl_sl : ∀ i, i < 14 → (Cond.eq (.length (.field (.string "NightBridge$Reader" (sIx i)) "java/lang/String" "value" "[B")) (.int (Int32.ofNat (wa_len.getD i 0)))) ∈ FLC := fun i hi => List.mem_of_getElem? (i := sPo i + 3) (fl_sl0 i hi)
theorem fl_se0 : ∀ i, i < 14 → ∀ j, j < wa_len.getD i 0 → FLC[sPo i + 4 + j]? = some (Cond.eq (.elem (.field (.string "NightBridge$Reader" (sIx i)) "java/lang/String" "value" "[B") (.int (Int32.ofNat j))) (.int ((wa_byt.getD i []).getD j 0))) := by decide +kernel
theorem fl_se : ∀ i, i < 14 → ∀ j, j < wa_len.getD i 0 → (Cond.eq (.elem (.field (.string "NightBridge$Reader" (sIx i)) "java/lang/String" "value" "[B") (.int (Int32.ofNat j))) (.int ((wa_byt.getD i []).getD j 0))) ∈ FLC := fun i hi j hj => List.mem_of_getElem? (i := sPo i + 4 + j) (fl_se0 i hi j hj)
theorem fl_sm0 : ∀ j, j < 14 → ∀ i, i < j → FLC[sPo j + 4 + wa_len.getD j 0 + i]? = some (Cond.not (Cond.eq (.string "NightBridge$Reader" (sIx i)) (.string "NightBridge$Reader" (sIx j)))) := by decide +kernel
theorem fl_sm : ∀ j, j < 14 → ∀ i, i < j → (Cond.not (Cond.eq (.string "NightBridge$Reader" (sIx i)) (.string "NightBridge$Reader" (sIx j)))) ∈ FLC := fun j hj i hi => List.mem_of_getElem? (i := sPo j + 4 + wa_len.getD j 0 + i) (fl_sm0 j hj i hi)
theorem fl_sn (i : Nat) (hi : i < 14) (j : Nat) (hj : j < 14) : i = j ∨ (Cond.not (Cond.eq (.string "NightBridge$Reader" (sIx i)) (.string "NightBridge$Reader" (sIx j)))) ∈ FLC ∨ (Cond.not (Cond.eq (.string "NightBridge$Reader" (sIx j)) (.string "NightBridge$Reader" (sIx i)))) ∈ FLC := by
  rcases Nat.lt_trichotomy i j with h | h | h
  · exact .inr (.inl (fl_sm j hj i h))
  · exact .inl h
  · exact .inr (.inr (fl_sm i hi j h))
theorem fl_cs : (Cond.eq (.static "java/lang/String" "COMPACT_STRINGS" "Z") (.int 1)) ∈ FLC := List.mem_of_getElem? (i := 4) (by decide +kernel)
theorem fl_pf : (Cond.isRef (.static "jdk/internal/util/Preconditions" "SIOOBE_FORMATTER" "Ljava/util/function/BiFunction;")) ∈ FLC := List.mem_of_getElem? (i := 5) (by decide +kernel)
