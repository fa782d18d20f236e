/-! ROWS AS SEQUENCES OF STANDS -/
def dW (w : Nat → Nat) (c h : Nat) : Nat := sumN (fun i => moN (w i) c) (h + 1)
def kW (C : Nat) (w : Nat → Nat) : Nat → Nat
  | 0 => 0
  | h + 1 => kW C w h + enA C (w h) (w (h + 1))
def zW (V w : Nat → Nat) : Nat → Int
  | 0 => 0
  | h + 1 => zW V w h + gainsZ false V (w h) (w (h + 1)) (h + 1)
def sW (V w : Nat → Nat) : Nat → Int
  | 0 => scZ V (w 0) 0
  | h + 1 => sW V w h + scZ V (w (h + 1)) (h + 1) - feZ V (w h) (w (h + 1)) (h + 1)
def WsB (C : Nat) (w : Nat → Nat) (h : Nat) : Prop := ∀ i, i < h → goesB C (w i) (w (i + 1)) = true
theorem dW_s (w : Nat → Nat) (c h : Nat) : dW w c (h + 1) = dW w c h + moN (w (h + 1)) c := rfl
theorem dW_0 (w : Nat → Nat) (c : Nat) : dW w c 0 = moN (w 0) c := Nat.zero_add _
theorem goes_y {C s t : Nat} : goesB C s t = true ↔ ∃ y, y < 2 ∧ ¬ (2 ≤ s ∧ y = 1) ∧ nextN C s y = t := by
  rw [goes_k]
  constructor
  · rintro (h | ⟨h1, h2⟩)
    · exact ⟨0, by decide, by omega, h⟩
    · exact ⟨1, by decide, by omega, h2⟩
  · rintro ⟨y, hy, hv, h⟩
    rcases (show y = 0 ∨ y = 1 by omega) with rfl | rfl
    · exact .inl h
    · exact .inr ⟨by omega, h⟩
theorem dW_c {w v : Nat → Nat} (c : Nat) : ∀ h, (∀ i, i ≤ h → w i = v i) → dW w c h = dW v c h := fun h e => sumN_congr (h + 1) (fun i hi => by rw [e i (by omega)])
theorem kW_c {C : Nat} {w v : Nat → Nat} : ∀ h, (∀ i, i ≤ h → w i = v i) → kW C w h = kW C v h
  | 0, _ => rfl
  | h + 1, e => by
    show kW C w h + enA C (w h) (w (h + 1)) = kW C v h + enA C (v h) (v (h + 1))
    rw [kW_c h (fun i hi => e i (by omega)), e h (by omega), e (h + 1) (Nat.le_refl _)]
theorem zW_c {V w v : Nat → Nat} : ∀ h, (∀ i, i ≤ h → w i = v i) → zW V w h = zW V v h
  | 0, _ => rfl
  | h + 1, e => by
    show zW V w h + gainsZ false V (w h) (w (h + 1)) (h + 1) = zW V v h + gainsZ false V (v h) (v (h + 1)) (h + 1)
    rw [zW_c h (fun i hi => e i (by omega)), e h (by omega), e (h + 1) (Nat.le_refl _)]
theorem sW_c {V w v : Nat → Nat} : ∀ h, (∀ i, i ≤ h → w i = v i) → sW V w h = sW V v h
  | 0, e => by
    show scZ V (w 0) 0 = scZ V (v 0) 0
    rw [e 0 (Nat.le_refl _)]
  | h + 1, e => by
    show sW V w h + scZ V (w (h + 1)) (h + 1) - feZ V (w h) (w (h + 1)) (h + 1) = sW V v h + scZ V (v (h + 1)) (h + 1) - feZ V (v h) (v (h + 1)) (h + 1)
    rw [sW_c h (fun i hi => e i (by omega)), e h (by omega), e (h + 1) (Nat.le_refl _)]
theorem WsB.ext {C : Nat} {w : Nat → Nat} {h t : Nat} (hw : WsB C w h) (hg : goesB C (w h) t = true) : WsB C (fup w (h + 1) t) (h + 1) := by
  intro i hi
  by_cases e : i = h
  · rw [e, fup_eq, fup_ne _ _ (show h ≠ h + 1 by omega)]
    exact hg
  · rw [fup_ne _ _ (show i ≠ h + 1 by omega), fup_ne _ _ (show i + 1 ≠ h + 1 by omega)]
    exact hw i (by omega)
theorem fup_lo (w : Nat → Nat) (h t : Nat) : ∀ i, i ≤ h → fup w (h + 1) t i = w i := fun i hi => fup_ne _ _ (by omega)
theorem Fw_W {V : Nat → Nat} {first : Nat} : ∀ h t d0 d1 z, Fw false V first h t d0 d1 z → ∃ w, w 0 = first ∧ WsB (V 1) w h ∧ w h = t ∧ d0 = dW w 0 h ∧ d1 = dW w 1 h ∧ z = zW V w h
  | 0, t, d0, d1, z, hw => by
    obtain ⟨rfl, rfl, rfl, rfl⟩ := hw
    exact ⟨fun _ => t, rfl, fun i hi => absurd hi (Nat.not_lt_zero _), rfl, (dW_0 (fun _ => t) 0).symm, (dW_0 (fun _ => t) 1).symm, rfl⟩
  | h + 1, t, d0, d1, z, hw => by
    obtain ⟨s, y, hy, hv, hn, a0, a1, z', hw, rfl, rfl, rfl⟩ := hw
    obtain ⟨w, w0, ws, rfl, rfl, rfl, rfl⟩ := Fw_W h s a0 a1 z' hw
    have lo := fup_lo w h t
    refine ⟨fup w (h + 1) t, (lo 0 (Nat.zero_le _)).trans w0, ws.ext (goes_y.mpr ⟨y, hy, hv, hn⟩), fup_eq _ _ _, ?_, ?_, ?_⟩
    · rw [dW_s, dW_c 0 h lo, fup_eq]
    · rw [dW_s, dW_c 1 h lo, fup_eq]
    · show _ = zW V (fup w (h + 1) t) h + gainsZ false V (fup w (h + 1) t h) (fup w (h + 1) t (h + 1)) (h + 1)
      rw [zW_c h lo, lo h (Nat.le_refl _), fup_eq]
theorem W_Fw {V w : Nat → Nat} : ∀ h, WsB (V 1) w h → Fw false V (w 0) h (w h) (dW w 0 h) (dW w 1 h) (zW V w h)
  | 0, _ => ⟨rfl, dW_0 _ _, dW_0 _ _, rfl⟩
  | h + 1, hw => by
    obtain ⟨y, hy, hv, hn⟩ := goes_y.mp (hw h (by omega))
    exact ⟨w h, y, hy, hv, hn, _, _, _, W_Fw h (fun i hi => hw i (by omega)), rfl, rfl, rfl⟩
theorem Fk_W {V : Nat → Nat} {first : Nat} : ∀ h t d0 d1 k z, Fk V first h t d0 d1 k z → ∃ w, w 0 = first ∧ WsB (V 1) w h ∧ w h = t ∧ d0 = dW w 0 h ∧ d1 = dW w 1 h ∧ k = kW (V 1) w h ∧ z = sW V w h
  | 0, t, d0, d1, k, z, hw => by
    obtain ⟨rfl, rfl, rfl, rfl, rfl⟩ := hw
    exact ⟨fun _ => t, rfl, fun i hi => absurd hi (Nat.not_lt_zero _), rfl, (dW_0 (fun _ => t) 0).symm, (dW_0 (fun _ => t) 1).symm, rfl, rfl⟩
  | h + 1, t, d0, d1, k, z, hw => by
    obtain ⟨s, y, hy, hv, hn, a0, a1, k', z', hw, rfl, rfl, rfl, rfl⟩ := hw
    obtain ⟨w, w0, ws, rfl, rfl, rfl, rfl, rfl⟩ := Fk_W h s a0 a1 k' z' hw
    have lo := fup_lo w h t
    refine ⟨fup w (h + 1) t, (lo 0 (Nat.zero_le _)).trans w0, ws.ext (goes_y.mpr ⟨y, hy, hv, hn⟩), fup_eq _ _ _, ?_, ?_, ?_, ?_⟩
    · rw [dW_s, dW_c 0 h lo, fup_eq]
    · rw [dW_s, dW_c 1 h lo, fup_eq]
    · show _ = kW (V 1) (fup w (h + 1) t) h + enA (V 1) (fup w (h + 1) t h) (fup w (h + 1) t (h + 1))
      rw [kW_c h lo, lo h (Nat.le_refl _), fup_eq]
    · show _ = sW V (fup w (h + 1) t) h + scZ V (fup w (h + 1) t (h + 1)) (h + 1) - feZ V (fup w (h + 1) t h) (fup w (h + 1) t (h + 1)) (h + 1)
      rw [sW_c h lo, lo h (Nat.le_refl _), fup_eq]
theorem W_Fk {V w : Nat → Nat} : ∀ h, WsB (V 1) w h → Fk V (w 0) h (w h) (dW w 0 h) (dW w 1 h) (kW (V 1) w h) (sW V w h)
  | 0, _ => ⟨rfl, dW_0 _ _, dW_0 _ _, rfl, rfl⟩
  | h + 1, hw => by
    obtain ⟨y, hy, hv, hn⟩ := goes_y.mp (hw h (by omega))
    exact ⟨w h, y, hy, hv, hn, _, _, _, _, W_Fk h (fun i hi => hw i (by omega)), rfl, rfl, rfl, rfl⟩
/-- a closed row that fits, as a sequence -/
def CW (V w : Nat → Nat) : Prop := WsB (V 1) w (V 0 - 1) ∧ goesB (V 1) (w (V 0 - 1)) (w 0) = true ∧ fitsB V (dW w 0 (V 0 - 1)) (dW w 1 (V 0 - 1)) = true
def ZW (V w : Nat → Nat) : Int := zW V w (V 0 - 1) + gainsZ false V (w (V 0 - 1)) (w 0) 0
def SWz (V w : Nat → Nat) : Int := sW V w (V 0 - 1) - feZ V (w (V 0 - 1)) (w 0) 0
theorem Cl_W {V : Nat → Nat} {first : Nat} {z : Int} : Cl false V first z ↔ ∃ w, w 0 = first ∧ CW V w ∧ z = ZW V w := by
  constructor
  · rintro ⟨s, d0, d1, z1, hF, hg, hf, rfl⟩
    obtain ⟨w, w0, ws, rfl, rfl, rfl, rfl⟩ := Fw_W _ _ _ _ _ hF
    subst w0
    exact ⟨w, rfl, ⟨ws, hg, hf⟩, rfl⟩
  · rintro ⟨w, rfl, ⟨ws, hg, hf⟩, rfl⟩
    exact ⟨_, _, _, _, W_Fw _ ws, hg, hf, rfl⟩
theorem CK_W {V : Nat → Nat} {first : Nat} {z : Int} : CK V first z ↔ ∃ w, w 0 = first ∧ CW V w ∧ z = SWz V w := by
  constructor
  · rintro ⟨s, d0, d1, k, z1, hF, hg, hf, rfl⟩
    obtain ⟨w, w0, ws, rfl, rfl, rfl, -, rfl⟩ := Fk_W _ _ _ _ _ _ hF
    subst w0
    exact ⟨w, rfl, ⟨ws, hg, hf⟩, rfl⟩
  · rintro ⟨w, rfl, ⟨ws, hg, hf⟩, rfl⟩
    exact ⟨_, _, _, _, _, W_Fk _ ws, hg, hf, rfl⟩
/-! value, price and number of a row -/
def lkH (V : Nat → Nat) (s h : Nat) : Nat := if 2 ≤ s then 0 else likedInN V s h
def fcH (V : Nat → Nat) (s t h : Nat) : Nat := if carB s t = true then V (6 + h) + cheapN V else 0
def lkS (V w : Nat → Nat) (h : Nat) : Nat := sumN (fun i => lkH V (w (i + 1)) (i + 1)) h
def fcS (V w : Nat → Nat) (h : Nat) : Nat := sumN (fun i => fcH V (w i) (w (i + 1)) (i + 1)) h
/-- a row's first n digits as a number, base 3 -/
def hN3 (f : Nat → Nat) : Nat → Nat
  | 0 => 0
  | n + 1 => 3 * hN3 f n + f n
theorem gains_lf (V : Nat → Nat) (s t h : Nat) : gainsZ false V s t h = 10000 * (lkH V t h : Int) - (fcH V s t h : Int) := by
  unfold gainsZ lkH fcH
  by_cases c : carB s t = true
  · rw [if_pos c, if_pos c, if_neg (by decide)]
    by_cases q : 2 ≤ t
    · rw [if_pos (.inr q), if_pos q]; omega
    · rw [if_neg (fun w => w.elim (fun w => nomatch w) q), if_neg q]; omega
  · rw [if_neg c, if_neg c]
    by_cases q : 2 ≤ t
    · rw [if_pos (.inr q), if_pos q]; omega
    · rw [if_neg (fun w => w.elim (fun w => nomatch w) q), if_neg q]; omega
theorem zW_lf (V w : Nat → Nat) : ∀ h, zW V w h = 10000 * (lkS V w h : Int) - (fcS V w h : Int)
  | 0 => rfl
  | h + 1 => by
    have e1 : lkS V w (h + 1) = lkS V w h + lkH V (w (h + 1)) (h + 1) := rfl
    have e2 : fcS V w (h + 1) = fcS V w h + fcH V (w h) (w (h + 1)) (h + 1) := rfl
    show zW V w h + gainsZ false V (w h) (w (h + 1)) (h + 1) = _
    rw [zW_lf V w h, gains_lf, e1, e2]
    omega
theorem scZ_lf (V : Nat → Nat) (s h : Nat) : scZ V s h = ((lkH V s h * 4753 * 3 ^ V 0 : Nat) : Int) - ((ciN s * 3 ^ (V 0 - 1 - h) : Nat) : Int) := by
  unfold scZ lkH ciN
  by_cases q : 2 ≤ s
  · rw [if_pos (show 1 < s from q), if_pos q, if_pos q, Nat.zero_mul]
    generalize 3 ^ (V 0 - 1 - h) = x
    omega
  · rw [if_neg (show ¬ 1 < s from q), if_neg q, if_neg q]
theorem feZ_lf (V : Nat → Nat) (s t h : Nat) : feZ V s t h = ((fcH V s t h * 3 ^ V 0 : Nat) : Int) := by
  unfold feZ fcH
  by_cases c : carB s t = true
  · rw [if_pos c, if_pos c]
  · rw [if_neg c, if_neg c, Nat.zero_mul]
    rfl
theorem sW_lf (V w : Nat → Nat) : ∀ h, h < V 0 → sW V w h = (((lkS V w h + lkH V (w 0) 0) * 4753 * 3 ^ V 0 : Nat) : Int) - ((fcS V w h * 3 ^ V 0 : Nat) : Int) - ((hN3 (fun i => ciN (w i)) (h + 1) * 3 ^ (V 0 - 1 - h) : Nat) : Int)
  | 0, hh => by
    show scZ V (w 0) 0 = _
    rw [scZ_lf, show lkS V w 0 = 0 from rfl, show fcS V w 0 = 0 from rfl, show hN3 (fun i => ciN (w i)) (0 + 1) = ciN (w 0) from Nat.zero_add _, Nat.zero_add, Nat.zero_mul]
    omega
  | h + 1, hh => by
    show sW V w h + scZ V (w (h + 1)) (h + 1) - feZ V (w h) (w (h + 1)) (h + 1) = _
    have e1 : lkS V w (h + 1) = lkS V w h + lkH V (w (h + 1)) (h + 1) := rfl
    have e2 : fcS V w (h + 1) = fcS V w h + fcH V (w h) (w (h + 1)) (h + 1) := rfl
    have e3 : hN3 (fun i => ciN (w i)) (h + 1 + 1) = 3 * hN3 (fun i => ciN (w i)) (h + 1) + ciN (w (h + 1)) := rfl
    have e4 : 3 ^ (V 0 - 1 - h) = 3 * 3 ^ (V 0 - 1 - (h + 1)) := by
      rw [show V 0 - 1 - h = V 0 - 1 - (h + 1) + 1 by omega, Nat.pow_succ, Nat.mul_comm]
    rw [sW_lf V w h (by omega), scZ_lf, feZ_lf, e1, e2, e3, e4]
    generalize 3 ^ (V 0 - 1 - (h + 1)) = p
    generalize 3 ^ V 0 = u
    generalize hN3 (fun i => ciN (w i)) (h + 1) = a
    generalize ciN (w (h + 1)) = b
    generalize lkS V w h = l
    generalize lkH V (w 0) 0 = l0
    generalize lkH V (w (h + 1)) (h + 1) = l1
    generalize fcS V w h = f
    generalize fcH V (w h) (w (h + 1)) (h + 1) = f1
    generalize hK : 4753 = K
    clear hK
    rw [show (l + l1 + l0) * K * u = (l + l0) * K * u + l1 * K * u by rw [show l + l1 + l0 = (l + l0) + l1 by omega, Nat.add_mul, Nat.add_mul], Nat.add_mul f f1 u, Nat.add_mul (3 * a) b p, show a * (3 * p) = 3 * a * p by rw [← Nat.mul_assoc, Nat.mul_comm a 3]]
    generalize (l + l0) * K * u = x1
    generalize l1 * K * u = x2
    generalize f * u = x3
    generalize f1 * u = x4
    generalize 3 * a * p = x5
    generalize b * p = x6
    omega
def LW0 (V w : Nat → Nat) : Nat := lkS V w (V 0 - 1) + lkH V (w 0) 0
def FW0 (V w : Nat → Nat) : Nat := fcS V w (V 0 - 1) + fcH V (w (V 0 - 1)) (w 0) 0
def RW0 (V w : Nat → Nat) : Nat := hN3 (fun i => ciN (w i)) (V 0)
theorem ZW_lf (V w : Nat → Nat) : ZW V w = 10000 * (LW0 V w : Int) - (FW0 V w : Int) := by
  unfold ZW LW0 FW0
  rw [zW_lf, gains_lf]
  omega
theorem SW_lf {V w : Nat → Nat} (h4 : 4 ≤ V 0) : SWz V w = ((3 ^ V 0 : Nat) : Int) * (4753 * (LW0 V w : Int) - (FW0 V w : Int)) - (RW0 V w : Int) := by
  unfold SWz LW0 FW0 RW0
  rw [sW_lf V w (V 0 - 1) (by omega), feZ_lf, show V 0 - 1 - (V 0 - 1) = 0 by omega, Nat.pow_zero, Nat.mul_one, show V 0 - 1 + 1 = V 0 by omega]
  generalize lkS V w (V 0 - 1) + lkH V (w 0) 0 = l
  generalize fcS V w (V 0 - 1) = f
  generalize fcH V (w (V 0 - 1)) (w 0) 0 = f1
  generalize 3 ^ V 0 = u
  generalize hN3 (fun i => ciN (w i)) (V 0) = r
  rw [Int.mul_sub, Int.mul_left_comm, show ((f + f1 : Nat) : Int) = (f : Int) + (f1 : Int) by omega, Int.mul_add, Int.natCast_mul, Int.natCast_mul, Int.natCast_mul, Int.natCast_mul, Int.mul_comm (u : Int) (l : Int), Int.mul_comm (u : Int) (f : Int), Int.mul_comm (u : Int) (f1 : Int), Int.mul_right_comm]
  generalize (l : Int) * (u : Int) = x1
  generalize (f : Int) * (u : Int) = x2
  generalize (f1 : Int) * (u : Int) = x3
  omega
theorem lkH_le {V : Nat → Nat} (ok : VOK V) (s : Nat) {h : Nat} (hh : h < 24) : lkH V s h ≤ 90 := by
  unfold lkH
  split
  · exact Nat.zero_le _
  · exact likedInN_le ok s hh
theorem fcH_le {V : Nat → Nat} (ok : VOK V) (s t : Nat) {h : Nat} (hh : h < 24) : fcH V s t h ≤ 198 := by
  have h1 := cheapN_99 ok
  have h2 := ok.2.2.2.2.2.2.2.2 h hh
  unfold fcH
  split <;> omega
theorem LW0_le {V : Nat → Nat} (ok : VOK V) (w : Nat → Nat) : LW0 V w ≤ 2160 := by
  have hH := ok.1
  have h1 : lkS V w (V 0 - 1) ≤ (V 0 - 1) * 90 := sumN_le (V 0 - 1) (fun i hi => lkH_le ok _ (by omega))
  have h2 := lkH_le ok (w 0) (show 0 < 24 by decide)
  unfold LW0
  omega
theorem FW0_le {V : Nat → Nat} (ok : VOK V) (w : Nat → Nat) : FW0 V w ≤ 4752 := by
  have hH := ok.1
  have h1 : fcS V w (V 0 - 1) ≤ (V 0 - 1) * 198 := sumN_le (V 0 - 1) (fun i hi => fcH_le ok _ _ (by omega))
  have h2 := fcH_le ok (w (V 0 - 1)) (w 0) (show 0 < 24 by decide)
  unfold FW0
  omega
theorem hN3_lt {f : Nat → Nat} : ∀ n, (∀ i, i < n → f i ≤ 2) → hN3 f n < 3 ^ n
  | 0, _ => by
    show (0 : Nat) < 3 ^ 0
    decide
  | n + 1, h => by
    have h1 := hN3_lt n (fun i hi => h i (by omega))
    have h2 := h n (by omega)
    show 3 * hN3 f n + f n < 3 ^ (n + 1)
    rw [Nat.pow_succ]
    omega
theorem RW0_lt (V w : Nat → Nat) : RW0 V w < 3 ^ V 0 := hN3_lt _ (fun i _ => ciN_le _)
theorem hN3_div {f : Nat → Nat} : ∀ k n, (∀ i, i < n + k → f i ≤ 2) → hN3 f (n + k) / 3 ^ k = hN3 f n
  | 0, n, _ => by rw [Nat.pow_zero, Nat.div_one]; rfl
  | k + 1, n, h => by
    have h2 := h (n + k) (by omega)
    have e : hN3 f (n + (k + 1)) = 3 * hN3 f (n + k) + f (n + k) := rfl
    rw [Nat.pow_succ, Nat.mul_comm, ← Nat.div_div_eq_div_mul, e, show (3 * hN3 f (n + k) + f (n + k)) / 3 = hN3 f (n + k) by omega]
    exact hN3_div k n (fun i hi => h i (by omega))
theorem hN3_dig {f : Nat → Nat} {H x : Nat} (hx : x < H) (h : ∀ i, i < H → f i ≤ 2) : hN3 f H / 3 ^ (H - 1 - x) % 3 = f x := by
  have h1 := hN3_div (f := f) (H - 1 - x) (x + 1) (fun i hi => h i (by omega))
  rw [show x + 1 + (H - 1 - x) = H by omega] at h1
  rw [h1]
  have h2 := h x hx
  show (3 * hN3 f x + f x) % 3 = f x
  omega
theorem hN3_c {f g : Nat → Nat} : ∀ n, (∀ i, i < n → f i = g i) → hN3 f n = hN3 g n
  | 0, _ => rfl
  | n + 1, h => by
    show 3 * hN3 f n + f n = 3 * hN3 g n + g n
    rw [hN3_c n (fun i hi => h i (by omega)), h n (by omega)]
/-- the sequence a is not behind b -/
def LXq (a b : Nat → Nat) (H : Nat) : Prop := ∀ k, k < H → (∀ j, j < k → a j = b j) → a k ≤ b k
theorem LXq_N {a b : Nat → Nat} : ∀ n, (∀ i, i < n → a i ≤ 2) → LXq a b n → (∀ i, i < n → a i = b i) ∨ hN3 a n + 1 ≤ hN3 b n
  | 0, _, _ => .inl (fun i hi => absurd hi (Nat.not_lt_zero _))
  | n + 1, ha, h => by
    have e1 : hN3 a (n + 1) = 3 * hN3 a n + a n := rfl
    have e2 : hN3 b (n + 1) = 3 * hN3 b n + b n := rfl
    have h2 := ha n (by omega)
    rcases LXq_N n (fun i hi => ha i (by omega)) (fun k hk hj => h k (by omega) hj) with q | q
    · have h3 := h n (by omega) q
      have h4 := hN3_c n q
      by_cases e : a n = b n
      · exact .inl (fun i hi => by
          by_cases z : i = n
          · rw [z]; exact e
          · exact q i (by omega))
      · exact .inr (by omega)
    · exact .inr (by omega)
theorem LXq.tr {a b c : Nat → Nat} {H : Nat} (h1 : LXq a b H) (h2 : LXq b c H) : LXq a c H := by
  intro k hk he
  have key : ∀ n, n ≤ k → ∀ j, j < n → a j = b j ∧ b j = c j := by
    intro n
    induction n with
    | zero => exact fun _ j hj => absurd hj (Nat.not_lt_zero _)
    | succ n ih =>
      intro hn j hj
      by_cases z : j = n
      · rw [z]
        have i := ih (by omega)
        have q1 := h1 n (by omega) (fun j hj => (i j hj).1)
        have q2 := h2 n (by omega) (fun j hj => (i j hj).2)
        have q3 := he n (by omega)
        omega
      · exact ih (by omega) j (by omega)
  have i := key k (Nat.le_refl _)
  have q1 := h1 k hk (fun j hj => (i j hj).1)
  have q2 := h2 k hk (fun j hj => (i j hj).2)
  omega
theorem soon_c {r f : Nat → Nat} {H : Nat} : (∃ k, k < H ∧ (∀ j, j < k → r j = f j) ∧ ¬ r k = f k ∧ soonB r f H = decide (r k < f k)) ∨ ((∀ k, k < H → r k = f k) ∧ soonB r f H = false) := by
  have key : ∀ n, n ≤ H → (∃ k, k < n ∧ (∀ j, j < k → r j = f j) ∧ ¬ r k = f k) ∨ ∀ k, k < n → r k = f k := by
    intro n
    induction n with
    | zero => exact fun _ => .inr (fun k hk => absurd hk (Nat.not_lt_zero _))
    | succ n ih =>
      intro hn
      rcases ih (by omega) with ⟨k, h1, h2, h3⟩ | q
      · exact .inl ⟨k, by omega, h2, h3⟩
      · by_cases e : r n = f n
        · exact .inr (fun k hk => by
            by_cases z : k = n
            · rw [z]; exact e
            · exact q k (by omega))
        · exact .inl ⟨n, by omega, q, e⟩
  rcases key H (Nat.le_refl _) with ⟨k, h1, h2, h3⟩ | q
  · refine .inl ⟨k, h1, h2, h3, ?_⟩
    exact firstU_at (c := fun k => !decide (r k = f k)) (r := fun k => decide (r k < f k)) h1 (by rw [decide_eq_false h3]; rfl) k 0 (by omega) (fun i _ hi => by rw [decide_eq_true (h2 i hi)]; rfl)
  · refine .inr ⟨q, ?_⟩
    exact firstU_no (c := fun k => !decide (r k = f k)) (r := fun k => decide (r k < f k)) H 0 (by omega) (fun i _ hi => by rw [decide_eq_true (q i hi)]; rfl)
theorem soon_t {r f : Nat → Nat} {H : Nat} (h : soonB r f H = true) : LXq r f H := by
  rcases soon_c (r := r) (f := f) (H := H) with ⟨k, h1, h2, h3, h4⟩ | ⟨-, q⟩
  · have h5 : r k < f k := of_decide_eq_true (h4.symm.trans h)
    intro k' hk' he
    rcases Nat.lt_trichotomy k' k with z | z | z
    · exact Nat.le_of_eq (h2 k' z)
    · rw [z]; omega
    · exact absurd (he k z) h3
  · rw [q] at h; cases h
theorem soon_f {r f : Nat → Nat} {H : Nat} (h : ¬ soonB r f H = true) : LXq f r H := by
  rcases soon_c (r := r) (f := f) (H := H) with ⟨k, h1, h2, h3, h4⟩ | ⟨q, -⟩
  · have h5 : ¬ r k < f k := fun w => h (h4.trans (decide_eq_true w))
    intro k' hk' he
    rcases Nat.lt_trichotomy k' k with z | z | z
    · exact Nat.le_of_eq (h2 k' z).symm
    · rw [z]; omega
    · exact absurd (he k z).symm h3
  · exact fun k hk _ => Nat.le_of_eq (q k hk).symm
