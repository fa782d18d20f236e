set_option maxHeartbeats 4000000 in
set_option maxRecDepth 100000 in
theorem lc_feed {G : GE} {nm : String} {L : Nat} {xs : Nat → Int32} {h : AH} {n m nx : Nat} {W : TD} {S : MS} {f : Nat → Option Nat} {IE : Nat → TD} {u q j : Nat} (hL : L ≤ 3584) (hj : 7 * j + 7 ≤ L) (A : LIv L xs h n m nx W S f IE) (hu : u ≤ 105 + 46 * j) (hq : q ≤ 147210 + 1835 * j) (kk : ∀ (h : AH) (nx : Nat) (W : TD) (S : MS) (f : Nat → Option Nat) (IE : Nat → TD) (u q : Nat), LIv L xs h n m nx W S f IE → u ≤ 105 + 46 * (j + 1) → q ≤ 147210 + 1835 * (j + 1) → WA G (yL nm) code 4 ret room_1 600000 7302250 KL u q 1406 [some (.ref 5), some (.ref n), some (.ref m), some (.int (nI (7 * j)))] [] h) : WA G (yL nm) code 4 ret room_1 600000 7302250 KL u q 164 [some (.ref 5), some (.ref n), some (.ref m), some (.int (nI (7 * j)))] [] h := by
  obtain ⟨C0, hMA, hR⟩ := A
  obtain ⟨⟨hO, hn, hm⟩, hT, hI, ⟨Zr, hRd, z14, h14⟩, ⟨px, py, Zp, hPl⟩, hS, hOl, h5⟩ := id C0
  obtain ⟨c, VL, WT, BK, SG, GM, len, hq0⟩ := hR.1
  have hN : NT h n W c VL WT BK SG GM := ⟨hO, hT, hq0.1⟩
  have hp : MP S c VL WT BK SG GM := hq0.2.1
  have hM : MW h h m S := ⟨hMA, fun _ _ => rfl⟩
  obtain ⟨hl6, hlen, hsl⟩ := hq0.2.2.2.2.1
  refine A_aload_n1 d_L_law_164 ?_
  refine A_aload_n0 d_L_law_165 ?_
  refine A_iload_n3 d_L_law_166 ?_
  refine A_iconst (v := nI 1) d_L_law_167 (by decide) ?_
  first | refine A_iaddN d_L_law_168 (by with_reducible rfl) (by with_reducible rfl) ?_ | refine A_iadd d_L_law_168 ?_
  refine A_ialdN d_L_law_169 h5 ⟨by omega, by omega⟩ ?_
  refine A_aload_n0 d_L_law_170 ?_
  refine A_iload_n3 d_L_law_171 ?_
  refine A_iconst (v := nI 2) d_L_law_172 (by decide) ?_
  first | refine A_iaddN d_L_law_173 (by with_reducible rfl) (by with_reducible rfl) ?_ | refine A_iadd d_L_law_173 ?_
  refine A_ialdN d_L_law_174 h5 ⟨by omega, by omega⟩ ?_
  refine A_aload_n0 d_L_law_175 ?_
  refine A_iload_n3 d_L_law_176 ?_
  refine A_iconst (v := nI 3) d_L_law_177 (by decide) ?_
  first | refine A_iaddN d_L_law_178 (by with_reducible rfl) (by with_reducible rfl) ?_ | refine A_iadd d_L_law_178 ?_
  refine A_ialdN d_L_law_179 h5 ⟨by omega, by omega⟩ ?_
  refine A_aload_n0 d_L_law_180 ?_
  refine A_iload_n3 d_L_law_181 ?_
  refine A_iconst (v := nI 4) d_L_law_182 (by decide) ?_
  first | refine A_iaddN d_L_law_183 (by with_reducible rfl) (by with_reducible rfl) ?_ | refine A_iadd d_L_law_183 ?_
  refine A_ialdN d_L_law_184 h5 ⟨by omega, by omega⟩ ?_
  refine A_aload_n0 d_L_law_185 ?_
  refine A_iload_n3 d_L_law_186 ?_
  refine A_iconst (v := nI 5) d_L_law_187 (by decide) ?_
  first | refine A_iaddN d_L_law_188 (by with_reducible rfl) (by with_reducible rfl) ?_ | refine A_iadd d_L_law_188 ?_
  refine A_ialdN d_L_law_189 h5 ⟨by omega, by omega⟩ ?_
  refine A_callV0 d_L_law_190 (c_N_feed hO hT hlen hl6 _ _ _ _ _) hO rfl q_393 q_394 q_395 mk_N_feed rfl (by decide) rfl (Nat.le_of_ble_eq_true rfl) ⟨show u + 0 ≤ 600000 by omega, show q + 0 ≤ 7302250 by omega⟩ ⟨rfl, rfl⟩ (fun v h1 hv => ?_)
  rcases hv with ⟨hl1, rfl, rfl⟩ | ⟨hl1, rfl, M1⟩
  · refine A_aload_n2 d_L_law_193 ?_
    refine A_aload_n0 d_L_law_194 ?_
    refine A_iload_n3 d_L_law_195 ?_
    refine A_iconst (v := nI 1) d_L_law_196 (by decide) ?_
    first | refine A_iaddN d_L_law_197 (by with_reducible rfl) (by with_reducible rfl) ?_ | refine A_iadd d_L_law_197 ?_
    refine A_ialdN d_L_law_198 h5 ⟨by omega, by omega⟩ ?_
    refine A_aload_n0 d_L_law_199 ?_
    refine A_iload_n3 d_L_law_200 ?_
    refine A_iconst (v := nI 2) d_L_law_201 (by decide) ?_
    first | refine A_iaddN d_L_law_202 (by with_reducible rfl) (by with_reducible rfl) ?_ | refine A_iadd d_L_law_202 ?_
    refine A_ialdN d_L_law_203 h5 ⟨by omega, by omega⟩ ?_
    refine A_aload_n0 d_L_law_204 ?_
    refine A_iload_n3 d_L_law_205 ?_
    refine A_iconst (v := nI 3) d_L_law_206 (by decide) ?_
    first | refine A_iaddN d_L_law_207 (by with_reducible rfl) (by with_reducible rfl) ?_ | refine A_iadd d_L_law_207 ?_
    refine A_ialdN d_L_law_208 h5 ⟨by omega, by omega⟩ ?_
    refine A_aload_n0 d_L_law_209 ?_
    refine A_iload_n3 d_L_law_210 ?_
    refine A_iconst (v := nI 4) d_L_law_211 (by decide) ?_
    first | refine A_iaddN d_L_law_212 (by with_reducible rfl) (by with_reducible rfl) ?_ | refine A_iadd d_L_law_212 ?_
    refine A_ialdN d_L_law_213 h5 ⟨by omega, by omega⟩ ?_
    refine A_aload_n0 d_L_law_214 ?_
    refine A_iload_n3 d_L_law_215 ?_
    refine A_iconst (v := nI 5) d_L_law_216 (by decide) ?_
    first | refine A_iaddN d_L_law_217 (by with_reducible rfl) (by with_reducible rfl) ?_ | refine A_iadd d_L_law_217 ?_
    refine A_ialdN d_L_law_218 h5 ⟨by omega, by omega⟩ ?_
    refine A_callV0 d_L_law_219 (c_M_feed hM len hsl hl6 _ _ _ _ _) hM.o rfl q_1219 q_1220 q_1221 mk_M_feed rfl (by decide) rfl (Nat.le_of_ble_eq_true rfl) ⟨show u + 0 ≤ 600000 by omega, show q + 0 ≤ 7302250 by omega⟩ ⟨rfl, rfl⟩ (fun v h1 hv => ?_)
    rcases hv with ⟨hl2, rfl, S1, hM1, e⟩ | ⟨hl2, -⟩
    rotate_left
    · exact absurd hl2 (by omega)
    refine A_icmp_eq (tgt := 1406) d_L_law_222 (by decide) (fun c_222 => ?_) (fun c => absurd rfl c)
    exact kk _ _ _ _ _ _ _ _ ⟨C0.mod hM1, hM1.1, R_eqS hR e⟩ (by omega) (by omega)
  · have C1 := C0.tw M1
    have h5 := C1.2.2.2.2.2.2.2
    have hM1 : MW h1 h1 m S := ⟨hMA.kept (fun i _ _ => M1.2 i (by omega)), fun _ _ => rfl⟩
    replace hM := hM1
    clear hM1
    refine A_aload_n2 d_L_law_193 ?_
    refine A_aload_n0 d_L_law_194 ?_
    refine A_iload_n3 d_L_law_195 ?_
    refine A_iconst (v := nI 1) d_L_law_196 (by decide) ?_
    first | refine A_iaddN d_L_law_197 (by with_reducible rfl) (by with_reducible rfl) ?_ | refine A_iadd d_L_law_197 ?_
    refine A_ialdN d_L_law_198 h5 ⟨by omega, by omega⟩ ?_
    refine A_aload_n0 d_L_law_199 ?_
    refine A_iload_n3 d_L_law_200 ?_
    refine A_iconst (v := nI 2) d_L_law_201 (by decide) ?_
    first | refine A_iaddN d_L_law_202 (by with_reducible rfl) (by with_reducible rfl) ?_ | refine A_iadd d_L_law_202 ?_
    refine A_ialdN d_L_law_203 h5 ⟨by omega, by omega⟩ ?_
    refine A_aload_n0 d_L_law_204 ?_
    refine A_iload_n3 d_L_law_205 ?_
    refine A_iconst (v := nI 3) d_L_law_206 (by decide) ?_
    first | refine A_iaddN d_L_law_207 (by with_reducible rfl) (by with_reducible rfl) ?_ | refine A_iadd d_L_law_207 ?_
    refine A_ialdN d_L_law_208 h5 ⟨by omega, by omega⟩ ?_
    refine A_aload_n0 d_L_law_209 ?_
    refine A_iload_n3 d_L_law_210 ?_
    refine A_iconst (v := nI 4) d_L_law_211 (by decide) ?_
    first | refine A_iaddN d_L_law_212 (by with_reducible rfl) (by with_reducible rfl) ?_ | refine A_iadd d_L_law_212 ?_
    refine A_ialdN d_L_law_213 h5 ⟨by omega, by omega⟩ ?_
    refine A_aload_n0 d_L_law_214 ?_
    refine A_iload_n3 d_L_law_215 ?_
    refine A_iconst (v := nI 5) d_L_law_216 (by decide) ?_
    first | refine A_iaddN d_L_law_217 (by with_reducible rfl) (by with_reducible rfl) ?_ | refine A_iadd d_L_law_217 ?_
    refine A_ialdN d_L_law_218 h5 ⟨by omega, by omega⟩ ?_
    refine A_callV0 d_L_law_219 (c_M_feed hM len hsl hl6 _ _ _ _ _) hM.o rfl q_1219 q_1220 q_1221 mk_M_feed rfl (by decide) rfl (Nat.le_of_ble_eq_true rfl) ⟨show u + 0 ≤ 600000 by omega, show q + 0 ≤ 7302250 by omega⟩ ⟨rfl, rfl⟩ (fun v h1 hv => ?_)
    rcases hv with ⟨hl2, -⟩ | ⟨hl2, rfl, S1, hM1, hTp⟩
    · exact absurd hl2 (by omega)
    refine A_icmp_eq (tgt := 1406) d_L_law_222 (by decide) (fun c_222 => ?_) (fun c => absurd rfl c)
    exact kk _ _ _ _ _ _ _ _ ⟨C1.mod hM1, hM1.1, feed_R hR hq0 hl1 hTp⟩ (by omega) (by omega)
set_option maxHeartbeats 4000000 in
set_option maxRecDepth 100000 in
theorem lc_end {G : GE} {nm : String} {L : Nat} {xs : Nat → Int32} {h : AH} {n m nx : Nat} {W : TD} {S : MS} {f : Nat → Option Nat} {IE : Nat → TD} {u q j : Nat} (hL : L ≤ 3584) (hj : 7 * j + 7 ≤ L) (A : LIv L xs h n m nx W S f IE) (hu : u ≤ 105 + 46 * j) (hq : q ≤ 147210 + 1835 * j) (kk : ∀ (h : AH) (nx : Nat) (W : TD) (S : MS) (f : Nat → Option Nat) (IE : Nat → TD) (u q : Nat), LIv L xs h n m nx W S f IE → u ≤ 105 + 46 * (j + 1) → q ≤ 147210 + 1835 * (j + 1) → WA G (yL nm) code 4 ret room_1 600000 7302250 KL u q 1406 [some (.ref 5), some (.ref n), some (.ref m), some (.int (nI (7 * j)))] [] h) : WA G (yL nm) code 4 ret room_1 600000 7302250 KL u q 227 [some (.ref 5), some (.ref n), some (.ref m), some (.int (nI (7 * j)))] [] h := by
  obtain ⟨C0, hMA, hR⟩ := A
  obtain ⟨⟨hO, hn, hm⟩, hT, hI, ⟨Zr, hRd, z14, h14⟩, ⟨px, py, Zp, hPl⟩, hS, hOl, h5⟩ := id C0
  obtain ⟨c, VL, WT, BK, SG, GM, len, hq0⟩ := hR.1
  have hN : NT h n W c VL WT BK SG GM := ⟨hO, hT, hq0.1⟩
  have hp : MP S c VL WT BK SG GM := hq0.2.1
  have hM : MW h h m S := ⟨hMA, fun _ _ => rfl⟩
  obtain ⟨hl6, hlen, hsl⟩ := hq0.2.2.2.2.1
  refine A_aload_n1 d_L_law_227 ?_
  refine A_aload_n0 d_L_law_228 ?_
  refine A_iload_n3 d_L_law_229 ?_
  refine A_iconst (v := nI 1) d_L_law_230 (by decide) ?_
  first | refine A_iaddN d_L_law_231 (by with_reducible rfl) (by with_reducible rfl) ?_ | refine A_iadd d_L_law_231 ?_
  refine A_ialdN d_L_law_232 h5 ⟨by omega, by omega⟩ ?_
  refine A_callV0 d_L_law_233 (c_N_end hO hT hlen hl6 _) hO rfl q_401 q_402 q_403 mk_N_end rfl (by decide) rfl (Nat.le_of_ble_eq_true rfl) ⟨show u + 0 ≤ 600000 by omega, show q + 0 ≤ 7302250 by omega⟩ ⟨rfl, rfl⟩ (fun v h1 hv => ?_)
  rcases hv with ⟨hl1, rfl, rfl⟩ | ⟨hl1, rfl, M1⟩
  · refine A_aload_n2 d_L_law_236 ?_
    refine A_aload_n0 d_L_law_237 ?_
    refine A_iload_n3 d_L_law_238 ?_
    refine A_iconst (v := nI 1) d_L_law_239 (by decide) ?_
    first | refine A_iaddN d_L_law_240 (by with_reducible rfl) (by with_reducible rfl) ?_ | refine A_iadd d_L_law_240 ?_
    refine A_ialdN d_L_law_241 h5 ⟨by omega, by omega⟩ ?_
    refine A_callV0 d_L_law_242 (c_M_end hM _) hM.o rfl q_1227 q_1228 q_1229 mk_M_end rfl (by decide) rfl (Nat.le_of_ble_eq_true rfl) ⟨show u + 0 ≤ 600000 by omega, show q + 0 ≤ 7302250 by omega⟩ ⟨rfl, rfl⟩ (fun v h1 hv => ?_)
    rw [hsl] at hv
    rcases hv with ⟨hl2, rfl, S1, hM1, hk⟩ | ⟨hl2, -⟩
    rotate_left
    · rw [hl1] at hl2; cases hl2
    refine A_icmp_eq (tgt := 1406) d_L_law_245 (by decide) (fun c_245 => ?_) (fun c => absurd rfl c)
    exact kk _ _ _ _ _ _ _ _ (LIv.tk C0 hR hM1 hk) (by omega) (by omega)
  · have C1 := C0.tw M1
    have h5 := C1.2.2.2.2.2.2.2
    have hM1 : MW h1 h1 m S := ⟨hMA.kept (fun i _ _ => M1.2 i (by omega)), fun _ _ => rfl⟩
    replace hM := hM1
    clear hM1
    refine A_aload_n2 d_L_law_236 ?_
    refine A_aload_n0 d_L_law_237 ?_
    refine A_iload_n3 d_L_law_238 ?_
    refine A_iconst (v := nI 1) d_L_law_239 (by decide) ?_
    first | refine A_iaddN d_L_law_240 (by with_reducible rfl) (by with_reducible rfl) ?_ | refine A_iadd d_L_law_240 ?_
    refine A_ialdN d_L_law_241 h5 ⟨by omega, by omega⟩ ?_
    refine A_callV0 d_L_law_242 (c_M_end hM _) hM.o rfl q_1227 q_1228 q_1229 mk_M_end rfl (by decide) rfl (Nat.le_of_ble_eq_true rfl) ⟨show u + 0 ≤ 600000 by omega, show q + 0 ≤ 7302250 by omega⟩ ⟨rfl, rfl⟩ (fun v h1 hv => ?_)
    rw [hsl] at hv
    rcases hv with ⟨hl2, -⟩ | ⟨hl2, rfl, S1, hM1, hTp⟩
    · rw [hl1] at hl2; cases hl2
    refine A_icmp_eq (tgt := 1406) d_L_law_245 (by decide) (fun c_245 => ?_) (fun c => absurd rfl c)
    obtain ⟨k, hke, -, hkl⟩ := inB_ex (by omega) hl1 (by decide)
    rw [hke] at hTp C1
    exact kk _ _ _ _ _ _ _ _ ⟨C1.mod hM1, hM1.1, end_R hR hq0 hkl hTp⟩ (by omega) (by omega)
set_option maxHeartbeats 4000000 in
set_option maxRecDepth 100000 in
theorem lc_text {G : GE} {nm : String} {L : Nat} {xs : Nat → Int32} {h : AH} {n m nx : Nat} {W : TD} {S : MS} {f : Nat → Option Nat} {IE : Nat → TD} {u q j : Nat} (hL : L ≤ 3584) (hj : 7 * j + 7 ≤ L) (A : LIv L xs h n m nx W S f IE) (hu : u ≤ 105 + 46 * j) (hq : q ≤ 147210 + 1835 * j) (kk : ∀ (h : AH) (nx : Nat) (W : TD) (S : MS) (f : Nat → Option Nat) (IE : Nat → TD) (u q : Nat), LIv L xs h n m nx W S f IE → u ≤ 105 + 46 * (j + 1) → q ≤ 147210 + 1835 * (j + 1) → WA G (yL nm) code 4 ret room_1 600000 7302250 KL u q 1406 [some (.ref 5), some (.ref n), some (.ref m), some (.int (nI (7 * j)))] [] h) : WA G (yL nm) code 4 ret room_1 600000 7302250 KL u q 250 [some (.ref 5), some (.ref n), some (.ref m), some (.int (nI (7 * j)))] [] h := by
  obtain ⟨C0, hMA, hR⟩ := A
  obtain ⟨⟨hO, hn, hm⟩, hT, hI, ⟨Zr, hRd, z14, h14⟩, ⟨px, py, Zp, hPl⟩, hS, hOl, h5⟩ := id C0
  obtain ⟨c, VL, WT, BK, SG, GM, len, hq0⟩ := hR.1
  have hN : NT h n W c VL WT BK SG GM := ⟨hO, hT, hq0.1⟩
  have hp : MP S c VL WT BK SG GM := hq0.2.1
  have hM : MW h h m S := ⟨hMA, fun _ _ => rfl⟩
  obtain ⟨hl6, hlen, hsl⟩ := hq0.2.2.2.2.1
  refine A_aload_n1 d_L_law_250 ?_
  refine A_aload_n0 d_L_law_251 ?_
  refine A_iload_n3 d_L_law_252 ?_
  refine A_iconst (v := nI 1) d_L_law_253 (by decide) ?_
  first | refine A_iaddN d_L_law_254 (by with_reducible rfl) (by with_reducible rfl) ?_ | refine A_iadd d_L_law_254 ?_
  refine A_ialdN d_L_law_255 h5 ⟨by omega, by omega⟩ ?_
  refine A_aload_n0 d_L_law_256 ?_
  refine A_iload_n3 d_L_law_257 ?_
  refine A_iconst (v := nI 2) d_L_law_258 (by decide) ?_
  first | refine A_iaddN d_L_law_259 (by with_reducible rfl) (by with_reducible rfl) ?_ | refine A_iadd d_L_law_259 ?_
  refine A_ialdN d_L_law_260 h5 ⟨by omega, by omega⟩ ?_
  refine A_callV0 d_L_law_261 (c_N_text hN hRd hOl (B := tpB W) (fun k hk => (tpB_eq hq0.2.2.2.2.2.2 hk).1) (tpB_lt W) hl6 hlen h14 _ _) hO rfl q_405 q_406 q_407 mk_N_text rfl (by decide) rfl (Nat.le_of_ble_eq_true rfl) ⟨show u + 0 ≤ 600000 by omega, show q + 0 ≤ 7302250 by omega⟩ ⟨rfl, rfl⟩ (fun v h1 hv => ?_)
  obtain ⟨W1, Z1, hX⟩ := hv
  have C1 := C0.tx hX
  have h5 := C1.2.2.2.2.2.2.2
  have hM1 : MW h1 h1 m S := ⟨hMA.kept (fun i _ _ => hX.2.2.2.1 i (by omega)), fun _ _ => rfl⟩
  replace hM := hM1
  clear hM1
  obtain ⟨rv, rfl⟩ : ∃ rv, v = some (.int rv) := by
    obtain ⟨-, -, -, -, ⟨-, e, -⟩ | ⟨of, k, -, -, -, -, e, -⟩ | ⟨of, k, -, -, -, -, -, e, -⟩⟩ := hX
    · exact ⟨_, e⟩
    · exact ⟨_, e⟩
    · exact ⟨_, e⟩
  refine A_aload_n2 d_L_law_264 ?_
  refine A_aload_n0 d_L_law_265 ?_
  refine A_iload_n3 d_L_law_266 ?_
  refine A_iconst (v := nI 1) d_L_law_267 (by decide) ?_
  first | refine A_iaddN d_L_law_268 (by with_reducible rfl) (by with_reducible rfl) ?_ | refine A_iadd d_L_law_268 ?_
  refine A_ialdN d_L_law_269 h5 ⟨by omega, by omega⟩ ?_
  refine A_aload_n0 d_L_law_270 ?_
  refine A_iload_n3 d_L_law_271 ?_
  refine A_iconst (v := nI 2) d_L_law_272 (by decide) ?_
  first | refine A_iaddN d_L_law_273 (by with_reducible rfl) (by with_reducible rfl) ?_ | refine A_iadd d_L_law_273 ?_
  refine A_ialdN d_L_law_274 h5 ⟨by omega, by omega⟩ ?_
  refine A_callV0 d_L_law_275 (c_M_text hM hq0.2.1.1 (B := tpB W) hsl hl6 (fun k hk => ⟨(tpB_eq hq0.2.2.2.2.2.2 hk).2, tpB_lt W k⟩) _ _) hM.o rfl q_1234 q_1235 q_1236 mk_M_text rfl (by decide) rfl (Nat.le_of_ble_eq_true rfl) ⟨show u + 0 ≤ 600000 by omega, show q + 0 ≤ 7302250 by omega⟩ ⟨rfl, rfl⟩ (fun v h1 hv => ?_)
  obtain ⟨rfl, S1, hM1, hR1⟩ := text_R hR hq0 hX hv
  refine A_icmp_eq (tgt := 1406) d_L_law_278 (by decide) (fun c_278 => ?_) (fun c => absurd rfl c)
  exact kk _ _ _ _ _ _ _ _ ⟨C1.mod hM1, hM1.1, hR1⟩ (by omega) (by omega)
set_option maxHeartbeats 4000000 in
set_option maxRecDepth 100000 in
theorem lc_fault {G : GE} {nm : String} {L : Nat} {xs : Nat → Int32} {h : AH} {n m nx : Nat} {W : TD} {S : MS} {f : Nat → Option Nat} {IE : Nat → TD} {u q j : Nat} (hL : L ≤ 3584) (hj : 7 * j + 7 ≤ L) (A : LIv L xs h n m nx W S f IE) (hu : u ≤ 105 + 46 * j) (hq : q ≤ 147210 + 1835 * j) (kk : ∀ (h : AH) (nx : Nat) (W : TD) (S : MS) (f : Nat → Option Nat) (IE : Nat → TD) (u q : Nat), LIv L xs h n m nx W S f IE → u ≤ 105 + 46 * (j + 1) → q ≤ 147210 + 1835 * (j + 1) → WA G (yL nm) code 4 ret room_1 600000 7302250 KL u q 1406 [some (.ref 5), some (.ref n), some (.ref m), some (.int (nI (7 * j)))] [] h) : WA G (yL nm) code 4 ret room_1 600000 7302250 KL u q 283 [some (.ref 5), some (.ref n), some (.ref m), some (.int (nI (7 * j)))] [] h := by
  obtain ⟨C0, hMA, hR⟩ := A
  obtain ⟨⟨hO, hn, hm⟩, hT, hI, ⟨Zr, hRd, z14, h14⟩, ⟨px, py, Zp, hPl⟩, hS, hOl, h5⟩ := id C0
  obtain ⟨c, VL, WT, BK, SG, GM, len, hq0⟩ := hR.1
  have hN : NT h n W c VL WT BK SG GM := ⟨hO, hT, hq0.1⟩
  have hp : MP S c VL WT BK SG GM := hq0.2.1
  have hM : MW h h m S := ⟨hMA, fun _ _ => rfl⟩
  refine A_aload_n1 d_L_law_283 ?_
  refine A_aload_n0 d_L_law_284 ?_
  refine A_iload_n3 d_L_law_285 ?_
  refine A_iconst (v := nI 1) d_L_law_286 (by decide) ?_
  first | refine A_iaddN d_L_law_287 (by with_reducible rfl) (by with_reducible rfl) ?_ | refine A_iadd d_L_law_287 ?_
  refine A_ialdN d_L_law_288 h5 ⟨by omega, by omega⟩ ?_
  refine A_callVP d_L_law_289 (c_N_fault hO hT _) hO rfl q_616 q_617 q_618 mk_N_fault rfl (by decide) rfl (Nat.le_of_ble_eq_true rfl) ⟨show u + 0 ≤ 600000 by omega, show q + 0 ≤ 7302250 by omega⟩ ⟨rfl, rfl⟩ ?_
  refine A_aload_n2 d_L_law_292 ?_
  refine A_aload_n0 d_L_law_293 ?_
  refine A_iload_n3 d_L_law_294 ?_
  refine A_iconst (v := nI 1) d_L_law_295 (by decide) ?_
  first | refine A_iaddN d_L_law_296 (by with_reducible rfl) (by with_reducible rfl) ?_ | refine A_iadd d_L_law_296 ?_
  refine A_ialdN d_L_law_297 h5 ⟨by omega, by omega⟩ ?_
  refine A_callV0 d_L_law_298 (c_M_fault hM _) hM.o rfl q_1331 q_1332 q_1333 mk_M_fault rfl (by decide) rfl (Nat.le_of_ble_eq_true rfl) ⟨show u + 0 ≤ 600000 by omega, show q + 0 ≤ 7302250 by omega⟩ ⟨rfl, rfl⟩ (fun v h1 hv => ?_)
  obtain ⟨rfl, S1, hM1, hk⟩ := hv
  refine A_topI (show _ = (if xs (7 * j + 1) = nI 0 then W.1 2 else if xs (7 * j + 1) = nI 1 then W.1 3 else -1) by rw [hq0.2.2.2.2.2.1.1, hq0.2.2.2.2.2.1.2]) ?_
  refine A_icmp_eq (tgt := 1406) d_L_law_301 (by decide) (fun c_301 => ?_) (fun c => absurd rfl c)
  exact kk _ _ _ _ _ _ _ _ (LIv.tk C0 hR hM1 hk) (by omega) (by omega)
set_option maxHeartbeats 4000000 in
set_option maxRecDepth 100000 in
theorem lc_land {G : GE} {nm : String} {L : Nat} {xs : Nat → Int32} {h : AH} {n m nx : Nat} {W : TD} {S : MS} {f : Nat → Option Nat} {IE : Nat → TD} {u q j : Nat} (hL : L ≤ 3584) (hj : 7 * j + 7 ≤ L) (A : LIv L xs h n m nx W S f IE) (hu : u ≤ 105 + 46 * j) (hq : q ≤ 147210 + 1835 * j) (kk : ∀ (h : AH) (nx : Nat) (W : TD) (S : MS) (f : Nat → Option Nat) (IE : Nat → TD) (u q : Nat), LIv L xs h n m nx W S f IE → u ≤ 105 + 46 * (j + 1) → q ≤ 147210 + 1835 * (j + 1) → WA G (yL nm) code 4 ret room_1 600000 7302250 KL u q 1406 [some (.ref 5), some (.ref n), some (.ref m), some (.int (nI (7 * j)))] [] h) : WA G (yL nm) code 4 ret room_1 600000 7302250 KL u q 306 [some (.ref 5), some (.ref n), some (.ref m), some (.int (nI (7 * j)))] [] h := by
  obtain ⟨C0, hMA, hR⟩ := A
  obtain ⟨⟨hO, hn, hm⟩, hT, hI, ⟨Zr, hRd, z14, h14⟩, ⟨px, py, Zp, hPl⟩, hS, hOl, h5⟩ := id C0
  obtain ⟨c, VL, WT, BK, SG, GM, len, hq0⟩ := hR.1
  have hN : NT h n W c VL WT BK SG GM := ⟨hO, hT, hq0.1⟩
  have hp : MP S c VL WT BK SG GM := hq0.2.1
  have hM : MW h h m S := ⟨hMA, fun _ _ => rfl⟩
  refine A_aload_n1 d_L_law_306 ?_
  refine A_aload_n0 d_L_law_307 ?_
  refine A_iload_n3 d_L_law_308 ?_
  refine A_iconst (v := nI 1) d_L_law_309 (by decide) ?_
  first | refine A_iaddN d_L_law_310 (by with_reducible rfl) (by with_reducible rfl) ?_ | refine A_iadd d_L_law_310 ?_
  refine A_ialdN d_L_law_311 h5 ⟨by omega, by omega⟩ ?_
  refine A_aload_n0 d_L_law_312 ?_
  refine A_iload_n3 d_L_law_313 ?_
  refine A_iconst (v := nI 2) d_L_law_314 (by decide) ?_
  first | refine A_iaddN d_L_law_315 (by with_reducible rfl) (by with_reducible rfl) ?_ | refine A_iadd d_L_law_315 ?_
  refine A_ialdN d_L_law_316 h5 ⟨by omega, by omega⟩ ?_
  refine A_callVP d_L_law_317 (c_N_land hN _ _) hO rfl q_640 q_641 q_642 mk_N_land rfl (by decide) rfl (Nat.le_of_ble_eq_true rfl) ⟨show u + 0 ≤ 600000 by omega, show q + 0 ≤ 7302250 by omega⟩ ⟨rfl, rfl⟩ ?_
  refine A_aload_n2 d_L_law_320 ?_
  refine A_aload_n0 d_L_law_321 ?_
  refine A_iload_n3 d_L_law_322 ?_
  refine A_iconst (v := nI 1) d_L_law_323 (by decide) ?_
  first | refine A_iaddN d_L_law_324 (by with_reducible rfl) (by with_reducible rfl) ?_ | refine A_iadd d_L_law_324 ?_
  refine A_ialdN d_L_law_325 h5 ⟨by omega, by omega⟩ ?_
  refine A_aload_n0 d_L_law_326 ?_
  refine A_iload_n3 d_L_law_327 ?_
  refine A_iconst (v := nI 2) d_L_law_328 (by decide) ?_
  first | refine A_iaddN d_L_law_329 (by with_reducible rfl) (by with_reducible rfl) ?_ | refine A_iadd d_L_law_329 ?_
  refine A_ialdN d_L_law_330 h5 ⟨by omega, by omega⟩ ?_
  refine A_callV0 d_L_law_331 (c_M_land hM hp _ _) hM.o rfl q_1335 q_1336 q_1337 mk_M_land rfl (by decide) rfl (Nat.le_of_ble_eq_true rfl) ⟨show u + 0 ≤ 600000 by omega, show q + 0 ≤ 7302250 by omega⟩ ⟨rfl, rfl⟩ (fun v h1 hv => ?_)
  obtain ⟨rfl, S1, hM1, hk⟩ := hv
  refine A_icmp_eq (tgt := 1406) d_L_law_334 (by decide) (fun c_334 => ?_) (fun c => absurd rfl c)
  exact kk _ _ _ _ _ _ _ _ (LIv.tk C0 hR hM1 hk) (by omega) (by omega)
set_option maxHeartbeats 4000000 in
set_option maxRecDepth 100000 in
theorem lc_person {G : GE} {nm : String} {L : Nat} {xs : Nat → Int32} {h : AH} {n m nx : Nat} {W : TD} {S : MS} {f : Nat → Option Nat} {IE : Nat → TD} {u q j : Nat} (hL : L ≤ 3584) (hj : 7 * j + 7 ≤ L) (A : LIv L xs h n m nx W S f IE) (hu : u ≤ 105 + 46 * j) (hq : q ≤ 147210 + 1835 * j) (kk : ∀ (h : AH) (nx : Nat) (W : TD) (S : MS) (f : Nat → Option Nat) (IE : Nat → TD) (u q : Nat), LIv L xs h n m nx W S f IE → u ≤ 105 + 46 * (j + 1) → q ≤ 147210 + 1835 * (j + 1) → WA G (yL nm) code 4 ret room_1 600000 7302250 KL u q 1406 [some (.ref 5), some (.ref n), some (.ref m), some (.int (nI (7 * j)))] [] h) : WA G (yL nm) code 4 ret room_1 600000 7302250 KL u q 339 [some (.ref 5), some (.ref n), some (.ref m), some (.int (nI (7 * j)))] [] h := by
  obtain ⟨C0, hMA, hR⟩ := A
  obtain ⟨⟨hO, hn, hm⟩, hT, hI, ⟨Zr, hRd, z14, h14⟩, ⟨px, py, Zp, hPl⟩, hS, hOl, h5⟩ := id C0
  obtain ⟨c, VL, WT, BK, SG, GM, len, hq0⟩ := hR.1
  have hN : NT h n W c VL WT BK SG GM := ⟨hO, hT, hq0.1⟩
  have hp : MP S c VL WT BK SG GM := hq0.2.1
  have hM : MW h h m S := ⟨hMA, fun _ _ => rfl⟩
  refine A_aload_n1 d_L_law_339 ?_
  refine A_aload_n0 d_L_law_340 ?_
  refine A_iload_n3 d_L_law_341 ?_
  refine A_iconst (v := nI 1) d_L_law_342 (by decide) ?_
  first | refine A_iaddN d_L_law_343 (by with_reducible rfl) (by with_reducible rfl) ?_ | refine A_iadd d_L_law_343 ?_
  refine A_ialdN d_L_law_344 h5 ⟨by omega, by omega⟩ ?_
  refine A_aload_n0 d_L_law_345 ?_
  refine A_iload_n3 d_L_law_346 ?_
  refine A_iconst (v := nI 2) d_L_law_347 (by decide) ?_
  first | refine A_iaddN d_L_law_348 (by with_reducible rfl) (by with_reducible rfl) ?_ | refine A_iadd d_L_law_348 ?_
  refine A_ialdN d_L_law_349 h5 ⟨by omega, by omega⟩ ?_
  refine A_aload_n0 d_L_law_350 ?_
  refine A_iload_n3 d_L_law_351 ?_
  refine A_iconst (v := nI 3) d_L_law_352 (by decide) ?_
  first | refine A_iaddN d_L_law_353 (by with_reducible rfl) (by with_reducible rfl) ?_ | refine A_iadd d_L_law_353 ?_
  refine A_ialdN d_L_law_354 h5 ⟨by omega, by omega⟩ ?_
  refine A_callVP d_L_law_355 (c_N_person hN _ _ _) hO rfl q_648 q_649 q_650 mk_N_person rfl (by decide) rfl (Nat.le_of_ble_eq_true rfl) ⟨show u + 0 ≤ 600000 by omega, show q + 0 ≤ 7302250 by omega⟩ ⟨rfl, rfl⟩ ?_
  refine A_aload_n2 d_L_law_358 ?_
  refine A_aload_n0 d_L_law_359 ?_
  refine A_iload_n3 d_L_law_360 ?_
  refine A_iconst (v := nI 1) d_L_law_361 (by decide) ?_
  first | refine A_iaddN d_L_law_362 (by with_reducible rfl) (by with_reducible rfl) ?_ | refine A_iadd d_L_law_362 ?_
  refine A_ialdN d_L_law_363 h5 ⟨by omega, by omega⟩ ?_
  refine A_aload_n0 d_L_law_364 ?_
  refine A_iload_n3 d_L_law_365 ?_
  refine A_iconst (v := nI 2) d_L_law_366 (by decide) ?_
  first | refine A_iaddN d_L_law_367 (by with_reducible rfl) (by with_reducible rfl) ?_ | refine A_iadd d_L_law_367 ?_
  refine A_ialdN d_L_law_368 h5 ⟨by omega, by omega⟩ ?_
  refine A_aload_n0 d_L_law_369 ?_
  refine A_iload_n3 d_L_law_370 ?_
  refine A_iconst (v := nI 3) d_L_law_371 (by decide) ?_
  first | refine A_iaddN d_L_law_372 (by with_reducible rfl) (by with_reducible rfl) ?_ | refine A_iadd d_L_law_372 ?_
  refine A_ialdN d_L_law_373 h5 ⟨by omega, by omega⟩ ?_
  refine A_callV0 d_L_law_374 (c_M_person hM hp _ _ _) hM.o rfl q_1347 q_1348 q_1349 mk_M_person rfl (by decide) rfl (Nat.le_of_ble_eq_true rfl) ⟨show u + 0 ≤ 600000 by omega, show q + 0 ≤ 7302250 by omega⟩ ⟨rfl, rfl⟩ (fun v h1 hv => ?_)
  obtain ⟨rfl, S1, hM1, hk⟩ := hv
  refine A_icmp_eq (tgt := 1406) d_L_law_377 (by decide) (fun c_377 => ?_) (fun c => absurd rfl c)
  exact kk _ _ _ _ _ _ _ _ (LIv.tk C0 hR hM1 hk) (by omega) (by omega)
set_option maxHeartbeats 4000000 in
set_option maxRecDepth 100000 in
theorem lc_night {G : GE} {nm : String} {L : Nat} {xs : Nat → Int32} {h : AH} {n m nx : Nat} {W : TD} {S : MS} {f : Nat → Option Nat} {IE : Nat → TD} {u q j : Nat} (hL : L ≤ 3584) (hj : 7 * j + 7 ≤ L) (A : LIv L xs h n m nx W S f IE) (hu : u ≤ 105 + 46 * j) (hq : q ≤ 147210 + 1835 * j) (kk : ∀ (h : AH) (nx : Nat) (W : TD) (S : MS) (f : Nat → Option Nat) (IE : Nat → TD) (u q : Nat), LIv L xs h n m nx W S f IE → u ≤ 105 + 46 * (j + 1) → q ≤ 147210 + 1835 * (j + 1) → WA G (yL nm) code 4 ret room_1 600000 7302250 KL u q 1406 [some (.ref 5), some (.ref n), some (.ref m), some (.int (nI (7 * j)))] [] h) : WA G (yL nm) code 4 ret room_1 600000 7302250 KL u q 382 [some (.ref 5), some (.ref n), some (.ref m), some (.int (nI (7 * j)))] [] h := by
  obtain ⟨C0, hMA, hR⟩ := A
  obtain ⟨⟨hO, hn, hm⟩, hT, hI, ⟨Zr, hRd, z14, h14⟩, ⟨px, py, Zp, hPl⟩, hS, hOl, h5⟩ := id C0
  obtain ⟨c, VL, WT, BK, SG, GM, len, hq0⟩ := hR.1
  have hN : NT h n W c VL WT BK SG GM := ⟨hO, hT, hq0.1⟩
  have hp : MP S c VL WT BK SG GM := hq0.2.1
  have hM : MW h h m S := ⟨hMA, fun _ _ => rfl⟩
  refine A_aload_n1 d_L_law_382 ?_
  refine A_aload_n0 d_L_law_383 ?_
  refine A_iload_n3 d_L_law_384 ?_
  refine A_iconst (v := nI 1) d_L_law_385 (by decide) ?_
  first | refine A_iaddN d_L_law_386 (by with_reducible rfl) (by with_reducible rfl) ?_ | refine A_iadd d_L_law_386 ?_
  refine A_ialdN d_L_law_387 h5 ⟨by omega, by omega⟩ ?_
  refine A_aload_n0 d_L_law_388 ?_
  refine A_iload_n3 d_L_law_389 ?_
  refine A_iconst (v := nI 2) d_L_law_390 (by decide) ?_
  first | refine A_iaddN d_L_law_391 (by with_reducible rfl) (by with_reducible rfl) ?_ | refine A_iadd d_L_law_391 ?_
  refine A_ialdN d_L_law_392 h5 ⟨by omega, by omega⟩ ?_
  refine A_callVP d_L_law_393 (c_N_night hN _ _) hO rfl q_656 q_657 q_658 mk_N_night rfl (by decide) rfl (Nat.le_of_ble_eq_true rfl) ⟨show u + 0 ≤ 600000 by omega, show q + 0 ≤ 7302250 by omega⟩ ⟨rfl, rfl⟩ ?_
  refine A_aload_n2 d_L_law_396 ?_
  refine A_aload_n0 d_L_law_397 ?_
  refine A_iload_n3 d_L_law_398 ?_
  refine A_iconst (v := nI 1) d_L_law_399 (by decide) ?_
  first | refine A_iaddN d_L_law_400 (by with_reducible rfl) (by with_reducible rfl) ?_ | refine A_iadd d_L_law_400 ?_
  refine A_ialdN d_L_law_401 h5 ⟨by omega, by omega⟩ ?_
  refine A_aload_n0 d_L_law_402 ?_
  refine A_iload_n3 d_L_law_403 ?_
  refine A_iconst (v := nI 2) d_L_law_404 (by decide) ?_
  first | refine A_iaddN d_L_law_405 (by with_reducible rfl) (by with_reducible rfl) ?_ | refine A_iadd d_L_law_405 ?_
  refine A_ialdN d_L_law_406 h5 ⟨by omega, by omega⟩ ?_
  refine A_callV0 d_L_law_407 (c_M_night hM hp _ _) hM.o rfl q_1363 q_1364 q_1365 mk_M_night rfl (by decide) rfl (Nat.le_of_ble_eq_true rfl) ⟨show u + 0 ≤ 600000 by omega, show q + 0 ≤ 7302250 by omega⟩ ⟨rfl, rfl⟩ (fun v h1 hv => ?_)
  obtain ⟨rfl, S1, hM1, hk⟩ := hv
  refine A_icmp_eq (tgt := 1406) d_L_law_410 (by decide) (fun c_410 => ?_) (fun c => absurd rfl c)
  exact kk _ _ _ _ _ _ _ _ (LIv.tk C0 hR hM1 hk) (by omega) (by omega)
set_option maxHeartbeats 4000000 in
set_option maxRecDepth 100000 in
theorem lc_row {G : GE} {nm : String} {L : Nat} {xs : Nat → Int32} {h : AH} {n m nx : Nat} {W : TD} {S : MS} {f : Nat → Option Nat} {IE : Nat → TD} {u q j : Nat} (hL : L ≤ 3584) (hj : 7 * j + 7 ≤ L) (A : LIv L xs h n m nx W S f IE) (hu : u ≤ 105 + 46 * j) (hq : q ≤ 147210 + 1835 * j) (kk : ∀ (h : AH) (nx : Nat) (W : TD) (S : MS) (f : Nat → Option Nat) (IE : Nat → TD) (u q : Nat), LIv L xs h n m nx W S f IE → u ≤ 105 + 46 * (j + 1) → q ≤ 147210 + 1835 * (j + 1) → WA G (yL nm) code 4 ret room_1 600000 7302250 KL u q 1406 [some (.ref 5), some (.ref n), some (.ref m), some (.int (nI (7 * j)))] [] h) : WA G (yL nm) code 4 ret room_1 600000 7302250 KL u q 415 [some (.ref 5), some (.ref n), some (.ref m), some (.int (nI (7 * j)))] [] h := by
  obtain ⟨C0, hMA, hR⟩ := A
  obtain ⟨⟨hO, hn, hm⟩, hT, hI, ⟨Zr, hRd, z14, h14⟩, ⟨px, py, Zp, hPl⟩, hS, hOl, h5⟩ := id C0
  obtain ⟨c, VL, WT, BK, SG, GM, len, hq0⟩ := hR.1
  have hN : NT h n W c VL WT BK SG GM := ⟨hO, hT, hq0.1⟩
  have hp : MP S c VL WT BK SG GM := hq0.2.1
  have hM : MW h h m S := ⟨hMA, fun _ _ => rfl⟩
  refine A_aload_n1 d_L_law_415 ?_
  refine A_aload_n0 d_L_law_416 ?_
  refine A_iload_n3 d_L_law_417 ?_
  refine A_iconst (v := nI 1) d_L_law_418 (by decide) ?_
  first | refine A_iaddN d_L_law_419 (by with_reducible rfl) (by with_reducible rfl) ?_ | refine A_iadd d_L_law_419 ?_
  refine A_ialdN d_L_law_420 h5 ⟨by omega, by omega⟩ ?_
  refine A_aload_n0 d_L_law_421 ?_
  refine A_iload_n3 d_L_law_422 ?_
  refine A_iconst (v := nI 2) d_L_law_423 (by decide) ?_
  first | refine A_iaddN d_L_law_424 (by with_reducible rfl) (by with_reducible rfl) ?_ | refine A_iadd d_L_law_424 ?_
  refine A_ialdN d_L_law_425 h5 ⟨by omega, by omega⟩ ?_
  refine A_aload_n0 d_L_law_426 ?_
  refine A_iload_n3 d_L_law_427 ?_
  refine A_iconst (v := nI 3) d_L_law_428 (by decide) ?_
  first | refine A_iaddN d_L_law_429 (by with_reducible rfl) (by with_reducible rfl) ?_ | refine A_iadd d_L_law_429 ?_
  refine A_ialdN d_L_law_430 h5 ⟨by omega, by omega⟩ ?_
  refine A_callVP d_L_law_431 (c_N_row hN _ _ _) hO rfl q_668 q_669 q_670 mk_N_row rfl (by decide) rfl (Nat.le_of_ble_eq_true rfl) ⟨show u + 0 ≤ 600000 by omega, show q + 0 ≤ 7302250 by omega⟩ ⟨rfl, rfl⟩ ?_
  refine A_aload_n2 d_L_law_434 ?_
  refine A_aload_n0 d_L_law_435 ?_
  refine A_iload_n3 d_L_law_436 ?_
  refine A_iconst (v := nI 1) d_L_law_437 (by decide) ?_
  first | refine A_iaddN d_L_law_438 (by with_reducible rfl) (by with_reducible rfl) ?_ | refine A_iadd d_L_law_438 ?_
  refine A_ialdN d_L_law_439 h5 ⟨by omega, by omega⟩ ?_
  refine A_aload_n0 d_L_law_440 ?_
  refine A_iload_n3 d_L_law_441 ?_
  refine A_iconst (v := nI 2) d_L_law_442 (by decide) ?_
  first | refine A_iaddN d_L_law_443 (by with_reducible rfl) (by with_reducible rfl) ?_ | refine A_iadd d_L_law_443 ?_
  refine A_ialdN d_L_law_444 h5 ⟨by omega, by omega⟩ ?_
  refine A_aload_n0 d_L_law_445 ?_
  refine A_iload_n3 d_L_law_446 ?_
  refine A_iconst (v := nI 3) d_L_law_447 (by decide) ?_
  first | refine A_iaddN d_L_law_448 (by with_reducible rfl) (by with_reducible rfl) ?_ | refine A_iadd d_L_law_448 ?_
  refine A_ialdN d_L_law_449 h5 ⟨by omega, by omega⟩ ?_
  refine A_callV0 d_L_law_450 (c_M_row hM hp _ _ _) hM.o rfl q_1367 q_1368 q_1369 mk_M_row rfl (by decide) rfl (Nat.le_of_ble_eq_true rfl) ⟨show u + 0 ≤ 600000 by omega, show q + 0 ≤ 7302250 by omega⟩ ⟨rfl, rfl⟩ (fun v h1 hv => ?_)
  obtain ⟨rfl, S1, hM1, hk⟩ := hv
  refine A_icmp_eq (tgt := 1406) d_L_law_453 (by decide) (fun c_453 => ?_) (fun c => absurd rfl c)
  exact kk _ _ _ _ _ _ _ _ (LIv.tk C0 hR hM1 hk) (by omega) (by omega)
