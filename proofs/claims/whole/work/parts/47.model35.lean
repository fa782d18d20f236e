theorem WA.imp {G : GE} {y : MethodName} {cc : ByteArray} {nL : Nat} {ret : Option FieldType} {R : Room} {mc ms : Nat} {K K1 : Option Value → AH → Prop} {u n pc : Nat} {L : List (Option Value)} {st : List Value} {h : AH} (hK : ∀ v h', K1 v h' → K v h') (k : WA G y cc nL ret R mc ms K1 u n pc L st h) : WA G y cc nL ret R mc ms K u n pc L st h :=
  fun l p e s m args below meth c H locs ls a r hl hf T hT X => by
    obtain ⟨t, h1, o, h2, h3, ⟨v, h', e1, e2, e3⟩, h4⟩ := k l p e s m args below meth c H locs ls a r hl hf T hT X
    exact ⟨t, h1, o, h2, h3, ⟨v, h', e1, e2, hK v h' e3⟩, h4⟩
set_option maxHeartbeats 4000000 in
set_option maxRecDepth 100000 in
theorem c_M_tokN {G : GE} {h0 : AH} {m : Nat} {S0 : MS} {B : Nat → Nat} {n : Nat} (hT : TPE S0 B n) {q : Nat} (hq : q < n) (hl : ¬ inN 97 122 (B q) = true) (hd : inN 48 57 (B q) = true) (c1 : Int32) : ∀ i, i ≤ n - q → ∀ (h : AH) (S1 : MS), MW h0 h m S1 → FT S0 S1 → S1.1 11 = nI (q + i) → S1.1 13 = nI q → S1.1 15 = nI (tkV B q i) → rnN 48 57 B n q = firstU (fun k => !inN 48 57 (B k)) (fun k => k) n n (q + i) → WA G y_M_token b_M_token 3 none r_M_token 0 0 (fun v h' => v = none ∧ ∃ S1, MW h0 h' m S1 ∧ FT S0 S1 ∧ TOK S1 B n q) 0 0 163 [some (.ref m), some (.int c1), some (.int (nI i))] [] h := by
  have hn := hT.2.1
  refine down ?_ (fun i hi ih => ?_)
  · obtain ⟨i, hi⟩ : ∃ i, i = n - q := ⟨_, rfl⟩
    rw [← hi]
    intro h S1 hM hb h11 h13 hv hr
    have hqi : q + i = n := by omega
    have hne : inB (seeI B n (q + i)) (nI 48) (nI 57) = false := by rw [seeI_in (fun z => absurd z (by omega)) (by decide) (by decide), decide_eq_false (by omega), Bool.false_and]
    have hend : firstU (fun k => !inN 48 57 (B k)) (fun k => k) n n (q + i) = q + i := by rw [hqi, firstU_end]
    refine A_aload_n0 d_M_token_163 ?_
    refine A_callVP d_M_token_164 (c_M_see hM (hb.tpe hT) (p := q + i) h11 (by omega)) hM.o rfl q_1250 q_1252 qs_19 mk_M_see rfl (by decide) rfl (Nat.le_of_ble_eq_true rfl) ⟨Nat.le_of_ble_eq_true rfl, Nat.le_of_ble_eq_true rfl⟩ ⟨rfl, rfl⟩ ?_
    refine A_bipush (v := nI 48) d_M_token_167 (by decide) ?_
    refine A_bipush (v := nI 57) d_M_token_169 (by decide) ?_
    refine A_callSP d_M_token_171 (c_M_in _ _ _ h) q_1231 q_1232 mk_M_in rfl (by decide) rfl (Nat.le_of_ble_eq_true rfl) ⟨Nat.le_of_ble_eq_true rfl, Nat.le_of_ble_eq_true rfl⟩ ⟨rfl, rfl⟩ ?_
    refine A_if_eqB (tgt := 224) d_M_token_174 (by decide) (fun c_174 => ?_) (fun c => absurd (hne.symm.trans c) (by decide))
    have hen : eN B n q = q + i := by
      unfold eN
      rw [if_neg (by omega), if_neg hl, if_pos hd, hr, hend]
    refine A_aload_n0 d_M_token_224 ?_
    refine A_iload_n2 d_M_token_225 ?_
    refine A_iconst (v := nI 2) d_M_token_226 (by decide) ?_
    first | refine A_icmp_leN (tgt := 234) d_M_token_227 (by decide) (by with_reducible rfl) (by with_reducible rfl) (by omega) (by omega) (fun c_227 => ?_) (fun c_227 => ?_) | refine A_icmp_le (tgt := 234) d_M_token_227 (by decide) (fun c_227 => ?_) (fun c_227 => ?_)
    · refine A_iconst (v := nI 3) d_M_token_234 (by decide) ?_
      refine A_putM hM (kf := 14) (ty := .int) d_M_token_235 (by decide) q_1063 rfl (by decide +kernel) (by first | rfl | exact bI_nar _) rfl (Nat.le_of_ble_eq_true rfl) rfl (fun h hM => ?_)
      obtain ⟨S3, hM, e141, x141, w141, y141⟩ := opt1 hM (by decide)
      refine A_goto (tgt := 266) d_M_token_238 (by decide) ?_
      refine A_vret d_M_token_266 rfl ⟨Nat.zero_le _, Nat.zero_le _⟩ ?_
      have hk3 : kN B n q = 3 := by
        unfold kN
        rw [if_neg (by omega), if_neg hl, if_pos hd, hr, hend]
        first | (rw [if_pos (by omega)]; done) | (rw [if_neg (by omega)]; done)
      refine ⟨rfl, S3, hM, hb.tr y141, ?_, ?_, ?_, fun z => ?_, fun z => (by rw [hk3] at z; cases z)⟩
      · rw [x141 11 (by decide), h11, hen]
      · rw [x141 13 (by decide), h13]
      · rw [e141, hk3]
      · rw [x141 15 (by decide), hv]
        unfold tvN
        rw [hen, show q + i - q = i by omega]
    · refine A_iconst (v := nI 1) d_M_token_230 (by decide) ?_
      refine A_goto (tgt := 235) d_M_token_231 (by decide) ?_
      refine A_putM hM (kf := 14) (ty := .int) d_M_token_235 (by decide) q_1063 rfl (by decide +kernel) (by first | rfl | exact bI_nar _) rfl (Nat.le_of_ble_eq_true rfl) rfl (fun h hM => ?_)
      obtain ⟨S3, hM, e141, x141, w141, y141⟩ := opt1 hM (by decide)
      refine A_goto (tgt := 266) d_M_token_238 (by decide) ?_
      refine A_vret d_M_token_266 rfl ⟨Nat.zero_le _, Nat.zero_le _⟩ ?_
      have hk3 : kN B n q = 1 := by
        unfold kN
        rw [if_neg (by omega), if_neg hl, if_pos hd, hr, hend]
        first | (rw [if_pos (by omega)]; done) | (rw [if_neg (by omega)]; done)
      refine ⟨rfl, S3, hM, hb.tr y141, ?_, ?_, ?_, fun z => ?_, fun z => (by rw [hk3] at z; cases z)⟩
      · rw [x141 11 (by decide), h11, hen]
      · rw [x141 13 (by decide), h13]
      · rw [e141, hk3]
      · rw [x141 15 (by decide), hv]
        unfold tvN
        rw [hen, show q + i - q = i by omega]
  · intro h S1 hM hb h11 h13 hv hr
    by_cases hlt : q + i < n
    · have hB := fun z : q + i < n => (hT.2.2 (q + i) z).2
      have hsi := seeI_in (B := B) (n := n) (p := q + i) (lo := 48) (hi := 57) hB (by decide) (by decide)
      cases hin : inN 48 57 (B (q + i))
      · have hne : inB (seeI B n (q + i)) (nI 48) (nI 57) = false := by rw [hsi, hin, Bool.and_false]
        have hend : firstU (fun k => !inN 48 57 (B k)) (fun k => k) n n (q + i) = q + i := by rw [firstU_step _ _ _ hlt, if_pos (by rw [hin]; rfl)]
        refine A_aload_n0 d_M_token_163 ?_
        refine A_callVP d_M_token_164 (c_M_see hM (hb.tpe hT) (p := q + i) h11 (by omega)) hM.o rfl q_1250 q_1252 qs_19 mk_M_see rfl (by decide) rfl (Nat.le_of_ble_eq_true rfl) ⟨Nat.le_of_ble_eq_true rfl, Nat.le_of_ble_eq_true rfl⟩ ⟨rfl, rfl⟩ ?_
        refine A_bipush (v := nI 48) d_M_token_167 (by decide) ?_
        refine A_bipush (v := nI 57) d_M_token_169 (by decide) ?_
        refine A_callSP d_M_token_171 (c_M_in _ _ _ h) q_1231 q_1232 mk_M_in rfl (by decide) rfl (Nat.le_of_ble_eq_true rfl) ⟨Nat.le_of_ble_eq_true rfl, Nat.le_of_ble_eq_true rfl⟩ ⟨rfl, rfl⟩ ?_
        refine A_if_eqB (tgt := 224) d_M_token_174 (by decide) (fun c_174 => ?_) (fun c => absurd (hne.symm.trans c) (by decide))
        have hen : eN B n q = q + i := by
          unfold eN
          rw [if_neg (by omega), if_neg hl, if_pos hd, hr, hend]
        refine A_aload_n0 d_M_token_224 ?_
        refine A_iload_n2 d_M_token_225 ?_
        refine A_iconst (v := nI 2) d_M_token_226 (by decide) ?_
        first | refine A_icmp_leN (tgt := 234) d_M_token_227 (by decide) (by with_reducible rfl) (by with_reducible rfl) (by omega) (by omega) (fun c_227 => ?_) (fun c_227 => ?_) | refine A_icmp_le (tgt := 234) d_M_token_227 (by decide) (fun c_227 => ?_) (fun c_227 => ?_)
        · refine A_iconst (v := nI 3) d_M_token_234 (by decide) ?_
          refine A_putM hM (kf := 14) (ty := .int) d_M_token_235 (by decide) q_1063 rfl (by decide +kernel) (by first | rfl | exact bI_nar _) rfl (Nat.le_of_ble_eq_true rfl) rfl (fun h hM => ?_)
          obtain ⟨S3, hM, e141, x141, w141, y141⟩ := opt1 hM (by decide)
          refine A_goto (tgt := 266) d_M_token_238 (by decide) ?_
          refine A_vret d_M_token_266 rfl ⟨Nat.zero_le _, Nat.zero_le _⟩ ?_
          have hk3 : kN B n q = 3 := by
            unfold kN
            rw [if_neg (by omega), if_neg hl, if_pos hd, hr, hend]
            first | (rw [if_pos (by omega)]; done) | (rw [if_neg (by omega)]; done)
          refine ⟨rfl, S3, hM, hb.tr y141, ?_, ?_, ?_, fun z => ?_, fun z => (by rw [hk3] at z; cases z)⟩
          · rw [x141 11 (by decide), h11, hen]
          · rw [x141 13 (by decide), h13]
          · rw [e141, hk3]
          · rw [x141 15 (by decide), hv]
            unfold tvN
            rw [hen, show q + i - q = i by omega]
        · refine A_iconst (v := nI 1) d_M_token_230 (by decide) ?_
          refine A_goto (tgt := 235) d_M_token_231 (by decide) ?_
          refine A_putM hM (kf := 14) (ty := .int) d_M_token_235 (by decide) q_1063 rfl (by decide +kernel) (by first | rfl | exact bI_nar _) rfl (Nat.le_of_ble_eq_true rfl) rfl (fun h hM => ?_)
          obtain ⟨S3, hM, e141, x141, w141, y141⟩ := opt1 hM (by decide)
          refine A_goto (tgt := 266) d_M_token_238 (by decide) ?_
          refine A_vret d_M_token_266 rfl ⟨Nat.zero_le _, Nat.zero_le _⟩ ?_
          have hk3 : kN B n q = 1 := by
            unfold kN
            rw [if_neg (by omega), if_neg hl, if_pos hd, hr, hend]
            first | (rw [if_pos (by omega)]; done) | (rw [if_neg (by omega)]; done)
          refine ⟨rfl, S3, hM, hb.tr y141, ?_, ?_, ?_, fun z => ?_, fun z => (by rw [hk3] at z; cases z)⟩
          · rw [x141 11 (by decide), h11, hen]
          · rw [x141 13 (by decide), h13]
          · rw [e141, hk3]
          · rw [x141 15 (by decide), hv]
            unfold tvN
            rw [hen, show q + i - q = i by omega]
      · have hin2 : inB (seeI B n (q + i)) (nI 48) (nI 57) = true := by rw [hsi, hin, decide_eq_true hlt]; rfl
        have hb48 : 48 ≤ B (q + i) := by
          simp only [inN, Bool.and_eq_true, decide_eq_true_eq] at hin
          exact hin.1
        refine A_aload_n0 d_M_token_163 ?_
        refine A_callVP d_M_token_164 (c_M_see hM (hb.tpe hT) (p := q + i) h11 (by omega)) hM.o rfl q_1250 q_1252 qs_19 mk_M_see rfl (by decide) rfl (Nat.le_of_ble_eq_true rfl) ⟨Nat.le_of_ble_eq_true rfl, Nat.le_of_ble_eq_true rfl⟩ ⟨rfl, rfl⟩ ?_
        refine A_bipush (v := nI 48) d_M_token_167 (by decide) ?_
        refine A_bipush (v := nI 57) d_M_token_169 (by decide) ?_
        refine A_callSP d_M_token_171 (c_M_in _ _ _ h) q_1231 q_1232 mk_M_in rfl (by decide) rfl (Nat.le_of_ble_eq_true rfl) ⟨Nat.le_of_ble_eq_true rfl, Nat.le_of_ble_eq_true rfl⟩ ⟨rfl, rfl⟩ ?_
        refine A_if_eqB (tgt := 224) d_M_token_174 (by decide) (fun c => absurd (hin2.symm.trans c) (by decide)) (fun c_174 => ?_)
        refine A_aload_n0 d_M_token_177 ?_
        refine A_iload_n2 d_M_token_178 ?_
        refine A_iconst (v := nI 2) d_M_token_179 (by decide) ?_
        first | refine A_icmp_geN (tgt := 201) d_M_token_180 (by decide) (by with_reducible rfl) (by with_reducible rfl) (by omega) (by omega) (fun c_180 => ?_) (fun c_180 => ?_) | refine A_icmp_ge (tgt := 201) d_M_token_180 (by decide) (fun c_180 => ?_) (fun c_180 => ?_)
        · refine A_aload_n0 d_M_token_201 ?_
          refine A_getf (kf := 15) d_M_token_202 hM.o ok_8 (by decide) q_1064 rfl ?_
          refine A_topI hv ?_
          refine A_putM hM (kf := 15) (ty := .int) d_M_token_205 (by decide) q_1064 rfl (by decide +kernel) (by first | rfl | exact bI_nar _) rfl (Nat.le_of_ble_eq_true rfl) rfl (fun h hM => ?_)
          obtain ⟨S2, hM, e102, x102, w102, y102⟩ := opt1 hM (by decide)
          refine A_aload_n0 d_M_token_208 ?_
          first | refine A_dupR d_M_token_209 ?_ | refine A_dupI d_M_token_209 ?_
          refine A_getf (kf := 11) d_M_token_210 hM.o ok_8 (by decide) q_1060 rfl ?_
          refine A_topI (show S2.1 11 = nI (q + i) by rw [x102 11 (by decide), h11]) ?_
          refine A_iconst (v := nI 1) d_M_token_213 (by decide) ?_
          first | refine A_iaddN d_M_token_214 (by with_reducible rfl) (by with_reducible rfl) ?_ | refine A_iadd d_M_token_214 ?_
          refine A_putM hM (kf := 11) (ty := .int) d_M_token_215 (by decide) q_1060 rfl (by decide +kernel) (by first | rfl | exact bI_nar _) rfl (Nat.le_of_ble_eq_true rfl) rfl (fun h hM => ?_)
          obtain ⟨S3, hM, e112, x112, w112, y112⟩ := opt1 hM (by decide)
          first | refine A_iinc2 d_M_token_218 (nI_1 _) trivial ?_ | refine A_iinc2 d_M_token_218 rfl trivial ?_
          refine A_goto (tgt := 163) d_M_token_221 (by decide) ?_
          refine ih _ _ hM (hb.tr (y102.tr y112)) (by rw [e112]; rfl) (by rw [x112 13 (by decide), x102 13 (by decide), h13]) ?_ ?_
          · rw [x112 15 (by decide), e102]
            have e : tkV B q (i + 1) = if i < 2 then 10 * tkV B q i + (B (q + i) - 48) else tkV B q i := rfl
            rw [e]
            first | (rw [if_pos (by omega)]; exact congrArg nI (by omega)) | (rw [if_neg (by omega)]; done)
          · rw [hr, firstU_step _ _ _ hlt, if_neg (by rw [hin]; decide)]
            rfl
        · refine A_bipush (v := nI 10) d_M_token_183 (by decide) ?_
          refine A_aload_n0 d_M_token_185 ?_
          refine A_getf (kf := 15) d_M_token_186 hM.o ok_8 (by decide) q_1064 rfl ?_
          refine A_topI hv ?_
          first | refine A_imulN d_M_token_189 (by with_reducible rfl) (by with_reducible rfl) ?_ | refine A_imul d_M_token_189 ?_
          refine A_aload_n0 d_M_token_190 ?_
          refine A_callVP d_M_token_191 (c_M_see hM (hb.tpe hT) (p := q + i) h11 (by omega)) hM.o rfl q_1250 q_1252 qs_19 mk_M_see rfl (by decide) rfl (Nat.le_of_ble_eq_true rfl) ⟨Nat.le_of_ble_eq_true rfl, Nat.le_of_ble_eq_true rfl⟩ ⟨rfl, rfl⟩ ?_
          refine A_topI (show seeI B n (q + i) = nI (B (q + i)) from if_pos hlt) ?_
          first | refine A_iaddN d_M_token_194 (by with_reducible rfl) (by with_reducible rfl) ?_ | refine A_iadd d_M_token_194 ?_
          refine A_bipush (v := nI 48) d_M_token_195 (by decide) ?_
          first | refine A_isubN d_M_token_197 (by with_reducible rfl) (by with_reducible rfl) (by omega) ?_ | refine A_isub d_M_token_197 ?_
          refine A_goto (tgt := 205) d_M_token_198 (by decide) ?_
          refine A_putM hM (kf := 15) (ty := .int) d_M_token_205 (by decide) q_1064 rfl (by decide +kernel) (by first | rfl | exact bI_nar _) rfl (Nat.le_of_ble_eq_true rfl) rfl (fun h hM => ?_)
          obtain ⟨S2, hM, e102, x102, w102, y102⟩ := opt1 hM (by decide)
          refine A_aload_n0 d_M_token_208 ?_
          first | refine A_dupR d_M_token_209 ?_ | refine A_dupI d_M_token_209 ?_
          refine A_getf (kf := 11) d_M_token_210 hM.o ok_8 (by decide) q_1060 rfl ?_
          refine A_topI (show S2.1 11 = nI (q + i) by rw [x102 11 (by decide), h11]) ?_
          refine A_iconst (v := nI 1) d_M_token_213 (by decide) ?_
          first | refine A_iaddN d_M_token_214 (by with_reducible rfl) (by with_reducible rfl) ?_ | refine A_iadd d_M_token_214 ?_
          refine A_putM hM (kf := 11) (ty := .int) d_M_token_215 (by decide) q_1060 rfl (by decide +kernel) (by first | rfl | exact bI_nar _) rfl (Nat.le_of_ble_eq_true rfl) rfl (fun h hM => ?_)
          obtain ⟨S3, hM, e112, x112, w112, y112⟩ := opt1 hM (by decide)
          first | refine A_iinc2 d_M_token_218 (nI_1 _) trivial ?_ | refine A_iinc2 d_M_token_218 rfl trivial ?_
          refine A_goto (tgt := 163) d_M_token_221 (by decide) ?_
          refine ih _ _ hM (hb.tr (y102.tr y112)) (by rw [e112]; rfl) (by rw [x112 13 (by decide), x102 13 (by decide), h13]) ?_ ?_
          · rw [x112 15 (by decide), e102]
            have e : tkV B q (i + 1) = if i < 2 then 10 * tkV B q i + (B (q + i) - 48) else tkV B q i := rfl
            rw [e]
            first | (rw [if_pos (by omega)]; exact congrArg nI (by omega)) | (rw [if_neg (by omega)]; done)
          · rw [hr, firstU_step _ _ _ hlt, if_neg (by rw [hin]; decide)]
            rfl
    · exact absurd hlt (by omega)
set_option maxHeartbeats 4000000 in
set_option maxRecDepth 100000 in
theorem c_M_tok31 {G : GE} {h0 h : AH} {m : Nat} {S0 : MS} (hM : MW h0 h m S0) {B : Nat → Nat} {n : Nat} (hT : TPE S0 B n) {q : Nat} (hqn : q ≤ n) (h11 : S0.1 11 = nI q) : WA G y_M_token b_M_token 3 none r_M_token 0 0 (fun v h' => v = none ∧ ∃ S1, MW h0 h' m S1 ∧ FT S0 S1 ∧ TOK S1 B n q) 0 0 31 [some (.ref m), none, none] [] h := by
  have hn := hT.2.1
  by_cases hq : q < n
  · have hB : B q < 256 := (hT.2.2 q hq).2
    by_cases hl : inN 97 122 (B q) = true
    · have hil : inB (nI (B q)) (nI 97) (nI 122) = true := (inB_N (by omega) (by decide) (by decide)).trans hl
      refine A_aload_n0 d_M_token_31 ?_
      refine A_aload_n0 d_M_token_32 ?_
      refine A_getf (kf := 11) d_M_token_33 hM.o ok_8 (by decide) q_1060 rfl ?_
      refine A_topI h11 ?_
      refine A_putM hM (kf := 13) (ty := .int) d_M_token_36 (by decide) q_1062 rfl (by decide +kernel) (by first | rfl | exact bI_nar _) rfl (Nat.le_of_ble_eq_true rfl) rfl (fun h hM => ?_)
      obtain ⟨S1, hM, e13, x13, w13, y13⟩ := opt1 hM (by decide)
      refine A_aload_n0 d_M_token_39 ?_
      refine A_callVP d_M_token_40 (c_M_see hM (y13.tpe hT) (p := q) ((x13 11 (by decide)).trans h11) (by omega)) hM.o rfl q_1250 q_1252 qs_19 mk_M_see rfl (by decide) rfl (Nat.le_of_ble_eq_true rfl) ⟨Nat.le_of_ble_eq_true rfl, Nat.le_of_ble_eq_true rfl⟩ ⟨rfl, rfl⟩ ?_
      refine A_topI (show seeI B n q = nI (B q) from if_pos hq) ?_
      refine A_istore1 d_M_token_43 trivial ?_
      refine A_aload_n0 d_M_token_44 ?_
      refine A_lconst (v := 0) d_M_token_45 (by decide) ?_
      refine A_putMw hM d_M_token_46 q_1065 (fun h hM => ?_)
      obtain ⟨S2, hM, e16, x16, y16⟩ := opw hM
      refine A_iconst (v := nI 0) d_M_token_49 (by decide) ?_
      refine A_istore2 d_M_token_50 trivial ?_
      refine A_iload_n1 d_M_token_51 ?_
      refine A_if_ge (tgt := 63) d_M_token_52 (by decide) (fun c_52 => ?_) (fun c => absurd (nI_pos' (n := B q) (by omega)) c)
      refine A_iload_n1 d_M_token_63 ?_
      refine A_bipush (v := nI 97) d_M_token_64 (by decide) ?_
      refine A_bipush (v := nI 122) d_M_token_66 (by decide) ?_
      refine A_callSP d_M_token_68 (c_M_in _ _ _ h) q_1231 q_1232 mk_M_in rfl (by decide) rfl (Nat.le_of_ble_eq_true rfl) ⟨Nat.le_of_ble_eq_true rfl, Nat.le_of_ble_eq_true rfl⟩ ⟨rfl, rfl⟩ ?_
      refine A_if_eqB (tgt := 147) d_M_token_71 (by decide) (fun c => absurd (hil.symm.trans c) (by decide)) (fun c_71 => ?_)
      have h2 : S2.1 11 = nI q ∧ S2.1 13 = nI q := ⟨by rw [x16, x13 11 (by decide)]; exact h11, by rw [x16]; exact e13⟩
      have y2 := y13.tr y16
      exact c_M_tokW hT hq hl _ 0 (Nat.zero_le _) _ _ hM y2 h2.1 h2.2 e16 rfl
    have hil : inB (nI (B q)) (nI 97) (nI 122) = false := (inB_N (by omega) (by decide) (by decide)).trans (show inN 97 122 (B q) = false from Bool.eq_false_iff.mpr hl)
    by_cases hd : inN 48 57 (B q) = true
    · have hid : inB (nI (B q)) (nI 48) (nI 57) = true := (inB_N (by omega) (by decide) (by decide)).trans hd
      refine A_aload_n0 d_M_token_31 ?_
      refine A_aload_n0 d_M_token_32 ?_
      refine A_getf (kf := 11) d_M_token_33 hM.o ok_8 (by decide) q_1060 rfl ?_
      refine A_topI h11 ?_
      refine A_putM hM (kf := 13) (ty := .int) d_M_token_36 (by decide) q_1062 rfl (by decide +kernel) (by first | rfl | exact bI_nar _) rfl (Nat.le_of_ble_eq_true rfl) rfl (fun h hM => ?_)
      obtain ⟨S1, hM, e13, x13, w13, y13⟩ := opt1 hM (by decide)
      refine A_aload_n0 d_M_token_39 ?_
      refine A_callVP d_M_token_40 (c_M_see hM (y13.tpe hT) (p := q) ((x13 11 (by decide)).trans h11) (by omega)) hM.o rfl q_1250 q_1252 qs_19 mk_M_see rfl (by decide) rfl (Nat.le_of_ble_eq_true rfl) ⟨Nat.le_of_ble_eq_true rfl, Nat.le_of_ble_eq_true rfl⟩ ⟨rfl, rfl⟩ ?_
      refine A_topI (show seeI B n q = nI (B q) from if_pos hq) ?_
      refine A_istore1 d_M_token_43 trivial ?_
      refine A_aload_n0 d_M_token_44 ?_
      refine A_lconst (v := 0) d_M_token_45 (by decide) ?_
      refine A_putMw hM d_M_token_46 q_1065 (fun h hM => ?_)
      obtain ⟨S2, hM, e16, x16, y16⟩ := opw hM
      refine A_iconst (v := nI 0) d_M_token_49 (by decide) ?_
      refine A_istore2 d_M_token_50 trivial ?_
      refine A_iload_n1 d_M_token_51 ?_
      refine A_if_ge (tgt := 63) d_M_token_52 (by decide) (fun c_52 => ?_) (fun c => absurd (nI_pos' (n := B q) (by omega)) c)
      refine A_iload_n1 d_M_token_63 ?_
      refine A_bipush (v := nI 97) d_M_token_64 (by decide) ?_
      refine A_bipush (v := nI 122) d_M_token_66 (by decide) ?_
      refine A_callSP d_M_token_68 (c_M_in _ _ _ h) q_1231 q_1232 mk_M_in rfl (by decide) rfl (Nat.le_of_ble_eq_true rfl) ⟨Nat.le_of_ble_eq_true rfl, Nat.le_of_ble_eq_true rfl⟩ ⟨rfl, rfl⟩ ?_
      refine A_if_eqB (tgt := 147) d_M_token_71 (by decide) (fun c_71 => ?_) (fun c => absurd (hil.symm.trans c) (by decide))
      refine A_iload_n1 d_M_token_147 ?_
      refine A_bipush (v := nI 48) d_M_token_148 (by decide) ?_
      refine A_bipush (v := nI 57) d_M_token_150 (by decide) ?_
      refine A_callSP d_M_token_152 (c_M_in _ _ _ h) q_1231 q_1232 mk_M_in rfl (by decide) rfl (Nat.le_of_ble_eq_true rfl) ⟨Nat.le_of_ble_eq_true rfl, Nat.le_of_ble_eq_true rfl⟩ ⟨rfl, rfl⟩ ?_
      refine A_if_eqB (tgt := 241) d_M_token_155 (by decide) (fun c => absurd (hid.symm.trans c) (by decide)) (fun c_155 => ?_)
      refine A_aload_n0 d_M_token_158 ?_
      refine A_iconst (v := nI 0) d_M_token_159 (by decide) ?_
      refine A_putM hM (kf := 15) (ty := .int) d_M_token_160 (by decide) q_1064 rfl (by decide +kernel) (by first | rfl | exact bI_nar _) rfl (Nat.le_of_ble_eq_true rfl) rfl (fun h hM => ?_)
      obtain ⟨S3, hM, e15, x15, w15, y15⟩ := opt1 hM (by decide)
      have h2 : S2.1 11 = nI q ∧ S2.1 13 = nI q := ⟨by rw [x16, x13 11 (by decide)]; exact h11, by rw [x16]; exact e13⟩
      have y2 := y13.tr y16
      exact c_M_tokN hT hq hl hd _ 0 (Nat.zero_le _) _ _ hM (y2.tr y15) (by rw [x15 11 (by decide)]; exact h2.1) (by rw [x15 13 (by decide)]; exact h2.2) e15 rfl
    have hid : inB (nI (B q)) (nI 48) (nI 57) = false := (inB_N (by omega) (by decide) (by decide)).trans (show inN 48 57 (B q) = false from Bool.eq_false_iff.mpr hd)
    refine A_aload_n0 d_M_token_31 ?_
    refine A_aload_n0 d_M_token_32 ?_
    refine A_getf (kf := 11) d_M_token_33 hM.o ok_8 (by decide) q_1060 rfl ?_
    refine A_topI h11 ?_
    refine A_putM hM (kf := 13) (ty := .int) d_M_token_36 (by decide) q_1062 rfl (by decide +kernel) (by first | rfl | exact bI_nar _) rfl (Nat.le_of_ble_eq_true rfl) rfl (fun h hM => ?_)
    obtain ⟨S1, hM, e13, x13, w13, y13⟩ := opt1 hM (by decide)
    refine A_aload_n0 d_M_token_39 ?_
    refine A_callVP d_M_token_40 (c_M_see hM (y13.tpe hT) (p := q) ((x13 11 (by decide)).trans h11) (by omega)) hM.o rfl q_1250 q_1252 qs_19 mk_M_see rfl (by decide) rfl (Nat.le_of_ble_eq_true rfl) ⟨Nat.le_of_ble_eq_true rfl, Nat.le_of_ble_eq_true rfl⟩ ⟨rfl, rfl⟩ ?_
    refine A_topI (show seeI B n q = nI (B q) from if_pos hq) ?_
    refine A_istore1 d_M_token_43 trivial ?_
    refine A_aload_n0 d_M_token_44 ?_
    refine A_lconst (v := 0) d_M_token_45 (by decide) ?_
    refine A_putMw hM d_M_token_46 q_1065 (fun h hM => ?_)
    obtain ⟨S2, hM, e16, x16, y16⟩ := opw hM
    refine A_iconst (v := nI 0) d_M_token_49 (by decide) ?_
    refine A_istore2 d_M_token_50 trivial ?_
    refine A_iload_n1 d_M_token_51 ?_
    refine A_if_ge (tgt := 63) d_M_token_52 (by decide) (fun c_52 => ?_) (fun c => absurd (nI_pos' (n := B q) (by omega)) c)
    refine A_iload_n1 d_M_token_63 ?_
    refine A_bipush (v := nI 97) d_M_token_64 (by decide) ?_
    refine A_bipush (v := nI 122) d_M_token_66 (by decide) ?_
    refine A_callSP d_M_token_68 (c_M_in _ _ _ h) q_1231 q_1232 mk_M_in rfl (by decide) rfl (Nat.le_of_ble_eq_true rfl) ⟨Nat.le_of_ble_eq_true rfl, Nat.le_of_ble_eq_true rfl⟩ ⟨rfl, rfl⟩ ?_
    refine A_if_eqB (tgt := 147) d_M_token_71 (by decide) (fun c_71 => ?_) (fun c => absurd (hil.symm.trans c) (by decide))
    refine A_iload_n1 d_M_token_147 ?_
    refine A_bipush (v := nI 48) d_M_token_148 (by decide) ?_
    refine A_bipush (v := nI 57) d_M_token_150 (by decide) ?_
    refine A_callSP d_M_token_152 (c_M_in _ _ _ h) q_1231 q_1232 mk_M_in rfl (by decide) rfl (Nat.le_of_ble_eq_true rfl) ⟨Nat.le_of_ble_eq_true rfl, Nat.le_of_ble_eq_true rfl⟩ ⟨rfl, rfl⟩ ?_
    refine A_if_eqB (tgt := 241) d_M_token_155 (by decide) (fun c_155 => ?_) (fun c => absurd (hid.symm.trans c) (by decide))
    refine A_aload_n0 d_M_token_241 ?_
    first | refine A_dupR d_M_token_242 ?_ | refine A_dupI d_M_token_242 ?_
    refine A_getf (kf := 11) d_M_token_243 hM.o ok_8 (by decide) q_1060 rfl ?_
    refine A_topI (show S2.1 11 = nI q by rw [x16, x13 11 (by decide)]; exact h11) ?_
    refine A_iconst (v := nI 1) d_M_token_246 (by decide) ?_
    first | refine A_iaddN d_M_token_247 (by with_reducible rfl) (by with_reducible rfl) ?_ | refine A_iadd d_M_token_247 ?_
    refine A_putM hM (kf := 11) (ty := .int) d_M_token_248 (by decide) q_1060 rfl (by decide +kernel) (by first | rfl | exact bI_nar _) rfl (Nat.le_of_ble_eq_true rfl) rfl (fun h hM => ?_)
    obtain ⟨S3, hM, e11, x11, w11, y11⟩ := opt1 hM (by decide)
    refine A_aload_n0 d_M_token_251 ?_
    refine A_iload_n1 d_M_token_252 ?_
    refine A_bipush (v := nI 59) d_M_token_253 (by decide) ?_
    first | refine A_icmp_neN (tgt := 262) d_M_token_255 (by decide) (by with_reducible rfl) (by with_reducible rfl) (by omega) (by omega) (fun c_255 => ?_) (fun c_255 => ?_) | refine A_icmp_ne (tgt := 262) d_M_token_255 (by decide) (fun c_255 => ?_) (fun c_255 => ?_)
    · refine A_iconst (v := nI 1) d_M_token_262 (by decide) ?_
      refine A_putM hM (kf := 14) (ty := .int) d_M_token_263 (by decide) q_1063 rfl (by decide +kernel) (by first | rfl | exact bI_nar _) rfl (Nat.le_of_ble_eq_true rfl) rfl (fun h hM => ?_)
      obtain ⟨S4, hM, e14, x14, w14, y14⟩ := opt1 hM (by decide)
      refine A_vret d_M_token_266 rfl ⟨Nat.zero_le _, Nat.zero_le _⟩ ?_
      have hk : kN B n q = 1 := by
        unfold kN
        rw [if_neg (by omega), if_neg hl, if_neg hd]
        first | (rw [if_pos c_255]; done) | (rw [if_neg c_255]; done)
      refine ⟨rfl, S4, hM, y13.tr (y16.tr (y11.tr y14)), ?_, ?_, ?_, fun z => (by rw [hk] at z; cases z), fun z => (by rw [hk] at z; cases z)⟩
      · rw [x14 11 (by decide), e11]
        unfold eN
        rw [if_neg (by omega), if_neg hl, if_neg hd]
      · rw [x14 13 (by decide), x11 13 (by decide), x16, e13]
      · rw [e14, hk]
    · refine A_iconst (v := nI 4) d_M_token_258 (by decide) ?_
      refine A_goto (tgt := 263) d_M_token_259 (by decide) ?_
      refine A_putM hM (kf := 14) (ty := .int) d_M_token_263 (by decide) q_1063 rfl (by decide +kernel) (by first | rfl | exact bI_nar _) rfl (Nat.le_of_ble_eq_true rfl) rfl (fun h hM => ?_)
      obtain ⟨S4, hM, e14, x14, w14, y14⟩ := opt1 hM (by decide)
      refine A_vret d_M_token_266 rfl ⟨Nat.zero_le _, Nat.zero_le _⟩ ?_
      have hk : kN B n q = 4 := by
        unfold kN
        rw [if_neg (by omega), if_neg hl, if_neg hd]
        first | (rw [if_pos c_255]; done) | (rw [if_neg c_255]; done)
      refine ⟨rfl, S4, hM, y13.tr (y16.tr (y11.tr y14)), ?_, ?_, ?_, fun z => (by rw [hk] at z; cases z), fun z => (by rw [hk] at z; cases z)⟩
      · rw [x14 11 (by decide), e11]
        unfold eN
        rw [if_neg (by omega), if_neg hl, if_neg hd]
      · rw [x14 13 (by decide), x11 13 (by decide), x16, e13]
      · rw [e14, hk]
  refine A_aload_n0 d_M_token_31 ?_
  refine A_aload_n0 d_M_token_32 ?_
  refine A_getf (kf := 11) d_M_token_33 hM.o ok_8 (by decide) q_1060 rfl ?_
  refine A_topI h11 ?_
  refine A_putM hM (kf := 13) (ty := .int) d_M_token_36 (by decide) q_1062 rfl (by decide +kernel) (by first | rfl | exact bI_nar _) rfl (Nat.le_of_ble_eq_true rfl) rfl (fun h hM => ?_)
  obtain ⟨S1, hM, e13, x13, w13, y13⟩ := opt1 hM (by decide)
  refine A_aload_n0 d_M_token_39 ?_
  refine A_callVP d_M_token_40 (c_M_see hM (y13.tpe hT) (p := q) ((x13 11 (by decide)).trans h11) (by omega)) hM.o rfl q_1250 q_1252 qs_19 mk_M_see rfl (by decide) rfl (Nat.le_of_ble_eq_true rfl) ⟨Nat.le_of_ble_eq_true rfl, Nat.le_of_ble_eq_true rfl⟩ ⟨rfl, rfl⟩ ?_
  refine A_topI (show seeI B n q = -1 from if_neg (by omega)) ?_
  refine A_istore1 d_M_token_43 trivial ?_
  refine A_aload_n0 d_M_token_44 ?_
  refine A_lconst (v := 0) d_M_token_45 (by decide) ?_
  refine A_putMw hM d_M_token_46 q_1065 (fun h hM => ?_)
  obtain ⟨S2, hM, e16, x16, y16⟩ := opw hM
  refine A_iconst (v := nI 0) d_M_token_49 (by decide) ?_
  refine A_istore2 d_M_token_50 trivial ?_
  refine A_iload_n1 d_M_token_51 ?_
  refine A_if_ge (tgt := 63) d_M_token_52 (by decide) (fun c => absurd c (by decide)) (fun c_52 => ?_)
  refine A_aload_n0 d_M_token_55 ?_
  refine A_iconst (v := nI 0) d_M_token_56 (by decide) ?_
  refine A_putM hM (kf := 14) (ty := .int) d_M_token_57 (by decide) q_1063 rfl (by decide +kernel) (by first | rfl | exact bI_nar _) rfl (Nat.le_of_ble_eq_true rfl) rfl (fun h hM => ?_)
  obtain ⟨S3, hM, e14, x14, w14, y14⟩ := opt1 hM (by decide)
  refine A_goto (tgt := 266) d_M_token_60 (by decide) ?_
  refine A_vret d_M_token_266 rfl ⟨Nat.zero_le _, Nat.zero_le _⟩ ?_
  have hk : kN B n q = 0 := if_pos (by omega)
  refine ⟨rfl, S3, hM, y13.tr (y16.tr y14), ?_, ?_, ?_, fun z => (by rw [hk] at z; cases z), fun z => (by rw [hk] at z; cases z)⟩
  · rw [x14 11 (by decide), x16, x13 11 (by decide), h11]
    unfold eN
    rw [if_pos (by omega)]
  · rw [x14 13 (by decide), x16, e13]
  · rw [e14, hk]
theorem wa_tr {G : GE} {h0 h : AH} {m : Nat} {S S1 : MS} {B : Nat → Nat} {n q pc : Nat} {L : List (Option Value)} (hb : FT S S1) (k : WA G y_M_token b_M_token 3 none r_M_token 0 0 (fun v h' => v = none ∧ ∃ S2, MW h0 h' m S2 ∧ FT S1 S2 ∧ TOK S2 B n q) 0 0 pc L [] h) : WA G y_M_token b_M_token 3 none r_M_token 0 0 (fun v h' => v = none ∧ ∃ S2, MW h0 h' m S2 ∧ FT S S2 ∧ TOK S2 B n q) 0 0 pc L [] h :=
  WA.imp (fun v h' z => ⟨z.1, z.2.choose, z.2.choose_spec.1, hb.tr z.2.choose_spec.2.1, z.2.choose_spec.2.2⟩) k
set_option maxHeartbeats 4000000 in
set_option maxRecDepth 100000 in
theorem c_M_token {G : GE} {h0 h : AH} {m : Nat} {S : MS} (hM : MW h0 h m S) {B : Nat → Nat} {n : Nat} (hT : TPE S B n) {p : Nat} (hpn : p ≤ n) (h11 : S.1 11 = nI p) : Ctr G y_M_token b_M_token 3 none r_M_token [.ref m] h (fun v h' => v = none ∧ ∃ S1, MW h0 h' m S1 ∧ FT S S1 ∧ TOK S1 B n (skN B n p)) := by
  have hn := hT.2.1
  have key : ∀ i, i ≤ n - p → ∀ (h : AH) (S1 : MS), MW h0 h m S1 → FT S S1 → S1.1 11 = nI (p + i) → skN B n p = firstU (fun k => !blkB (B k)) (fun k => k) n n (p + i) → WA G y_M_token b_M_token 3 none r_M_token 0 0 (fun v h' => v = none ∧ ∃ S1, MW h0 h' m S1 ∧ FT S S1 ∧ TOK S1 B n (skN B n p)) 0 0 0 [some (.ref m), none, none] [] h := by
    refine down ?_ (fun i hi ih => ?_)
    · obtain ⟨i, hi⟩ : ∃ i, i = n - p := ⟨_, rfl⟩
      rw [← hi]
      intro h S1 hM hb h11 hs
      have hend : firstU (fun k => !blkB (B k)) (fun k => k) n n (p + i) = p + i := by rw [show p + i = n by omega, firstU_end]
      have hnb1 : p + i < n → B (p + i) ≠ 10 := fun z => absurd z (by omega)
      have hnb2 : p + i < n → B (p + i) ≠ 32 := fun z => absurd z (by omega)
      refine A_aload_n0 d_M_token_0 ?_
      refine A_callVP d_M_token_1 (c_M_see hM (hb.tpe hT) (p := p + i) h11 (by omega)) hM.o rfl q_1250 q_1252 qs_19 mk_M_see rfl (by decide) rfl (Nat.le_of_ble_eq_true rfl) ⟨Nat.le_of_ble_eq_true rfl, Nat.le_of_ble_eq_true rfl⟩ ⟨rfl, rfl⟩ ?_
      refine A_bipush (v := nI 10) d_M_token_4 (by decide) ?_
      refine A_icmp_eq (tgt := 18) d_M_token_6 (by decide) (fun c => absurd ((seeI_eq (fun z => (hT.2.2 (p + i) z).2) (by decide)).mp c) (fun z => hnb1 z.1 z.2)) (fun c_6 => ?_)
      refine A_aload_n0 d_M_token_9 ?_
      refine A_callVP d_M_token_10 (c_M_see hM (hb.tpe hT) (p := p + i) h11 (by omega)) hM.o rfl q_1250 q_1252 qs_19 mk_M_see rfl (by decide) rfl (Nat.le_of_ble_eq_true rfl) ⟨Nat.le_of_ble_eq_true rfl, Nat.le_of_ble_eq_true rfl⟩ ⟨rfl, rfl⟩ ?_
      refine A_bipush (v := nI 32) d_M_token_13 (by decide) ?_
      refine A_icmp_ne (tgt := 31) d_M_token_15 (by decide) (fun c_15 => ?_) (fun c => absurd ((seeI_eq (fun z => (hT.2.2 (p + i) z).2) (by decide)).mp c) (fun z => hnb2 z.1 z.2))
      have e := c_M_tok31 hM (hb.tpe hT) (q := p + i) (by omega) h11 (G := G)
      rw [← hend, ← hs] at e
      exact wa_tr hb e
    · intro h S1 hM hb h11 hs
      have hlt : p + i < n := by omega
      cases hbl : blkB (B (p + i))
      · have hend : firstU (fun k => !blkB (B k)) (fun k => k) n n (p + i) = p + i := by rw [firstU_step _ _ _ hlt, if_pos (by rw [hbl]; rfl)]
        have hnb1 : p + i < n → B (p + i) ≠ 10 := fun _ z => by rw [z] at hbl; cases hbl
        have hnb2 : p + i < n → B (p + i) ≠ 32 := fun _ z => by rw [z] at hbl; cases hbl
        refine A_aload_n0 d_M_token_0 ?_
        refine A_callVP d_M_token_1 (c_M_see hM (hb.tpe hT) (p := p + i) h11 (by omega)) hM.o rfl q_1250 q_1252 qs_19 mk_M_see rfl (by decide) rfl (Nat.le_of_ble_eq_true rfl) ⟨Nat.le_of_ble_eq_true rfl, Nat.le_of_ble_eq_true rfl⟩ ⟨rfl, rfl⟩ ?_
        refine A_bipush (v := nI 10) d_M_token_4 (by decide) ?_
        refine A_icmp_eq (tgt := 18) d_M_token_6 (by decide) (fun c => absurd ((seeI_eq (fun z => (hT.2.2 (p + i) z).2) (by decide)).mp c) (fun z => hnb1 z.1 z.2)) (fun c_6 => ?_)
        refine A_aload_n0 d_M_token_9 ?_
        refine A_callVP d_M_token_10 (c_M_see hM (hb.tpe hT) (p := p + i) h11 (by omega)) hM.o rfl q_1250 q_1252 qs_19 mk_M_see rfl (by decide) rfl (Nat.le_of_ble_eq_true rfl) ⟨Nat.le_of_ble_eq_true rfl, Nat.le_of_ble_eq_true rfl⟩ ⟨rfl, rfl⟩ ?_
        refine A_bipush (v := nI 32) d_M_token_13 (by decide) ?_
        refine A_icmp_ne (tgt := 31) d_M_token_15 (by decide) (fun c_15 => ?_) (fun c => absurd ((seeI_eq (fun z => (hT.2.2 (p + i) z).2) (by decide)).mp c) (fun z => hnb2 z.1 z.2))
        have e := c_M_tok31 hM (hb.tpe hT) (q := p + i) (by omega) h11 (G := G)
        rw [← hend, ← hs] at e
        exact wa_tr hb e
      · skip
        refine A_aload_n0 d_M_token_0 ?_
        refine A_callVP d_M_token_1 (c_M_see hM (hb.tpe hT) (p := p + i) h11 (by omega)) hM.o rfl q_1250 q_1252 qs_19 mk_M_see rfl (by decide) rfl (Nat.le_of_ble_eq_true rfl) ⟨Nat.le_of_ble_eq_true rfl, Nat.le_of_ble_eq_true rfl⟩ ⟨rfl, rfl⟩ ?_
        refine A_bipush (v := nI 10) d_M_token_4 (by decide) ?_
        first | refine A_icmp_eqN (tgt := 18) d_M_token_6 (by decide) (by with_reducible rfl) (by with_reducible rfl) (by omega) (by omega) (fun c_6 => ?_) (fun c_6 => ?_) | refine A_icmp_eq (tgt := 18) d_M_token_6 (by decide) (fun c_6 => ?_) (fun c_6 => ?_)
        · refine A_aload_n0 d_M_token_18 ?_
          first | refine A_dupR d_M_token_19 ?_ | refine A_dupI d_M_token_19 ?_
          refine A_getf (kf := 11) d_M_token_20 hM.o ok_8 (by decide) q_1060 rfl ?_
          refine A_topI h11 ?_
          refine A_iconst (v := nI 1) d_M_token_23 (by decide) ?_
          first | refine A_iaddN d_M_token_24 (by with_reducible rfl) (by with_reducible rfl) ?_ | refine A_iadd d_M_token_24 ?_
          refine A_putM hM (kf := 11) (ty := .int) d_M_token_25 (by decide) q_1060 rfl (by decide +kernel) (by first | rfl | exact bI_nar _) rfl (Nat.le_of_ble_eq_true rfl) rfl (fun h hM => ?_)
          obtain ⟨S3, hM, e112, x112, w112, y112⟩ := opt1 hM (by decide)
          refine A_goto (tgt := 0) d_M_token_28 (by decide) ?_
          exact ih _ _ hM (hb.tr y112) (by rw [e112]; rfl) (by rw [hs, firstU_step _ _ _ hlt, if_neg (by rw [hbl]; decide)]; rfl)
        · refine A_aload_n0 d_M_token_9 ?_
          refine A_callVP d_M_token_10 (c_M_see hM (hb.tpe hT) (p := p + i) h11 (by omega)) hM.o rfl q_1250 q_1252 qs_19 mk_M_see rfl (by decide) rfl (Nat.le_of_ble_eq_true rfl) ⟨Nat.le_of_ble_eq_true rfl, Nat.le_of_ble_eq_true rfl⟩ ⟨rfl, rfl⟩ ?_
          refine A_bipush (v := nI 32) d_M_token_13 (by decide) ?_
          first | refine A_icmp_neN (tgt := 31) d_M_token_15 (by decide) (by with_reducible rfl) (by with_reducible rfl) (by omega) (by omega) (fun c_15 => ?_) (fun c_15 => ?_) | refine A_icmp_ne (tgt := 31) d_M_token_15 (by decide) (fun c_15 => ?_) (fun c_15 => ?_)
          · exact absurd hbl (by have q1 := fun z => c_6 ((seeI_eq (fun z => (hT.2.2 (p + i) z).2) (by decide)).mpr ⟨hlt, z⟩); have q2 := fun z => c_15 ((seeI_eq (fun z => (hT.2.2 (p + i) z).2) (by decide)).mpr ⟨hlt, z⟩); unfold blkB; rw [decide_eq_false q1, decide_eq_false q2]; decide)
          · refine A_aload_n0 d_M_token_18 ?_
            first | refine A_dupR d_M_token_19 ?_ | refine A_dupI d_M_token_19 ?_
            refine A_getf (kf := 11) d_M_token_20 hM.o ok_8 (by decide) q_1060 rfl ?_
            refine A_topI h11 ?_
            refine A_iconst (v := nI 1) d_M_token_23 (by decide) ?_
            first | refine A_iaddN d_M_token_24 (by with_reducible rfl) (by with_reducible rfl) ?_ | refine A_iadd d_M_token_24 ?_
            refine A_putM hM (kf := 11) (ty := .int) d_M_token_25 (by decide) q_1060 rfl (by decide +kernel) (by first | rfl | exact bI_nar _) rfl (Nat.le_of_ble_eq_true rfl) rfl (fun h hM => ?_)
            obtain ⟨S3, hM, e112, x112, w112, y112⟩ := opt1 hM (by decide)
            refine A_goto (tgt := 0) d_M_token_28 (by decide) ?_
            exact ih _ _ hM (hb.tr y112) (by rw [e112]; rfl) (by rw [hs, firstU_step _ _ _ hlt, if_neg (by rw [hbl]; decide)]; rfl)
  refine Ctr.of (by decide +kernel) (by simp) (Nat.le_of_ble_eq_true rfl) (L0 := [some (.ref m), none, none]) rfl ?_
  exact key 0 (Nat.zero_le _) _ _ hM (FT.rf S) h11 rfl
