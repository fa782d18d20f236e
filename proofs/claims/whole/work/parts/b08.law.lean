theorem gt7 {L i : Nat} (hL : L ≤ 3584) (hi : i ≤ 3584) : nI L - nI 7 < nI i ↔ L < i + 7 := by
  rw [show nI L - nI 7 = Int32.ofInt ((L : Int) - 7) by rw [nI_Z L, nI_Z 7, ← Int32.ofInt_sub]; rfl, Int32.lt_iff_toInt_lt, ofInt_toInt (by omega) (by omega), nI_toInt (by omega)]
  omega
set_option maxHeartbeats 4000000 in
set_option maxRecDepth 100000 in
theorem law_loop {G : GE} {nm : String} {L : Nat} {xs : Nat → Int32} {n m : Nat} (hL : L ≤ 3584) : ∀ j, j ≤ L / 7 → ∀ (h : AH) (nx : Nat) (W : TD) (S : MS) (f : Nat → Option Nat) (IE : Nat → TD) (u q : Nat), LIv L xs h n m nx W S f IE → u ≤ 105 + 46 * j → q ≤ 147210 + 1835 * j → WA G (yL nm) code 4 ret room_1 600000 7302250 KL u q 18 [some (.ref 5), some (.ref n), some (.ref m), some (.int (nI (7 * j)))] [] h := by
  refine down ?_ (fun j hj ih => ?_)
  · intro h nx W S f IE u q A hu hq
    have h5 := A.1.2.2.2.2.2.2.2
    refine A_iload_n3 d_L_law_18 ?_
    refine A_aload_n0 d_L_law_19 ?_
    refine A_alen (w := 0) (t := 0) d_L_law_20 h5 rfl ?_
    refine A_bipush (v := nI 7) d_L_law_21 (by decide) ?_
    refine A_isub d_L_law_23 ?_
    refine A_icmp_gt (tgt := 1412) d_L_law_24 (by decide) (fun c_24 => ?_) (fun c => absurd ((gt7 hL (by omega)).mpr (by omega)) c)
    refine A_iconst (v := nI 1) d_L_law_1412 (by decide) ?_
    exact A_zret d_L_law_1413 rfl rfl ⟨by omega, by omega⟩ rfl
  · intro h nx W S f IE u q A hu hq
    have hj7 : 7 * j + 7 ≤ L := by omega
    have h5 := A.1.2.2.2.2.2.2.2
    have kk : ∀ (h : AH) (nx : Nat) (W : TD) (S : MS) (f : Nat → Option Nat) (IE : Nat → TD) (u q : Nat), LIv L xs h n m nx W S f IE → u ≤ 105 + 46 * (j + 1) → q ≤ 147210 + 1835 * (j + 1) → WA G (yL nm) code 4 ret room_1 600000 7302250 KL u q 1406 [some (.ref 5), some (.ref n), some (.ref m), some (.int (nI (7 * j)))] [] h := by
      intro h nx W S f IE u q A hu hq
      refine A_iinc3 d_L_law_1406 (show _ = nI (7 * (j + 1)) by rw [show 7 * (j + 1) = 7 * j + 7 by omega, ← nI_add]; rfl) trivial ?_
      refine A_goto (tgt := 18) d_L_law_1409 (by decide) ?_
      exact ih h nx W S f IE u q A hu hq
    refine A_iload_n3 d_L_law_18 ?_
    refine A_aload_n0 d_L_law_19 ?_
    refine A_alen (w := 0) (t := 0) d_L_law_20 h5 rfl ?_
    refine A_bipush (v := nI 7) d_L_law_21 (by decide) ?_
    refine A_isub d_L_law_23 ?_
    refine A_icmp_gt (tgt := 1412) d_L_law_24 (by decide) (fun c => absurd ((gt7 hL (by omega)).mp c) (by omega)) (fun c_24 => ?_)
    refine A_aload_n0 d_L_law_27 ?_
    refine A_iload_n3 d_L_law_28 ?_
    refine A_ialdN d_L_law_29 h5 ⟨by omega, by omega⟩ ?_
    refine A_bipush (v := nI 31) d_L_law_30 (by decide) ?_
    refine A_iand d_L_law_32 ?_
    obtain ⟨sv, hsv⟩ : ∃ sv, sv = xs (7 * j) &&& nI 31 := ⟨_, rfl⟩
    refine A_topI hsv.symm ?_
    rcases tsw (x := sv) (lo := 0) (hi := 28) (by decide) with ⟨k33, hk33, hka, hkb⟩ | ⟨sw_33, swo⟩
    · rcases (show k33 = 0 ∨ k33 = 1 ∨ k33 = 2 ∨ k33 = 3 ∨ k33 = 4 ∨ k33 = 5 ∨ k33 = 6 ∨ k33 = 7 ∨ k33 = 8 ∨ k33 = 9 ∨ k33 = 10 ∨ k33 = 11 ∨ k33 = 12 ∨ k33 = 13 ∨ k33 = 14 ∨ k33 = 15 ∨ k33 = 16 ∨ k33 = 17 ∨ k33 = 18 ∨ k33 = 19 ∨ k33 = 20 ∨ k33 = 21 ∨ k33 = 22 ∨ k33 = 23 ∨ k33 = 24 ∨ k33 = 25 ∨ k33 = 26 ∨ k33 = 27 ∨ k33 = 28 by omega) with rfl | rfl | rfl | rfl | rfl | rfl | rfl | rfl | rfl | rfl | rfl | rfl | rfl | rfl | rfl | rfl | rfl | rfl | rfl | rfl | rfl | rfl | rfl | rfl | rfl | rfl | rfl | rfl | rfl
      · subst hk33
        refine A_tableIn (tgt := 164) d_L_law_33 (by decide) (by decide) rfl (by decide) ?_
        exact lc_feed hL hj7 A hu hq kk
      · subst hk33
        refine A_tableIn (tgt := 227) d_L_law_33 (by decide) (by decide) rfl (by decide) ?_
        exact lc_end hL hj7 A hu hq kk
      · subst hk33
        refine A_tableIn (tgt := 250) d_L_law_33 (by decide) (by decide) rfl (by decide) ?_
        exact lc_text hL hj7 A hu hq kk
      · subst hk33
        refine A_tableIn (tgt := 283) d_L_law_33 (by decide) (by decide) rfl (by decide) ?_
        exact lc_fault hL hj7 A hu hq kk
      · subst hk33
        refine A_tableIn (tgt := 306) d_L_law_33 (by decide) (by decide) rfl (by decide) ?_
        exact lc_land hL hj7 A hu hq kk
      · subst hk33
        refine A_tableIn (tgt := 339) d_L_law_33 (by decide) (by decide) rfl (by decide) ?_
        exact lc_person hL hj7 A hu hq kk
      · subst hk33
        refine A_tableIn (tgt := 382) d_L_law_33 (by decide) (by decide) rfl (by decide) ?_
        exact lc_night hL hj7 A hu hq kk
      · subst hk33
        refine A_tableIn (tgt := 415) d_L_law_33 (by decide) (by decide) rfl (by decide) ?_
        exact lc_row hL hj7 A hu hq kk
      · subst hk33
        refine A_tableIn (tgt := 458) d_L_law_33 (by decide) (by decide) rfl (by decide) ?_
        exact lc_spell hL hj7 A hu hq kk
      · subst hk33
        refine A_tableIn (tgt := 501) d_L_law_33 (by decide) (by decide) rfl (by decide) ?_
        exact lc_days hL hj7 A hu hq kk
      · subst hk33
        refine A_tableIn (tgt := 544) d_L_law_33 (by decide) (by decide) rfl (by decide) ?_
        exact lc_breach hL hj7 A hu hq kk
      · subst hk33
        refine A_tableIn (tgt := 597) d_L_law_33 (by decide) (by decide) rfl (by decide) ?_
        exact lc_ways hL hj7 A hu hq kk
      · subst hk33
        refine A_tableIn (tgt := 621) d_L_law_33 (by decide) (by decide) rfl (by decide) ?_
        exact lc_best hL hj7 A hu hq kk
      · subst hk33
        refine A_tableIn (tgt := 654) d_L_law_33 (by decide) (by decide) rfl (by decide) ?_
        exact lc_worth hL hj7 A hu hq kk
      · subst hk33
        refine A_tableIn (tgt := 697) d_L_law_33 (by decide) (by decide) rfl (by decide) ?_
        exact lc_cut hL hj7 A hu hq kk
      · subst hk33
        refine A_tableIn (tgt := 740) d_L_law_33 (by decide) (by decide) rfl (by decide) ?_
        exact lc_envy hL hj7 A hu hq kk
      · subst hk33
        refine A_tableIn (tgt := 783) d_L_law_33 (by decide) (by decide) rfl (by decide) ?_
        exact lc_gain hL hj7 A hu hq kk
      · subst hk33
        refine A_tableIn (tgt := 836) d_L_law_33 (by decide) (by decide) rfl (by decide) ?_
        exact lc_moves hL hj7 A hu hq kk
      · subst hk33
        refine A_tableIn (tgt := 879) d_L_law_33 (by decide) (by decide) rfl (by decide) ?_
        exact lc_teams hL hj7 A hu hq kk
      · subst hk33
        refine A_tableIn (tgt := 922) d_L_law_33 (by decide) (by decide) rfl (by decide) ?_
        exact lc_hire hL hj7 A hu hq kk
      · subst hk33
        refine A_tableIn (tgt := 981) d_L_law_33 (by decide) (by decide) rfl (by decide) ?_
        exact lc_seen hL hj7 A hu hq kk
      · subst hk33
        refine A_tableIn (tgt := 1024) d_L_law_33 (by decide) (by decide) rfl (by decide) ?_
        exact lc_stolen hL hj7 A hu hq kk
      · subst hk33
        refine A_tableIn (tgt := 1077) d_L_law_33 (by decide) (by decide) rfl (by decide) ?_
        exact lc_game hL hj7 A hu hq kk
      · subst hk33
        refine A_tableIn (tgt := 1120) d_L_law_33 (by decide) (by decide) rfl (by decide) ?_
        exact lc_errand hL hj7 A hu hq kk
      · subst hk33
        refine A_tableIn (tgt := 1211) d_L_law_33 (by decide) (by decide) rfl (by decide) ?_
        exact lc_meet hL hj7 A hu hq kk
      · subst hk33
        refine A_tableIn (tgt := 1274) d_L_law_33 (by decide) (by decide) rfl (by decide) ?_
        exact lc_drawn hL hj7 A hu hq kk
      · subst hk33
        refine A_tableIn (tgt := 1337) d_L_law_33 (by decide) (by decide) rfl (by decide) ?_
        exact lc_count hL hj7 A hu hq kk
      · subst hk33
        refine A_tableIn (tgt := 1360) d_L_law_33 (by decide) (by decide) rfl (by decide) ?_
        exact lc_image hL hj7 A hu hq kk
      · subst hk33
        refine A_tableIn (tgt := 1383) d_L_law_33 (by decide) (by decide) rfl (by decide) ?_
        exact lc_again hL hj7 A hu hq kk
    · refine A_tableOut (tgt := 1406) d_L_law_33 swo (by decide) ?_
      exact kk h nx W S f IE u q A (by omega) (by omega)
set_option maxHeartbeats 4000000 in
set_option maxRecDepth 100000 in
theorem law_entry {G : GE} {nm : String} {L : Nat} {xs : Nat → Int32} (hL : L ≤ 3584) : WA G (yL nm) code 4 ret room_1 600000 7302250 KL 0 0 0 [some (.ref 5), none, none, none] [] (oH L xs) := by
  refine A_newo (q := 1000) (ci := 7) d_L_law_0 ok_7 q_18 q_19 q_1 oH_nx (dz_7 _) (Nat.le_of_ble_eq_true rfl) (Nat.le_of_ble_eq_true rfl) ?_
  first | refine A_dupR d_L_law_3 ?_ | refine A_dupI d_L_law_3 ?_
  refine A_callI d_L_law_4 (c_N_init (q := 1000) (by decide) (oH_nx.push _) (hset_eq _ _ _)) q_20 q_21 rfl mk_N_init rfl (by decide) rfl (Nat.le_of_ble_eq_true rfl) ⟨Nat.le_of_ble_eq_true rfl, Nat.le_of_ble_eq_true rfl⟩ ?_
  rintro _ h1 ⟨rfl, M1⟩
  refine A_astore1 d_L_law_7 trivial ?_
  refine A_newo (q := 1082) (ci := 8) d_L_law_8 ok_8 q_1042 q_1043 q_9 (M1.nx (m := 82) rfl) (dz_8 _) (Nat.le_of_ble_eq_true rfl) (Nat.le_of_ble_eq_true rfl) ?_
  first | refine A_dupR d_L_law_11 ?_ | refine A_dupI d_L_law_11 ?_
  refine A_callI d_L_law_12 (c_M_init (q := 1082) (by decide) ((M1.nx (m := 82) rfl).push _) (hset_eq _ _ _)) q_1044 q_1045 rfl mk_M_init rfl (by decide) rfl (Nat.le_of_ble_eq_true rfl) ⟨Nat.le_of_ble_eq_true rfl, Nat.le_of_ble_eq_true rfl⟩ ?_
  rintro _ h2 ⟨rfl, M2⟩
  refine A_astore2 d_L_law_15 trivial ?_
  refine A_iconst (v := nI 0) d_L_law_16 (by decide) ?_
  refine A_istore3 d_L_law_17 trivial ?_
  have e2 : ∀ i, i < 1082 → h2 i = h1 i := fun i hi => (M2.2.2.2 i hi).trans (hset_ne (by omega))
  have e1 : ∀ i, i < 1000 → h2 i = oH L xs i := fun i hi => (e2 i (by omega)).trans ((M1.2.2.2 i hi).trans (hset_ne (by omega)))
  obtain ⟨n1, n2, n3, ⟨Z, n4, z, hz⟩, ⟨x, y, Zp, n5⟩, n6⟩ := N_new M1
  have C : CIv L xs h2 1000 1082 0 WD0 (fun _ => none) (fun _ => WD0) := ⟨⟨(e2 _ (by decide)).trans n1, by decide, rfl⟩, n2.kept (fun i _ _ => e2 i (by omega)), ⟨(e2 _ (by decide)).trans n3, fun k p hk hp => (by cases hp), fun k j p q _ _ _ hp => (by cases hp)⟩, ⟨Z, n4.kept (fun i _ _ => e2 i (by omega)), z, hz⟩, ⟨x, y, Zp, n5.kept (fun i _ _ => e2 i (by omega))⟩, n6.kept (fun i _ _ => e2 i (by omega)), oH_old.kept e1, e1 5 (by decide)⟩
  exact law_loop hL 0 (Nat.zero_le _) h2 0 WD0 MS0 _ _ _ _ ⟨C, M_new M2, RI_new⟩ (Nat.le_of_ble_eq_true rfl) (Nat.le_of_ble_eq_true rfl)
theorem same_old {s s' : State} {L : List Loc} {k n : Nat} (h : s.sameButNew s' L k n) (hL : ∀ q ∈ L, s.heap.size ≤ q.base) : s.sameButNew s' [] k n := by
  obtain ⟨h1, h2, h3, h4, h5, h6⟩ := h
  refine ⟨h1, h2, h3, h4, h5, fun a c hc => ?_⟩
  obtain ⟨c', g1, g2, g3, g4⟩ := h6 a c hc
  refine ⟨c', g1, g2, g3, fun i _ => g4 i (fun hm => ?_)⟩
  have x1 : s.heap.size ≤ a := hL _ hm
  have x2 : a < s.heap.size := (Array.getElem?_eq_some_iff.mp hc).1
  exact absurd x2 (Nat.not_lt.mpr x1)
/-- from the entry, for every script of at most 3584 ints, the law comes to its end with true -/
theorem whole_start {p : Program} {e : Env} {s : State} {m : MethodId} {below : List Frame} {meth : Method} {c : Code} (l : Launch) (hflags : l.flags = flags0) {b L : Nat} {xs : Nat → Int32} (hL : L ≤ 3584) (C0 : lw_At p s m meth c b L xs) : W p l e room_1 s m #[Value.ref b] below meth c s.heap [] 0 0 (lw_Z below #[Value.ref b] s) (entryFrame m ([Value.ref b] : List Value).toArray 4) := by
  obtain ⟨G, gh, g5, gw, gk, gx, gr⟩ := law_in hL C0
  obtain ⟨hx, hb, hr, hml, hown, hts, hX, hbl, hlocks, hgv⟩ := id C0
  have hl := lv_entry ([.ref b] : List Value) (n := 4) (Nat.le_of_ble_eq_true rfl)
  rw [lg_entry_eq]
  generalize (lg_sl ([.ref b]) ++ List.replicate (4 - (lg_sl ([.ref b])).length) Slot.unset).toArray = ls at hl ⊢
  have hl : lv_has ls 4 [(0, .ref b)] := hl
  have act : Act G (yL meth.name) code 4 ret p s m #[Value.ref b] meth c := ⟨hx, hb, hml, hown, fun w hw => hts w (List.mem_filter.mp hw).1, gk, hlocks, hr, gw, rfl, gx⟩
  have hLH : LH G ls 4 [some (.ref 5), none, none, none] := by
    refine ⟨rfl, ?_⟩
    show lv_has ls 4 [(0, .ref (ad G 5))]
    rw [g5]
    exact hl
  have k := law_entry (G := G) (nm := meth.name) (xs := xs) hL l p e s m #[Value.ref b] below meth c s.heap [] ls act gr hLH (fun q hq => by cases hq)
  intro T hT X
  obtain ⟨t, a1, o, c1, c2, ⟨v, h', ho, -, hv⟩, Lc, hF, hfr⟩ := k T hT X
  subst hv
  rw [gh] at hfr
  exact ⟨t, a1, o, c1, c2, ho, hF.1, hF.2.1, same_old hF.2.2 hfr⟩
set_option maxHeartbeats 4000000 in
theorem lw_walk (l : Launch) (hflags : l.flags = flags0) (b : Addr) (xs : List Int32) : MetFree l x (headSpec (Jvm.Cond.code x code maxLocals ret :: tables_1) room_1) (lw_P b xs) (fun _ _ _ _ _ => True) lw_Q := by
  refine MetFree.of_bodyS (code := code) (maxLocals := maxLocals) (ret := ret) (by decide) ?_ ?_
  · intro args s m h hn
    obtain ⟨meth, c, h1, h2, h3, h4, h5, h6, -, -⟩ := Cond.code_spec hn (atoms_spec (ws := Jvm.Cond.code x code maxLocals ret :: tables_1) h _ List.mem_cons_self)
    exact ⟨meth, c, h1, h2, h3, h4, h5, h6⟩
  · intro p e s m args below meth c s₁ B hml0 hP _
    obtain ⟨rfl, hx, hbd, hgv⟩ := hP
    obtain ⟨scr, harrAt, hlist, hof, hsmall⟩ := hx
    obtain ⟨hcb, hkn, -, -⟩ := State.arrayAt?_spec harrAt
    have hown : s.vm.findClass R_law = some m.cls := findClass_of_methodNamed B.named
    have hts0 : ∀ c ∈ (Jvm.Cond.code x code maxLocals ret :: tables_1), c.before #[Value.ref b] s = true := atoms_spec (ws := Jvm.Cond.code x code maxLocals ret :: tables_1) B.pre
    have hts : ∀ w ∈ lw_tbl, w.before #[Value.ref b] s = true := k2_hts_sels lw_privs (fun w hw => hts0 w (List.mem_cons_of_mem _ hw)) lw_privs_ok
    have hml : c.maxLocals = 4 := B.maxLocals_eq (hts0 _ List.mem_cons_self)
    have X₀ : Stand p l e room_1 s m #[Value.ref b] below meth c s₁ [] 0 0 := Stand.of_body B
    have hh0 : s₁.heap = s.heap := by rw [B.state]; rfl
    have hsz : scr.slots.size = xs.length := by rw [← Array.length_toList, hlist, List.length_map]
    have hval : ∀ j : Nat, j < xs.length → scr.slots[j]? = some (.int (xs.getD j 0)) := fun j hj => by
      rw [← Array.getElem?_toList, hlist]
      simp [hj]
    have hbl : b < s.heap.size := (Array.getElem?_eq_some_iff.mp hcb).1
    have hX : va_X b xs.length (fun j => xs.getD j 0) s s.heap := ⟨scr, hcb, hof, hkn, hsz, hval⟩
    have K : W p l e room_1 s m #[Value.ref b] below meth c s₁.heap [] 0 0 (lw_Z below #[Value.ref b] s) (entryFrame m ([Value.ref b] : List Value).toArray 4) := by
      rw [hh0]
      exact whole_start l hflags hbd ⟨B.exec, B.bytes, B.returns, hml, hown, hts, hX, hbl, B.notSynchronized, hgv⟩
    obtain ⟨t, a1, o, b1, b2, b3⟩ := K s₁ rfl X₀
    exact ⟨t, o, a1, b1, b2, b3⟩
theorem lw_pre_spec {args : Array Value} {s : State} (h : (Jvm.Cond.and given_1 narrow_1).before args s = true) (hr : rest_1_c.before args s = true) : ∃ (b : Addr) (xs : List Int32), lw_P b xs args s := by
  have hs := flat_of_before _ h
  have hq := flat_of_before _ hr
  have hc : (Cond.count 1).before args s = true := hs _ (by decide +kernel)
  have harr : (Cond.arrayOf (.arg 0) .int).before args s = true := hs _ (by decide +kernel)
  have hle : (Cond.le (.length (.arg 0)) (.int 3584)).before args s = true := hs _ (by decide +kernel)
  have hlen : (Cond.isInt (.length (.arg 0))).before args s = true := hq _ (by decide +kernel)
  have hall : (Cond.all (.arg 0) (.isInt (.elem (.arg 0) (.index 0)))).before args s = true := hq _ (by decide +kernel)
  obtain ⟨b, xs, hb, hx⟩ := State.ints_of_pre rfl harr hlen hall
  have hsm : xs.length < 2 ^ 31 := hx.choose_spec.2.2.2
  have hev : (Term.length (.arg 0)).eval args s none [] s = some (.int xs.length.toInt32) := hx.length_eval hb
  have hv := Cond.le_ints hev (show (Term.int 3584).eval args s none [] s = some (.int 3584) from rfl)
  have hd : xs.length.toInt32 ≤ 3584 := by
    simpa [Cond.before, Cond.holds, hv] using hle
  have hN : xs.length ≤ 3584 := (Int32.ofNat_le_ofNat hsm (by decide)).mp (show Int32.ofNat xs.length ≤ Int32.ofNat 3584 from hd)
  exact ⟨b, xs, Cond.one_arg hc (show args[0]? = some (.ref b) from hb), hx, hN, h⟩
theorem lw_comes (l : Launch) (hflags : l.flags = flags0) : Comes l x (Jvm.Cond.code x code maxLocals ret :: tables_1) room_1 (fun tb e args s => Calls_1 tb e args s ∧ rest_1 tb e args s ∧ Pre_1 tb e args s)
    (fun _ _ args s o t => lw_Q args s o t) := by
  intro p e ha hc hk s m args below hf hfit hheap happ hpre
  obtain ⟨b, xs, hP⟩ := lw_pre_spec hpre.2.2 hpre.2.1
  obtain ⟨k, o, h1, h2, h3, hQ⟩ := lw_walk l hflags b xs p e ha hc hk s m args below hf ((Spec.applies_iff_loose hf).mp happ).1 hP trivial
  exact ⟨k, o, h1, h2, h3, hQ⟩
theorem lw_frame {s t : State} {o : Outcome} {args : Array Value} (h : Framed s o t [] 600000 7302250) :
    Framed s o t (fieldLocs frame_1_writes args s ++ arrayLocs frame_1_arrays args s ++ staticLocs frame_1_statics s) 600000 7302250 := h
theorem lw_limb (L : Cond) (hL : ∀ (args : Array Value) (s t : State), L.after args s (.returned (some (.int 1))) t = true) :
    ArmFor flags0 classFile x code maxLocals ret World_1 tables_1 room_1 Calls_1 rest_1 Pre_1
      (fun tb e a s o t => postC L tb e a s o t ∧ Framed s o t (fieldLocs frame_1_writes a s ++ arrayLocs frame_1_arrays a s ++ staticLocs frame_1_statics s) 600000 7302250) := by
  intro l hflags _ _ p e ha hc hk s m args below hf hfit hheap happ hpre
  obtain ⟨k, o, h1, h2, h3, rfl, hF⟩ := lw_comes l hflags p e ha hc hk s m args below hf hfit hheap happ hpre
  exact ⟨k, _, h1, h2, h3, hL args s _, lw_frame hF⟩
theorem i_vc : Claimed_1_1 ∧ Claimed_1_2 := ⟨lw_limb limb_1_1 (fun args s t => by simp [limb_1_1, Cond.after, Cond.holds, Cond.value]), lw_limb limb_1_2 (fun args s t => Cond.after_iff.mpr (by
  first | (rw [show limb_1_2 = Cond.eq .result (.int 1) from rfl, Cond.eq_ints (x := 1) (y := 1) rfl rfl]; simp; done) | (simp [limb_1_2, Cond.value, Term.eval]; done)))⟩
