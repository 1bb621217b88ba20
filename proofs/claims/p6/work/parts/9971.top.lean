set_option maxHeartbeats 4000000 in
set_option maxRecDepth 100000 in
theorem law_top (p : Program) (l : Launch) (e : Env) (s : State) (m : MethodId) (below : List Frame) (meth : Method) (c : Code) (b : Nat) (dC : Nat → ClassId) (dI : Nat → Nat → Nat) (A : Nat → Prop) (K K2 : Nat → Nat × Nat) (q0 h0 qb qu jr qr wk wl ds qo mo qx qs qw hh hl_ ht_ qt t tv ql tz : Nat) (ra9 : Nat → Nat) (cB cI cV cL cC cH cZ : ClassId) (Ln : Nat) (xs : Nat → Int32) (hat : LAT p l s m meth c b dC dI A K K2 cB cI cV cL cC cH cZ Ln xs) (k : Nat) (hk : k ≤ 513) (ih : 6 * k + 6 ≤ Ln → LOOP p l e s m below meth c b dC dI A q0 h0 qb qu jr qr wk wl ds qo mo qx qs qw hh hl_ ht_ qt t tv ql tz ra9 cB cI cV cL cC cH cZ (k + 1)) : LOOP p l e s m below meth c b dC dI A q0 h0 qb qu jr qr wk wl ds qo mo qx qs qw hh hl_ ht_ qt t tv ql tz ra9 cB cI cV cL cC cH cZ k := by
  have hat0 := hat
  obtain ⟨hl9, hx, hb, hr, hml, hown, hts, hX, hbl, hbA, hlocks, hA, hA2, hLn, hK, hN, hZ, hC, hV, hNC, hM⟩ := hat
  intro E lv L f n bf ug uc en at0 pl dp md o0 wa wb dk la wr qy g0 dg hp1 hp2 p1 b1 s1 p2 b2 s2 rl gp1 gp2 gq v T VA Z Q rm q9 pv fm rg og lf tf qg li gm ni ri pr pd H locs ls e1 e2 e3 e4
  subst e1
  subst e2
  subst e3
  subst e4
  intro hF hP hD hS hsz hl
  obtain ⟨⟨hI, hDQ⟩, hn, hn2, hbf, hrl, hMV, hrm, hfm, hfb, hMT, hHI, hQI⟩ := hF
  obtain ⟨hT, hVA, hZt, hQk, eQR, z1, z2, z3, z4, z5, z6⟩ := id hMT
  have hF0 : (CIn cI cV E lv L f dg qy ∧ ∃ S, DQv E f S dg (Xr gm lf tf) qy (Yr qg q9)) ∧ n ≤ 4096 ∧ n ≤ 20 * k ∧ byR bf ∧ rl ≤ 16384 ∧ MV v qx qs qw hh hl_ ht_ qt t tv ql tz Q n rm q9 pv ∧ rm ≤ 16384 ∧ byR fm ∧ fm = bf ∧ MT T VA Z Q ∧ HI gm lf tf ∧ QI qg q9 := ⟨⟨hI, hDQ⟩, hn, hn2, hbf, hrl, hMV, hrm, hfm, hfb, hMT, hHI, hQI⟩
  refine lv_iload hx hb d_law_23 (lv_at hl 4 rfl) ?_
  refine lv_aload_n hx hb d_law_25 rfl (lv_at hl 0 rfl) ?_
  refine va_slen hx hb hX hbl hbA hS d_law_26 ?_
  refine lv_bipush (v := 6) hx hb d_law_27 (by decide) ?_
  refine lv_isub hx hb d_law_29 ?_
  refine lv_icmp_gt (tgt := 382) hx hb d_law_30 (by decide) (fun c30 => ?_) (fun c30 => ?_)
  · refine lv_iconst (v := 1) hx hb d_law_382 (by decide) ?_
    refine va_forget (fun q hq => hA2 _ (hS.2.2 q hq)) ?_
    refine W.widen (k := 601024) (n := 7293034) (by show (67 + 8 * k + 8 * (20 * k - n) + (T.N + T.U + VA.U + Q.C + Z.N + Z.U)) ≤ 601024; omega) (by show (138513 + 70 * k + 64 * (20 * k - n) + (20 * T.N + 2 * T.U + 2 * VA.U + 22 * Q.C + 20 * Z.N + 2 * Z.U)) ≤ 7293034; omega) ?_
    exact lw_ret hx hb hr hlocks d_law_383
  · have hk6 : 6 * k + 6 ≤ Ln := law_gt (by omega) hLn c30
    refine lv_aload_n hx hb d_law_33 rfl (lv_at hl 0 rfl) ?_
    refine lv_iload hx hb d_law_34 (lv_at hl 4 rfl) ?_
    refine va_sld hx hb hX hbl hbA hS (vp_in_nI (show 6 * k < Ln by omega) (by omega)) d_law_36 ?_
    refine W.eq (g2 := F0 m 37 ls [.int (xs (6 * k))]) (by rw [show (nI (6 * k)).toNatClampNeg = 6 * k from nI_clamp (by omega)]) ?_
    refine lv_bipush (v := 7) hx hb d_law_37 (by decide) ?_
    refine lv_iand hx hb d_law_39 ?_
    refine lv_topi (fun x1 e1 => ?_)
    by_cases hs40_0 : x1 = 0
    · refine lv_tableIn (tgt := 88) (off := 48) hx hb d_law_40 (by rw [hs40_0]; decide) (by rw [hs40_0]; decide) (by rw [hs40_0]; rfl) (by decide) ?_
      exact law_feed p l e s m below meth c b dC dI A K K2 q0 h0 qb qu jr qr wk wl ds qo mo qx qs qw hh hl_ ht_ qt t tv ql tz ra9 cB cI cV cL cC cH cZ Ln xs hat0 k hk6 (ih hk6) E lv L f n bf ug uc en at0 pl dp md o0 wa wb dk la wr qy g0 dg hp1 hp2 p1 b1 s1 p2 b2 s2 rl gp1 gp2 gq v T VA Z Q rm q9 pv fm rg og lf tf qg li gm _ _ _ _ H locs ls rfl rfl rfl rfl hF0 hP hD hS hsz (lv_sub hl [0, 1, 2, 3, 4] rfl)
    · by_cases hs40_1 : x1 = 1
      · refine lv_tableIn (tgt := 164) (off := 124) hx hb d_law_40 (by rw [hs40_1]; decide) (by rw [hs40_1]; decide) (by rw [hs40_1]; rfl) (by decide) ?_
        exact law_end p l e s m below meth c b dC dI A K K2 q0 h0 qb qu jr qr wk wl ds qo mo qx qs qw hh hl_ ht_ qt t tv ql tz ra9 cB cI cV cL cC cH cZ Ln xs hat0 k hk6 (ih hk6) E lv L f n bf ug uc en at0 pl dp md o0 wa wb dk la wr qy g0 dg hp1 hp2 p1 b1 s1 p2 b2 s2 rl gp1 gp2 gq v T VA Z Q rm q9 pv fm rg og lf tf qg li gm _ _ _ _ H locs ls rfl rfl rfl rfl hF0 hP hD hS hsz (lv_sub hl [0, 1, 2, 3, 4] rfl)
      · by_cases hs40_2 : x1 = 2
        · refine lv_tableIn (tgt := 192) (off := 152) hx hb d_law_40 (by rw [hs40_2]; decide) (by rw [hs40_2]; decide) (by rw [hs40_2]; rfl) (by decide) ?_
          exact law_load p l e s m below meth c b dC dI A K K2 q0 h0 qb qu jr qr wk wl ds qo mo qx qs qw hh hl_ ht_ qt t tv ql tz ra9 cB cI cV cL cC cH cZ Ln xs hat0 k hk6 (ih hk6) E lv L f n bf ug uc en at0 pl dp md o0 wa wb dk la wr qy g0 dg hp1 hp2 p1 b1 s1 p2 b2 s2 rl gp1 gp2 gq v T VA Z Q rm q9 pv fm rg og lf tf qg li gm _ _ _ _ H locs ls rfl rfl rfl rfl hF0 hP hD hS hsz (lv_sub hl [0, 1, 2, 3, 4] rfl)
        · by_cases hs40_3 : x1 = 3
          · refine lv_tableIn (tgt := 220) (off := 180) hx hb d_law_40 (by rw [hs40_3]; decide) (by rw [hs40_3]; decide) (by rw [hs40_3]; rfl) (by decide) ?_
            exact law_read p l e s m below meth c b dC dI A K K2 q0 h0 qb qu jr qr wk wl ds qo mo qx qs qw hh hl_ ht_ qt t tv ql tz ra9 cB cI cV cL cC cH cZ Ln xs hat0 k hk6 (ih hk6) E lv L f n bf ug uc en at0 pl dp md o0 wa wb dk la wr qy g0 dg hp1 hp2 p1 b1 s1 p2 b2 s2 rl gp1 gp2 gq v T VA Z Q rm q9 pv fm rg og lf tf qg li gm _ _ _ _ H locs ls rfl rfl rfl rfl hF0 hP hD hS hsz (lv_sub hl [0, 1, 2, 3, 4] rfl)
          · by_cases hs40_4 : x1 = 4
            · refine lv_tableIn (tgt := 236) (off := 196) hx hb d_law_40 (by rw [hs40_4]; decide) (by rw [hs40_4]; decide) (by rw [hs40_4]; rfl) (by decide) ?_
              exact law_run p l e s m below meth c b dC dI A K K2 q0 h0 qb qu jr qr wk wl ds qo mo qx qs qw hh hl_ ht_ qt t tv ql tz ra9 cB cI cV cL cC cH cZ Ln xs hat0 k hk6 (ih hk6) E lv L f n bf ug uc en at0 pl dp md o0 wa wb dk la wr qy g0 dg hp1 hp2 p1 b1 s1 p2 b2 s2 rl gp1 gp2 gq v T VA Z Q rm q9 pv fm rg og lf tf qg li gm _ _ _ _ H locs ls rfl rfl rfl rfl hF0 hP hD hS hsz (lv_sub hl [0, 1, 2, 3, 4] rfl)
            · by_cases hs40_5 : x1 = 5
              · refine lv_tableIn (tgt := 292) (off := 252) hx hb d_law_40 (by rw [hs40_5]; decide) (by rw [hs40_5]; decide) (by rw [hs40_5]; rfl) (by decide) ?_
                exact law_work p l e s m below meth c b dC dI A K K2 q0 h0 qb qu jr qr wk wl ds qo mo qx qs qw hh hl_ ht_ qt t tv ql tz ra9 cB cI cV cL cC cH cZ Ln xs hat0 k hk6 (ih hk6) E lv L f n bf ug uc en at0 pl dp md o0 wa wb dk la wr qy g0 dg hp1 hp2 p1 b1 s1 p2 b2 s2 rl gp1 gp2 gq v T VA Z Q rm q9 pv fm rg og lf tf qg li gm _ _ _ _ H locs ls rfl rfl rfl rfl hF0 hP hD hS hsz (lv_sub hl [0, 1, 2, 3, 4] rfl)
              · by_cases hs40_6 : x1 = 6
                · refine lv_tableIn (tgt := 320) (off := 280) hx hb d_law_40 (by rw [hs40_6]; decide) (by rw [hs40_6]; decide) (by rw [hs40_6]; rfl) (by decide) ?_
                  exact law_word p l e s m below meth c b dC dI A K K2 q0 h0 qb qu jr qr wk wl ds qo mo qx qs qw hh hl_ ht_ qt t tv ql tz ra9 cB cI cV cL cC cH cZ Ln xs hat0 k hk6 (ih hk6) E lv L f n bf ug uc en at0 pl dp md o0 wa wb dk la wr qy g0 dg hp1 hp2 p1 b1 s1 p2 b2 s2 rl gp1 gp2 gq v T VA Z Q rm q9 pv fm rg og lf tf qg li gm _ _ _ _ H locs ls rfl rfl rfl rfl hF0 hP hD hS hsz (lv_sub hl [0, 1, 2, 3, 4] rfl)
                · by_cases hs40_7 : x1 = 7
                  · refine lv_tableIn (tgt := 348) (off := 308) hx hb d_law_40 (by rw [hs40_7]; decide) (by rw [hs40_7]; decide) (by rw [hs40_7]; rfl) (by decide) ?_
                    exact law_count p l e s m below meth c b dC dI A K K2 q0 h0 qb qu jr qr wk wl ds qo mo qx qs qw hh hl_ ht_ qt t tv ql tz ra9 cB cI cV cL cC cH cZ Ln xs hat0 k hk6 (ih hk6) E lv L f n bf ug uc en at0 pl dp md o0 wa wb dk la wr qy g0 dg hp1 hp2 p1 b1 s1 p2 b2 s2 rl gp1 gp2 gq v T VA Z Q rm q9 pv fm rg og lf tf qg li gm _ _ _ _ H locs ls rfl rfl rfl rfl hF0 hP hD hS hsz (lv_sub hl [0, 1, 2, 3, 4] rfl)
                  · have hk40_0 := i_neN 0 rfl hs40_0
                    have hk40_1 := i_neN 1 rfl hs40_1
                    have hk40_2 := i_neN 2 rfl hs40_2
                    have hk40_3 := i_neN 3 rfl hs40_3
                    have hk40_4 := i_neN 4 rfl hs40_4
                    have hk40_5 := i_neN 5 rfl hs40_5
                    have hk40_6 := i_neN 6 rfl hs40_6
                    have hk40_7 := i_neN 7 rfl hs40_7
                    refine lv_tableOut (tgt := 376) hx hb d_law_40 (by omega) (by decide) ?_
                    have ih := ih hk6
                    refine lv_iinc (v := nI (6 * (k + 1))) (lv' := [(4, .int (nI (6 * (k + 1)))), (0, .ref b), (1, .ref q0), (2, .ref mo), (3, .ref qo)]) hx hb d_law_376 hl (k := 4) rfl (nI_add (6 * k) 6) (by decide) rfl (fun ls hl => ?_)
                    refine lv_goto (tgt := 23) hx hb d_law_379 (by decide) ?_
                    refine w_same (fun hq => ?_)
                    refine W.widen (k := 67 + 8 * (k + 1) + 8 * (20 * (k + 1) - n) + (T.N + T.U + VA.U + Q.C + Z.N + Z.U)) (n := 138513 + 70 * (k + 1) + 64 * (20 * (k + 1) - n) + (20 * T.N + 2 * T.U + 2 * VA.U + 22 * Q.C + 20 * Z.N + 2 * Z.U)) (by show (67 + 8 * k + 8 * (20 * k - n) + (T.N + T.U + VA.U + Q.C + Z.N + Z.U)) ≤ 67 + 8 * (k + 1) + 8 * (20 * (k + 1) - n) + (T.N + T.U + VA.U + Q.C + Z.N + Z.U); omega) (by show (138513 + 70 * k + 64 * (20 * k - n) + (20 * T.N + 2 * T.U + 2 * VA.U + 22 * Q.C + 20 * Z.N + 2 * Z.U)) ≤ 138513 + 70 * (k + 1) + 64 * (20 * (k + 1) - n) + (20 * T.N + 2 * T.U + 2 * VA.U + 22 * Q.C + 20 * Z.N + 2 * Z.U); omega) ?_
                    exact ih E lv L f n bf ug uc en at0 pl dp md o0 wa wb dk la wr qy g0 dg hp1 hp2 p1 b1 s1 p2 b2 s2 rl gp1 gp2 gq v T VA Z Q rm q9 pv fm rg og lf tf qg li gm _ _ _ _ _ _ _ rfl rfl rfl rfl ⟨⟨hI, hDQ⟩, hn, by omega, hbf, hrl, hMV, hrm, hfm, hfb, hMT, hHI, hQI⟩ hP hD hS (hq.mono (by show (67 + 8 * k + 8 * (20 * k - n) + (T.N + T.U + VA.U + Q.C + Z.N + Z.U)) ≤ 67 + 8 * (k + 1) + 8 * (20 * (k + 1) - n) + (T.N + T.U + VA.U + Q.C + Z.N + Z.U); omega) (by show (138513 + 70 * k + 64 * (20 * k - n) + (20 * T.N + 2 * T.U + 2 * VA.U + 22 * Q.C + 20 * Z.N + 2 * Z.U)) ≤ 138513 + 70 * (k + 1) + 64 * (20 * (k + 1) - n) + (20 * T.N + 2 * T.U + 2 * VA.U + 22 * Q.C + 20 * Z.N + 2 * Z.U); omega)) (lv_sub hl [1, 2, 3, 4, 0] rfl)
theorem law_all (p : Program) (l : Launch) (e : Env) (s : State) (m : MethodId) (below : List Frame) (meth : Method) (c : Code) (b : Nat) (dC : Nat → ClassId) (dI : Nat → Nat → Nat) (A : Nat → Prop) (K K2 : Nat → Nat × Nat) (q0 h0 qb qu jr qr wk wl ds qo mo qx qs qw hh hl_ ht_ qt t tv ql tz : Nat) (ra9 : Nat → Nat) (cB cI cV cL cC cH cZ : ClassId) (Ln : Nat) (xs : Nat → Int32) (hat : LAT p l s m meth c b dC dI A K K2 cB cI cV cL cC cH cZ Ln xs) : ∀ j k : Nat, k + j = 513 → LOOP p l e s m below meth c b dC dI A q0 h0 qb qu jr qr wk wl ds qo mo qx qs qw hh hl_ ht_ qt t tv ql tz ra9 cB cI cV cL cC cH cZ k := by
  intro j
  induction j with
  | zero => exact fun k hk => law_top p l e s m below meth c b dC dI A K K2 q0 h0 qb qu jr qr wk wl ds qo mo qx qs qw hh hl_ ht_ qt t tv ql tz ra9 cB cI cV cL cC cH cZ Ln xs hat k (by omega) (fun h => absurd h (by have := hat.2.2.2.2.2.2.2.2.2.2.2.2.2.1; omega))
  | succ j ih => exact fun k hk => law_top p l e s m below meth c b dC dI A K K2 q0 h0 qb qu jr qr wk wl ds qo mo qx qs qw hh hl_ ht_ qt t tv ql tz ra9 cB cI cV cL cC cH cZ Ln xs hat k (by omega) (fun _ => ih (k + 1) (by omega))
