/-! the law's roads, further -/
section LR
variable {p : Program} {l : Launch} {e : Env} {s : State} {m : MethodId} {below : List Frame} {meth : Method} {c : Code} {H : Heap} {locs : List Loc} {cells slots : Nat} {Q : State → Prop} {b L : Nat} {xs : Nat → Int32} {ls : Array Slot} {D : va_G} {A : Nat → Prop} {bs : Nat} {cyI cyJ cyO : ClassId} {a d : Nat → Nat} {eA o : Nat} {x4 : Int32}
/-! clear -/
set_option maxRecDepth 20000 in
set_option maxHeartbeats 4000000 in
theorem lc_clear (C : LC p l s m meth c b L xs A) (hA : ∀ q, bs ≤ q → A q) (I : LI D cyI cyJ cyO A bs a d eA o s H locs) (hin : ∀ j : Nat, 0 < j → j < 6 → vp_in (x4 + nI j) L) (hl : lv_has ls 8 [(0, .ref b), (1, .ref (d 0)), (2, .ref (a 0)), (3, .ref o), (4, .int x4)]) (hroom : cells + 4 ≤ room_1.cells ∧ slots + 29 ≤ room_1.slots) (kk : ∀ (H1 : Heap) (locs1 : List Loc) (ls1 : Array Slot), LI D cyI cyJ cyO A bs a d eA o s H1 locs1 → lv_has ls1 8 [(0, .ref b), (1, .ref (d 0)), (2, .ref (a 0)), (3, .ref o), (4, .int x4)] → W p l e room_1 s m #[Value.ref b] below meth c H1 locs1 (cells + 4) (slots + 29) Q (F0 m 1099 ls1 [])) : W p l e room_1 s m #[Value.ref b] below meth c H locs cells slots Q (F0 m 458 ls []) := by
  obtain ⟨C0, hrl, hX, hbl, hbA, hlf, hN, hT⟩ := id C
  obtain ⟨T, Dr, Q0, Lv, th, df, la, fd, he, wt, br, ol, dc, dr, fm, sz, om, os, st, wa, ds, fw, qw, fn, qn, ff, qf, va, tr, rv, sk, ov, Z, hd, hs, hy⟩ := I
  obtain ⟨p0, hp0⟩ : ∃ z : Int32, z = xs (x4 + nI 1).toNatClampNeg := ⟨_, rfl⟩
  obtain ⟨code, r, r', T', fd', fw', fn', ff', va', sz', k, h1, h2, hs', hcc⟩ := c_clear (N := 1000001) hs (by omega) fd th p0
  have hc : code = 0 ∧ k = 0 ∨ code = 1 ∧ k = 1 := by omega
  have hk : k < 10 := by omega
  have hrr : k = 0 → r = r' := by
    intro z
    rcases hcc with ⟨_, _, e⟩ | ⟨_, _⟩
    · exact e
    all_goals omega
  refine lv_aload_n C0.1 C0.2.1 dL_law_458 rfl (lv_at hl 1 rfl) ?_
  refine lv_aload_n C0.1 C0.2.1 dL_law_459 rfl (lv_at hl 0 rfl) ?_
  refine lv_iload C0.1 C0.2.1 dL_law_460 (lv_at hl 4 rfl) ?_
  refine lv_iconst (v := nI 1) C0.1 C0.2.1 dL_law_462 (by decide) ?_
  refine lv_iadd C0.1 C0.2.1 dL_law_463 ?_
  refine va_sld C0.1 C0.2.1 hX hbl hbA (lZ_S Z) (hin 1 (by omega) (by omega)) dL_law_464 ?_
  refine lv_aload_n C0.1 C0.2.1 dL_law_465 rfl (lv_at hl 3 rfl) ?_
  rw [← hp0]
  refine va_calli (vx_runSW (As := [.ref (d 0), .int p0, .ref o]) (rest := []) C0 (zL_clear l hlf D cyI cyJ cyO A bs hA (XM a cyI cyJ th df la fd he wt br dr fm sz om os st wa rv sk ++ [(o, .inl (cyJ, 1, .inr (.inl ov)))]) 10 o ov rfl d eA ol fd dc ds fw fn ff qw qn qf va tr 1000001 p0 code r fd' fw' fn' ff' va' k h1 hc) (vx_cwSW 3 C0.2.2.2.2 gL_law_L_clear rfl rfl rfl (by decide +kernel) ⟨Nat.le_of_ble_eq_true rfl, Nat.le_of_ble_eq_true rfl⟩) ⟨lP_blind, lP_pre Z hN hT _⟩ rfl rfl hl.1 rfl (lv_room (Nat.le_of_ble_eq_true rfl)) dL_law_466 ⟨by omega, by omega⟩) (lZ_S Z) (fun _ _ h => h) (fun _ h => h) (fun x ov' t1 H1 locs1 ht hvm hw hB _ _ hS => ?_)
  obtain ⟨hx, hu⟩ := hw
  have Z : lZ (XM a cyI cyJ th df la fd he wt br dr fm sz om os st wa rv sk ++ [(o, .inl (cyJ, 1, .inr (.inl ov')))]) D cyI cyJ cyO A bs d eA ol fd' dc ds fw' fn' ff' qw qn qf va' tr s H1 locs1 := lZ_post Z ht hvm hB hS
  refine lv_istore (lv' := [(5, .int x), (0, .ref b), (1, .ref (d 0)), (2, .ref (a 0)), (3, .ref o), (4, .int x4)]) C0.1 C0.2.1 dL_law_469 hl (by decide) rfl (fun ls hl => ?_)
  obtain ⟨P, g, rs, rr, at1, fa, ra, Z, hF⟩ := Z
  obtain ⟨YY, hYY⟩ : ∃ X : va_W, X = (XD d cyI cyJ cyO eA (d 5) (d 6) rs rr at1 fa ra ol fd' dc ds va' tr ++ va_pl P g) := ⟨_, rfl⟩
  have Z : gZ D (gT cyI cyJ cyO) (XM a cyI cyJ th df la fd he wt br dr fm sz om os st wa rv sk ++ ((o, .inl (cyJ, 1, .inr (.inl ov'))) :: YY)) A bs s H1 locs1 := by rw [hYY]; exact Z
  refine lv_aload_n C0.1 C0.2.1 dL_law_471 rfl (lv_at hl 3 rfl) ?_
  refine lv_aload_n C0.1 C0.2.1 dL_law_472 rfl (lv_at hl 1 rfl) ?_
  refine lv_iload C0.1 C0.2.1 dL_law_473 (lv_at hl 5 rfl) ?_
  refine lv_iconst (v := nI 1) C0.1 C0.2.1 dL_law_475 (by decide) ?_
  refine lv_iadd C0.1 C0.2.1 dL_law_476 ?_
  refine va_sld C0.1 C0.2.1 hX hbl hbA Z.2.2.2.1 (hin 1 (by omega) (by omega)) dL_law_477 ?_
  rw [← hp0]
  refine g_callVi (b := a 0) (As := [.int p0]) (rest := []) C0 Z (zX4_clear l D cyI cyJ cyO A bs hA a ((o, .inl (cyJ, 1, .inr (.inl ov'))) :: YY) th df la fd he wt br dr fm sz om os st wa rv sk 1000001 p0 _ h2) (cwV 1 C0.2.2.2.2 gL_law_X4_clear rfl rfl rfl (by decide +kernel) ⟨Nat.le_of_ble_eq_true rfl, Nat.le_of_ble_eq_true rfl⟩) 0 (ci := 6) rfl rfl rfl rfl hl.1 rfl (Nat.le_of_ble_eq_true rfl) dL_law_478 ⟨by omega, by omega⟩ (fun y v H2 locs2 hw Z => ?_)
  obtain ⟨hy1, hv⟩ := hw
  subst hv
  replace hy1 : r' = y := hy1
  have Z : gZ D (gT cyI cyJ cyO) (XM a cyI cyJ (nI k) df la fd' he wt br dr fm sz' om os st wa rv sk ++ ((o, .inl (cyJ, 1, .inr (.inl ov'))) :: YY)) A bs s H2 locs2 := Z
  refine lv_istore (lv' := [(6, .int y), (5, .int x), (0, .ref b), (1, .ref (d 0)), (2, .ref (a 0)), (3, .ref o), (4, .int x4)]) C0.1 C0.2.1 dL_law_481 hl (by decide) rfl (fun ls hl => ?_)
  refine lt_I C hA Z (k := k) rfl hk hx hl (fun z => by rw [hu z, hrr z, hy1]) ⟨by omega, by omega⟩ (t := 483) dL_law_483 dL_law_484 dL_law_487 dL_law_489 dL_law_494 dL_law_496 dL_law_499 dL_law_500 dL_law_501 dL_law_502 dL_law_504 dL_law_505 dL_law_506 dL_law_511 (by decide) (fun H3 locs3 Z => ?_)
  refine W.widen (k := cells + 4) (n := slots + 29) (by omega) (by omega) ?_
  refine kk H3 locs3 ls ⟨T', Dr, Q0, Lv, nI k, df, la, fd', he, wt, br, ol, dc, dr, fm, sz', om, os, st, wa, ds, fw', qw, fn', qn, ff', qf, va', tr, rv, sk, ov', ⟨P, g, rs, rr, at1, fa, ra, ?_, hF⟩, hd, hs', hy⟩ (lv_sub hl [2, 3, 4, 5, 6] rfl)
  rw [hYY] at Z
  exact Z
/-! open -/
set_option maxRecDepth 20000 in
set_option maxHeartbeats 4000000 in
theorem lc_open (C : LC p l s m meth c b L xs A) (hA : ∀ q, bs ≤ q → A q) (I : LI D cyI cyJ cyO A bs a d eA o s H locs) (hin : ∀ j : Nat, 0 < j → j < 6 → vp_in (x4 + nI j) L) (hl : lv_has ls 8 [(0, .ref b), (1, .ref (d 0)), (2, .ref (a 0)), (3, .ref o), (4, .int x4)]) (hroom : cells + 4 ≤ room_1.cells ∧ slots + 29 ≤ room_1.slots) (kk : ∀ (H1 : Heap) (locs1 : List Loc) (ls1 : Array Slot), LI D cyI cyJ cyO A bs a d eA o s H1 locs1 → lv_has ls1 8 [(0, .ref b), (1, .ref (d 0)), (2, .ref (a 0)), (3, .ref o), (4, .int x4)] → W p l e room_1 s m #[Value.ref b] below meth c H1 locs1 (cells + 4) (slots + 29) Q (F0 m 1099 ls1 [])) : W p l e room_1 s m #[Value.ref b] below meth c H locs cells slots Q (F0 m 514 ls []) := by
  obtain ⟨C0, hrl, hX, hbl, hbA, hlf, hN, hT⟩ := id C
  obtain ⟨T, Dr, Q0, Lv, th, df, la, fd, he, wt, br, ol, dc, dr, fm, sz, om, os, st, wa, ds, fw, qw, fn, qn, ff, qf, va, tr, rv, sk, ov, Z, hd, hs, hy⟩ := I
  obtain ⟨code, r, r', Q0', Lv', ol', la', qw', qn', qf', om', os', k, h1, h2, hy', hcc⟩ := c_open (N := 1000001) hy hs (by omega) th
  have hc : code = 0 ∧ k = 0 ∨ code = 3 ∧ k = 1 := by omega
  have hk : k < 10 := by omega
  have hrr : k = 0 → r = r' := by
    intro z
    rcases hcc with ⟨_, _, e⟩ | ⟨_, _⟩
    · exact e
    all_goals omega
  refine lv_aload_n C0.1 C0.2.1 dL_law_514 rfl (lv_at hl 1 rfl) ?_
  refine lv_aload_n C0.1 C0.2.1 dL_law_515 rfl (lv_at hl 3 rfl) ?_
  refine va_calli (vx_runSW (As := [.ref (d 0), .ref o]) (rest := []) C0 (zL_open l hlf D cyI cyJ cyO A bs hA (XM a cyI cyJ th df la fd he wt br dr fm sz om os st wa rv sk ++ [(o, .inl (cyJ, 1, .inr (.inl ov)))]) 10 o ov rfl d eA ol fd dc ds fw fn ff qw qn qf va tr 1000001  code r ol' qw' qn' qf' k h1 hc) (vx_cwSW 2 C0.2.2.2.2 gL_law_L_open rfl rfl rfl (by decide +kernel) ⟨Nat.le_of_ble_eq_true rfl, Nat.le_of_ble_eq_true rfl⟩) ⟨lP_blind, lP_pre Z hN hT _⟩ rfl rfl hl.1 rfl (lv_room (Nat.le_of_ble_eq_true rfl)) dL_law_516 ⟨by omega, by omega⟩) (lZ_S Z) (fun _ _ h => h) (fun _ h => h) (fun x ov' t1 H1 locs1 ht hvm hw hB _ _ hS => ?_)
  obtain ⟨hx, hu⟩ := hw
  have Z : lZ (XM a cyI cyJ th df la fd he wt br dr fm sz om os st wa rv sk ++ [(o, .inl (cyJ, 1, .inr (.inl ov')))]) D cyI cyJ cyO A bs d eA ol' fd dc ds fw fn ff qw' qn' qf' va tr s H1 locs1 := lZ_post Z ht hvm hB hS
  refine lv_istore (lv' := [(5, .int x), (0, .ref b), (1, .ref (d 0)), (2, .ref (a 0)), (3, .ref o), (4, .int x4)]) C0.1 C0.2.1 dL_law_519 hl (by decide) rfl (fun ls hl => ?_)
  obtain ⟨P, g, rs, rr, at1, fa, ra, Z, hF⟩ := Z
  obtain ⟨YY, hYY⟩ : ∃ X : va_W, X = (XD d cyI cyJ cyO eA (d 5) (d 6) rs rr at1 fa ra ol' fd dc ds va tr ++ va_pl P g) := ⟨_, rfl⟩
  have Z : gZ D (gT cyI cyJ cyO) (XM a cyI cyJ th df la fd he wt br dr fm sz om os st wa rv sk ++ ((o, .inl (cyJ, 1, .inr (.inl ov'))) :: YY)) A bs s H1 locs1 := by rw [hYY]; exact Z
  refine lv_aload_n C0.1 C0.2.1 dL_law_521 rfl (lv_at hl 3 rfl) ?_
  refine g_callVi (b := a 0) (As := []) (rest := []) C0 Z (zX4_open l D cyI cyJ cyO A bs hA a ((o, .inl (cyJ, 1, .inr (.inl ov'))) :: YY) th df la fd he wt br dr fm sz om os st wa rv sk 1000001  _ h2) (cwV 0 C0.2.2.2.2 gL_law_X4_open rfl rfl rfl (by decide +kernel) ⟨Nat.le_of_ble_eq_true rfl, Nat.le_of_ble_eq_true rfl⟩) 0 (ci := 6) rfl rfl rfl rfl hl.1 rfl (Nat.le_of_ble_eq_true rfl) dL_law_522 ⟨by omega, by omega⟩ (fun y v H2 locs2 hw Z => ?_)
  obtain ⟨hy1, hv⟩ := hw
  subst hv
  replace hy1 : r' = y := hy1
  have Z : gZ D (gT cyI cyJ cyO) (XM a cyI cyJ (nI k) df la' fd he wt br dr fm sz om' os' st wa rv sk ++ ((o, .inl (cyJ, 1, .inr (.inl ov'))) :: YY)) A bs s H2 locs2 := Z
  refine lv_istore (lv' := [(6, .int y), (5, .int x), (0, .ref b), (1, .ref (d 0)), (2, .ref (a 0)), (3, .ref o), (4, .int x4)]) C0.1 C0.2.1 dL_law_525 hl (by decide) rfl (fun ls hl => ?_)
  refine lt_I C hA Z (k := k) rfl hk hx hl (fun z => by rw [hu z, hrr z, hy1]) ⟨by omega, by omega⟩ (t := 527) dL_law_527 dL_law_528 dL_law_531 dL_law_533 dL_law_538 dL_law_540 dL_law_543 dL_law_544 dL_law_545 dL_law_546 dL_law_548 dL_law_549 dL_law_550 dL_law_555 (by decide) (fun H3 locs3 Z => ?_)
  refine W.widen (k := cells + 4) (n := slots + 29) (by omega) (by omega) ?_
  refine kk H3 locs3 ls ⟨T, Dr, Q0', Lv', nI k, df, la', fd, he, wt, br, ol', dc, dr, fm, sz, om', os', st, wa, ds, fw, qw', fn, qn', ff, qf', va, tr, rv, sk, ov', ⟨P, g, rs, rr, at1, fa, ra, ?_, hF⟩, hd, hs, hy'⟩ (lv_sub hl [2, 3, 4, 5, 6] rfl)
  rw [hYY] at Z
  exact Z
/-! drop -/
set_option maxRecDepth 20000 in
set_option maxHeartbeats 4000000 in
theorem lc_drop (C : LC p l s m meth c b L xs A) (hA : ∀ q, bs ≤ q → A q) (I : LI D cyI cyJ cyO A bs a d eA o s H locs) (hin : ∀ j : Nat, 0 < j → j < 6 → vp_in (x4 + nI j) L) (hl : lv_has ls 8 [(0, .ref b), (1, .ref (d 0)), (2, .ref (a 0)), (3, .ref o), (4, .int x4)]) (hroom : cells + 4 ≤ room_1.cells ∧ slots + 29 ≤ room_1.slots) (kk : ∀ (H1 : Heap) (locs1 : List Loc) (ls1 : Array Slot), LI D cyI cyJ cyO A bs a d eA o s H1 locs1 → lv_has ls1 8 [(0, .ref b), (1, .ref (d 0)), (2, .ref (a 0)), (3, .ref o), (4, .int x4)] → W p l e room_1 s m #[Value.ref b] below meth c H1 locs1 (cells + 4) (slots + 29) Q (F0 m 1099 ls1 [])) : W p l e room_1 s m #[Value.ref b] below meth c H locs cells slots Q (F0 m 558 ls []) := by
  obtain ⟨C0, hrl, hX, hbl, hbA, hlf, hN, hT⟩ := id C
  obtain ⟨T, Dr, Q0, Lv, th, df, la, fd, he, wt, br, ol, dc, dr, fm, sz, om, os, st, wa, ds, fw, qw, fn, qn, ff, qf, va, tr, rv, sk, ov, Z, hd, hs, hy⟩ := I
  obtain ⟨code, r, r', T', Lv', ol', la', fd', fw', fn', ff', va', fm', sz', k, h1, h2, hy', hs', hcc⟩ := c_drop (N := 1000001) hy hs (by omega) fd th
  have hc : code = 0 ∧ k = 0 ∨ code = 3 ∧ k = 1 := by omega
  have hk : k < 10 := by omega
  have hrr : k = 0 → r = r' := by
    intro z
    rcases hcc with ⟨_, _, e⟩ | ⟨_, _⟩
    · exact e
    all_goals omega
  refine lv_aload_n C0.1 C0.2.1 dL_law_558 rfl (lv_at hl 1 rfl) ?_
  refine lv_aload_n C0.1 C0.2.1 dL_law_559 rfl (lv_at hl 3 rfl) ?_
  refine va_calli (vx_runSW (As := [.ref (d 0), .ref o]) (rest := []) C0 (zL_drop l hlf D cyI cyJ cyO A bs hA (XM a cyI cyJ th df la fd he wt br dr fm sz om os st wa rv sk ++ [(o, .inl (cyJ, 1, .inr (.inl ov)))]) 10 o ov rfl d eA ol fd dc ds fw fn ff qw qn qf va tr 1000001  code r ol' fd' fw' fn' ff' va' k h1 hc) (vx_cwSW 2 C0.2.2.2.2 gL_law_L_drop rfl rfl rfl (by decide +kernel) ⟨Nat.le_of_ble_eq_true rfl, Nat.le_of_ble_eq_true rfl⟩) ⟨lP_blind, lP_pre Z hN hT _⟩ rfl rfl hl.1 rfl (lv_room (Nat.le_of_ble_eq_true rfl)) dL_law_560 ⟨by omega, by omega⟩) (lZ_S Z) (fun _ _ h => h) (fun _ h => h) (fun x ov' t1 H1 locs1 ht hvm hw hB _ _ hS => ?_)
  obtain ⟨hx, hu⟩ := hw
  have Z : lZ (XM a cyI cyJ th df la fd he wt br dr fm sz om os st wa rv sk ++ [(o, .inl (cyJ, 1, .inr (.inl ov')))]) D cyI cyJ cyO A bs d eA ol' fd' dc ds fw' fn' ff' qw qn qf va' tr s H1 locs1 := lZ_post Z ht hvm hB hS
  refine lv_istore (lv' := [(5, .int x), (0, .ref b), (1, .ref (d 0)), (2, .ref (a 0)), (3, .ref o), (4, .int x4)]) C0.1 C0.2.1 dL_law_563 hl (by decide) rfl (fun ls hl => ?_)
  obtain ⟨P, g, rs, rr, at1, fa, ra, Z, hF⟩ := Z
  obtain ⟨YY, hYY⟩ : ∃ X : va_W, X = (XD d cyI cyJ cyO eA (d 5) (d 6) rs rr at1 fa ra ol' fd' dc ds va' tr ++ va_pl P g) := ⟨_, rfl⟩
  have Z : gZ D (gT cyI cyJ cyO) (XM a cyI cyJ th df la fd he wt br dr fm sz om os st wa rv sk ++ ((o, .inl (cyJ, 1, .inr (.inl ov'))) :: YY)) A bs s H1 locs1 := by rw [hYY]; exact Z
  refine lv_aload_n C0.1 C0.2.1 dL_law_565 rfl (lv_at hl 3 rfl) ?_
  refine g_callVi (b := a 0) (As := []) (rest := []) C0 Z (zX4_drop l D cyI cyJ cyO A bs hA a ((o, .inl (cyJ, 1, .inr (.inl ov'))) :: YY) th df la fd he wt br dr fm sz om os st wa rv sk 1000001  _ h2) (cwV 0 C0.2.2.2.2 gL_law_X4_drop rfl rfl rfl (by decide +kernel) ⟨Nat.le_of_ble_eq_true rfl, Nat.le_of_ble_eq_true rfl⟩) 0 (ci := 6) rfl rfl rfl rfl hl.1 rfl (Nat.le_of_ble_eq_true rfl) dL_law_566 ⟨by omega, by omega⟩ (fun y v H2 locs2 hw Z => ?_)
  obtain ⟨hy1, hv⟩ := hw
  subst hv
  replace hy1 : r' = y := hy1
  have Z : gZ D (gT cyI cyJ cyO) (XM a cyI cyJ (nI k) df la' fd' he wt br dr fm' sz' om os st wa rv sk ++ ((o, .inl (cyJ, 1, .inr (.inl ov'))) :: YY)) A bs s H2 locs2 := Z
  refine lv_istore (lv' := [(6, .int y), (5, .int x), (0, .ref b), (1, .ref (d 0)), (2, .ref (a 0)), (3, .ref o), (4, .int x4)]) C0.1 C0.2.1 dL_law_569 hl (by decide) rfl (fun ls hl => ?_)
  refine lt_I C hA Z (k := k) rfl hk hx hl (fun z => by rw [hu z, hrr z, hy1]) ⟨by omega, by omega⟩ (t := 571) dL_law_571 dL_law_572 dL_law_575 dL_law_577 dL_law_582 dL_law_584 dL_law_587 dL_law_588 dL_law_589 dL_law_590 dL_law_592 dL_law_593 dL_law_594 dL_law_599 (by decide) (fun H3 locs3 Z => ?_)
  refine W.widen (k := cells + 4) (n := slots + 29) (by omega) (by omega) ?_
  refine kk H3 locs3 ls ⟨T', Dr, Q0, Lv', nI k, df, la', fd', he, wt, br, ol', dc, dr, fm', sz', om, os, st, wa, ds, fw', qw, fn', qn, ff', qf, va', tr, rv, sk, ov', ⟨P, g, rs, rr, at1, fa, ra, ?_, hF⟩, hd, hs', hy'⟩ (lv_sub hl [2, 3, 4, 5, 6] rfl)
  rw [hYY] at Z
  exact Z
/-! keep -/
set_option maxRecDepth 20000 in
set_option maxHeartbeats 4000000 in
theorem lc_keep (C : LC p l s m meth c b L xs A) (hA : ∀ q, bs ≤ q → A q) (I : LI D cyI cyJ cyO A bs a d eA o s H locs) (hin : ∀ j : Nat, 0 < j → j < 6 → vp_in (x4 + nI j) L) (hl : lv_has ls 8 [(0, .ref b), (1, .ref (d 0)), (2, .ref (a 0)), (3, .ref o), (4, .int x4)]) (hroom : cells + 4 ≤ room_1.cells ∧ slots + 29 ≤ room_1.slots) (kk : ∀ (H1 : Heap) (locs1 : List Loc) (ls1 : Array Slot), LI D cyI cyJ cyO A bs a d eA o s H1 locs1 → lv_has ls1 8 [(0, .ref b), (1, .ref (d 0)), (2, .ref (a 0)), (3, .ref o), (4, .int x4)] → W p l e room_1 s m #[Value.ref b] below meth c H1 locs1 (cells + 4) (slots + 29) Q (F0 m 1099 ls1 [])) : W p l e room_1 s m #[Value.ref b] below meth c H locs cells slots Q (F0 m 602 ls []) := by
  obtain ⟨C0, hrl, hX, hbl, hbA, hlf, hN, hT⟩ := id C
  obtain ⟨T, Dr, Q0, Lv, th, df, la, fd, he, wt, br, ol, dc, dr, fm, sz, om, os, st, wa, ds, fw, qw, fn, qn, ff, qf, va, tr, rv, sk, ov, Z, hd, hs, hy⟩ := I
  obtain ⟨code, r, r', Lv', ol', la', k, h1, h2, hy', hcc⟩ := c_keep (N := 1000001) hy th
  have hc : code = 0 ∧ k = 0 ∨ code = 3 ∧ k = 1 := by omega
  have hk : k < 10 := by omega
  have hrr : k = 0 → r = r' := by
    intro z
    rcases hcc with ⟨_, _, e⟩ | ⟨_, _⟩
    · exact e
    all_goals omega
  refine lv_aload_n C0.1 C0.2.1 dL_law_602 rfl (lv_at hl 1 rfl) ?_
  refine lv_aload_n C0.1 C0.2.1 dL_law_603 rfl (lv_at hl 3 rfl) ?_
  refine va_calli (vx_runSW (As := [.ref (d 0), .ref o]) (rest := []) C0 (zL_keep l hlf D cyI cyJ cyO A bs hA (XM a cyI cyJ th df la fd he wt br dr fm sz om os st wa rv sk ++ [(o, .inl (cyJ, 1, .inr (.inl ov)))]) 10 o ov rfl d eA ol fd dc ds fw fn ff qw qn qf va tr 1000001  code r ol' k h1 hc) (vx_cwSW 2 C0.2.2.2.2 gL_law_L_keep rfl rfl rfl (by decide +kernel) ⟨Nat.le_of_ble_eq_true rfl, Nat.le_of_ble_eq_true rfl⟩) ⟨lP_blind, lP_pre Z hN hT _⟩ rfl rfl hl.1 rfl (lv_room (Nat.le_of_ble_eq_true rfl)) dL_law_604 ⟨by omega, by omega⟩) (lZ_S Z) (fun _ _ h => h) (fun _ h => h) (fun x ov' t1 H1 locs1 ht hvm hw hB _ _ hS => ?_)
  obtain ⟨hx, hu⟩ := hw
  have Z : lZ (XM a cyI cyJ th df la fd he wt br dr fm sz om os st wa rv sk ++ [(o, .inl (cyJ, 1, .inr (.inl ov')))]) D cyI cyJ cyO A bs d eA ol' fd dc ds fw fn ff qw qn qf va tr s H1 locs1 := lZ_post Z ht hvm hB hS
  refine lv_istore (lv' := [(5, .int x), (0, .ref b), (1, .ref (d 0)), (2, .ref (a 0)), (3, .ref o), (4, .int x4)]) C0.1 C0.2.1 dL_law_607 hl (by decide) rfl (fun ls hl => ?_)
  obtain ⟨P, g, rs, rr, at1, fa, ra, Z, hF⟩ := Z
  obtain ⟨YY, hYY⟩ : ∃ X : va_W, X = (XD d cyI cyJ cyO eA (d 5) (d 6) rs rr at1 fa ra ol' fd dc ds va tr ++ va_pl P g) := ⟨_, rfl⟩
  have Z : gZ D (gT cyI cyJ cyO) (XM a cyI cyJ th df la fd he wt br dr fm sz om os st wa rv sk ++ ((o, .inl (cyJ, 1, .inr (.inl ov'))) :: YY)) A bs s H1 locs1 := by rw [hYY]; exact Z
  refine lv_aload_n C0.1 C0.2.1 dL_law_609 rfl (lv_at hl 3 rfl) ?_
  refine g_callVi (b := a 0) (As := []) (rest := []) C0 Z (zX4_keep l D cyI cyJ cyO A bs hA a ((o, .inl (cyJ, 1, .inr (.inl ov'))) :: YY) th df la fd he wt br dr fm sz om os st wa rv sk 1000001  _ h2) (cwV 0 C0.2.2.2.2 gL_law_X4_keep rfl rfl rfl (by decide +kernel) ⟨Nat.le_of_ble_eq_true rfl, Nat.le_of_ble_eq_true rfl⟩) 0 (ci := 6) rfl rfl rfl rfl hl.1 rfl (Nat.le_of_ble_eq_true rfl) dL_law_610 ⟨by omega, by omega⟩ (fun y v H2 locs2 hw Z => ?_)
  obtain ⟨hy1, hv⟩ := hw
  subst hv
  replace hy1 : r' = y := hy1
  have Z : gZ D (gT cyI cyJ cyO) (XM a cyI cyJ (nI k) df la' fd he wt br dr fm sz om os st wa rv sk ++ ((o, .inl (cyJ, 1, .inr (.inl ov'))) :: YY)) A bs s H2 locs2 := Z
  refine lv_istore (lv' := [(6, .int y), (5, .int x), (0, .ref b), (1, .ref (d 0)), (2, .ref (a 0)), (3, .ref o), (4, .int x4)]) C0.1 C0.2.1 dL_law_613 hl (by decide) rfl (fun ls hl => ?_)
  refine lt_I C hA Z (k := k) rfl hk hx hl (fun z => by rw [hu z, hrr z, hy1]) ⟨by omega, by omega⟩ (t := 615) dL_law_615 dL_law_616 dL_law_619 dL_law_621 dL_law_626 dL_law_628 dL_law_631 dL_law_632 dL_law_633 dL_law_634 dL_law_636 dL_law_637 dL_law_638 dL_law_643 (by decide) (fun H3 locs3 Z => ?_)
  refine W.widen (k := cells + 4) (n := slots + 29) (by omega) (by omega) ?_
  refine kk H3 locs3 ls ⟨T, Dr, Q0, Lv', nI k, df, la', fd, he, wt, br, ol', dc, dr, fm, sz, om, os, st, wa, ds, fw, qw, fn, qn, ff, qf, va, tr, rv, sk, ov', ⟨P, g, rs, rr, at1, fa, ra, ?_, hF⟩, hd, hs, hy'⟩ (lv_sub hl [2, 3, 4, 5, 6] rfl)
  rw [hYY] at Z
  exact Z
/-! layers -/
set_option maxRecDepth 20000 in
set_option maxHeartbeats 4000000 in
theorem lc_layers (C : LC p l s m meth c b L xs A) (hA : ∀ q, bs ≤ q → A q) (I : LI D cyI cyJ cyO A bs a d eA o s H locs) (hin : ∀ j : Nat, 0 < j → j < 6 → vp_in (x4 + nI j) L) (hl : lv_has ls 8 [(0, .ref b), (1, .ref (d 0)), (2, .ref (a 0)), (3, .ref o), (4, .int x4)]) (hroom : cells + 4 ≤ room_1.cells ∧ slots + 29 ≤ room_1.slots) (kk : ∀ (H1 : Heap) (locs1 : List Loc) (ls1 : Array Slot), LI D cyI cyJ cyO A bs a d eA o s H1 locs1 → lv_has ls1 8 [(0, .ref b), (1, .ref (d 0)), (2, .ref (a 0)), (3, .ref o), (4, .int x4)] → W p l e room_1 s m #[Value.ref b] below meth c H1 locs1 (cells + 4) (slots + 29) Q (F0 m 1099 ls1 [])) : W p l e room_1 s m #[Value.ref b] below meth c H locs cells slots Q (F0 m 646 ls []) := by
  obtain ⟨C0, hrl, hX, hbl, hbA, hlf, hN, hT⟩ := id C
  obtain ⟨T, Dr, Q0, Lv, th, df, la, fd, he, wt, br, ol, dc, dr, fm, sz, om, os, st, wa, ds, fw, qw, fn, qn, ff, qf, va, tr, rv, sk, ov, Z, hd, hs, hy⟩ := I
  have hdd : ol = la := hy.2.1.trans hy.2.2.1.symm
  obtain ⟨P, g, rs, rr, at1, fa, ra, Z1, hF⟩ := Z
  refine lv_aload_n C0.1 C0.2.1 dL_law_646 rfl (lv_at hl 1 rfl) ?_
  refine va_calli (va_runV (b := d 0) (C := RX3) (As := []) (rest := []) C0 (zX3_layers l D cyI cyJ cyO (aA A (XM a cyI cyJ th df la fd he wt br dr fm sz om os st wa rv sk ++ [(o, .inl (cyJ, 1, .inr (.inl ov)))])) H.size (fr_pre Z1) P g d eA ol fd dc ds fw fn ff qw qn qf va tr 1000001 _ rfl) (cwV 0 C0.2.2.2.2 gL_law_X3_layers rfl rfl rfl (by decide +kernel) ⟨Nat.le_of_ble_eq_true rfl, Nat.le_of_ble_eq_true rfl⟩) ⟨dP_blind, va_recv Z1.2.1 (fr_P Z1) (ci := 5) (q0 := 0) rfl rfl, fr_dP Z1 hF hN hT _⟩ rfl rfl hl.1 rfl (lv_room (Nat.le_of_ble_eq_true rfl)) dL_law_647 ⟨by omega, by omega⟩) Z1.2.2.2.1 (fun _ _ h => h.1) (fun _ h => h.1) (fun x u1 t1 H1 locs1 ht hvm hw hB _ hk1 hS => ?_)
  replace hx : ol = x := hw
  have Z : lZ (XM a cyI cyJ th df la fd he wt br dr fm sz om os st wa rv sk ++ [(o, .inl (cyJ, 1, .inr (.inl ov)))]) D cyI cyJ cyO A bs d eA ol fd dc ds fw fn ff qw qn qf va tr s H1 locs1 := fr_dZ Z1 ht hvm hB hk1 hS
  obtain ⟨P2, g2, rs2, rr2, at2, fa2, ra2, Z, hF2⟩ := Z
  obtain ⟨YY, hYY⟩ : ∃ X : va_W, X = (XD d cyI cyJ cyO eA (d 5) (d 6) rs2 rr2 at2 fa2 ra2 ol fd dc ds va tr ++ va_pl P2 g2) := ⟨_, rfl⟩
  have Z : gZ D (gT cyI cyJ cyO) (XM a cyI cyJ th df la fd he wt br dr fm sz om os st wa rv sk ++ ((o, .inl (cyJ, 1, .inr (.inl ov))) :: YY)) A bs s H1 locs1 := by rw [hYY]; exact Z
  refine lv_aload_n C0.1 C0.2.1 dL_law_650 rfl (lv_at hl 2 rfl) ?_
  refine g_callVi (b := a 0) (As := []) (rest := [.int x]) C0 Z (zX4_layers l D cyI cyJ cyO A bs hA a ((o, .inl (cyJ, 1, .inr (.inl ov))) :: YY) th df la fd he wt br dr fm sz om os st wa rv sk 1000001 _ rfl) (cwV 0 C0.2.2.2.2 gL_law_X4_layers rfl rfl rfl (by decide +kernel) ⟨Nat.le_of_ble_eq_true rfl, Nat.le_of_ble_eq_true rfl⟩) 0 (ci := 6) rfl rfl rfl rfl hl.1 rfl (Nat.le_of_ble_eq_true rfl) dL_law_651 ⟨by omega, by omega⟩ (fun y v H2 locs2 hw Z => ?_)
  obtain ⟨hy1, hv⟩ := hw
  subst hv
  replace hy1 : la = y := hy1
  have Z : gZ D (gT cyI cyJ cyO) (XM a cyI cyJ 0 df la fd he wt br dr fm sz om os st wa rv sk ++ ((o, .inl (cyJ, 1, .inr (.inl ov))) :: YY)) A bs s H2 locs2 := Z
  refine lv_icmp_eq (tgt := 1099) C0.1 C0.2.1 dL_law_654 (by decide) (fun _ => ?_) (fun hne => absurd (show x = y from by rw [← hx, ← hy1, hdd]) hne)
  refine W.widen (k := cells + 4) (n := slots + 29) (by omega) (by omega) ?_
  refine kk H2 locs2 ls ⟨T, Dr, Q0, Lv, 0, df, la, fd, he, wt, br, ol, dc, dr, fm, sz, om, os, st, wa, ds, fw, qw, fn, qn, ff, qf, va, tr, rv, sk, ov, ⟨P2, g2, rs2, rr2, at2, fa2, ra2, ?_, hF2⟩, hd, hs, hy⟩ hl
  rw [hYY] at Z
  exact Z
/-! drafted -/
set_option maxRecDepth 20000 in
set_option maxHeartbeats 4000000 in
theorem lc_drafted (C : LC p l s m meth c b L xs A) (hA : ∀ q, bs ≤ q → A q) (I : LI D cyI cyJ cyO A bs a d eA o s H locs) (hin : ∀ j : Nat, 0 < j → j < 6 → vp_in (x4 + nI j) L) (hl : lv_has ls 8 [(0, .ref b), (1, .ref (d 0)), (2, .ref (a 0)), (3, .ref o), (4, .int x4)]) (hroom : cells + 4 ≤ room_1.cells ∧ slots + 29 ≤ room_1.slots) (kk : ∀ (H1 : Heap) (locs1 : List Loc) (ls1 : Array Slot), LI D cyI cyJ cyO A bs a d eA o s H1 locs1 → lv_has ls1 8 [(0, .ref b), (1, .ref (d 0)), (2, .ref (a 0)), (3, .ref o), (4, .int x4)] → W p l e room_1 s m #[Value.ref b] below meth c H1 locs1 (cells + 4) (slots + 29) Q (F0 m 1099 ls1 [])) : W p l e room_1 s m #[Value.ref b] below meth c H locs cells slots Q (F0 m 659 ls []) := by
  obtain ⟨C0, hrl, hX, hbl, hbA, hlf, hN, hT⟩ := id C
  obtain ⟨T, Dr, Q0, Lv, th, df, la, fd, he, wt, br, ol, dc, dr, fm, sz, om, os, st, wa, ds, fw, qw, fn, qn, ff, qf, va, tr, rv, sk, ov, Z, hd, hs, hy⟩ := I
  have hdd : dc = df := hd.2.1.trans hd.2.2.2.1.symm
  obtain ⟨P, g, rs, rr, at1, fa, ra, Z1, hF⟩ := Z
  refine lv_aload_n C0.1 C0.2.1 dL_law_659 rfl (lv_at hl 1 rfl) ?_
  refine va_calli (va_runV (b := d 0) (C := RX3) (As := []) (rest := []) C0 (zX3_drafted l D cyI cyJ cyO (aA A (XM a cyI cyJ th df la fd he wt br dr fm sz om os st wa rv sk ++ [(o, .inl (cyJ, 1, .inr (.inl ov)))])) H.size (fr_pre Z1) P g d eA ol fd dc ds fw fn ff qw qn qf va tr 1000001 _ rfl) (cwV 0 C0.2.2.2.2 gL_law_X3_drafted rfl rfl rfl (by decide +kernel) ⟨Nat.le_of_ble_eq_true rfl, Nat.le_of_ble_eq_true rfl⟩) ⟨dP_blind, va_recv Z1.2.1 (fr_P Z1) (ci := 5) (q0 := 0) rfl rfl, fr_dP Z1 hF hN hT _⟩ rfl rfl hl.1 rfl (lv_room (Nat.le_of_ble_eq_true rfl)) dL_law_660 ⟨by omega, by omega⟩) Z1.2.2.2.1 (fun _ _ h => h.1) (fun _ h => h.1) (fun x u1 t1 H1 locs1 ht hvm hw hB _ hk1 hS => ?_)
  replace hx : dc = x := hw
  have Z : lZ (XM a cyI cyJ th df la fd he wt br dr fm sz om os st wa rv sk ++ [(o, .inl (cyJ, 1, .inr (.inl ov)))]) D cyI cyJ cyO A bs d eA ol fd dc ds fw fn ff qw qn qf va tr s H1 locs1 := fr_dZ Z1 ht hvm hB hk1 hS
  obtain ⟨P2, g2, rs2, rr2, at2, fa2, ra2, Z, hF2⟩ := Z
  obtain ⟨YY, hYY⟩ : ∃ X : va_W, X = (XD d cyI cyJ cyO eA (d 5) (d 6) rs2 rr2 at2 fa2 ra2 ol fd dc ds va tr ++ va_pl P2 g2) := ⟨_, rfl⟩
  have Z : gZ D (gT cyI cyJ cyO) (XM a cyI cyJ th df la fd he wt br dr fm sz om os st wa rv sk ++ ((o, .inl (cyJ, 1, .inr (.inl ov))) :: YY)) A bs s H1 locs1 := by rw [hYY]; exact Z
  refine lv_aload_n C0.1 C0.2.1 dL_law_663 rfl (lv_at hl 2 rfl) ?_
  refine g_callVi (b := a 0) (As := []) (rest := [.int x]) C0 Z (zX4_drafted l D cyI cyJ cyO A bs hA a ((o, .inl (cyJ, 1, .inr (.inl ov))) :: YY) th df la fd he wt br dr fm sz om os st wa rv sk 1000001 _ rfl) (cwV 0 C0.2.2.2.2 gL_law_X4_drafted rfl rfl rfl (by decide +kernel) ⟨Nat.le_of_ble_eq_true rfl, Nat.le_of_ble_eq_true rfl⟩) 0 (ci := 6) rfl rfl rfl rfl hl.1 rfl (Nat.le_of_ble_eq_true rfl) dL_law_664 ⟨by omega, by omega⟩ (fun y v H2 locs2 hw Z => ?_)
  obtain ⟨hy1, hv⟩ := hw
  subst hv
  replace hy1 : df = y := hy1
  have Z : gZ D (gT cyI cyJ cyO) (XM a cyI cyJ 0 df la fd he wt br dr fm sz om os st wa rv sk ++ ((o, .inl (cyJ, 1, .inr (.inl ov))) :: YY)) A bs s H2 locs2 := Z
  refine lv_icmp_eq (tgt := 1099) C0.1 C0.2.1 dL_law_667 (by decide) (fun _ => ?_) (fun hne => absurd (show x = y from by rw [← hx, ← hy1, hdd]) hne)
  refine W.widen (k := cells + 4) (n := slots + 29) (by omega) (by omega) ?_
  refine kk H2 locs2 ls ⟨T, Dr, Q0, Lv, 0, df, la, fd, he, wt, br, ol, dc, dr, fm, sz, om, os, st, wa, ds, fw, qw, fn, qn, ff, qf, va, tr, rv, sk, ov, ⟨P2, g2, rs2, rr2, at2, fa2, ra2, ?_, hF2⟩, hd, hs, hy⟩ hl
  rw [hYY] at Z
  exact Z
/-! value -/
set_option maxRecDepth 20000 in
set_option maxHeartbeats 4000000 in
theorem lc_value (C : LC p l s m meth c b L xs A) (hA : ∀ q, bs ≤ q → A q) (I : LI D cyI cyJ cyO A bs a d eA o s H locs) (hin : ∀ j : Nat, 0 < j → j < 6 → vp_in (x4 + nI j) L) (hl : lv_has ls 8 [(0, .ref b), (1, .ref (d 0)), (2, .ref (a 0)), (3, .ref o), (4, .int x4)]) (hroom : cells + 4 ≤ room_1.cells ∧ slots + 29 ≤ room_1.slots) (kk : ∀ (H1 : Heap) (locs1 : List Loc) (ls1 : Array Slot), LI D cyI cyJ cyO A bs a d eA o s H1 locs1 → lv_has ls1 8 [(0, .ref b), (1, .ref (d 0)), (2, .ref (a 0)), (3, .ref o), (4, .int x4)] → W p l e room_1 s m #[Value.ref b] below meth c H1 locs1 (cells + 4) (slots + 29) Q (F0 m 1099 ls1 [])) : W p l e room_1 s m #[Value.ref b] below meth c H locs cells slots Q (F0 m 672 ls []) := by
  obtain ⟨C0, hrl, hX, hbl, hbA, hlf, hN, hT⟩ := id C
  obtain ⟨T, Dr, Q0, Lv, th, df, la, fd, he, wt, br, ol, dc, dr, fm, sz, om, os, st, wa, ds, fw, qw, fn, qn, ff, qf, va, tr, rv, sk, ov, Z, hd, hs, hy⟩ := I
  obtain ⟨p0, hp0⟩ : ∃ z : Int32, z = xs (x4 + nI 1).toNatClampNeg := ⟨_, rfl⟩
  obtain ⟨code, r, r', he', wt', br', st', wa', rv', sk', k, h1, h2, hcc⟩ := c_value (N := 1000001) hs (by omega) th he wt br st wa rv sk p0
  have hc : code = 0 ∧ k = 0 ∨ code = 1 ∧ k = 1 ∨ code = 4 ∧ k = 2 := by omega
  have hk : k < 10 := by omega
  have hrr : k = 0 → r = r' := by
    intro z
    rcases hcc with ⟨_, _, e⟩ | ⟨_, _⟩ | ⟨_, _⟩
    · exact e
    all_goals omega
  refine lv_aload_n C0.1 C0.2.1 dL_law_672 rfl (lv_at hl 1 rfl) ?_
  refine lv_aload_n C0.1 C0.2.1 dL_law_673 rfl (lv_at hl 0 rfl) ?_
  refine lv_iload C0.1 C0.2.1 dL_law_674 (lv_at hl 4 rfl) ?_
  refine lv_iconst (v := nI 1) C0.1 C0.2.1 dL_law_676 (by decide) ?_
  refine lv_iadd C0.1 C0.2.1 dL_law_677 ?_
  refine va_sld C0.1 C0.2.1 hX hbl hbA (lZ_S Z) (hin 1 (by omega) (by omega)) dL_law_678 ?_
  refine lv_aload_n C0.1 C0.2.1 dL_law_679 rfl (lv_at hl 3 rfl) ?_
  rw [← hp0]
  refine va_calli (vx_runSW (As := [.ref (d 0), .int p0, .ref o]) (rest := []) C0 (zL_value l hlf D cyI cyJ cyO A bs hA (XM a cyI cyJ th df la fd he wt br dr fm sz om os st wa rv sk ++ [(o, .inl (cyJ, 1, .inr (.inl ov)))]) 10 o ov rfl d eA ol fd dc ds fw fn ff qw qn qf va tr 1000001 p0 code r k h1 hc) (vx_cwSW 3 C0.2.2.2.2 gL_law_L_value rfl rfl rfl (by decide +kernel) ⟨Nat.le_of_ble_eq_true rfl, Nat.le_of_ble_eq_true rfl⟩) ⟨lP_blind, lP_pre Z hN hT _⟩ rfl rfl hl.1 rfl (lv_room (Nat.le_of_ble_eq_true rfl)) dL_law_680 ⟨by omega, by omega⟩) (lZ_S Z) (fun _ _ h => h) (fun _ h => h) (fun x ov' t1 H1 locs1 ht hvm hw hB _ _ hS => ?_)
  obtain ⟨hx, hu⟩ := hw
  have Z : lZ (XM a cyI cyJ th df la fd he wt br dr fm sz om os st wa rv sk ++ [(o, .inl (cyJ, 1, .inr (.inl ov')))]) D cyI cyJ cyO A bs d eA ol fd dc ds fw fn ff qw qn qf va tr s H1 locs1 := lZ_post Z ht hvm hB hS
  refine lv_istore (lv' := [(5, .int x), (0, .ref b), (1, .ref (d 0)), (2, .ref (a 0)), (3, .ref o), (4, .int x4)]) C0.1 C0.2.1 dL_law_683 hl (by decide) rfl (fun ls hl => ?_)
  obtain ⟨P, g, rs, rr, at1, fa, ra, Z, hF⟩ := Z
  obtain ⟨YY, hYY⟩ : ∃ X : va_W, X = (XD d cyI cyJ cyO eA (d 5) (d 6) rs rr at1 fa ra ol fd dc ds va tr ++ va_pl P g) := ⟨_, rfl⟩
  have Z : gZ D (gT cyI cyJ cyO) (XM a cyI cyJ th df la fd he wt br dr fm sz om os st wa rv sk ++ ((o, .inl (cyJ, 1, .inr (.inl ov'))) :: YY)) A bs s H1 locs1 := by rw [hYY]; exact Z
  refine lv_aload_n C0.1 C0.2.1 dL_law_685 rfl (lv_at hl 3 rfl) ?_
  refine lv_aload_n C0.1 C0.2.1 dL_law_686 rfl (lv_at hl 1 rfl) ?_
  refine lv_iload C0.1 C0.2.1 dL_law_687 (lv_at hl 5 rfl) ?_
  refine lv_iconst (v := nI 1) C0.1 C0.2.1 dL_law_689 (by decide) ?_
  refine lv_iadd C0.1 C0.2.1 dL_law_690 ?_
  refine va_sld C0.1 C0.2.1 hX hbl hbA Z.2.2.2.1 (hin 1 (by omega) (by omega)) dL_law_691 ?_
  rw [← hp0]
  refine g_callVl (b := a 0) (As := [.int p0]) (rest := []) C0 Z (zX4_value l D cyI cyJ cyO A bs hA a ((o, .inl (cyJ, 1, .inr (.inl ov'))) :: YY) th df la fd he wt br dr fm sz om os st wa rv sk 1000001 p0 _ h2) (cwV 1 C0.2.2.2.2 gL_law_X4_value rfl rfl rfl (by decide +kernel) ⟨Nat.le_of_ble_eq_true rfl, Nat.le_of_ble_eq_true rfl⟩) 0 (ci := 6) rfl rfl rfl rfl hl.1 rfl (Nat.le_of_ble_eq_true rfl) dL_law_692 ⟨by omega, by omega⟩ (fun y v H2 locs2 hw Z => ?_)
  obtain ⟨hy1, hv⟩ := hw
  subst hv
  replace hy1 : r' = y := hy1
  have Z : gZ D (gT cyI cyJ cyO) (XM a cyI cyJ (nI k) df la fd he' wt' br' dr fm sz om os st' wa' rv' sk' ++ ((o, .inl (cyJ, 1, .inr (.inl ov'))) :: YY)) A bs s H2 locs2 := Z
  refine lv_lstore (lv' := [(6, .long y), (5, .int x), (0, .ref b), (1, .ref (d 0)), (2, .ref (a 0)), (3, .ref o), (4, .int x4)]) C0.1 C0.2.1 dL_law_695 hl (by decide) rfl (fun ls hl => ?_)
  refine lt_J C hA Z (k := k) rfl hk hx hl (fun z => by rw [hu z, hrr z, hy1]) ⟨by omega, by omega⟩ (t := 697) dL_law_697 dL_law_698 dL_law_701 dL_law_703 dL_law_708 dL_law_710 dL_law_713 dL_law_714 dL_law_715 dL_law_716 dL_law_718 dL_law_719 dL_law_724 (by decide) (fun H3 locs3 Z => ?_)
  refine W.widen (k := cells + 4) (n := slots + 29) (by omega) (by omega) ?_
  refine kk H3 locs3 ls ⟨T, Dr, Q0, Lv, nI k, df, la, fd, he', wt', br', ol, dc, dr, fm, sz, om, os, st', wa', ds, fw, qw, fn, qn, ff, qf, va, tr, rv', sk', ov', ⟨P, g, rs, rr, at1, fa, ra, ?_, hF⟩, hd, hs, hy⟩ (lv_sub hl [2, 3, 4, 5, 6] rfl)
  rw [hYY] at Z
  exact Z
end LR
