/-! the law's roads, further -/
section LR
variable {p : Program} {l : Launch} {e : Env} {s : State} {m : MethodId} {below : List Frame} {meth : Method} {c : Code} {H : Heap} {locs : List Loc} {cells slots : Nat} {Q : State → Prop} {b L : Nat} {xs : Nat → Int32} {ls : Array Slot} {D : va_G} {A : Nat → Prop} {bs : Nat} {cyI cyJ cyO : ClassId} {a d : Nat → Nat} {eA o : Nat} {x4 : Int32}
/-! valueAnew -/
set_option maxRecDepth 20000 in
set_option maxHeartbeats 4000000 in
theorem lc_valueAnew (C : LC p l s m meth c b L xs A) (hA : ∀ q, bs ≤ q → A q) (I : LI D cyI cyJ cyO A bs a d eA o s H locs) (hin : ∀ j : Nat, 0 < j → j < 6 → vp_in (x4 + nI j) L) (hl : lv_has ls 8 [(0, .ref b), (1, .ref (d 0)), (2, .ref (a 0)), (3, .ref o), (4, .int x4)]) (hroom : cells + 4 ≤ room_1.cells ∧ slots + 29 ≤ room_1.slots) (kk : ∀ (H1 : Heap) (locs1 : List Loc) (ls1 : Array Slot), LI D cyI cyJ cyO A bs a d eA o s H1 locs1 → lv_has ls1 8 [(0, .ref b), (1, .ref (d 0)), (2, .ref (a 0)), (3, .ref o), (4, .int x4)] → W p l e room_1 s m #[Value.ref b] below meth c H1 locs1 (cells + 4) (slots + 29) Q (F0 m 1099 ls1 [])) : W p l e room_1 s m #[Value.ref b] below meth c H locs cells slots Q (F0 m 727 ls []) := by
  obtain ⟨C0, hrl, hX, hbl, hbA, hlf, hN, hT⟩ := id C
  obtain ⟨T, Dr, Q0, Lv, th, df, la, fd, he, wt, br, ol, dc, dr, fm, sz, om, os, st, wa, ds, fw, qw, fn, qn, ff, qf, va, tr, rv, sk, ov, Z, hd, hs, hy⟩ := I
  obtain ⟨p0, hp0⟩ : ∃ z : Int32, z = xs (x4 + nI 1).toNatClampNeg := ⟨_, rfl⟩
  obtain ⟨code, r, r', tr', he', wt', br', st', wa', rv', sk', k, h1, h2, hcc⟩ := c_valueAnew (N := 1000001) hs (by omega) tr th he wt br st wa rv sk p0
  have hc : code = 0 ∧ k = 0 ∨ code = 1 ∧ k = 1 ∨ code = 4 ∧ k = 2 := by omega
  have hk : k < 10 := by omega
  have hrr : k = 0 → r = r' := by
    intro z
    rcases hcc with ⟨_, _, e⟩ | ⟨_, _⟩ | ⟨_, _⟩
    · exact e
    all_goals omega
  refine lv_aload_n C0.1 C0.2.1 dL_law_727 rfl (lv_at hl 1 rfl) ?_
  refine lv_aload_n C0.1 C0.2.1 dL_law_728 rfl (lv_at hl 0 rfl) ?_
  refine lv_iload C0.1 C0.2.1 dL_law_729 (lv_at hl 4 rfl) ?_
  refine lv_iconst (v := nI 1) C0.1 C0.2.1 dL_law_731 (by decide) ?_
  refine lv_iadd C0.1 C0.2.1 dL_law_732 ?_
  refine va_sld C0.1 C0.2.1 hX hbl hbA (lZ_S Z) (hin 1 (by omega) (by omega)) dL_law_733 ?_
  refine lv_aload_n C0.1 C0.2.1 dL_law_734 rfl (lv_at hl 3 rfl) ?_
  rw [← hp0]
  refine va_calli (vx_runSW (As := [.ref (d 0), .int p0, .ref o]) (rest := []) C0 (zL_valueAnew l hlf D cyI cyJ cyO A bs hA (XM a cyI cyJ th df la fd he wt br dr fm sz om os st wa rv sk ++ [(o, .inl (cyJ, 1, .inr (.inl ov)))]) 10 o ov rfl d eA ol fd dc ds fw fn ff qw qn qf va tr 1000001 p0 code r tr' k h1 hc) (vx_cwSW 3 C0.2.2.2.2 gL_law_L_valueAnew rfl rfl rfl (by decide +kernel) ⟨Nat.le_of_ble_eq_true rfl, Nat.le_of_ble_eq_true rfl⟩) ⟨lP_blind, lP_pre Z hN hT _⟩ rfl rfl hl.1 rfl (lv_room (Nat.le_of_ble_eq_true rfl)) dL_law_735 ⟨by omega, by omega⟩) (lZ_S Z) (fun _ _ h => h) (fun _ h => h) (fun x ov' t1 H1 locs1 ht hvm hw hB _ _ hS => ?_)
  obtain ⟨hx, hu⟩ := hw
  have Z : lZ (XM a cyI cyJ th df la fd he wt br dr fm sz om os st wa rv sk ++ [(o, .inl (cyJ, 1, .inr (.inl ov')))]) D cyI cyJ cyO A bs d eA ol fd dc ds fw fn ff qw qn qf va tr' s H1 locs1 := lZ_post Z ht hvm hB hS
  refine lv_istore (lv' := [(5, .int x), (0, .ref b), (1, .ref (d 0)), (2, .ref (a 0)), (3, .ref o), (4, .int x4)]) C0.1 C0.2.1 dL_law_738 hl (by decide) rfl (fun ls hl => ?_)
  obtain ⟨P, g, rs, rr, at1, fa, ra, Z, hF⟩ := Z
  obtain ⟨YY, hYY⟩ : ∃ X : va_W, X = (XD d cyI cyJ cyO eA (d 5) (d 6) rs rr at1 fa ra ol fd dc ds va tr' ++ va_pl P g) := ⟨_, rfl⟩
  have Z : gZ D (gT cyI cyJ cyO) (XM a cyI cyJ th df la fd he wt br dr fm sz om os st wa rv sk ++ ((o, .inl (cyJ, 1, .inr (.inl ov'))) :: YY)) A bs s H1 locs1 := by rw [hYY]; exact Z
  refine lv_aload_n C0.1 C0.2.1 dL_law_740 rfl (lv_at hl 3 rfl) ?_
  refine lv_aload_n C0.1 C0.2.1 dL_law_741 rfl (lv_at hl 1 rfl) ?_
  refine lv_iload C0.1 C0.2.1 dL_law_742 (lv_at hl 5 rfl) ?_
  refine lv_iconst (v := nI 1) C0.1 C0.2.1 dL_law_744 (by decide) ?_
  refine lv_iadd C0.1 C0.2.1 dL_law_745 ?_
  refine va_sld C0.1 C0.2.1 hX hbl hbA Z.2.2.2.1 (hin 1 (by omega) (by omega)) dL_law_746 ?_
  rw [← hp0]
  refine g_callVl (b := a 0) (As := [.int p0]) (rest := []) C0 Z (zX4_valueAnew l D cyI cyJ cyO A bs hA a ((o, .inl (cyJ, 1, .inr (.inl ov'))) :: YY) th df la fd he wt br dr fm sz om os st wa rv sk 1000001 p0 _ h2) (cwV 1 C0.2.2.2.2 gL_law_X4_valueAnew rfl rfl rfl (by decide +kernel) ⟨Nat.le_of_ble_eq_true rfl, Nat.le_of_ble_eq_true rfl⟩) 0 (ci := 6) rfl rfl rfl rfl hl.1 rfl (Nat.le_of_ble_eq_true rfl) dL_law_747 ⟨by omega, by omega⟩ (fun y v H2 locs2 hw Z => ?_)
  obtain ⟨hy1, hv⟩ := hw
  subst hv
  replace hy1 : r' = y := hy1
  have Z : gZ D (gT cyI cyJ cyO) (XM a cyI cyJ (nI k) df la fd he' wt' br' dr fm sz om os st' wa' rv' sk' ++ ((o, .inl (cyJ, 1, .inr (.inl ov'))) :: YY)) A bs s H2 locs2 := Z
  refine lv_lstore (lv' := [(6, .long y), (5, .int x), (0, .ref b), (1, .ref (d 0)), (2, .ref (a 0)), (3, .ref o), (4, .int x4)]) C0.1 C0.2.1 dL_law_750 hl (by decide) rfl (fun ls hl => ?_)
  refine lt_J C hA Z (k := k) rfl hk hx hl (fun z => by rw [hu z, hrr z, hy1]) ⟨by omega, by omega⟩ (t := 752) dL_law_752 dL_law_753 dL_law_756 dL_law_758 dL_law_763 dL_law_765 dL_law_768 dL_law_769 dL_law_770 dL_law_771 dL_law_773 dL_law_774 dL_law_779 (by decide) (fun H3 locs3 Z => ?_)
  refine W.widen (k := cells + 4) (n := slots + 29) (by omega) (by omega) ?_
  refine kk H3 locs3 ls ⟨T, Dr, Q0, Lv, nI k, df, la, fd, he', wt', br', ol, dc, dr, fm, sz, om, os, st', wa', ds, fw, qw, fn, qn, ff, qf, va, tr', rv', sk', ov', ⟨P, g, rs, rr, at1, fa, ra, ?_, hF⟩, hd, hs, hy⟩ (lv_sub hl [2, 3, 4, 5, 6] rfl)
  rw [hYY] at Z
  exact Z
/-! signs -/
set_option maxRecDepth 20000 in
set_option maxHeartbeats 4000000 in
theorem lc_signs (C : LC p l s m meth c b L xs A) (hA : ∀ q, bs ≤ q → A q) (I : LI D cyI cyJ cyO A bs a d eA o s H locs) (hin : ∀ j : Nat, 0 < j → j < 6 → vp_in (x4 + nI j) L) (hl : lv_has ls 8 [(0, .ref b), (1, .ref (d 0)), (2, .ref (a 0)), (3, .ref o), (4, .int x4)]) (hroom : cells + 4 ≤ room_1.cells ∧ slots + 29 ≤ room_1.slots) (kk : ∀ (H1 : Heap) (locs1 : List Loc) (ls1 : Array Slot), LI D cyI cyJ cyO A bs a d eA o s H1 locs1 → lv_has ls1 8 [(0, .ref b), (1, .ref (d 0)), (2, .ref (a 0)), (3, .ref o), (4, .int x4)] → W p l e room_1 s m #[Value.ref b] below meth c H1 locs1 (cells + 4) (slots + 29) Q (F0 m 1099 ls1 [])) : W p l e room_1 s m #[Value.ref b] below meth c H locs cells slots Q (F0 m 782 ls []) := by
  obtain ⟨C0, hrl, hX, hbl, hbA, hlf, hN, hT⟩ := id C
  obtain ⟨T, Dr, Q0, Lv, th, df, la, fd, he, wt, br, ol, dc, dr, fm, sz, om, os, st, wa, ds, fw, qw, fn, qn, ff, qf, va, tr, rv, sk, ov, Z, hd, hs, hy⟩ := I
  obtain ⟨p0, hp0⟩ : ∃ z : Int32, z = xs (x4 + nI 1).toNatClampNeg := ⟨_, rfl⟩
  obtain ⟨code, r, r', k, h1, h2, hcc⟩ := c_signs (N := 1000001) hs th p0
  have hc : code = 0 ∧ k = 0 ∨ code = 1 ∧ k = 1 := by omega
  have hk : k < 10 := by omega
  have hrr : k = 0 → r = r' := by
    intro z
    rcases hcc with ⟨_, _, e⟩ | ⟨_, _⟩
    · exact e
    all_goals omega
  refine lv_aload_n C0.1 C0.2.1 dL_law_782 rfl (lv_at hl 1 rfl) ?_
  refine lv_aload_n C0.1 C0.2.1 dL_law_783 rfl (lv_at hl 0 rfl) ?_
  refine lv_iload C0.1 C0.2.1 dL_law_784 (lv_at hl 4 rfl) ?_
  refine lv_iconst (v := nI 1) C0.1 C0.2.1 dL_law_786 (by decide) ?_
  refine lv_iadd C0.1 C0.2.1 dL_law_787 ?_
  refine va_sld C0.1 C0.2.1 hX hbl hbA (lZ_S Z) (hin 1 (by omega) (by omega)) dL_law_788 ?_
  refine lv_aload_n C0.1 C0.2.1 dL_law_789 rfl (lv_at hl 3 rfl) ?_
  rw [← hp0]
  refine va_calli (vx_runSW (As := [.ref (d 0), .int p0, .ref o]) (rest := []) C0 (zL_signs l hlf D cyI cyJ cyO A bs hA (XM a cyI cyJ th df la fd he wt br dr fm sz om os st wa rv sk ++ [(o, .inl (cyJ, 1, .inr (.inl ov)))]) 10 o ov rfl d eA ol fd dc ds fw fn ff qw qn qf va tr 1000001 p0 code r k h1 hc) (vx_cwSW 3 C0.2.2.2.2 gL_law_L_signs rfl rfl rfl (by decide +kernel) ⟨Nat.le_of_ble_eq_true rfl, Nat.le_of_ble_eq_true rfl⟩) ⟨lP_blind, lP_pre Z hN hT _⟩ rfl rfl hl.1 rfl (lv_room (Nat.le_of_ble_eq_true rfl)) dL_law_790 ⟨by omega, by omega⟩) (lZ_S Z) (fun _ _ h => h) (fun _ h => h) (fun x ov' t1 H1 locs1 ht hvm hw hB _ _ hS => ?_)
  obtain ⟨hx, hu⟩ := hw
  have Z : lZ (XM a cyI cyJ th df la fd he wt br dr fm sz om os st wa rv sk ++ [(o, .inl (cyJ, 1, .inr (.inl ov')))]) D cyI cyJ cyO A bs d eA ol fd dc ds fw fn ff qw qn qf va tr s H1 locs1 := lZ_post Z ht hvm hB hS
  refine lv_istore (lv' := [(5, .int x), (0, .ref b), (1, .ref (d 0)), (2, .ref (a 0)), (3, .ref o), (4, .int x4)]) C0.1 C0.2.1 dL_law_793 hl (by decide) rfl (fun ls hl => ?_)
  obtain ⟨P, g, rs, rr, at1, fa, ra, Z, hF⟩ := Z
  obtain ⟨YY, hYY⟩ : ∃ X : va_W, X = (XD d cyI cyJ cyO eA (d 5) (d 6) rs rr at1 fa ra ol fd dc ds va tr ++ va_pl P g) := ⟨_, rfl⟩
  have Z : gZ D (gT cyI cyJ cyO) (XM a cyI cyJ th df la fd he wt br dr fm sz om os st wa rv sk ++ ((o, .inl (cyJ, 1, .inr (.inl ov'))) :: YY)) A bs s H1 locs1 := by rw [hYY]; exact Z
  refine lv_aload_n C0.1 C0.2.1 dL_law_795 rfl (lv_at hl 3 rfl) ?_
  refine lv_aload_n C0.1 C0.2.1 dL_law_796 rfl (lv_at hl 1 rfl) ?_
  refine lv_iload C0.1 C0.2.1 dL_law_797 (lv_at hl 5 rfl) ?_
  refine lv_iconst (v := nI 1) C0.1 C0.2.1 dL_law_799 (by decide) ?_
  refine lv_iadd C0.1 C0.2.1 dL_law_800 ?_
  refine va_sld C0.1 C0.2.1 hX hbl hbA Z.2.2.2.1 (hin 1 (by omega) (by omega)) dL_law_801 ?_
  rw [← hp0]
  refine g_callVi (b := a 0) (As := [.int p0]) (rest := []) C0 Z (zX4_signs l D cyI cyJ cyO A bs hA a ((o, .inl (cyJ, 1, .inr (.inl ov'))) :: YY) th df la fd he wt br dr fm sz om os st wa rv sk 1000001 p0 _ h2) (cwV 1 C0.2.2.2.2 gL_law_X4_signs rfl rfl rfl (by decide +kernel) ⟨Nat.le_of_ble_eq_true rfl, Nat.le_of_ble_eq_true rfl⟩) 0 (ci := 6) rfl rfl rfl rfl hl.1 rfl (Nat.le_of_ble_eq_true rfl) dL_law_802 ⟨by omega, by omega⟩ (fun y v H2 locs2 hw Z => ?_)
  obtain ⟨hy1, hv⟩ := hw
  subst hv
  replace hy1 : r' = y := hy1
  have Z : gZ D (gT cyI cyJ cyO) (XM a cyI cyJ (nI k) df la fd he wt br dr fm sz om os st wa rv sk ++ ((o, .inl (cyJ, 1, .inr (.inl ov'))) :: YY)) A bs s H2 locs2 := Z
  refine lv_istore (lv' := [(6, .int y), (5, .int x), (0, .ref b), (1, .ref (d 0)), (2, .ref (a 0)), (3, .ref o), (4, .int x4)]) C0.1 C0.2.1 dL_law_805 hl (by decide) rfl (fun ls hl => ?_)
  refine lt_I C hA Z (k := k) rfl hk hx hl (fun z => by rw [hu z, hrr z, hy1]) ⟨by omega, by omega⟩ (t := 807) dL_law_807 dL_law_808 dL_law_811 dL_law_813 dL_law_818 dL_law_820 dL_law_823 dL_law_824 dL_law_825 dL_law_826 dL_law_828 dL_law_829 dL_law_830 dL_law_835 (by decide) (fun H3 locs3 Z => ?_)
  refine W.widen (k := cells + 4) (n := slots + 29) (by omega) (by omega) ?_
  refine kk H3 locs3 ls ⟨T, Dr, Q0, Lv, nI k, df, la, fd, he, wt, br, ol, dc, dr, fm, sz, om, os, st, wa, ds, fw, qw, fn, qn, ff, qf, va, tr, rv, sk, ov', ⟨P, g, rs, rr, at1, fa, ra, ?_, hF⟩, hd, hs, hy⟩ (lv_sub hl [2, 3, 4, 5, 6] rfl)
  rw [hYY] at Z
  exact Z
/-! level -/
set_option maxRecDepth 20000 in
set_option maxHeartbeats 4000000 in
theorem lc_level (C : LC p l s m meth c b L xs A) (hA : ∀ q, bs ≤ q → A q) (I : LI D cyI cyJ cyO A bs a d eA o s H locs) (hin : ∀ j : Nat, 0 < j → j < 6 → vp_in (x4 + nI j) L) (hl : lv_has ls 8 [(0, .ref b), (1, .ref (d 0)), (2, .ref (a 0)), (3, .ref o), (4, .int x4)]) (hroom : cells + 4 ≤ room_1.cells ∧ slots + 29 ≤ room_1.slots) (kk : ∀ (H1 : Heap) (locs1 : List Loc) (ls1 : Array Slot), LI D cyI cyJ cyO A bs a d eA o s H1 locs1 → lv_has ls1 8 [(0, .ref b), (1, .ref (d 0)), (2, .ref (a 0)), (3, .ref o), (4, .int x4)] → W p l e room_1 s m #[Value.ref b] below meth c H1 locs1 (cells + 4) (slots + 29) Q (F0 m 1099 ls1 [])) : W p l e room_1 s m #[Value.ref b] below meth c H locs cells slots Q (F0 m 838 ls []) := by
  obtain ⟨C0, hrl, hX, hbl, hbA, hlf, hN, hT⟩ := id C
  obtain ⟨T, Dr, Q0, Lv, th, df, la, fd, he, wt, br, ol, dc, dr, fm, sz, om, os, st, wa, ds, fw, qw, fn, qn, ff, qf, va, tr, rv, sk, ov, Z, hd, hs, hy⟩ := I
  obtain ⟨p0, hp0⟩ : ∃ z : Int32, z = xs (x4 + nI 1).toNatClampNeg := ⟨_, rfl⟩
  obtain ⟨code, r, r', k, h1, h2, hcc⟩ := c_level (N := 1000001) hs (by omega) th p0
  have hc : code = 0 ∧ k = 0 ∨ code = 1 ∧ k = 1 := by omega
  have hk : k < 10 := by omega
  have hrr : k = 0 → r = r' := by
    intro z
    rcases hcc with ⟨_, _, e⟩ | ⟨_, _⟩
    · exact e
    all_goals omega
  refine lv_aload_n C0.1 C0.2.1 dL_law_838 rfl (lv_at hl 1 rfl) ?_
  refine lv_aload_n C0.1 C0.2.1 dL_law_839 rfl (lv_at hl 0 rfl) ?_
  refine lv_iload C0.1 C0.2.1 dL_law_840 (lv_at hl 4 rfl) ?_
  refine lv_iconst (v := nI 1) C0.1 C0.2.1 dL_law_842 (by decide) ?_
  refine lv_iadd C0.1 C0.2.1 dL_law_843 ?_
  refine va_sld C0.1 C0.2.1 hX hbl hbA (lZ_S Z) (hin 1 (by omega) (by omega)) dL_law_844 ?_
  refine lv_aload_n C0.1 C0.2.1 dL_law_845 rfl (lv_at hl 3 rfl) ?_
  rw [← hp0]
  refine va_calli (vx_runSW (As := [.ref (d 0), .int p0, .ref o]) (rest := []) C0 (zL_level l hlf D cyI cyJ cyO A bs hA (XM a cyI cyJ th df la fd he wt br dr fm sz om os st wa rv sk ++ [(o, .inl (cyJ, 1, .inr (.inl ov)))]) 10 o ov rfl d eA ol fd dc ds fw fn ff qw qn qf va tr 1000001 p0 code r k h1 hc) (vx_cwSW 3 C0.2.2.2.2 gL_law_L_level rfl rfl rfl (by decide +kernel) ⟨Nat.le_of_ble_eq_true rfl, Nat.le_of_ble_eq_true rfl⟩) ⟨lP_blind, lP_pre Z hN hT _⟩ rfl rfl hl.1 rfl (lv_room (Nat.le_of_ble_eq_true rfl)) dL_law_846 ⟨by omega, by omega⟩) (lZ_S Z) (fun _ _ h => h) (fun _ h => h) (fun x ov' t1 H1 locs1 ht hvm hw hB _ _ hS => ?_)
  obtain ⟨hx, hu⟩ := hw
  have Z : lZ (XM a cyI cyJ th df la fd he wt br dr fm sz om os st wa rv sk ++ [(o, .inl (cyJ, 1, .inr (.inl ov')))]) D cyI cyJ cyO A bs d eA ol fd dc ds fw fn ff qw qn qf va tr s H1 locs1 := lZ_post Z ht hvm hB hS
  refine lv_istore (lv' := [(5, .int x), (0, .ref b), (1, .ref (d 0)), (2, .ref (a 0)), (3, .ref o), (4, .int x4)]) C0.1 C0.2.1 dL_law_849 hl (by decide) rfl (fun ls hl => ?_)
  obtain ⟨P, g, rs, rr, at1, fa, ra, Z, hF⟩ := Z
  obtain ⟨YY, hYY⟩ : ∃ X : va_W, X = (XD d cyI cyJ cyO eA (d 5) (d 6) rs rr at1 fa ra ol fd dc ds va tr ++ va_pl P g) := ⟨_, rfl⟩
  have Z : gZ D (gT cyI cyJ cyO) (XM a cyI cyJ th df la fd he wt br dr fm sz om os st wa rv sk ++ ((o, .inl (cyJ, 1, .inr (.inl ov'))) :: YY)) A bs s H1 locs1 := by rw [hYY]; exact Z
  refine lv_aload_n C0.1 C0.2.1 dL_law_851 rfl (lv_at hl 3 rfl) ?_
  refine lv_aload_n C0.1 C0.2.1 dL_law_852 rfl (lv_at hl 1 rfl) ?_
  refine lv_iload C0.1 C0.2.1 dL_law_853 (lv_at hl 5 rfl) ?_
  refine lv_iconst (v := nI 1) C0.1 C0.2.1 dL_law_855 (by decide) ?_
  refine lv_iadd C0.1 C0.2.1 dL_law_856 ?_
  refine va_sld C0.1 C0.2.1 hX hbl hbA Z.2.2.2.1 (hin 1 (by omega) (by omega)) dL_law_857 ?_
  rw [← hp0]
  refine g_callVi (b := a 0) (As := [.int p0]) (rest := []) C0 Z (zX4_level l D cyI cyJ cyO A bs hA a ((o, .inl (cyJ, 1, .inr (.inl ov'))) :: YY) th df la fd he wt br dr fm sz om os st wa rv sk 1000001 p0 _ h2) (cwV 1 C0.2.2.2.2 gL_law_X4_level rfl rfl rfl (by decide +kernel) ⟨Nat.le_of_ble_eq_true rfl, Nat.le_of_ble_eq_true rfl⟩) 0 (ci := 6) rfl rfl rfl rfl hl.1 rfl (Nat.le_of_ble_eq_true rfl) dL_law_858 ⟨by omega, by omega⟩ (fun y v H2 locs2 hw Z => ?_)
  obtain ⟨hy1, hv⟩ := hw
  subst hv
  replace hy1 : r' = y := hy1
  have Z : gZ D (gT cyI cyJ cyO) (XM a cyI cyJ (nI k) df la fd he wt br dr fm sz om os st wa rv sk ++ ((o, .inl (cyJ, 1, .inr (.inl ov'))) :: YY)) A bs s H2 locs2 := Z
  refine lv_istore (lv' := [(6, .int y), (5, .int x), (0, .ref b), (1, .ref (d 0)), (2, .ref (a 0)), (3, .ref o), (4, .int x4)]) C0.1 C0.2.1 dL_law_861 hl (by decide) rfl (fun ls hl => ?_)
  refine lt_I C hA Z (k := k) rfl hk hx hl (fun z => by rw [hu z, hrr z, hy1]) ⟨by omega, by omega⟩ (t := 863) dL_law_863 dL_law_864 dL_law_867 dL_law_869 dL_law_874 dL_law_876 dL_law_879 dL_law_880 dL_law_881 dL_law_882 dL_law_884 dL_law_885 dL_law_886 dL_law_891 (by decide) (fun H3 locs3 Z => ?_)
  refine W.widen (k := cells + 4) (n := slots + 29) (by omega) (by omega) ?_
  refine kk H3 locs3 ls ⟨T, Dr, Q0, Lv, nI k, df, la, fd, he, wt, br, ol, dc, dr, fm, sz, om, os, st, wa, ds, fw, qw, fn, qn, ff, qf, va, tr, rv, sk, ov', ⟨P, g, rs, rr, at1, fa, ra, ?_, hF⟩, hd, hs, hy⟩ (lv_sub hl [2, 3, 4, 5, 6] rfl)
  rw [hYY] at Z
  exact Z
/-! depends -/
set_option maxRecDepth 20000 in
set_option maxHeartbeats 4000000 in
theorem lc_depends (C : LC p l s m meth c b L xs A) (hA : ∀ q, bs ≤ q → A q) (I : LI D cyI cyJ cyO A bs a d eA o s H locs) (hin : ∀ j : Nat, 0 < j → j < 6 → vp_in (x4 + nI j) L) (hl : lv_has ls 8 [(0, .ref b), (1, .ref (d 0)), (2, .ref (a 0)), (3, .ref o), (4, .int x4)]) (hroom : cells + 4 ≤ room_1.cells ∧ slots + 29 ≤ room_1.slots) (kk : ∀ (H1 : Heap) (locs1 : List Loc) (ls1 : Array Slot), LI D cyI cyJ cyO A bs a d eA o s H1 locs1 → lv_has ls1 8 [(0, .ref b), (1, .ref (d 0)), (2, .ref (a 0)), (3, .ref o), (4, .int x4)] → W p l e room_1 s m #[Value.ref b] below meth c H1 locs1 (cells + 4) (slots + 29) Q (F0 m 1099 ls1 [])) : W p l e room_1 s m #[Value.ref b] below meth c H locs cells slots Q (F0 m 894 ls []) := by
  obtain ⟨C0, hrl, hX, hbl, hbA, hlf, hN, hT⟩ := id C
  obtain ⟨T, Dr, Q0, Lv, th, df, la, fd, he, wt, br, ol, dc, dr, fm, sz, om, os, st, wa, ds, fw, qw, fn, qn, ff, qf, va, tr, rv, sk, ov, Z, hd, hs, hy⟩ := I
  obtain ⟨p0, hp0⟩ : ∃ z : Int32, z = xs (x4 + nI 1).toNatClampNeg := ⟨_, rfl⟩
  obtain ⟨p1, hp1⟩ : ∃ z : Int32, z = xs (x4 + nI 2).toNatClampNeg := ⟨_, rfl⟩
  obtain ⟨code, r, r', k, h1, h2, hcc⟩ := c_depends (N := 1000001) hs (by omega) th p0 p1
  have hc : code = 0 ∧ k = 0 ∨ code = 1 ∧ k = 1 := by omega
  have hk : k < 10 := by omega
  have hrr : k = 0 → r = r' := by
    intro z
    rcases hcc with ⟨_, _, e, _⟩ | ⟨_, _⟩
    · exact e
    all_goals omega
  refine lv_aload_n C0.1 C0.2.1 dL_law_894 rfl (lv_at hl 1 rfl) ?_
  refine lv_aload_n C0.1 C0.2.1 dL_law_895 rfl (lv_at hl 0 rfl) ?_
  refine lv_iload C0.1 C0.2.1 dL_law_896 (lv_at hl 4 rfl) ?_
  refine lv_iconst (v := nI 1) C0.1 C0.2.1 dL_law_898 (by decide) ?_
  refine lv_iadd C0.1 C0.2.1 dL_law_899 ?_
  refine va_sld C0.1 C0.2.1 hX hbl hbA (lZ_S Z) (hin 1 (by omega) (by omega)) dL_law_900 ?_
  refine lv_aload_n C0.1 C0.2.1 dL_law_901 rfl (lv_at hl 0 rfl) ?_
  refine lv_iload C0.1 C0.2.1 dL_law_902 (lv_at hl 4 rfl) ?_
  refine lv_iconst (v := nI 2) C0.1 C0.2.1 dL_law_904 (by decide) ?_
  refine lv_iadd C0.1 C0.2.1 dL_law_905 ?_
  refine va_sld C0.1 C0.2.1 hX hbl hbA (lZ_S Z) (hin 2 (by omega) (by omega)) dL_law_906 ?_
  refine lv_aload_n C0.1 C0.2.1 dL_law_907 rfl (lv_at hl 3 rfl) ?_
  rw [← hp0]
  rw [← hp1]
  refine va_calli (vx_runSW (As := [.ref (d 0), .int p0, .int p1, .ref o]) (rest := []) C0 (zL_depends l hlf D cyI cyJ cyO A bs hA (XM a cyI cyJ th df la fd he wt br dr fm sz om os st wa rv sk ++ [(o, .inl (cyJ, 1, .inr (.inl ov)))]) 10 o ov rfl d eA ol fd dc ds fw fn ff qw qn qf va tr 1000001 p0 p1 code r k h1 hc) (vx_cwSW 4 C0.2.2.2.2 gL_law_L_depends rfl rfl rfl (by decide +kernel) ⟨Nat.le_of_ble_eq_true rfl, Nat.le_of_ble_eq_true rfl⟩) ⟨lP_blind, lP_pre Z hN hT _⟩ rfl rfl hl.1 rfl (lv_room (Nat.le_of_ble_eq_true rfl)) dL_law_908 ⟨by omega, by omega⟩) (lZ_S Z) (fun _ _ h => h) (fun _ h => h) (fun x ov' t1 H1 locs1 ht hvm hw hB _ _ hS => ?_)
  obtain ⟨hx, hu⟩ := hw
  have Z : lZ (XM a cyI cyJ th df la fd he wt br dr fm sz om os st wa rv sk ++ [(o, .inl (cyJ, 1, .inr (.inl ov')))]) D cyI cyJ cyO A bs d eA ol fd dc ds fw fn ff qw qn qf va tr s H1 locs1 := lZ_post Z ht hvm hB hS
  refine lv_istore (lv' := [(5, .int x), (0, .ref b), (1, .ref (d 0)), (2, .ref (a 0)), (3, .ref o), (4, .int x4)]) C0.1 C0.2.1 dL_law_911 hl (by decide) rfl (fun ls hl => ?_)
  obtain ⟨P, g, rs, rr, at1, fa, ra, Z, hF⟩ := Z
  obtain ⟨YY, hYY⟩ : ∃ X : va_W, X = (XD d cyI cyJ cyO eA (d 5) (d 6) rs rr at1 fa ra ol fd dc ds va tr ++ va_pl P g) := ⟨_, rfl⟩
  have Z : gZ D (gT cyI cyJ cyO) (XM a cyI cyJ th df la fd he wt br dr fm sz om os st wa rv sk ++ ((o, .inl (cyJ, 1, .inr (.inl ov'))) :: YY)) A bs s H1 locs1 := by rw [hYY]; exact Z
  refine lv_aload_n C0.1 C0.2.1 dL_law_913 rfl (lv_at hl 3 rfl) ?_
  refine lv_aload_n C0.1 C0.2.1 dL_law_914 rfl (lv_at hl 1 rfl) ?_
  refine lv_iload C0.1 C0.2.1 dL_law_915 (lv_at hl 5 rfl) ?_
  refine lv_iconst (v := nI 1) C0.1 C0.2.1 dL_law_917 (by decide) ?_
  refine lv_iadd C0.1 C0.2.1 dL_law_918 ?_
  refine va_sld C0.1 C0.2.1 hX hbl hbA Z.2.2.2.1 (hin 1 (by omega) (by omega)) dL_law_919 ?_
  refine lv_aload_n C0.1 C0.2.1 dL_law_920 rfl (lv_at hl 1 rfl) ?_
  refine lv_iload C0.1 C0.2.1 dL_law_921 (lv_at hl 5 rfl) ?_
  refine lv_iconst (v := nI 2) C0.1 C0.2.1 dL_law_923 (by decide) ?_
  refine lv_iadd C0.1 C0.2.1 dL_law_924 ?_
  refine va_sld C0.1 C0.2.1 hX hbl hbA Z.2.2.2.1 (hin 2 (by omega) (by omega)) dL_law_925 ?_
  rw [← hp0]
  rw [← hp1]
  refine g_callVi (b := a 0) (As := [.int p0, .int p1]) (rest := []) C0 Z (zX4_depends l D cyI cyJ cyO A bs hA a ((o, .inl (cyJ, 1, .inr (.inl ov'))) :: YY) th df la fd he wt br dr fm sz om os st wa rv sk 1000001 p0 p1 _ h2) (cwV 2 C0.2.2.2.2 gL_law_X4_depends rfl rfl rfl (by decide +kernel) ⟨Nat.le_of_ble_eq_true rfl, Nat.le_of_ble_eq_true rfl⟩) 0 (ci := 6) rfl rfl rfl rfl hl.1 rfl (Nat.le_of_ble_eq_true rfl) dL_law_926 ⟨by omega, by omega⟩ (fun y v H2 locs2 hw Z => ?_)
  obtain ⟨hy1, hv⟩ := hw
  subst hv
  replace hy1 : r' = y := hy1
  have Z : gZ D (gT cyI cyJ cyO) (XM a cyI cyJ (nI k) df la fd he wt br dr fm sz om os st wa rv sk ++ ((o, .inl (cyJ, 1, .inr (.inl ov'))) :: YY)) A bs s H2 locs2 := Z
  refine lv_istore (lv' := [(6, .int y), (5, .int x), (0, .ref b), (1, .ref (d 0)), (2, .ref (a 0)), (3, .ref o), (4, .int x4)]) C0.1 C0.2.1 dL_law_929 hl (by decide) rfl (fun ls hl => ?_)
  refine lt_Z C hA Z (k := k) rfl hk hx hl (fun z => by rw [hu z, hrr z, hy1]) ⟨by omega, by omega⟩ (t := 931) dL_law_931 dL_law_932 dL_law_935 dL_law_937 dL_law_942 dL_law_944 dL_law_947 dL_law_948 dL_law_949 dL_law_950 dL_law_952 dL_law_955 dL_law_956 dL_law_959 dL_law_960 dL_law_961 dL_law_966 (by decide) (fun H3 locs3 Z => ?_)
  refine W.widen (k := cells + 4) (n := slots + 29) (by omega) (by omega) ?_
  refine kk H3 locs3 ls ⟨T, Dr, Q0, Lv, nI k, df, la, fd, he, wt, br, ol, dc, dr, fm, sz, om, os, st, wa, ds, fw, qw, fn, qn, ff, qf, va, tr, rv, sk, ov', ⟨P, g, rs, rr, at1, fa, ra, ?_, hF⟩, hd, hs, hy⟩ (lv_sub hl [2, 3, 4, 5, 6] rfl)
  rw [hYY] at Z
  exact Z
/-! faulty -/
set_option maxRecDepth 20000 in
set_option maxHeartbeats 4000000 in
theorem lc_faulty (C : LC p l s m meth c b L xs A) (hA : ∀ q, bs ≤ q → A q) (I : LI D cyI cyJ cyO A bs a d eA o s H locs) (hin : ∀ j : Nat, 0 < j → j < 6 → vp_in (x4 + nI j) L) (hl : lv_has ls 8 [(0, .ref b), (1, .ref (d 0)), (2, .ref (a 0)), (3, .ref o), (4, .int x4)]) (hroom : cells + 4 ≤ room_1.cells ∧ slots + 29 ≤ room_1.slots) (kk : ∀ (H1 : Heap) (locs1 : List Loc) (ls1 : Array Slot), LI D cyI cyJ cyO A bs a d eA o s H1 locs1 → lv_has ls1 8 [(0, .ref b), (1, .ref (d 0)), (2, .ref (a 0)), (3, .ref o), (4, .int x4)] → W p l e room_1 s m #[Value.ref b] below meth c H1 locs1 (cells + 4) (slots + 29) Q (F0 m 1099 ls1 [])) : W p l e room_1 s m #[Value.ref b] below meth c H locs cells slots Q (F0 m 969 ls []) := by
  obtain ⟨C0, hrl, hX, hbl, hbA, hlf, hN, hT⟩ := id C
  obtain ⟨T, Dr, Q0, Lv, th, df, la, fd, he, wt, br, ol, dc, dr, fm, sz, om, os, st, wa, ds, fw, qw, fn, qn, ff, qf, va, tr, rv, sk, ov, Z, hd, hs, hy⟩ := I
  obtain ⟨r, he', wt', br', st', wa', rv', sk', h1, h2⟩ := c_faulty (N := 1000001) hs (by omega) th he wt br st wa rv sk
  obtain ⟨P, g, rs, rr, at1, fa, ra, Z1, hF⟩ := Z
  refine lv_aload_n C0.1 C0.2.1 dL_law_969 rfl (lv_at hl 1 rfl) ?_
  refine va_calli (va_runV (b := d 0) (C := RX3) (As := []) (rest := []) C0 (zX3_faulty l D cyI cyJ cyO (aA A (XM a cyI cyJ th df la fd he wt br dr fm sz om os st wa rv sk ++ [(o, .inl (cyJ, 1, .inr (.inl ov)))])) H.size (fr_pre Z1) P g d eA ol fd dc ds fw fn ff qw qn qf va tr 1000001 _ h1) (cwV 0 C0.2.2.2.2 gL_law_X3_faulty rfl rfl rfl (by decide +kernel) ⟨Nat.le_of_ble_eq_true rfl, Nat.le_of_ble_eq_true rfl⟩) ⟨dP_blind, va_recv Z1.2.1 (fr_P Z1) (ci := 5) (q0 := 0) rfl rfl, fr_dP Z1 hF hN hT _⟩ rfl rfl hl.1 rfl (lv_room (Nat.le_of_ble_eq_true rfl)) dL_law_970 ⟨by omega, by omega⟩) Z1.2.2.2.1 (fun _ _ h => h.1) (fun _ h => h.1) (fun x u1 t1 H1 locs1 ht hvm hw hB _ hk1 hS => ?_)
  replace hx : r = x := hw
  have Z : lZ (XM a cyI cyJ th df la fd he wt br dr fm sz om os st wa rv sk ++ [(o, .inl (cyJ, 1, .inr (.inl ov)))]) D cyI cyJ cyO A bs d eA ol fd dc ds fw fn ff qw qn qf va tr s H1 locs1 := fr_dZ Z1 ht hvm hB hk1 hS
  obtain ⟨P2, g2, rs2, rr2, at2, fa2, ra2, Z, hF2⟩ := Z
  obtain ⟨YY, hYY⟩ : ∃ X : va_W, X = (XD d cyI cyJ cyO eA (d 5) (d 6) rs2 rr2 at2 fa2 ra2 ol fd dc ds va tr ++ va_pl P2 g2) := ⟨_, rfl⟩
  have Z : gZ D (gT cyI cyJ cyO) (XM a cyI cyJ th df la fd he wt br dr fm sz om os st wa rv sk ++ ((o, .inl (cyJ, 1, .inr (.inl ov))) :: YY)) A bs s H1 locs1 := by rw [hYY]; exact Z
  refine lv_aload_n C0.1 C0.2.1 dL_law_973 rfl (lv_at hl 2 rfl) ?_
  refine g_callVi (b := a 0) (As := []) (rest := [.int x]) C0 Z (zX4_faulty l D cyI cyJ cyO A bs hA a ((o, .inl (cyJ, 1, .inr (.inl ov))) :: YY) th df la fd he wt br dr fm sz om os st wa rv sk 1000001 _ h2) (cwV 0 C0.2.2.2.2 gL_law_X4_faulty rfl rfl rfl (by decide +kernel) ⟨Nat.le_of_ble_eq_true rfl, Nat.le_of_ble_eq_true rfl⟩) 0 (ci := 6) rfl rfl rfl rfl hl.1 rfl (Nat.le_of_ble_eq_true rfl) dL_law_974 ⟨by omega, by omega⟩ (fun y v H2 locs2 hw Z => ?_)
  obtain ⟨hy1, hv⟩ := hw
  subst hv
  replace hy1 : r = y := hy1
  have Z : gZ D (gT cyI cyJ cyO) (XM a cyI cyJ 0 df la fd he' wt' br' dr fm sz om os st' wa' rv' sk' ++ ((o, .inl (cyJ, 1, .inr (.inl ov))) :: YY)) A bs s H2 locs2 := Z
  refine lv_icmp_eq (tgt := 1099) C0.1 C0.2.1 dL_law_977 (by decide) (fun _ => ?_) (fun hne => absurd (show x = y from by rw [← hx, ← hy1]) hne)
  refine W.widen (k := cells + 4) (n := slots + 29) (by omega) (by omega) ?_
  refine kk H2 locs2 ls ⟨T, Dr, Q0, Lv, 0, df, la, fd, he', wt', br', ol, dc, dr, fm, sz, om, os, st', wa', ds, fw, qw, fn, qn, ff, qf, va, tr, rv', sk', ov, ⟨P2, g2, rs2, rr2, at2, fa2, ra2, ?_, hF2⟩, hd, hs, hy⟩ hl
  rw [hYY] at Z
  exact Z
/-! foundAnew -/
set_option maxRecDepth 20000 in
set_option maxHeartbeats 4000000 in
theorem lc_foundAnew (C : LC p l s m meth c b L xs A) (hA : ∀ q, bs ≤ q → A q) (I : LI D cyI cyJ cyO A bs a d eA o s H locs) (hin : ∀ j : Nat, 0 < j → j < 6 → vp_in (x4 + nI j) L) (hl : lv_has ls 8 [(0, .ref b), (1, .ref (d 0)), (2, .ref (a 0)), (3, .ref o), (4, .int x4)]) (hroom : cells + 4 ≤ room_1.cells ∧ slots + 29 ≤ room_1.slots) (kk : ∀ (H1 : Heap) (locs1 : List Loc) (ls1 : Array Slot), LI D cyI cyJ cyO A bs a d eA o s H1 locs1 → lv_has ls1 8 [(0, .ref b), (1, .ref (d 0)), (2, .ref (a 0)), (3, .ref o), (4, .int x4)] → W p l e room_1 s m #[Value.ref b] below meth c H1 locs1 (cells + 4) (slots + 29) Q (F0 m 1099 ls1 [])) : W p l e room_1 s m #[Value.ref b] below meth c H locs cells slots Q (F0 m 982 ls []) := by
  obtain ⟨C0, hrl, hX, hbl, hbA, hlf, hN, hT⟩ := id C
  obtain ⟨T, Dr, Q0, Lv, th, df, la, fd, he, wt, br, ol, dc, dr, fm, sz, om, os, st, wa, ds, fw, qw, fn, qn, ff, qf, va, tr, rv, sk, ov, Z, hd, hs, hy⟩ := I
  obtain ⟨P, g, rs, rr, at1, fa, ra, Z1, hF⟩ := Z
  refine lv_aload_n C0.1 C0.2.1 dL_law_982 rfl (lv_at hl 1 rfl) ?_
  refine va_calli (va_runV (b := d 0) (C := RX3) (As := []) (rest := []) C0 (zX3_foundAnew l D cyI cyJ cyO (aA A (XM a cyI cyJ th df la fd he wt br dr fm sz om os st wa rv sk ++ [(o, .inl (cyJ, 1, .inr (.inl ov)))])) H.size (fr_pre Z1) P g d eA ol fd dc ds fw fn ff qw qn qf va tr 1000001 _ rfl) (cwV 0 C0.2.2.2.2 gL_law_X3_foundAnew rfl rfl rfl (by decide +kernel) ⟨Nat.le_of_ble_eq_true rfl, Nat.le_of_ble_eq_true rfl⟩) ⟨dP_blind, va_recv Z1.2.1 (fr_P Z1) (ci := 5) (q0 := 0) rfl rfl, fr_dP Z1 hF hN hT _⟩ rfl rfl hl.1 rfl (lv_room (Nat.le_of_ble_eq_true rfl)) dL_law_983 ⟨by omega, by omega⟩) Z1.2.2.2.1 (fun _ _ h => h.1) (fun _ h => h.1) (fun x u1 t1 H1 locs1 ht hvm hw hB _ hk1 hS => ?_)
  replace hx : fd = x := hw
  have Z : lZ (XM a cyI cyJ th df la fd he wt br dr fm sz om os st wa rv sk ++ [(o, .inl (cyJ, 1, .inr (.inl ov)))]) D cyI cyJ cyO A bs d eA ol fd dc ds fw fn ff qw qn qf va tr s H1 locs1 := fr_dZ Z1 ht hvm hB hk1 hS
  obtain ⟨P2, g2, rs2, rr2, at2, fa2, ra2, Z, hF2⟩ := Z
  obtain ⟨YY, hYY⟩ : ∃ X : va_W, X = (XD d cyI cyJ cyO eA (d 5) (d 6) rs2 rr2 at2 fa2 ra2 ol fd dc ds va tr ++ va_pl P2 g2) := ⟨_, rfl⟩
  have Z : gZ D (gT cyI cyJ cyO) (XM a cyI cyJ th df la fd he wt br dr fm sz om os st wa rv sk ++ ((o, .inl (cyJ, 1, .inr (.inl ov))) :: YY)) A bs s H1 locs1 := by rw [hYY]; exact Z
  refine lv_aload_n C0.1 C0.2.1 dL_law_986 rfl (lv_at hl 2 rfl) ?_
  refine g_callVi (b := a 0) (As := []) (rest := [.int x]) C0 Z (zX4_foundAnew l D cyI cyJ cyO A bs hA a ((o, .inl (cyJ, 1, .inr (.inl ov))) :: YY) th df la fd he wt br dr fm sz om os st wa rv sk 1000001 _ rfl) (cwV 0 C0.2.2.2.2 gL_law_X4_foundAnew rfl rfl rfl (by decide +kernel) ⟨Nat.le_of_ble_eq_true rfl, Nat.le_of_ble_eq_true rfl⟩) 0 (ci := 6) rfl rfl rfl rfl hl.1 rfl (Nat.le_of_ble_eq_true rfl) dL_law_987 ⟨by omega, by omega⟩ (fun y v H2 locs2 hw Z => ?_)
  obtain ⟨hy1, hv⟩ := hw
  subst hv
  replace hy1 : fd = y := hy1
  have Z : gZ D (gT cyI cyJ cyO) (XM a cyI cyJ 0 df la fd he wt br dr fm sz om os st wa rv sk ++ ((o, .inl (cyJ, 1, .inr (.inl ov))) :: YY)) A bs s H2 locs2 := Z
  refine lv_icmp_eq (tgt := 1099) C0.1 C0.2.1 dL_law_990 (by decide) (fun _ => ?_) (fun hne => absurd (show x = y from by rw [← hx, ← hy1]) hne)
  refine W.widen (k := cells + 4) (n := slots + 29) (by omega) (by omega) ?_
  refine kk H2 locs2 ls ⟨T, Dr, Q0, Lv, 0, df, la, fd, he, wt, br, ol, dc, dr, fm, sz, om, os, st, wa, ds, fw, qw, fn, qn, ff, qf, va, tr, rv, sk, ov, ⟨P2, g2, rs2, rr2, at2, fa2, ra2, ?_, hF2⟩, hd, hs, hy⟩ hl
  rw [hYY] at Z
  exact Z
/-! seek -/
set_option maxRecDepth 20000 in
set_option maxHeartbeats 4000000 in
theorem lc_seek (C : LC p l s m meth c b L xs A) (hA : ∀ q, bs ≤ q → A q) (I : LI D cyI cyJ cyO A bs a d eA o s H locs) (hin : ∀ j : Nat, 0 < j → j < 6 → vp_in (x4 + nI j) L) (hl : lv_has ls 8 [(0, .ref b), (1, .ref (d 0)), (2, .ref (a 0)), (3, .ref o), (4, .int x4)]) (hroom : cells + 4 ≤ room_1.cells ∧ slots + 29 ≤ room_1.slots) (kk : ∀ (H1 : Heap) (locs1 : List Loc) (ls1 : Array Slot), LI D cyI cyJ cyO A bs a d eA o s H1 locs1 → lv_has ls1 8 [(0, .ref b), (1, .ref (d 0)), (2, .ref (a 0)), (3, .ref o), (4, .int x4)] → W p l e room_1 s m #[Value.ref b] below meth c H1 locs1 (cells + 4) (slots + 29) Q (F0 m 1099 ls1 [])) : W p l e room_1 s m #[Value.ref b] below meth c H locs cells slots Q (F0 m 995 ls []) := by
  obtain ⟨C0, hrl, hX, hbl, hbA, hlf, hN, hT⟩ := id C
  obtain ⟨T, Dr, Q0, Lv, th, df, la, fd, he, wt, br, ol, dc, dr, fm, sz, om, os, st, wa, ds, fw, qw, fn, qn, ff, qf, va, tr, rv, sk, ov, Z, hd, hs, hy⟩ := I
  obtain ⟨p0, hp0⟩ : ∃ z : Int32, z = xs (x4 + nI 1).toNatClampNeg := ⟨_, rfl⟩
  obtain ⟨p1, hp1⟩ : ∃ z : Int32, z = xs (x4 + nI 2).toNatClampNeg := ⟨_, rfl⟩
  obtain ⟨p2, hp2⟩ : ∃ z : Int32, z = xs (x4 + nI 3).toNatClampNeg := ⟨_, rfl⟩
  obtain ⟨p3, hp3⟩ : ∃ z : Int32, z = xs (x4 + nI 4).toNatClampNeg := ⟨_, rfl⟩
  obtain ⟨p4, hp4⟩ : ∃ z : Int32, z = xs (x4 + nI 5).toNatClampNeg := ⟨_, rfl⟩
  obtain ⟨code, r, r', T', fd', fw', fn', ff', va', tr', he', wt', br', fm', sz', st', wa', rv', sk', k, h1, h2, hs', hcc⟩ := c_seek (N := 1000001) hs (by omega) fd tr th he wt br st wa rv sk p0 p1 p2 p3 p4
  have hc : code = 0 ∧ k = 0 ∨ code = 1 ∧ k = 1 ∨ code = 2 ∧ k = 2 ∨ code = 3 ∧ k = 3 ∨ code = 5 ∧ k = 4 := by omega
  have hk : k < 10 := by omega
  have hrr : k = 0 → r = r' := by
    intro z
    rcases hcc with ⟨_, _, e⟩ | ⟨_, _⟩ | ⟨_, _⟩ | ⟨_, _⟩ | ⟨_, _⟩
    · exact e
    all_goals omega
  refine lv_aload_n C0.1 C0.2.1 dL_law_995 rfl (lv_at hl 1 rfl) ?_
  refine lv_aload_n C0.1 C0.2.1 dL_law_996 rfl (lv_at hl 0 rfl) ?_
  refine lv_iload C0.1 C0.2.1 dL_law_997 (lv_at hl 4 rfl) ?_
  refine lv_iconst (v := nI 1) C0.1 C0.2.1 dL_law_999 (by decide) ?_
  refine lv_iadd C0.1 C0.2.1 dL_law_1000 ?_
  refine va_sld C0.1 C0.2.1 hX hbl hbA (lZ_S Z) (hin 1 (by omega) (by omega)) dL_law_1001 ?_
  refine lv_aload_n C0.1 C0.2.1 dL_law_1002 rfl (lv_at hl 0 rfl) ?_
  refine lv_iload C0.1 C0.2.1 dL_law_1003 (lv_at hl 4 rfl) ?_
  refine lv_iconst (v := nI 2) C0.1 C0.2.1 dL_law_1005 (by decide) ?_
  refine lv_iadd C0.1 C0.2.1 dL_law_1006 ?_
  refine va_sld C0.1 C0.2.1 hX hbl hbA (lZ_S Z) (hin 2 (by omega) (by omega)) dL_law_1007 ?_
  refine lv_aload_n C0.1 C0.2.1 dL_law_1008 rfl (lv_at hl 0 rfl) ?_
  refine lv_iload C0.1 C0.2.1 dL_law_1009 (lv_at hl 4 rfl) ?_
  refine lv_iconst (v := nI 3) C0.1 C0.2.1 dL_law_1011 (by decide) ?_
  refine lv_iadd C0.1 C0.2.1 dL_law_1012 ?_
  refine va_sld C0.1 C0.2.1 hX hbl hbA (lZ_S Z) (hin 3 (by omega) (by omega)) dL_law_1013 ?_
  refine lv_aload_n C0.1 C0.2.1 dL_law_1014 rfl (lv_at hl 0 rfl) ?_
  refine lv_iload C0.1 C0.2.1 dL_law_1015 (lv_at hl 4 rfl) ?_
  refine lv_iconst (v := nI 4) C0.1 C0.2.1 dL_law_1017 (by decide) ?_
  refine lv_iadd C0.1 C0.2.1 dL_law_1018 ?_
  refine va_sld C0.1 C0.2.1 hX hbl hbA (lZ_S Z) (hin 4 (by omega) (by omega)) dL_law_1019 ?_
  refine lv_aload_n C0.1 C0.2.1 dL_law_1020 rfl (lv_at hl 0 rfl) ?_
  refine lv_iload C0.1 C0.2.1 dL_law_1021 (lv_at hl 4 rfl) ?_
  refine lv_iconst (v := nI 5) C0.1 C0.2.1 dL_law_1023 (by decide) ?_
  refine lv_iadd C0.1 C0.2.1 dL_law_1024 ?_
  refine va_sld C0.1 C0.2.1 hX hbl hbA (lZ_S Z) (hin 5 (by omega) (by omega)) dL_law_1025 ?_
  refine lv_aload_n C0.1 C0.2.1 dL_law_1026 rfl (lv_at hl 3 rfl) ?_
  rw [← hp0]
  rw [← hp1]
  rw [← hp2]
  rw [← hp3]
  rw [← hp4]
  refine va_calli (vx_runSW (As := [.ref (d 0), .int p0, .int p1, .int p2, .int p3, .int p4, .ref o]) (rest := []) C0 (zL_seek l hlf D cyI cyJ cyO A bs hA (XM a cyI cyJ th df la fd he wt br dr fm sz om os st wa rv sk ++ [(o, .inl (cyJ, 1, .inr (.inl ov)))]) 10 o ov rfl d eA ol fd dc ds fw fn ff qw qn qf va tr 1000001 p0 p1 p2 p3 p4 code r fd' fw' fn' ff' va' tr' k h1 hc) (vx_cwSW 7 C0.2.2.2.2 gL_law_L_seek rfl rfl rfl (by decide +kernel) ⟨Nat.le_of_ble_eq_true rfl, Nat.le_of_ble_eq_true rfl⟩) ⟨lP_blind, lP_pre Z hN hT _⟩ rfl rfl hl.1 rfl (lv_room (Nat.le_of_ble_eq_true rfl)) dL_law_1027 ⟨by omega, by omega⟩) (lZ_S Z) (fun _ _ h => h) (fun _ h => h) (fun x ov' t1 H1 locs1 ht hvm hw hB _ _ hS => ?_)
  obtain ⟨hx, hu⟩ := hw
  have Z : lZ (XM a cyI cyJ th df la fd he wt br dr fm sz om os st wa rv sk ++ [(o, .inl (cyJ, 1, .inr (.inl ov')))]) D cyI cyJ cyO A bs d eA ol fd' dc ds fw' fn' ff' qw qn qf va' tr' s H1 locs1 := lZ_post Z ht hvm hB hS
  refine lv_istore (lv' := [(5, .int x), (0, .ref b), (1, .ref (d 0)), (2, .ref (a 0)), (3, .ref o), (4, .int x4)]) C0.1 C0.2.1 dL_law_1030 hl (by decide) rfl (fun ls hl => ?_)
  obtain ⟨P, g, rs, rr, at1, fa, ra, Z, hF⟩ := Z
  obtain ⟨YY, hYY⟩ : ∃ X : va_W, X = (XD d cyI cyJ cyO eA (d 5) (d 6) rs rr at1 fa ra ol fd' dc ds va' tr' ++ va_pl P g) := ⟨_, rfl⟩
  have Z : gZ D (gT cyI cyJ cyO) (XM a cyI cyJ th df la fd he wt br dr fm sz om os st wa rv sk ++ ((o, .inl (cyJ, 1, .inr (.inl ov'))) :: YY)) A bs s H1 locs1 := by rw [hYY]; exact Z
  refine lv_aload_n C0.1 C0.2.1 dL_law_1032 rfl (lv_at hl 3 rfl) ?_
  refine lv_aload_n C0.1 C0.2.1 dL_law_1033 rfl (lv_at hl 1 rfl) ?_
  refine lv_iload C0.1 C0.2.1 dL_law_1034 (lv_at hl 5 rfl) ?_
  refine lv_iconst (v := nI 1) C0.1 C0.2.1 dL_law_1036 (by decide) ?_
  refine lv_iadd C0.1 C0.2.1 dL_law_1037 ?_
  refine va_sld C0.1 C0.2.1 hX hbl hbA Z.2.2.2.1 (hin 1 (by omega) (by omega)) dL_law_1038 ?_
  refine lv_aload_n C0.1 C0.2.1 dL_law_1039 rfl (lv_at hl 1 rfl) ?_
  refine lv_iload C0.1 C0.2.1 dL_law_1040 (lv_at hl 5 rfl) ?_
  refine lv_iconst (v := nI 2) C0.1 C0.2.1 dL_law_1042 (by decide) ?_
  refine lv_iadd C0.1 C0.2.1 dL_law_1043 ?_
  refine va_sld C0.1 C0.2.1 hX hbl hbA Z.2.2.2.1 (hin 2 (by omega) (by omega)) dL_law_1044 ?_
  refine lv_aload_n C0.1 C0.2.1 dL_law_1045 rfl (lv_at hl 1 rfl) ?_
  refine lv_iload C0.1 C0.2.1 dL_law_1046 (lv_at hl 5 rfl) ?_
  refine lv_iconst (v := nI 3) C0.1 C0.2.1 dL_law_1048 (by decide) ?_
  refine lv_iadd C0.1 C0.2.1 dL_law_1049 ?_
  refine va_sld C0.1 C0.2.1 hX hbl hbA Z.2.2.2.1 (hin 3 (by omega) (by omega)) dL_law_1050 ?_
  refine lv_aload_n C0.1 C0.2.1 dL_law_1051 rfl (lv_at hl 1 rfl) ?_
  refine lv_iload C0.1 C0.2.1 dL_law_1052 (lv_at hl 5 rfl) ?_
  refine lv_iconst (v := nI 4) C0.1 C0.2.1 dL_law_1054 (by decide) ?_
  refine lv_iadd C0.1 C0.2.1 dL_law_1055 ?_
  refine va_sld C0.1 C0.2.1 hX hbl hbA Z.2.2.2.1 (hin 4 (by omega) (by omega)) dL_law_1056 ?_
  refine lv_aload_n C0.1 C0.2.1 dL_law_1057 rfl (lv_at hl 1 rfl) ?_
  refine lv_iload C0.1 C0.2.1 dL_law_1058 (lv_at hl 5 rfl) ?_
  refine lv_iconst (v := nI 5) C0.1 C0.2.1 dL_law_1060 (by decide) ?_
  refine lv_iadd C0.1 C0.2.1 dL_law_1061 ?_
  refine va_sld C0.1 C0.2.1 hX hbl hbA Z.2.2.2.1 (hin 5 (by omega) (by omega)) dL_law_1062 ?_
  rw [← hp0]
  rw [← hp1]
  rw [← hp2]
  rw [← hp3]
  rw [← hp4]
  refine g_callVi (b := a 0) (As := [.int p0, .int p1, .int p2, .int p3, .int p4]) (rest := []) C0 Z (zX4_seek l D cyI cyJ cyO A bs hA a ((o, .inl (cyJ, 1, .inr (.inl ov'))) :: YY) th df la fd he wt br dr fm sz om os st wa rv sk 1000001 p0 p1 p2 p3 p4 _ h2) (cwV 5 C0.2.2.2.2 gL_law_X4_seek rfl rfl rfl (by decide +kernel) ⟨Nat.le_of_ble_eq_true rfl, Nat.le_of_ble_eq_true rfl⟩) 0 (ci := 6) rfl rfl rfl rfl hl.1 rfl (Nat.le_of_ble_eq_true rfl) dL_law_1063 ⟨by omega, by omega⟩ (fun y v H2 locs2 hw Z => ?_)
  obtain ⟨hy1, hv⟩ := hw
  subst hv
  replace hy1 : r' = y := hy1
  have Z : gZ D (gT cyI cyJ cyO) (XM a cyI cyJ (nI k) df la fd' he' wt' br' dr fm' sz' om os st' wa' rv' sk' ++ ((o, .inl (cyJ, 1, .inr (.inl ov'))) :: YY)) A bs s H2 locs2 := Z
  refine lv_istore (lv' := [(6, .int y), (5, .int x), (0, .ref b), (1, .ref (d 0)), (2, .ref (a 0)), (3, .ref o), (4, .int x4)]) C0.1 C0.2.1 dL_law_1066 hl (by decide) rfl (fun ls hl => ?_)
  refine lt_I C hA Z (k := k) rfl hk hx hl (fun z => by rw [hu z, hrr z, hy1]) ⟨by omega, by omega⟩ (t := 1068) dL_law_1068 dL_law_1069 dL_law_1072 dL_law_1074 dL_law_1079 dL_law_1081 dL_law_1084 dL_law_1085 dL_law_1086 dL_law_1087 dL_law_1089 dL_law_1090 dL_law_1091 dL_law_1096 (by decide) (fun H3 locs3 Z => ?_)
  refine W.widen (k := cells + 4) (n := slots + 29) (by omega) (by omega) ?_
  refine kk H3 locs3 ls ⟨T', Dr, Q0, Lv, nI k, df, la, fd', he', wt', br', ol, dc, dr, fm', sz', om, os, st', wa', ds, fw', qw, fn', qn, ff', qf, va', tr', rv', sk', ov', ⟨P, g, rs, rr, at1, fa, ra, ?_, hF⟩, hd, hs', hy⟩ (lv_sub hl [2, 3, 4, 5, 6] rfl)
  rw [hYY] at Z
  exact Z
end LR
