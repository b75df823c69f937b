/-! the law's roads, one for each call -/
/-- what holds at the head of the loop: both programs stand alike -/
def LI (D : va_G) (cyI cyJ cyO : ClassId) (A : Nat → Prop) (bs : Nat) (a d : Nat → Nat) (eA o : Nat) (s : State) (H : Heap) (locs : List Loc) : Prop := ∃ (T : Nat → List Nat) (Dr : List Nat) (Q0 : Nat → Nat → List Nat) (Lv : Nat) (th : Int32) (df : Int32) (la : Int32) (fd : Int32) (he : Int32) (wt : Int32) (br : Int32) (ol : Int32) (dc : Int32) (dr : Nat → Int32) (fm : Nat → Int32) (sz : Nat → Int32) (om : Nat → Int32) (os : Nat → Int32) (st : Nat → Int32) (wa : Nat → Int32) (ds : Nat → Int32) (fw : Nat → Int32) (qw : Nat → Int32) (fn : Nat → Nat) (qn : Nat → Nat) (ff : Nat → Nat → Int32) (qf : Nat → Nat → Int32) (va : Nat → Int64) (tr : Nat → Int64) (rv : Nat → Int64) (sk : Nat → Int64) (ov : Nat → Int64), lZ (XM a cyI cyJ th df la fd he wt br dr fm sz om os st wa rv sk ++ [(o, .inl (cyJ, 1, .inr (.inl ov)))]) D cyI cyJ cyO A bs d eA ol fd dc ds fw fn ff qw qn qf va tr s H locs ∧ dDR Dr dc ds df dr ∧ dSH T fw fn ff va fm sz ∧ dLY Q0 Lv ol qw qn qf la om os
section LR
variable {p : Program} {l : Launch} {e : Env} {s : State} {m : MethodId} {below : List Frame} {meth : Method} {c : Code} {H : Heap} {locs : List Loc} {cells slots : Nat} {Q : State → Prop} {b L : Nat} {xs : Nat → Int32} {ls : Array Slot} {D : va_G} {A : Nat → Prop} {bs : Nat} {cyI cyJ cyO : ClassId} {a d : Nat → Nat} {eA o : Nat} {x4 : Int32}
/-! number -/
set_option maxRecDepth 20000 in
set_option maxHeartbeats 4000000 in
theorem lc_number (C : LC p l s m meth c b L xs A) (hA : ∀ q, bs ≤ q → A q) (I : LI D cyI cyJ cyO A bs a d eA o s H locs) (hin : ∀ j : Nat, 0 < j → j < 6 → vp_in (x4 + nI j) L) (hl : lv_has ls 8 [(0, .ref b), (1, .ref (d 0)), (2, .ref (a 0)), (3, .ref o), (4, .int x4)]) (hroom : cells + 4 ≤ room_1.cells ∧ slots + 29 ≤ room_1.slots) (kk : ∀ (H1 : Heap) (locs1 : List Loc) (ls1 : Array Slot), LI D cyI cyJ cyO A bs a d eA o s H1 locs1 → lv_has ls1 8 [(0, .ref b), (1, .ref (d 0)), (2, .ref (a 0)), (3, .ref o), (4, .int x4)] → W p l e room_1 s m #[Value.ref b] below meth c H1 locs1 (cells + 4) (slots + 29) Q (F0 m 1099 ls1 [])) : W p l e room_1 s m #[Value.ref b] below meth c H locs cells slots Q (F0 m 140 ls []) := by
  obtain ⟨C0, hrl, hX, hbl, hbA, hlf, hN, hT⟩ := id C
  obtain ⟨T, Dr, Q0, Lv, th, df, la, fd, he, wt, br, ol, dc, dr, fm, sz, om, os, st, wa, ds, fw, qw, fn, qn, ff, qf, va, tr, rv, sk, ov, Z, hd, hs, hy⟩ := I
  obtain ⟨p0, hp0⟩ : ∃ z : Int32, z = xs (x4 + nI 1).toNatClampNeg := ⟨_, rfl⟩
  obtain ⟨code, r, r', Dr', dc', ds', df', dr', k, h1, h2, hd', hcc⟩ := c_number (N := 1000001) hd th p0
  have hc : code = 0 ∧ k = 0 ∨ code = 2 ∧ k = 1 ∨ code = 3 ∧ k = 2 := by omega
  have hk : k < 10 := by omega
  have hrr : k = 0 → r = r' := by
    intro z
    rcases hcc with ⟨_, _, e⟩ | ⟨_, _⟩ | ⟨_, _⟩
    · exact e
    all_goals omega
  refine lv_aload_n C0.1 C0.2.1 dL_law_140 rfl (lv_at hl 1 rfl) ?_
  refine lv_aload_n C0.1 C0.2.1 dL_law_141 rfl (lv_at hl 0 rfl) ?_
  refine lv_iload C0.1 C0.2.1 dL_law_142 (lv_at hl 4 rfl) ?_
  refine lv_iconst (v := nI 1) C0.1 C0.2.1 dL_law_144 (by decide) ?_
  refine lv_iadd C0.1 C0.2.1 dL_law_145 ?_
  refine va_sld C0.1 C0.2.1 hX hbl hbA (lZ_S Z) (hin 1 (by omega) (by omega)) dL_law_146 ?_
  refine lv_aload_n C0.1 C0.2.1 dL_law_147 rfl (lv_at hl 3 rfl) ?_
  rw [← hp0]
  refine va_calli (vx_runSW (As := [.ref (d 0), .int p0, .ref o]) (rest := []) C0 (zL_number l hlf D cyI cyJ cyO A bs hA (XM a cyI cyJ th df la fd he wt br dr fm sz om os st wa rv sk ++ [(o, .inl (cyJ, 1, .inr (.inl ov)))]) 10 o ov rfl d eA ol fd dc ds fw fn ff qw qn qf va tr 1000001 p0 code r dc' ds' k h1 hc) (vx_cwSW 3 C0.2.2.2.2 gL_law_L_number rfl rfl rfl (by decide +kernel) ⟨Nat.le_of_ble_eq_true rfl, Nat.le_of_ble_eq_true rfl⟩) ⟨lP_blind, lP_pre Z hN hT _⟩ rfl rfl hl.1 rfl (lv_room (Nat.le_of_ble_eq_true rfl)) dL_law_148 ⟨by omega, by omega⟩) (lZ_S Z) (fun _ _ h => h) (fun _ h => h) (fun x ov' t1 H1 locs1 ht hvm hw hB _ _ hS => ?_)
  obtain ⟨hx, hu⟩ := hw
  have Z : lZ (XM a cyI cyJ th df la fd he wt br dr fm sz om os st wa rv sk ++ [(o, .inl (cyJ, 1, .inr (.inl ov')))]) D cyI cyJ cyO A bs d eA ol fd dc' ds' fw fn ff qw qn qf va tr s H1 locs1 := lZ_post Z ht hvm hB hS
  refine lv_istore (lv' := [(5, .int x), (0, .ref b), (1, .ref (d 0)), (2, .ref (a 0)), (3, .ref o), (4, .int x4)]) C0.1 C0.2.1 dL_law_151 hl (by decide) rfl (fun ls hl => ?_)
  obtain ⟨P, g, rs, rr, at1, fa, ra, Z, hF⟩ := Z
  obtain ⟨YY, hYY⟩ : ∃ X : va_W, X = (XD d cyI cyJ cyO eA (d 5) (d 6) rs rr at1 fa ra ol fd dc' ds' va tr ++ va_pl P g) := ⟨_, rfl⟩
  have Z : gZ D (gT cyI cyJ cyO) (XM a cyI cyJ th df la fd he wt br dr fm sz om os st wa rv sk ++ ((o, .inl (cyJ, 1, .inr (.inl ov'))) :: YY)) A bs s H1 locs1 := by rw [hYY]; exact Z
  refine lv_aload_n C0.1 C0.2.1 dL_law_153 rfl (lv_at hl 3 rfl) ?_
  refine lv_aload_n C0.1 C0.2.1 dL_law_154 rfl (lv_at hl 1 rfl) ?_
  refine lv_iload C0.1 C0.2.1 dL_law_155 (lv_at hl 5 rfl) ?_
  refine lv_iconst (v := nI 1) C0.1 C0.2.1 dL_law_157 (by decide) ?_
  refine lv_iadd C0.1 C0.2.1 dL_law_158 ?_
  refine va_sld C0.1 C0.2.1 hX hbl hbA Z.2.2.2.1 (hin 1 (by omega) (by omega)) dL_law_159 ?_
  rw [← hp0]
  refine g_callVi (b := a 0) (As := [.int p0]) (rest := []) C0 Z (zX4_number l D cyI cyJ cyO A bs hA a ((o, .inl (cyJ, 1, .inr (.inl ov'))) :: YY) th df la fd he wt br dr fm sz om os st wa rv sk 1000001 p0 _ h2) (cwV 1 C0.2.2.2.2 gL_law_X4_number rfl rfl rfl (by decide +kernel) ⟨Nat.le_of_ble_eq_true rfl, Nat.le_of_ble_eq_true rfl⟩) 0 (ci := 6) rfl rfl rfl rfl hl.1 rfl (Nat.le_of_ble_eq_true rfl) dL_law_160 ⟨by omega, by omega⟩ (fun y v H2 locs2 hw Z => ?_)
  obtain ⟨hy1, hv⟩ := hw
  subst hv
  replace hy1 : r' = y := hy1
  have Z : gZ D (gT cyI cyJ cyO) (XM a cyI cyJ (nI k) df' la fd he wt br dr' fm sz om os st wa rv sk ++ ((o, .inl (cyJ, 1, .inr (.inl ov'))) :: YY)) A bs s H2 locs2 := Z
  refine lv_istore (lv' := [(6, .int y), (5, .int x), (0, .ref b), (1, .ref (d 0)), (2, .ref (a 0)), (3, .ref o), (4, .int x4)]) C0.1 C0.2.1 dL_law_163 hl (by decide) rfl (fun ls hl => ?_)
  refine lt_I C hA Z (k := k) rfl hk hx hl (fun z => by rw [hu z, hrr z, hy1]) ⟨by omega, by omega⟩ (t := 165) dL_law_165 dL_law_166 dL_law_169 dL_law_171 dL_law_176 dL_law_178 dL_law_181 dL_law_182 dL_law_183 dL_law_184 dL_law_186 dL_law_187 dL_law_188 dL_law_193 (by decide) (fun H3 locs3 Z => ?_)
  refine W.widen (k := cells + 4) (n := slots + 29) (by omega) (by omega) ?_
  refine kk H3 locs3 ls ⟨T, Dr', Q0, Lv, nI k, df', la, fd, he, wt, br, ol, dc', dr', fm, sz, om, os, st, wa, ds', fw, qw, fn, qn, ff, qf, va, tr, rv, sk, ov', ⟨P, g, rs, rr, at1, fa, ra, ?_, hF⟩, hd', hs, hy⟩ (lv_sub hl [2, 3, 4, 5, 6] rfl)
  rw [hYY] at Z
  exact Z
/-! cell -/
set_option maxRecDepth 20000 in
set_option maxHeartbeats 4000000 in
theorem lc_cell (C : LC p l s m meth c b L xs A) (hA : ∀ q, bs ≤ q → A q) (I : LI D cyI cyJ cyO A bs a d eA o s H locs) (hin : ∀ j : Nat, 0 < j → j < 6 → vp_in (x4 + nI j) L) (hl : lv_has ls 8 [(0, .ref b), (1, .ref (d 0)), (2, .ref (a 0)), (3, .ref o), (4, .int x4)]) (hroom : cells + 4 ≤ room_1.cells ∧ slots + 29 ≤ room_1.slots) (kk : ∀ (H1 : Heap) (locs1 : List Loc) (ls1 : Array Slot), LI D cyI cyJ cyO A bs a d eA o s H1 locs1 → lv_has ls1 8 [(0, .ref b), (1, .ref (d 0)), (2, .ref (a 0)), (3, .ref o), (4, .int x4)] → W p l e room_1 s m #[Value.ref b] below meth c H1 locs1 (cells + 4) (slots + 29) Q (F0 m 1099 ls1 [])) : W p l e room_1 s m #[Value.ref b] below meth c H locs cells slots Q (F0 m 196 ls []) := by
  obtain ⟨C0, hrl, hX, hbl, hbA, hlf, hN, hT⟩ := id C
  obtain ⟨T, Dr, Q0, Lv, th, df, la, fd, he, wt, br, ol, dc, dr, fm, sz, om, os, st, wa, ds, fw, qw, fn, qn, ff, qf, va, tr, rv, sk, ov, Z, hd, hs, hy⟩ := I
  obtain ⟨p0, hp0⟩ : ∃ z : Int32, z = xs (x4 + nI 1).toNatClampNeg := ⟨_, rfl⟩
  obtain ⟨code, r, r', Dr', dc', ds', df', dr', k, h1, h2, hd', hcc⟩ := c_cell (N := 1000001) hd th p0
  have hc : code = 0 ∧ k = 0 ∨ code = 1 ∧ k = 1 ∨ code = 3 ∧ k = 2 := by omega
  have hk : k < 10 := by omega
  have hrr : k = 0 → r = r' := by
    intro z
    rcases hcc with ⟨_, _, e⟩ | ⟨_, _⟩ | ⟨_, _⟩
    · exact e
    all_goals omega
  refine lv_aload_n C0.1 C0.2.1 dL_law_196 rfl (lv_at hl 1 rfl) ?_
  refine lv_aload_n C0.1 C0.2.1 dL_law_197 rfl (lv_at hl 0 rfl) ?_
  refine lv_iload C0.1 C0.2.1 dL_law_198 (lv_at hl 4 rfl) ?_
  refine lv_iconst (v := nI 1) C0.1 C0.2.1 dL_law_200 (by decide) ?_
  refine lv_iadd C0.1 C0.2.1 dL_law_201 ?_
  refine va_sld C0.1 C0.2.1 hX hbl hbA (lZ_S Z) (hin 1 (by omega) (by omega)) dL_law_202 ?_
  refine lv_aload_n C0.1 C0.2.1 dL_law_203 rfl (lv_at hl 3 rfl) ?_
  rw [← hp0]
  refine va_calli (vx_runSW (As := [.ref (d 0), .int p0, .ref o]) (rest := []) C0 (zL_cell l hlf D cyI cyJ cyO A bs hA (XM a cyI cyJ th df la fd he wt br dr fm sz om os st wa rv sk ++ [(o, .inl (cyJ, 1, .inr (.inl ov)))]) 10 o ov rfl d eA ol fd dc ds fw fn ff qw qn qf va tr 1000001 p0 code r dc' ds' k h1 hc) (vx_cwSW 3 C0.2.2.2.2 gL_law_L_cell rfl rfl rfl (by decide +kernel) ⟨Nat.le_of_ble_eq_true rfl, Nat.le_of_ble_eq_true rfl⟩) ⟨lP_blind, lP_pre Z hN hT _⟩ rfl rfl hl.1 rfl (lv_room (Nat.le_of_ble_eq_true rfl)) dL_law_204 ⟨by omega, by omega⟩) (lZ_S Z) (fun _ _ h => h) (fun _ h => h) (fun x ov' t1 H1 locs1 ht hvm hw hB _ _ hS => ?_)
  obtain ⟨hx, hu⟩ := hw
  have Z : lZ (XM a cyI cyJ th df la fd he wt br dr fm sz om os st wa rv sk ++ [(o, .inl (cyJ, 1, .inr (.inl ov')))]) D cyI cyJ cyO A bs d eA ol fd dc' ds' fw fn ff qw qn qf va tr s H1 locs1 := lZ_post Z ht hvm hB hS
  refine lv_istore (lv' := [(5, .int x), (0, .ref b), (1, .ref (d 0)), (2, .ref (a 0)), (3, .ref o), (4, .int x4)]) C0.1 C0.2.1 dL_law_207 hl (by decide) rfl (fun ls hl => ?_)
  obtain ⟨P, g, rs, rr, at1, fa, ra, Z, hF⟩ := Z
  obtain ⟨YY, hYY⟩ : ∃ X : va_W, X = (XD d cyI cyJ cyO eA (d 5) (d 6) rs rr at1 fa ra ol fd dc' ds' va tr ++ va_pl P g) := ⟨_, rfl⟩
  have Z : gZ D (gT cyI cyJ cyO) (XM a cyI cyJ th df la fd he wt br dr fm sz om os st wa rv sk ++ ((o, .inl (cyJ, 1, .inr (.inl ov'))) :: YY)) A bs s H1 locs1 := by rw [hYY]; exact Z
  refine lv_aload_n C0.1 C0.2.1 dL_law_209 rfl (lv_at hl 3 rfl) ?_
  refine lv_aload_n C0.1 C0.2.1 dL_law_210 rfl (lv_at hl 1 rfl) ?_
  refine lv_iload C0.1 C0.2.1 dL_law_211 (lv_at hl 5 rfl) ?_
  refine lv_iconst (v := nI 1) C0.1 C0.2.1 dL_law_213 (by decide) ?_
  refine lv_iadd C0.1 C0.2.1 dL_law_214 ?_
  refine va_sld C0.1 C0.2.1 hX hbl hbA Z.2.2.2.1 (hin 1 (by omega) (by omega)) dL_law_215 ?_
  rw [← hp0]
  refine g_callVi (b := a 0) (As := [.int p0]) (rest := []) C0 Z (zX4_cell l D cyI cyJ cyO A bs hA a ((o, .inl (cyJ, 1, .inr (.inl ov'))) :: YY) th df la fd he wt br dr fm sz om os st wa rv sk 1000001 p0 _ h2) (cwV 1 C0.2.2.2.2 gL_law_X4_cell rfl rfl rfl (by decide +kernel) ⟨Nat.le_of_ble_eq_true rfl, Nat.le_of_ble_eq_true rfl⟩) 0 (ci := 6) rfl rfl rfl rfl hl.1 rfl (Nat.le_of_ble_eq_true rfl) dL_law_216 ⟨by omega, by omega⟩ (fun y v H2 locs2 hw Z => ?_)
  obtain ⟨hy1, hv⟩ := hw
  subst hv
  replace hy1 : r' = y := hy1
  have Z : gZ D (gT cyI cyJ cyO) (XM a cyI cyJ (nI k) df' la fd he wt br dr' fm sz om os st wa rv sk ++ ((o, .inl (cyJ, 1, .inr (.inl ov'))) :: YY)) A bs s H2 locs2 := Z
  refine lv_istore (lv' := [(6, .int y), (5, .int x), (0, .ref b), (1, .ref (d 0)), (2, .ref (a 0)), (3, .ref o), (4, .int x4)]) C0.1 C0.2.1 dL_law_219 hl (by decide) rfl (fun ls hl => ?_)
  refine lt_I C hA Z (k := k) rfl hk hx hl (fun z => by rw [hu z, hrr z, hy1]) ⟨by omega, by omega⟩ (t := 221) dL_law_221 dL_law_222 dL_law_225 dL_law_227 dL_law_232 dL_law_234 dL_law_237 dL_law_238 dL_law_239 dL_law_240 dL_law_242 dL_law_243 dL_law_244 dL_law_249 (by decide) (fun H3 locs3 Z => ?_)
  refine W.widen (k := cells + 4) (n := slots + 29) (by omega) (by omega) ?_
  refine kk H3 locs3 ls ⟨T, Dr', Q0, Lv, nI k, df', la, fd, he, wt, br, ol, dc', dr', fm, sz, om, os, st, wa, ds', fw, qw, fn, qn, ff, qf, va, tr, rv, sk, ov', ⟨P, g, rs, rr, at1, fa, ra, ?_, hF⟩, hd', hs, hy⟩ (lv_sub hl [2, 3, 4, 5, 6] rfl)
  rw [hYY] at Z
  exact Z
/-! sign -/
set_option maxRecDepth 20000 in
set_option maxHeartbeats 4000000 in
theorem lc_sign (C : LC p l s m meth c b L xs A) (hA : ∀ q, bs ≤ q → A q) (I : LI D cyI cyJ cyO A bs a d eA o s H locs) (hin : ∀ j : Nat, 0 < j → j < 6 → vp_in (x4 + nI j) L) (hl : lv_has ls 8 [(0, .ref b), (1, .ref (d 0)), (2, .ref (a 0)), (3, .ref o), (4, .int x4)]) (hroom : cells + 4 ≤ room_1.cells ∧ slots + 29 ≤ room_1.slots) (kk : ∀ (H1 : Heap) (locs1 : List Loc) (ls1 : Array Slot), LI D cyI cyJ cyO A bs a d eA o s H1 locs1 → lv_has ls1 8 [(0, .ref b), (1, .ref (d 0)), (2, .ref (a 0)), (3, .ref o), (4, .int x4)] → W p l e room_1 s m #[Value.ref b] below meth c H1 locs1 (cells + 4) (slots + 29) Q (F0 m 1099 ls1 [])) : W p l e room_1 s m #[Value.ref b] below meth c H locs cells slots Q (F0 m 252 ls []) := by
  obtain ⟨C0, hrl, hX, hbl, hbA, hlf, hN, hT⟩ := id C
  obtain ⟨T, Dr, Q0, Lv, th, df, la, fd, he, wt, br, ol, dc, dr, fm, sz, om, os, st, wa, ds, fw, qw, fn, qn, ff, qf, va, tr, rv, sk, ov, Z, hd, hs, hy⟩ := I
  obtain ⟨p0, hp0⟩ : ∃ z : Int32, z = xs (x4 + nI 1).toNatClampNeg := ⟨_, rfl⟩
  obtain ⟨code, r, r', Dr', dc', ds', df', dr', k, h1, h2, hd', hcc⟩ := c_sign (N := 1000001) hd th p0
  have hc : code = 0 ∧ k = 0 ∨ code = 2 ∧ k = 1 ∨ code = 3 ∧ k = 2 := by omega
  have hk : k < 10 := by omega
  have hrr : k = 0 → r = r' := by
    intro z
    rcases hcc with ⟨_, _, e⟩ | ⟨_, _⟩ | ⟨_, _⟩
    · exact e
    all_goals omega
  refine lv_aload_n C0.1 C0.2.1 dL_law_252 rfl (lv_at hl 1 rfl) ?_
  refine lv_aload_n C0.1 C0.2.1 dL_law_253 rfl (lv_at hl 0 rfl) ?_
  refine lv_iload C0.1 C0.2.1 dL_law_254 (lv_at hl 4 rfl) ?_
  refine lv_iconst (v := nI 1) C0.1 C0.2.1 dL_law_256 (by decide) ?_
  refine lv_iadd C0.1 C0.2.1 dL_law_257 ?_
  refine va_sld C0.1 C0.2.1 hX hbl hbA (lZ_S Z) (hin 1 (by omega) (by omega)) dL_law_258 ?_
  refine lv_aload_n C0.1 C0.2.1 dL_law_259 rfl (lv_at hl 3 rfl) ?_
  rw [← hp0]
  refine va_calli (vx_runSW (As := [.ref (d 0), .int p0, .ref o]) (rest := []) C0 (zL_sign l hlf D cyI cyJ cyO A bs hA (XM a cyI cyJ th df la fd he wt br dr fm sz om os st wa rv sk ++ [(o, .inl (cyJ, 1, .inr (.inl ov)))]) 10 o ov rfl d eA ol fd dc ds fw fn ff qw qn qf va tr 1000001 p0 code r dc' ds' k h1 hc) (vx_cwSW 3 C0.2.2.2.2 gL_law_L_sign rfl rfl rfl (by decide +kernel) ⟨Nat.le_of_ble_eq_true rfl, Nat.le_of_ble_eq_true rfl⟩) ⟨lP_blind, lP_pre Z hN hT _⟩ rfl rfl hl.1 rfl (lv_room (Nat.le_of_ble_eq_true rfl)) dL_law_260 ⟨by omega, by omega⟩) (lZ_S Z) (fun _ _ h => h) (fun _ h => h) (fun x ov' t1 H1 locs1 ht hvm hw hB _ _ hS => ?_)
  obtain ⟨hx, hu⟩ := hw
  have Z : lZ (XM a cyI cyJ th df la fd he wt br dr fm sz om os st wa rv sk ++ [(o, .inl (cyJ, 1, .inr (.inl ov')))]) D cyI cyJ cyO A bs d eA ol fd dc' ds' fw fn ff qw qn qf va tr s H1 locs1 := lZ_post Z ht hvm hB hS
  refine lv_istore (lv' := [(5, .int x), (0, .ref b), (1, .ref (d 0)), (2, .ref (a 0)), (3, .ref o), (4, .int x4)]) C0.1 C0.2.1 dL_law_263 hl (by decide) rfl (fun ls hl => ?_)
  obtain ⟨P, g, rs, rr, at1, fa, ra, Z, hF⟩ := Z
  obtain ⟨YY, hYY⟩ : ∃ X : va_W, X = (XD d cyI cyJ cyO eA (d 5) (d 6) rs rr at1 fa ra ol fd dc' ds' va tr ++ va_pl P g) := ⟨_, rfl⟩
  have Z : gZ D (gT cyI cyJ cyO) (XM a cyI cyJ th df la fd he wt br dr fm sz om os st wa rv sk ++ ((o, .inl (cyJ, 1, .inr (.inl ov'))) :: YY)) A bs s H1 locs1 := by rw [hYY]; exact Z
  refine lv_aload_n C0.1 C0.2.1 dL_law_265 rfl (lv_at hl 3 rfl) ?_
  refine lv_aload_n C0.1 C0.2.1 dL_law_266 rfl (lv_at hl 1 rfl) ?_
  refine lv_iload C0.1 C0.2.1 dL_law_267 (lv_at hl 5 rfl) ?_
  refine lv_iconst (v := nI 1) C0.1 C0.2.1 dL_law_269 (by decide) ?_
  refine lv_iadd C0.1 C0.2.1 dL_law_270 ?_
  refine va_sld C0.1 C0.2.1 hX hbl hbA Z.2.2.2.1 (hin 1 (by omega) (by omega)) dL_law_271 ?_
  rw [← hp0]
  refine g_callVi (b := a 0) (As := [.int p0]) (rest := []) C0 Z (zX4_sign l D cyI cyJ cyO A bs hA a ((o, .inl (cyJ, 1, .inr (.inl ov'))) :: YY) th df la fd he wt br dr fm sz om os st wa rv sk 1000001 p0 _ h2) (cwV 1 C0.2.2.2.2 gL_law_X4_sign rfl rfl rfl (by decide +kernel) ⟨Nat.le_of_ble_eq_true rfl, Nat.le_of_ble_eq_true rfl⟩) 0 (ci := 6) rfl rfl rfl rfl hl.1 rfl (Nat.le_of_ble_eq_true rfl) dL_law_272 ⟨by omega, by omega⟩ (fun y v H2 locs2 hw Z => ?_)
  obtain ⟨hy1, hv⟩ := hw
  subst hv
  replace hy1 : r' = y := hy1
  have Z : gZ D (gT cyI cyJ cyO) (XM a cyI cyJ (nI k) df' la fd he wt br dr' fm sz om os st wa rv sk ++ ((o, .inl (cyJ, 1, .inr (.inl ov'))) :: YY)) A bs s H2 locs2 := Z
  refine lv_istore (lv' := [(6, .int y), (5, .int x), (0, .ref b), (1, .ref (d 0)), (2, .ref (a 0)), (3, .ref o), (4, .int x4)]) C0.1 C0.2.1 dL_law_275 hl (by decide) rfl (fun ls hl => ?_)
  refine lt_I C hA Z (k := k) rfl hk hx hl (fun z => by rw [hu z, hrr z, hy1]) ⟨by omega, by omega⟩ (t := 277) dL_law_277 dL_law_278 dL_law_281 dL_law_283 dL_law_288 dL_law_290 dL_law_293 dL_law_294 dL_law_295 dL_law_296 dL_law_298 dL_law_299 dL_law_300 dL_law_305 (by decide) (fun H3 locs3 Z => ?_)
  refine W.widen (k := cells + 4) (n := slots + 29) (by omega) (by omega) ?_
  refine kk H3 locs3 ls ⟨T, Dr', Q0, Lv, nI k, df', la, fd, he, wt, br, ol, dc', dr', fm, sz, om, os, st, wa, ds', fw, qw, fn, qn, ff, qf, va, tr, rv, sk, ov', ⟨P, g, rs, rr, at1, fa, ra, ?_, hF⟩, hd', hs, hy⟩ (lv_sub hl [2, 3, 4, 5, 6] rfl)
  rw [hYY] at Z
  exact Z
/-! wipe -/
set_option maxRecDepth 20000 in
set_option maxHeartbeats 4000000 in
theorem lc_wipe (C : LC p l s m meth c b L xs A) (hA : ∀ q, bs ≤ q → A q) (I : LI D cyI cyJ cyO A bs a d eA o s H locs) (hin : ∀ j : Nat, 0 < j → j < 6 → vp_in (x4 + nI j) L) (hl : lv_has ls 8 [(0, .ref b), (1, .ref (d 0)), (2, .ref (a 0)), (3, .ref o), (4, .int x4)]) (hroom : cells + 4 ≤ room_1.cells ∧ slots + 29 ≤ room_1.slots) (kk : ∀ (H1 : Heap) (locs1 : List Loc) (ls1 : Array Slot), LI D cyI cyJ cyO A bs a d eA o s H1 locs1 → lv_has ls1 8 [(0, .ref b), (1, .ref (d 0)), (2, .ref (a 0)), (3, .ref o), (4, .int x4)] → W p l e room_1 s m #[Value.ref b] below meth c H1 locs1 (cells + 4) (slots + 29) Q (F0 m 1099 ls1 [])) : W p l e room_1 s m #[Value.ref b] below meth c H locs cells slots Q (F0 m 308 ls []) := by
  obtain ⟨C0, hrl, hX, hbl, hbA, hlf, hN, hT⟩ := id C
  obtain ⟨T, Dr, Q0, Lv, th, df, la, fd, he, wt, br, ol, dc, dr, fm, sz, om, os, st, wa, ds, fw, qw, fn, qn, ff, qf, va, tr, rv, sk, ov, Z, hd, hs, hy⟩ := I
  have hdd : dc = df := hd.2.1.trans hd.2.2.2.1.symm
  obtain ⟨P, g, rs, rr, at1, fa, ra, Z1, hF⟩ := Z
  refine lv_aload_n C0.1 C0.2.1 dL_law_308 rfl (lv_at hl 1 rfl) ?_
  refine va_calli (va_runV (b := d 0) (C := RX3) (As := []) (rest := []) C0 (zX3_wipe l D cyI cyJ cyO (aA A (XM a cyI cyJ th df la fd he wt br dr fm sz om os st wa rv sk ++ [(o, .inl (cyJ, 1, .inr (.inl ov)))])) H.size (fr_pre Z1) P g d eA ol fd dc ds fw fn ff qw qn qf va tr 1000001 _ rfl) (cwV 0 C0.2.2.2.2 gL_law_X3_wipe rfl rfl rfl (by decide +kernel) ⟨Nat.le_of_ble_eq_true rfl, Nat.le_of_ble_eq_true rfl⟩) ⟨dP_blind, va_recv Z1.2.1 (fr_P Z1) (ci := 5) (q0 := 0) rfl rfl, fr_dP Z1 hF hN hT _⟩ rfl rfl hl.1 rfl (lv_room (Nat.le_of_ble_eq_true rfl)) dL_law_309 ⟨by omega, by omega⟩) Z1.2.2.2.1 (fun _ _ h => h.1) (fun _ h => h.1) (fun x u1 t1 H1 locs1 ht hvm hw hB _ hk1 hS => ?_)
  obtain ⟨hx, hu⟩ := hw
  subst hu
  replace hx : dc = x := hx
  have Z : lZ (XM a cyI cyJ th df la fd he wt br dr fm sz om os st wa rv sk ++ [(o, .inl (cyJ, 1, .inr (.inl ov)))]) D cyI cyJ cyO A bs d eA ol fd 0 ds fw fn ff qw qn qf va tr s H1 locs1 := fr_dZ Z1 ht hvm hB hk1 hS
  obtain ⟨P2, g2, rs2, rr2, at2, fa2, ra2, Z, hF2⟩ := Z
  obtain ⟨YY, hYY⟩ : ∃ X : va_W, X = (XD d cyI cyJ cyO eA (d 5) (d 6) rs2 rr2 at2 fa2 ra2 ol fd 0 ds va tr ++ va_pl P2 g2) := ⟨_, rfl⟩
  have Z : gZ D (gT cyI cyJ cyO) (XM a cyI cyJ th df la fd he wt br dr fm sz om os st wa rv sk ++ ((o, .inl (cyJ, 1, .inr (.inl ov))) :: YY)) A bs s H1 locs1 := by rw [hYY]; exact Z
  refine lv_aload_n C0.1 C0.2.1 dL_law_312 rfl (lv_at hl 2 rfl) ?_
  refine g_callVi (b := a 0) (As := []) (rest := [.int x]) C0 Z (zX4_wipe l D cyI cyJ cyO A bs hA a ((o, .inl (cyJ, 1, .inr (.inl ov))) :: YY) th df la fd he wt br dr fm sz om os st wa rv sk 1000001 _ rfl) (cwV 0 C0.2.2.2.2 gL_law_X4_wipe rfl rfl rfl (by decide +kernel) ⟨Nat.le_of_ble_eq_true rfl, Nat.le_of_ble_eq_true rfl⟩) 0 (ci := 6) rfl rfl rfl rfl hl.1 rfl (Nat.le_of_ble_eq_true rfl) dL_law_313 ⟨by omega, by omega⟩ (fun y v H2 locs2 hw Z => ?_)
  obtain ⟨hy1, hv⟩ := hw
  subst hv
  replace hy1 : df = y := hy1
  have Z : gZ D (gT cyI cyJ cyO) (XM a cyI cyJ 0 0 la fd he wt br dr fm sz om os st wa rv sk ++ ((o, .inl (cyJ, 1, .inr (.inl ov))) :: YY)) A bs s H2 locs2 := Z
  refine lv_icmp_eq (tgt := 1099) C0.1 C0.2.1 dL_law_316 (by decide) (fun _ => ?_) (fun hne => absurd (show x = y from by rw [← hx, ← hy1, hdd]) hne)
  refine W.widen (k := cells + 4) (n := slots + 29) (by omega) (by omega) ?_
  refine kk H2 locs2 ls ⟨T, [], Q0, Lv, 0, 0, la, fd, he, wt, br, ol, 0, dr, fm, sz, om, os, st, wa, ds, fw, qw, fn, qn, ff, qf, va, tr, rv, sk, ov, ⟨P2, g2, rs2, rr2, at2, fa2, ra2, ?_, hF2⟩, dDR_nil, hs, hy⟩ hl
  rw [hYY] at Z
  exact Z
/-! fault -/
set_option maxRecDepth 20000 in
set_option maxHeartbeats 4000000 in
theorem lc_fault (C : LC p l s m meth c b L xs A) (hA : ∀ q, bs ≤ q → A q) (I : LI D cyI cyJ cyO A bs a d eA o s H locs) (hin : ∀ j : Nat, 0 < j → j < 6 → vp_in (x4 + nI j) L) (hl : lv_has ls 8 [(0, .ref b), (1, .ref (d 0)), (2, .ref (a 0)), (3, .ref o), (4, .int x4)]) (hroom : cells + 4 ≤ room_1.cells ∧ slots + 29 ≤ room_1.slots) (kk : ∀ (H1 : Heap) (locs1 : List Loc) (ls1 : Array Slot), LI D cyI cyJ cyO A bs a d eA o s H1 locs1 → lv_has ls1 8 [(0, .ref b), (1, .ref (d 0)), (2, .ref (a 0)), (3, .ref o), (4, .int x4)] → W p l e room_1 s m #[Value.ref b] below meth c H1 locs1 (cells + 4) (slots + 29) Q (F0 m 1099 ls1 [])) : W p l e room_1 s m #[Value.ref b] below meth c H locs cells slots Q (F0 m 321 ls []) := by
  obtain ⟨C0, hrl, hX, hbl, hbA, hlf, hN, hT⟩ := id C
  obtain ⟨T, Dr, Q0, Lv, th, df, la, fd, he, wt, br, ol, dc, dr, fm, sz, om, os, st, wa, ds, fw, qw, fn, qn, ff, qf, va, tr, rv, sk, ov, Z, hd, hs, hy⟩ := I
  obtain ⟨r, h1, h2⟩ := c_fault (N := 1000001) hd (by omega) th
  obtain ⟨P, g, rs, rr, at1, fa, ra, Z1, hF⟩ := Z
  refine lv_aload_n C0.1 C0.2.1 dL_law_321 rfl (lv_at hl 1 rfl) ?_
  refine va_calli (va_runV (b := d 0) (C := RX3) (As := []) (rest := []) C0 (zX3_fault l D cyI cyJ cyO (aA A (XM a cyI cyJ th df la fd he wt br dr fm sz om os st wa rv sk ++ [(o, .inl (cyJ, 1, .inr (.inl ov)))])) H.size (fr_pre Z1) P g d eA ol fd dc ds fw fn ff qw qn qf va tr 1000001 _ h1) (cwV 0 C0.2.2.2.2 gL_law_X3_fault rfl rfl rfl (by decide +kernel) ⟨Nat.le_of_ble_eq_true rfl, Nat.le_of_ble_eq_true rfl⟩) ⟨dP_blind, va_recv Z1.2.1 (fr_P Z1) (ci := 5) (q0 := 0) rfl rfl, fr_dP Z1 hF hN hT _⟩ rfl rfl hl.1 rfl (lv_room (Nat.le_of_ble_eq_true rfl)) dL_law_322 ⟨by omega, by omega⟩) Z1.2.2.2.1 (fun _ _ h => h.1) (fun _ h => h.1) (fun x u1 t1 H1 locs1 ht hvm hw hB _ hk1 hS => ?_)
  replace hx : r = x := hw
  have Z : lZ (XM a cyI cyJ th df la fd he wt br dr fm sz om os st wa rv sk ++ [(o, .inl (cyJ, 1, .inr (.inl ov)))]) D cyI cyJ cyO A bs d eA ol fd dc ds fw fn ff qw qn qf va tr s H1 locs1 := fr_dZ Z1 ht hvm hB hk1 hS
  obtain ⟨P2, g2, rs2, rr2, at2, fa2, ra2, Z, hF2⟩ := Z
  obtain ⟨YY, hYY⟩ : ∃ X : va_W, X = (XD d cyI cyJ cyO eA (d 5) (d 6) rs2 rr2 at2 fa2 ra2 ol fd dc ds va tr ++ va_pl P2 g2) := ⟨_, rfl⟩
  have Z : gZ D (gT cyI cyJ cyO) (XM a cyI cyJ th df la fd he wt br dr fm sz om os st wa rv sk ++ ((o, .inl (cyJ, 1, .inr (.inl ov))) :: YY)) A bs s H1 locs1 := by rw [hYY]; exact Z
  refine lv_aload_n C0.1 C0.2.1 dL_law_325 rfl (lv_at hl 2 rfl) ?_
  refine g_callVi (b := a 0) (As := []) (rest := [.int x]) C0 Z (zX4_fault l D cyI cyJ cyO A bs hA a ((o, .inl (cyJ, 1, .inr (.inl ov))) :: YY) th df la fd he wt br dr fm sz om os st wa rv sk 1000001 _ h2) (cwV 0 C0.2.2.2.2 gL_law_X4_fault rfl rfl rfl (by decide +kernel) ⟨Nat.le_of_ble_eq_true rfl, Nat.le_of_ble_eq_true rfl⟩) 0 (ci := 6) rfl rfl rfl rfl hl.1 rfl (Nat.le_of_ble_eq_true rfl) dL_law_326 ⟨by omega, by omega⟩ (fun y v H2 locs2 hw Z => ?_)
  obtain ⟨hy1, hv⟩ := hw
  subst hv
  replace hy1 : r = y := hy1
  have Z : gZ D (gT cyI cyJ cyO) (XM a cyI cyJ 0 df la fd he wt br dr fm sz om os st wa rv sk ++ ((o, .inl (cyJ, 1, .inr (.inl ov))) :: YY)) A bs s H2 locs2 := Z
  refine lv_icmp_eq (tgt := 1099) C0.1 C0.2.1 dL_law_329 (by decide) (fun _ => ?_) (fun hne => absurd (show x = y from by rw [← hx, ← hy1]) hne)
  refine W.widen (k := cells + 4) (n := slots + 29) (by omega) (by omega) ?_
  refine kk H2 locs2 ls ⟨T, Dr, Q0, Lv, 0, df, la, fd, he, wt, br, ol, dc, dr, fm, sz, om, os, st, wa, ds, fw, qw, fn, qn, ff, qf, va, tr, rv, sk, ov, ⟨P2, g2, rs2, rr2, at2, fa2, ra2, ?_, hF2⟩, hd, hs, hy⟩ hl
  rw [hYY] at Z
  exact Z
/-! set -/
set_option maxRecDepth 20000 in
set_option maxHeartbeats 4000000 in
theorem lc_set (C : LC p l s m meth c b L xs A) (hA : ∀ q, bs ≤ q → A q) (I : LI D cyI cyJ cyO A bs a d eA o s H locs) (hin : ∀ j : Nat, 0 < j → j < 6 → vp_in (x4 + nI j) L) (hl : lv_has ls 8 [(0, .ref b), (1, .ref (d 0)), (2, .ref (a 0)), (3, .ref o), (4, .int x4)]) (hroom : cells + 4 ≤ room_1.cells ∧ slots + 29 ≤ room_1.slots) (kk : ∀ (H1 : Heap) (locs1 : List Loc) (ls1 : Array Slot), LI D cyI cyJ cyO A bs a d eA o s H1 locs1 → lv_has ls1 8 [(0, .ref b), (1, .ref (d 0)), (2, .ref (a 0)), (3, .ref o), (4, .int x4)] → W p l e room_1 s m #[Value.ref b] below meth c H1 locs1 (cells + 4) (slots + 29) Q (F0 m 1099 ls1 [])) : W p l e room_1 s m #[Value.ref b] below meth c H locs cells slots Q (F0 m 334 ls []) := by
  obtain ⟨C0, hrl, hX, hbl, hbA, hlf, hN, hT⟩ := id C
  obtain ⟨T, Dr, Q0, Lv, th, df, la, fd, he, wt, br, ol, dc, dr, fm, sz, om, os, st, wa, ds, fw, qw, fn, qn, ff, qf, va, tr, rv, sk, ov, Z, hd, hs, hy⟩ := I
  obtain ⟨p0, hp0⟩ : ∃ z : Int32, z = xs (x4 + nI 1).toNatClampNeg := ⟨_, rfl⟩
  obtain ⟨code, r, r', Dr', T', dc', fd', fw', fn', ff', va', df', fm', sz', k, h1, h2, hd', hs', hcc⟩ := c_set (N := 1000001) hd hs (by omega) fd th p0
  have hc : code = 0 ∧ k = 0 ∨ code = 1 ∧ k = 1 ∨ code = 2 ∧ k = 2 ∨ code = 3 ∧ k = 3 := by omega
  have hk : k < 10 := by omega
  have hrr : k = 0 → r = r' := by
    intro z
    rcases hcc with ⟨_, _, e⟩ | ⟨_, _⟩ | ⟨_, _⟩ | ⟨_, _⟩
    · exact e
    all_goals omega
  refine lv_aload_n C0.1 C0.2.1 dL_law_334 rfl (lv_at hl 1 rfl) ?_
  refine lv_aload_n C0.1 C0.2.1 dL_law_335 rfl (lv_at hl 0 rfl) ?_
  refine lv_iload C0.1 C0.2.1 dL_law_336 (lv_at hl 4 rfl) ?_
  refine lv_iconst (v := nI 1) C0.1 C0.2.1 dL_law_338 (by decide) ?_
  refine lv_iadd C0.1 C0.2.1 dL_law_339 ?_
  refine va_sld C0.1 C0.2.1 hX hbl hbA (lZ_S Z) (hin 1 (by omega) (by omega)) dL_law_340 ?_
  refine lv_aload_n C0.1 C0.2.1 dL_law_341 rfl (lv_at hl 3 rfl) ?_
  rw [← hp0]
  refine va_calli (vx_runSW (As := [.ref (d 0), .int p0, .ref o]) (rest := []) C0 (zL_set l hlf D cyI cyJ cyO A bs hA (XM a cyI cyJ th df la fd he wt br dr fm sz om os st wa rv sk ++ [(o, .inl (cyJ, 1, .inr (.inl ov)))]) 10 o ov rfl d eA ol fd dc ds fw fn ff qw qn qf va tr 1000001 p0 code r fd' dc' fw' fn' ff' va' k h1 hc) (vx_cwSW 3 C0.2.2.2.2 gL_law_L_set rfl rfl rfl (by decide +kernel) ⟨Nat.le_of_ble_eq_true rfl, Nat.le_of_ble_eq_true rfl⟩) ⟨lP_blind, lP_pre Z hN hT _⟩ rfl rfl hl.1 rfl (lv_room (Nat.le_of_ble_eq_true rfl)) dL_law_342 ⟨by omega, by omega⟩) (lZ_S Z) (fun _ _ h => h) (fun _ h => h) (fun x ov' t1 H1 locs1 ht hvm hw hB _ _ hS => ?_)
  obtain ⟨hx, hu⟩ := hw
  have Z : lZ (XM a cyI cyJ th df la fd he wt br dr fm sz om os st wa rv sk ++ [(o, .inl (cyJ, 1, .inr (.inl ov')))]) D cyI cyJ cyO A bs d eA ol fd' dc' ds fw' fn' ff' qw qn qf va' tr s H1 locs1 := lZ_post Z ht hvm hB hS
  refine lv_istore (lv' := [(5, .int x), (0, .ref b), (1, .ref (d 0)), (2, .ref (a 0)), (3, .ref o), (4, .int x4)]) C0.1 C0.2.1 dL_law_345 hl (by decide) rfl (fun ls hl => ?_)
  obtain ⟨P, g, rs, rr, at1, fa, ra, Z, hF⟩ := Z
  obtain ⟨YY, hYY⟩ : ∃ X : va_W, X = (XD d cyI cyJ cyO eA (d 5) (d 6) rs rr at1 fa ra ol fd' dc' ds va' tr ++ va_pl P g) := ⟨_, rfl⟩
  have Z : gZ D (gT cyI cyJ cyO) (XM a cyI cyJ th df la fd he wt br dr fm sz om os st wa rv sk ++ ((o, .inl (cyJ, 1, .inr (.inl ov'))) :: YY)) A bs s H1 locs1 := by rw [hYY]; exact Z
  refine lv_aload_n C0.1 C0.2.1 dL_law_347 rfl (lv_at hl 3 rfl) ?_
  refine lv_aload_n C0.1 C0.2.1 dL_law_348 rfl (lv_at hl 1 rfl) ?_
  refine lv_iload C0.1 C0.2.1 dL_law_349 (lv_at hl 5 rfl) ?_
  refine lv_iconst (v := nI 1) C0.1 C0.2.1 dL_law_351 (by decide) ?_
  refine lv_iadd C0.1 C0.2.1 dL_law_352 ?_
  refine va_sld C0.1 C0.2.1 hX hbl hbA Z.2.2.2.1 (hin 1 (by omega) (by omega)) dL_law_353 ?_
  rw [← hp0]
  refine g_callVi (b := a 0) (As := [.int p0]) (rest := []) C0 Z (zX4_set l D cyI cyJ cyO A bs hA a ((o, .inl (cyJ, 1, .inr (.inl ov'))) :: YY) th df la fd he wt br dr fm sz om os st wa rv sk 1000001 p0 _ h2) (cwV 1 C0.2.2.2.2 gL_law_X4_set rfl rfl rfl (by decide +kernel) ⟨Nat.le_of_ble_eq_true rfl, Nat.le_of_ble_eq_true rfl⟩) 0 (ci := 6) rfl rfl rfl rfl hl.1 rfl (Nat.le_of_ble_eq_true rfl) dL_law_354 ⟨by omega, by omega⟩ (fun y v H2 locs2 hw Z => ?_)
  obtain ⟨hy1, hv⟩ := hw
  subst hv
  replace hy1 : r' = y := hy1
  have Z : gZ D (gT cyI cyJ cyO) (XM a cyI cyJ (nI k) df' la fd' he wt br dr fm' sz' om os st wa rv sk ++ ((o, .inl (cyJ, 1, .inr (.inl ov'))) :: YY)) A bs s H2 locs2 := Z
  refine lv_istore (lv' := [(6, .int y), (5, .int x), (0, .ref b), (1, .ref (d 0)), (2, .ref (a 0)), (3, .ref o), (4, .int x4)]) C0.1 C0.2.1 dL_law_357 hl (by decide) rfl (fun ls hl => ?_)
  refine lt_I C hA Z (k := k) rfl hk hx hl (fun z => by rw [hu z, hrr z, hy1]) ⟨by omega, by omega⟩ (t := 359) dL_law_359 dL_law_360 dL_law_363 dL_law_365 dL_law_370 dL_law_372 dL_law_375 dL_law_376 dL_law_377 dL_law_378 dL_law_380 dL_law_381 dL_law_382 dL_law_387 (by decide) (fun H3 locs3 Z => ?_)
  refine W.widen (k := cells + 4) (n := slots + 29) (by omega) (by omega) ?_
  refine kk H3 locs3 ls ⟨T', Dr', Q0, Lv, nI k, df', la, fd', he, wt, br, ol, dc', dr, fm', sz', om, os, st, wa, ds, fw', qw, fn', qn, ff', qf, va', tr, rv, sk, ov', ⟨P, g, rs, rr, at1, fa, ra, ?_, hF⟩, hd', hs', hy⟩ (lv_sub hl [2, 3, 4, 5, 6] rfl)
  rw [hYY] at Z
  exact Z
/-! put -/
set_option maxRecDepth 20000 in
set_option maxHeartbeats 4000000 in
theorem lc_put (C : LC p l s m meth c b L xs A) (hA : ∀ q, bs ≤ q → A q) (I : LI D cyI cyJ cyO A bs a d eA o s H locs) (hin : ∀ j : Nat, 0 < j → j < 6 → vp_in (x4 + nI j) L) (hl : lv_has ls 8 [(0, .ref b), (1, .ref (d 0)), (2, .ref (a 0)), (3, .ref o), (4, .int x4)]) (hroom : cells + 4 ≤ room_1.cells ∧ slots + 29 ≤ room_1.slots) (kk : ∀ (H1 : Heap) (locs1 : List Loc) (ls1 : Array Slot), LI D cyI cyJ cyO A bs a d eA o s H1 locs1 → lv_has ls1 8 [(0, .ref b), (1, .ref (d 0)), (2, .ref (a 0)), (3, .ref o), (4, .int x4)] → W p l e room_1 s m #[Value.ref b] below meth c H1 locs1 (cells + 4) (slots + 29) Q (F0 m 1099 ls1 [])) : W p l e room_1 s m #[Value.ref b] below meth c H locs cells slots Q (F0 m 390 ls []) := by
  obtain ⟨C0, hrl, hX, hbl, hbA, hlf, hN, hT⟩ := id C
  obtain ⟨T, Dr, Q0, Lv, th, df, la, fd, he, wt, br, ol, dc, dr, fm, sz, om, os, st, wa, ds, fw, qw, fn, qn, ff, qf, va, tr, rv, sk, ov, Z, hd, hs, hy⟩ := I
  obtain ⟨p0, hp0⟩ : ∃ z : Int32, z = xs (x4 + nI 1).toNatClampNeg := ⟨_, rfl⟩
  obtain ⟨p1, hp1⟩ : ∃ z : Int32, z = xs (x4 + nI 2).toNatClampNeg := ⟨_, rfl⟩
  obtain ⟨code, r, r', T', fd', fw', fn', ff', va', fm', sz', k, h1, h2, hs', hcc⟩ := c_put (N := 1000001) hs (by omega) fd th p0 p1
  have hc : code = 0 ∧ k = 0 ∨ code = 1 ∧ k = 1 ∨ code = 2 ∧ k = 2 := by omega
  have hk : k < 10 := by omega
  have hrr : k = 0 → r = r' := by
    intro z
    rcases hcc with ⟨_, _, e⟩ | ⟨_, _⟩ | ⟨_, _⟩
    · exact e
    all_goals omega
  refine lv_aload_n C0.1 C0.2.1 dL_law_390 rfl (lv_at hl 1 rfl) ?_
  refine lv_aload_n C0.1 C0.2.1 dL_law_391 rfl (lv_at hl 0 rfl) ?_
  refine lv_iload C0.1 C0.2.1 dL_law_392 (lv_at hl 4 rfl) ?_
  refine lv_iconst (v := nI 1) C0.1 C0.2.1 dL_law_394 (by decide) ?_
  refine lv_iadd C0.1 C0.2.1 dL_law_395 ?_
  refine va_sld C0.1 C0.2.1 hX hbl hbA (lZ_S Z) (hin 1 (by omega) (by omega)) dL_law_396 ?_
  refine lv_aload_n C0.1 C0.2.1 dL_law_397 rfl (lv_at hl 0 rfl) ?_
  refine lv_iload C0.1 C0.2.1 dL_law_398 (lv_at hl 4 rfl) ?_
  refine lv_iconst (v := nI 2) C0.1 C0.2.1 dL_law_400 (by decide) ?_
  refine lv_iadd C0.1 C0.2.1 dL_law_401 ?_
  refine va_sld C0.1 C0.2.1 hX hbl hbA (lZ_S Z) (hin 2 (by omega) (by omega)) dL_law_402 ?_
  refine lv_aload_n C0.1 C0.2.1 dL_law_403 rfl (lv_at hl 3 rfl) ?_
  rw [← hp0]
  rw [← hp1]
  refine va_calli (vx_runSW (As := [.ref (d 0), .int p0, .int p1, .ref o]) (rest := []) C0 (zL_put l hlf D cyI cyJ cyO A bs hA (XM a cyI cyJ th df la fd he wt br dr fm sz om os st wa rv sk ++ [(o, .inl (cyJ, 1, .inr (.inl ov)))]) 10 o ov rfl d eA ol fd dc ds fw fn ff qw qn qf va tr 1000001 p0 p1 code r fd' fw' fn' ff' va' k h1 hc) (vx_cwSW 4 C0.2.2.2.2 gL_law_L_put rfl rfl rfl (by decide +kernel) ⟨Nat.le_of_ble_eq_true rfl, Nat.le_of_ble_eq_true rfl⟩) ⟨lP_blind, lP_pre Z hN hT _⟩ rfl rfl hl.1 rfl (lv_room (Nat.le_of_ble_eq_true rfl)) dL_law_404 ⟨by omega, by omega⟩) (lZ_S Z) (fun _ _ h => h) (fun _ h => h) (fun x ov' t1 H1 locs1 ht hvm hw hB _ _ hS => ?_)
  obtain ⟨hx, hu⟩ := hw
  have Z : lZ (XM a cyI cyJ th df la fd he wt br dr fm sz om os st wa rv sk ++ [(o, .inl (cyJ, 1, .inr (.inl ov')))]) D cyI cyJ cyO A bs d eA ol fd' dc ds fw' fn' ff' qw qn qf va' tr s H1 locs1 := lZ_post Z ht hvm hB hS
  refine lv_istore (lv' := [(5, .int x), (0, .ref b), (1, .ref (d 0)), (2, .ref (a 0)), (3, .ref o), (4, .int x4)]) C0.1 C0.2.1 dL_law_407 hl (by decide) rfl (fun ls hl => ?_)
  obtain ⟨P, g, rs, rr, at1, fa, ra, Z, hF⟩ := Z
  obtain ⟨YY, hYY⟩ : ∃ X : va_W, X = (XD d cyI cyJ cyO eA (d 5) (d 6) rs rr at1 fa ra ol fd' dc ds va' tr ++ va_pl P g) := ⟨_, rfl⟩
  have Z : gZ D (gT cyI cyJ cyO) (XM a cyI cyJ th df la fd he wt br dr fm sz om os st wa rv sk ++ ((o, .inl (cyJ, 1, .inr (.inl ov'))) :: YY)) A bs s H1 locs1 := by rw [hYY]; exact Z
  refine lv_aload_n C0.1 C0.2.1 dL_law_409 rfl (lv_at hl 3 rfl) ?_
  refine lv_aload_n C0.1 C0.2.1 dL_law_410 rfl (lv_at hl 1 rfl) ?_
  refine lv_iload C0.1 C0.2.1 dL_law_411 (lv_at hl 5 rfl) ?_
  refine lv_iconst (v := nI 1) C0.1 C0.2.1 dL_law_413 (by decide) ?_
  refine lv_iadd C0.1 C0.2.1 dL_law_414 ?_
  refine va_sld C0.1 C0.2.1 hX hbl hbA Z.2.2.2.1 (hin 1 (by omega) (by omega)) dL_law_415 ?_
  refine lv_aload_n C0.1 C0.2.1 dL_law_416 rfl (lv_at hl 1 rfl) ?_
  refine lv_iload C0.1 C0.2.1 dL_law_417 (lv_at hl 5 rfl) ?_
  refine lv_iconst (v := nI 2) C0.1 C0.2.1 dL_law_419 (by decide) ?_
  refine lv_iadd C0.1 C0.2.1 dL_law_420 ?_
  refine va_sld C0.1 C0.2.1 hX hbl hbA Z.2.2.2.1 (hin 2 (by omega) (by omega)) dL_law_421 ?_
  rw [← hp0]
  rw [← hp1]
  refine g_callVi (b := a 0) (As := [.int p0, .int p1]) (rest := []) C0 Z (zX4_put l D cyI cyJ cyO A bs hA a ((o, .inl (cyJ, 1, .inr (.inl ov'))) :: YY) th df la fd he wt br dr fm sz om os st wa rv sk 1000001 p0 p1 _ h2) (cwV 2 C0.2.2.2.2 gL_law_X4_put rfl rfl rfl (by decide +kernel) ⟨Nat.le_of_ble_eq_true rfl, Nat.le_of_ble_eq_true rfl⟩) 0 (ci := 6) rfl rfl rfl rfl hl.1 rfl (Nat.le_of_ble_eq_true rfl) dL_law_422 ⟨by omega, by omega⟩ (fun y v H2 locs2 hw Z => ?_)
  obtain ⟨hy1, hv⟩ := hw
  subst hv
  replace hy1 : r' = y := hy1
  have Z : gZ D (gT cyI cyJ cyO) (XM a cyI cyJ (nI k) df la fd' he wt br dr fm' sz' om os st wa rv sk ++ ((o, .inl (cyJ, 1, .inr (.inl ov'))) :: YY)) A bs s H2 locs2 := Z
  refine lv_istore (lv' := [(6, .int y), (5, .int x), (0, .ref b), (1, .ref (d 0)), (2, .ref (a 0)), (3, .ref o), (4, .int x4)]) C0.1 C0.2.1 dL_law_425 hl (by decide) rfl (fun ls hl => ?_)
  refine lt_I C hA Z (k := k) rfl hk hx hl (fun z => by rw [hu z, hrr z, hy1]) ⟨by omega, by omega⟩ (t := 427) dL_law_427 dL_law_428 dL_law_431 dL_law_433 dL_law_438 dL_law_440 dL_law_443 dL_law_444 dL_law_445 dL_law_446 dL_law_448 dL_law_449 dL_law_450 dL_law_455 (by decide) (fun H3 locs3 Z => ?_)
  refine W.widen (k := cells + 4) (n := slots + 29) (by omega) (by omega) ?_
  refine kk H3 locs3 ls ⟨T', Dr, Q0, Lv, nI k, df, la, fd', he, wt, br, ol, dc, dr, fm', sz', om, os, st, wa, ds, fw', qw, fn', qn, ff', qf, va', tr, rv, sk, ov', ⟨P, g, rs, rr, at1, fa, ra, ?_, hF⟩, hd, hs', hy⟩ (lv_sub hl [2, 3, 4, 5, 6] rfl)
  rw [hYY] at Z
  exact Z
end LR
