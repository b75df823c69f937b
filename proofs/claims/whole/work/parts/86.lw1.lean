/-! the law's wrappers over the office's calls -/
/-! the wrapper of open -/
abbrev rmL_open : Room := { frames := 7, cells := 1, slots := 6, locals := 114 }
theorem kL_open_l15 : Cond.classLink RL 15 "java/lang/IllegalStateException" ∈ wsL_open := by decide +kernel
set_option maxRecDepth 20000 in
set_option maxHeartbeats 4000000 in
theorem zL_open (l : Launch) (hlf : l.stackTraces = false) (D : va_G) (cyI cyJ cyO : ClassId) (A : Nat → Prop) (bs : Nat) (hA : ∀ q, bs ≤ q → A q) (F : va_W) (q0 o : Nat) (ov : Nat → Int64) (hq : F[q0]? = some (o, .inl (cyJ, 1, .inr (.inl ov)))) (d : Nat → Nat) (eA : Nat) (ol : Int32) (fd : Int32) (dc : Int32) (ds : Nat → Int32) (fw : Nat → Int32) (fn : Nat → Nat) (ff : Nat → Nat → Int32) (qw : Nat → Int32) (qn : Nat → Nat) (qf : Nat → Nat → Int32) (va : Nat → Int64) (tr : Nat → Int64) (N : Nat) (code : Nat) (r : Int32) (ol' : Int32) (qw' : Nat → Int32) (qn' : Nat → Nat) (qf' : Nat → Nat → Int32) (k : Nat) (h : mX3_open N fw fn ff ol qw qn qf = some (code, r, ol', qw', qn', qf')) (hc : code = 0 ∧ k = 0 ∨ code = 3 ∧ k = 1) : Met l yL_open wsL_open rmL_open (va_Pc [.ref (d 0), .ref o] (lP (lW F D cyI cyJ cyO A bs d eA ol fd dc ds fw fn ff qw qn qf va tr) A)) (va_Qi (fun (x : Int32) (u : Nat → Int64) => x = nI k ∧ (k = 0 → u 0 = r.toInt64)) (fun u U => lW (F.set q0 (o, .inl (cyJ, 1, .inr (.inl u)))) D cyI cyJ cyO A bs d eA ol' fd dc ds fw fn ff qw' qn' qf' va tr U) A) 1 6 A := by
  refine Met_ofWH (cc := cL_open) (maxL := 3) (ret := (some .int)) (by decide) rfl ?_
  intro p e s m args below meth c s₁ B hml htab hv
  obtain ⟨hav, hv⟩ := hv
  obtain ⟨hv, hN, hT⟩ := hv
  have C0 : gC p m meth c cL_open 3 (some .int) s args wsL_open RL := ⟨⟨B.exec, B.bytes, hml, findClass_of_methodNamed B.named, atoms_spec (ws := wsL_open) B.pre⟩, B.returns, B.notSynchronized⟩
  have Z := lZ_start hA hv
  have hl := lv_entry ([.ref (d 0), .ref o]) (n := 3) (Nat.le_of_ble_eq_true rfl)
  rw [hav, lg_entry_eq]
  generalize (lg_sl ([.ref (d 0), .ref o]) ++ List.replicate (3 - (lg_sl ([.ref (d 0), .ref o])).length) Slot.unset).toArray = ls at hl ⊢
  have hl : lv_has ls 3 [(0, .ref (d 0)), (1, .ref o)] := hl
  rw [← hav]
  obtain ⟨P, g, rs, rr, at1, fa, ra, Z1, hF⟩ := Z
  refine lv_aload_n C0.1.1 C0.1.2.1 dL_open_0 rfl (lv_at hl 1 rfl) ?_
  refine lv_iconst (v := 0) C0.1.1 C0.1.2.1 dL_open_1 (by decide) ?_
  refine lv_aload_n C0.1.1 C0.1.2.1 dL_open_2 rfl (lv_at hl 0 rfl) ?_
  refine vx_calli (vx_runV (b := d 0) (C := RX3) (As := []) (rest := [.int 0, .ref o]) C0.1 (zX3_open l hlf D cyI cyJ cyO (aA A F) s.heap.size (fr_pre Z1) P g d eA ol fd dc ds fw fn ff qw qn qf va tr N  _ h) (cwV 0 C0.1.2.2.2.2 gL_open_X3_open rfl rfl rfl (by decide +kernel) ⟨Nat.le_of_ble_eq_true rfl, Nat.le_of_ble_eq_true rfl⟩) ⟨dP_blind, va_recv Z1.2.1 (fr_P Z1) (ci := 5) (q0 := 0) rfl rfl, fr_dP Z1 hF hN hT _⟩ rfl rfl hl.1 rfl (lv_room (Nat.le_of_ble_eq_true rfl)) dL_open_3 ⟨Nat.le_of_ble_eq_true rfl, Nat.le_of_ble_eq_true rfl⟩) Z1.2.2.2.1 (fun _ _ h => h.1) (fun _ h => h.1) (fun _ _ h => h.1) (fun E ce q9 u t H1 locs1 ht hvm _ hB _ hk hS h1 h2 h3 => ?_) (fun x u t H1 locs1 ht hvm hw hB _ hk hS => ?_)
  · obtain ⟨hne, rfl, hu, hB⟩ := hB
    subst hu
    have Z2 : lZ F D cyI cyJ cyO A bs d eA ol' fd dc ds fw fn ff qw' qn' qf' va tr s H1 locs1 := fr_dZ Z1 ht hvm hB hk hS
    rcases hc with ⟨rfl, rfl⟩ | ⟨rfl, rfl⟩
    · exact absurd rfl hne
    · refine vx_catch (E := "java/lang/IllegalStateException") C0.1.2.2.2.1 [] ⟨0, 8, 11, 15⟩ [] htab (fun _ z => nomatch z) (by decide) (by decide) (C0.1.2.2.2.2 _ kL_open_l15) (nestW_use hN.1 (.castable "java/lang/IllegalStateException" "java/lang/IllegalStateException") (by decide +kernel)) h1 h2 h3 ?_
      refine lv_astore_n (lv' := [(2, .ref q9), (0, .ref (d 0)), (1, .ref o)]) C0.1.1 C0.1.2.1 dL_open_11 rfl hl (by decide) rfl (fun ls hl => ?_)
      refine lv_iconst (v := 1) C0.1.1 C0.1.2.1 dL_open_12 (by decide) ?_
      exact W.iret C0.1.1 C0.1.2.1 C0.2.1 (fun t ht hW => ⟨⟨1, ov, rfl, ⟨rfl, fun z => absurd z (by decide)⟩, lW_set hq (lZ_end Z2 ht hW)⟩, va_S.F (lZ_S Z2) ht⟩) (lZ_S Z2).2.2 dL_open_13 C0.2.2
  obtain ⟨hcode, hx, hu⟩ := hw
  subst hu
  replace hcode : code = 0 := hcode
  replace hx : r = x := hx
  subst hx
  have Z2 : lZ F D cyI cyJ cyO A bs d eA ol' fd dc ds fw fn ff qw' qn' qf' va tr s H1 locs1 := fr_dZ Z1 ht hvm hB hk hS
  have hk0 : k = 0 := by omega
  refine lv_i2l (v := r.toInt64) C0.1.1 C0.1.2.1 dL_open_6 rfl ?_
  refine l_out C0.1 Z2 hq dL_open_7 (fun u H2 locs2 hu Z3 => ?_)
  refine lv_goto (tgt := 14) C0.1.1 C0.1.2.1 dL_open_8 (by decide) ?_
  refine lv_iconst (v := 0) C0.1.1 C0.1.2.1 dL_open_14 (by decide) ?_
  exact W.iret C0.1.1 C0.1.2.1 C0.2.1 (fun t ht hW => ⟨⟨0, u, rfl, ⟨by rw [hk0]; rfl, fun _ => hu⟩, lZ_end Z3 ht hW⟩, va_S.F (lZ_S Z3) ht⟩) (lZ_S Z3).2.2 dL_open_15 C0.2.2
/-! the wrapper of drop -/
abbrev rmL_drop : Room := { frames := 62, cells := 1, slots := 6, locals := 1511 }
theorem kL_drop_l15 : Cond.classLink RL 15 "java/lang/IllegalStateException" ∈ wsL_drop := by decide +kernel
set_option maxRecDepth 20000 in
set_option maxHeartbeats 4000000 in
theorem zL_drop (l : Launch) (hlf : l.stackTraces = false) (D : va_G) (cyI cyJ cyO : ClassId) (A : Nat → Prop) (bs : Nat) (hA : ∀ q, bs ≤ q → A q) (F : va_W) (q0 o : Nat) (ov : Nat → Int64) (hq : F[q0]? = some (o, .inl (cyJ, 1, .inr (.inl ov)))) (d : Nat → Nat) (eA : Nat) (ol : Int32) (fd : Int32) (dc : Int32) (ds : Nat → Int32) (fw : Nat → Int32) (fn : Nat → Nat) (ff : Nat → Nat → Int32) (qw : Nat → Int32) (qn : Nat → Nat) (qf : Nat → Nat → Int32) (va : Nat → Int64) (tr : Nat → Int64) (N : Nat) (code : Nat) (r : Int32) (ol' : Int32) (fd' : Int32) (fw' : Nat → Int32) (fn' : Nat → Nat) (ff' : Nat → Nat → Int32) (va' : Nat → Int64) (k : Nat) (h : mX3_drop N qw qn qf ol fd fw fn ff va = some (code, r, ol', fd', fw', fn', ff', va')) (hc : code = 0 ∧ k = 0 ∨ code = 3 ∧ k = 1) : Met l yL_drop wsL_drop rmL_drop (va_Pc [.ref (d 0), .ref o] (lP (lW F D cyI cyJ cyO A bs d eA ol fd dc ds fw fn ff qw qn qf va tr) A)) (va_Qi (fun (x : Int32) (u : Nat → Int64) => x = nI k ∧ (k = 0 → u 0 = r.toInt64)) (fun u U => lW (F.set q0 (o, .inl (cyJ, 1, .inr (.inl u)))) D cyI cyJ cyO A bs d eA ol' fd' dc ds fw' fn' ff' qw qn qf va' tr U) A) 1 6 A := by
  refine Met_ofWH (cc := cL_drop) (maxL := 3) (ret := (some .int)) (by decide) rfl ?_
  intro p e s m args below meth c s₁ B hml htab hv
  obtain ⟨hav, hv⟩ := hv
  obtain ⟨hv, hN, hT⟩ := hv
  have C0 : gC p m meth c cL_drop 3 (some .int) s args wsL_drop RL := ⟨⟨B.exec, B.bytes, hml, findClass_of_methodNamed B.named, atoms_spec (ws := wsL_drop) B.pre⟩, B.returns, B.notSynchronized⟩
  have Z := lZ_start hA hv
  have hl := lv_entry ([.ref (d 0), .ref o]) (n := 3) (Nat.le_of_ble_eq_true rfl)
  rw [hav, lg_entry_eq]
  generalize (lg_sl ([.ref (d 0), .ref o]) ++ List.replicate (3 - (lg_sl ([.ref (d 0), .ref o])).length) Slot.unset).toArray = ls at hl ⊢
  have hl : lv_has ls 3 [(0, .ref (d 0)), (1, .ref o)] := hl
  rw [← hav]
  obtain ⟨P, g, rs, rr, at1, fa, ra, Z1, hF⟩ := Z
  refine lv_aload_n C0.1.1 C0.1.2.1 dL_drop_0 rfl (lv_at hl 1 rfl) ?_
  refine lv_iconst (v := 0) C0.1.1 C0.1.2.1 dL_drop_1 (by decide) ?_
  refine lv_aload_n C0.1.1 C0.1.2.1 dL_drop_2 rfl (lv_at hl 0 rfl) ?_
  refine vx_calli (vx_runV (b := d 0) (C := RX3) (As := []) (rest := [.int 0, .ref o]) C0.1 (zX3_drop l hlf D cyI cyJ cyO (aA A F) s.heap.size (fr_pre Z1) P g d eA ol fd dc ds fw fn ff qw qn qf va tr N  _ h) (cwV 0 C0.1.2.2.2.2 gL_drop_X3_drop rfl rfl rfl (by decide +kernel) ⟨Nat.le_of_ble_eq_true rfl, Nat.le_of_ble_eq_true rfl⟩) ⟨dP_blind, va_recv Z1.2.1 (fr_P Z1) (ci := 5) (q0 := 0) rfl rfl, fr_dP Z1 hF hN hT _⟩ rfl rfl hl.1 rfl (lv_room (Nat.le_of_ble_eq_true rfl)) dL_drop_3 ⟨Nat.le_of_ble_eq_true rfl, Nat.le_of_ble_eq_true rfl⟩) Z1.2.2.2.1 (fun _ _ h => h.1) (fun _ h => h.1) (fun _ _ h => h.1) (fun E ce q9 u t H1 locs1 ht hvm _ hB _ hk hS h1 h2 h3 => ?_) (fun x u t H1 locs1 ht hvm hw hB _ hk hS => ?_)
  · obtain ⟨hne, rfl, hu, hB⟩ := hB
    subst hu
    have Z2 : lZ F D cyI cyJ cyO A bs d eA ol' fd' dc ds fw' fn' ff' qw qn qf va' tr s H1 locs1 := fr_dZ Z1 ht hvm hB hk hS
    rcases hc with ⟨rfl, rfl⟩ | ⟨rfl, rfl⟩
    · exact absurd rfl hne
    · refine vx_catch (E := "java/lang/IllegalStateException") C0.1.2.2.2.1 [] ⟨0, 8, 11, 15⟩ [] htab (fun _ z => nomatch z) (by decide) (by decide) (C0.1.2.2.2.2 _ kL_drop_l15) (nestW_use hN.1 (.castable "java/lang/IllegalStateException" "java/lang/IllegalStateException") (by decide +kernel)) h1 h2 h3 ?_
      refine lv_astore_n (lv' := [(2, .ref q9), (0, .ref (d 0)), (1, .ref o)]) C0.1.1 C0.1.2.1 dL_drop_11 rfl hl (by decide) rfl (fun ls hl => ?_)
      refine lv_iconst (v := 1) C0.1.1 C0.1.2.1 dL_drop_12 (by decide) ?_
      exact W.iret C0.1.1 C0.1.2.1 C0.2.1 (fun t ht hW => ⟨⟨1, ov, rfl, ⟨rfl, fun z => absurd z (by decide)⟩, lW_set hq (lZ_end Z2 ht hW)⟩, va_S.F (lZ_S Z2) ht⟩) (lZ_S Z2).2.2 dL_drop_13 C0.2.2
  obtain ⟨hcode, hx, hu⟩ := hw
  subst hu
  replace hcode : code = 0 := hcode
  replace hx : r = x := hx
  subst hx
  have Z2 : lZ F D cyI cyJ cyO A bs d eA ol' fd' dc ds fw' fn' ff' qw qn qf va' tr s H1 locs1 := fr_dZ Z1 ht hvm hB hk hS
  have hk0 : k = 0 := by omega
  refine lv_i2l (v := r.toInt64) C0.1.1 C0.1.2.1 dL_drop_6 rfl ?_
  refine l_out C0.1 Z2 hq dL_drop_7 (fun u H2 locs2 hu Z3 => ?_)
  refine lv_goto (tgt := 14) C0.1.1 C0.1.2.1 dL_drop_8 (by decide) ?_
  refine lv_iconst (v := 0) C0.1.1 C0.1.2.1 dL_drop_14 (by decide) ?_
  exact W.iret C0.1.1 C0.1.2.1 C0.2.1 (fun t ht hW => ⟨⟨0, u, rfl, ⟨by rw [hk0]; rfl, fun _ => hu⟩, lZ_end Z3 ht hW⟩, va_S.F (lZ_S Z3) ht⟩) (lZ_S Z3).2.2 dL_drop_15 C0.2.2
/-! the wrapper of keep -/
abbrev rmL_keep : Room := { frames := 8, cells := 1, slots := 6, locals := 132 }
theorem kL_keep_l15 : Cond.classLink RL 15 "java/lang/IllegalStateException" ∈ wsL_keep := by decide +kernel
set_option maxRecDepth 20000 in
set_option maxHeartbeats 4000000 in
theorem zL_keep (l : Launch) (hlf : l.stackTraces = false) (D : va_G) (cyI cyJ cyO : ClassId) (A : Nat → Prop) (bs : Nat) (hA : ∀ q, bs ≤ q → A q) (F : va_W) (q0 o : Nat) (ov : Nat → Int64) (hq : F[q0]? = some (o, .inl (cyJ, 1, .inr (.inl ov)))) (d : Nat → Nat) (eA : Nat) (ol : Int32) (fd : Int32) (dc : Int32) (ds : Nat → Int32) (fw : Nat → Int32) (fn : Nat → Nat) (ff : Nat → Nat → Int32) (qw : Nat → Int32) (qn : Nat → Nat) (qf : Nat → Nat → Int32) (va : Nat → Int64) (tr : Nat → Int64) (N : Nat) (code : Nat) (r : Int32) (ol' : Int32) (k : Nat) (h : mX3_keep N ol = some (code, r, ol')) (hc : code = 0 ∧ k = 0 ∨ code = 3 ∧ k = 1) : Met l yL_keep wsL_keep rmL_keep (va_Pc [.ref (d 0), .ref o] (lP (lW F D cyI cyJ cyO A bs d eA ol fd dc ds fw fn ff qw qn qf va tr) A)) (va_Qi (fun (x : Int32) (u : Nat → Int64) => x = nI k ∧ (k = 0 → u 0 = r.toInt64)) (fun u U => lW (F.set q0 (o, .inl (cyJ, 1, .inr (.inl u)))) D cyI cyJ cyO A bs d eA ol' fd dc ds fw fn ff qw qn qf va tr U) A) 1 6 A := by
  refine Met_ofWH (cc := cL_keep) (maxL := 3) (ret := (some .int)) (by decide) rfl ?_
  intro p e s m args below meth c s₁ B hml htab hv
  obtain ⟨hav, hv⟩ := hv
  obtain ⟨hv, hN, hT⟩ := hv
  have C0 : gC p m meth c cL_keep 3 (some .int) s args wsL_keep RL := ⟨⟨B.exec, B.bytes, hml, findClass_of_methodNamed B.named, atoms_spec (ws := wsL_keep) B.pre⟩, B.returns, B.notSynchronized⟩
  have Z := lZ_start hA hv
  have hl := lv_entry ([.ref (d 0), .ref o]) (n := 3) (Nat.le_of_ble_eq_true rfl)
  rw [hav, lg_entry_eq]
  generalize (lg_sl ([.ref (d 0), .ref o]) ++ List.replicate (3 - (lg_sl ([.ref (d 0), .ref o])).length) Slot.unset).toArray = ls at hl ⊢
  have hl : lv_has ls 3 [(0, .ref (d 0)), (1, .ref o)] := hl
  rw [← hav]
  obtain ⟨P, g, rs, rr, at1, fa, ra, Z1, hF⟩ := Z
  refine lv_aload_n C0.1.1 C0.1.2.1 dL_keep_0 rfl (lv_at hl 1 rfl) ?_
  refine lv_iconst (v := 0) C0.1.1 C0.1.2.1 dL_keep_1 (by decide) ?_
  refine lv_aload_n C0.1.1 C0.1.2.1 dL_keep_2 rfl (lv_at hl 0 rfl) ?_
  refine vx_calli (vx_runV (b := d 0) (C := RX3) (As := []) (rest := [.int 0, .ref o]) C0.1 (zX3_keep l hlf D cyI cyJ cyO (aA A F) s.heap.size (fr_pre Z1) P g d eA ol fd dc ds fw fn ff qw qn qf va tr N  _ h) (cwV 0 C0.1.2.2.2.2 gL_keep_X3_keep rfl rfl rfl (by decide +kernel) ⟨Nat.le_of_ble_eq_true rfl, Nat.le_of_ble_eq_true rfl⟩) ⟨dP_blind, va_recv Z1.2.1 (fr_P Z1) (ci := 5) (q0 := 0) rfl rfl, fr_dP Z1 hF hN hT _⟩ rfl rfl hl.1 rfl (lv_room (Nat.le_of_ble_eq_true rfl)) dL_keep_3 ⟨Nat.le_of_ble_eq_true rfl, Nat.le_of_ble_eq_true rfl⟩) Z1.2.2.2.1 (fun _ _ h => h.1) (fun _ h => h.1) (fun _ _ h => h.1) (fun E ce q9 u t H1 locs1 ht hvm _ hB _ hk hS h1 h2 h3 => ?_) (fun x u t H1 locs1 ht hvm hw hB _ hk hS => ?_)
  · obtain ⟨hne, rfl, hu, hB⟩ := hB
    subst hu
    have Z2 : lZ F D cyI cyJ cyO A bs d eA ol' fd dc ds fw fn ff qw qn qf va tr s H1 locs1 := fr_dZ Z1 ht hvm hB hk hS
    rcases hc with ⟨rfl, rfl⟩ | ⟨rfl, rfl⟩
    · exact absurd rfl hne
    · refine vx_catch (E := "java/lang/IllegalStateException") C0.1.2.2.2.1 [] ⟨0, 8, 11, 15⟩ [] htab (fun _ z => nomatch z) (by decide) (by decide) (C0.1.2.2.2.2 _ kL_keep_l15) (nestW_use hN.1 (.castable "java/lang/IllegalStateException" "java/lang/IllegalStateException") (by decide +kernel)) h1 h2 h3 ?_
      refine lv_astore_n (lv' := [(2, .ref q9), (0, .ref (d 0)), (1, .ref o)]) C0.1.1 C0.1.2.1 dL_keep_11 rfl hl (by decide) rfl (fun ls hl => ?_)
      refine lv_iconst (v := 1) C0.1.1 C0.1.2.1 dL_keep_12 (by decide) ?_
      exact W.iret C0.1.1 C0.1.2.1 C0.2.1 (fun t ht hW => ⟨⟨1, ov, rfl, ⟨rfl, fun z => absurd z (by decide)⟩, lW_set hq (lZ_end Z2 ht hW)⟩, va_S.F (lZ_S Z2) ht⟩) (lZ_S Z2).2.2 dL_keep_13 C0.2.2
  obtain ⟨hcode, hx, hu⟩ := hw
  subst hu
  replace hcode : code = 0 := hcode
  replace hx : r = x := hx
  subst hx
  have Z2 : lZ F D cyI cyJ cyO A bs d eA ol' fd dc ds fw fn ff qw qn qf va tr s H1 locs1 := fr_dZ Z1 ht hvm hB hk hS
  have hk0 : k = 0 := by omega
  refine lv_i2l (v := r.toInt64) C0.1.1 C0.1.2.1 dL_keep_6 rfl ?_
  refine l_out C0.1 Z2 hq dL_keep_7 (fun u H2 locs2 hu Z3 => ?_)
  refine lv_goto (tgt := 14) C0.1.1 C0.1.2.1 dL_keep_8 (by decide) ?_
  refine lv_iconst (v := 0) C0.1.1 C0.1.2.1 dL_keep_14 (by decide) ?_
  exact W.iret C0.1.1 C0.1.2.1 C0.2.1 (fun t ht hW => ⟨⟨0, u, rfl, ⟨by rw [hk0]; rfl, fun _ => hu⟩, lZ_end Z3 ht hW⟩, va_S.F (lZ_S Z3) ht⟩) (lZ_S Z3).2.2 dL_keep_15 C0.2.2
/-! the wrapper of value -/
abbrev rmL_value : Room := { frames := 8, cells := 2, slots := 12, locals := 134 }
theorem kL_value_l20 : Cond.classLink RL 20 "java/lang/IndexOutOfBoundsException" ∈ wsL_value := by decide +kernel
theorem kL_value_l49 : Cond.classLink RL 49 "java/lang/ArithmeticException" ∈ wsL_value := by decide +kernel
set_option maxRecDepth 20000 in
set_option maxHeartbeats 4000000 in
theorem zL_value (l : Launch) (hlf : l.stackTraces = false) (D : va_G) (cyI cyJ cyO : ClassId) (A : Nat → Prop) (bs : Nat) (hA : ∀ q, bs ≤ q → A q) (F : va_W) (q0 o : Nat) (ov : Nat → Int64) (hq : F[q0]? = some (o, .inl (cyJ, 1, .inr (.inl ov)))) (d : Nat → Nat) (eA : Nat) (ol : Int32) (fd : Int32) (dc : Int32) (ds : Nat → Int32) (fw : Nat → Int32) (fn : Nat → Nat) (ff : Nat → Nat → Int32) (qw : Nat → Int32) (qn : Nat → Nat) (qf : Nat → Nat → Int32) (va : Nat → Int64) (tr : Nat → Int64) (N : Nat) (p0 : Int32) (code : Nat) (r : Int64) (k : Nat) (h : mX3_value N va p0 = some (code, r)) (hc : code = 0 ∧ k = 0 ∨ code = 1 ∧ k = 1 ∨ code = 4 ∧ k = 2) : Met l yL_value wsL_value rmL_value (va_Pc [.ref (d 0), .int p0, .ref o] (lP (lW F D cyI cyJ cyO A bs d eA ol fd dc ds fw fn ff qw qn qf va tr) A)) (va_Qi (fun (x : Int32) (u : Nat → Int64) => x = nI k ∧ (k = 0 → u 0 = r)) (fun u U => lW (F.set q0 (o, .inl (cyJ, 1, .inr (.inl u)))) D cyI cyJ cyO A bs d eA ol fd dc ds fw fn ff qw qn qf va tr U) A) 2 12 A := by
  refine Met_ofWH (cc := cL_value) (maxL := 4) (ret := (some .int)) (by decide) rfl ?_
  intro p e s m args below meth c s₁ B hml htab hv
  obtain ⟨hav, hv⟩ := hv
  obtain ⟨hv, hN, hT⟩ := hv
  have C0 : gC p m meth c cL_value 4 (some .int) s args wsL_value RL := ⟨⟨B.exec, B.bytes, hml, findClass_of_methodNamed B.named, atoms_spec (ws := wsL_value) B.pre⟩, B.returns, B.notSynchronized⟩
  have Z := lZ_start hA hv
  have hl := lv_entry ([.ref (d 0), .int p0, .ref o]) (n := 4) (Nat.le_of_ble_eq_true rfl)
  rw [hav, lg_entry_eq]
  generalize (lg_sl ([.ref (d 0), .int p0, .ref o]) ++ List.replicate (4 - (lg_sl ([.ref (d 0), .int p0, .ref o])).length) Slot.unset).toArray = ls at hl ⊢
  have hl : lv_has ls 4 [(0, .ref (d 0)), (1, .int p0), (2, .ref o)] := hl
  rw [← hav]
  obtain ⟨P, g, rs, rr, at1, fa, ra, Z1, hF⟩ := Z
  refine lv_aload_n C0.1.1 C0.1.2.1 dL_value_0 rfl (lv_at hl 2 rfl) ?_
  refine lv_iconst (v := 0) C0.1.1 C0.1.2.1 dL_value_1 (by decide) ?_
  refine lv_aload_n C0.1.1 C0.1.2.1 dL_value_2 rfl (lv_at hl 0 rfl) ?_
  refine lv_iload_n C0.1.1 C0.1.2.1 dL_value_3 rfl (lv_at hl 1 rfl) ?_
  refine vx_calll (vx_runV (b := d 0) (C := RX3) (As := [.int p0]) (rest := [.int 0, .ref o]) C0.1 (zX3_value l hlf D cyI cyJ cyO (aA A F) s.heap.size (fr_pre Z1) P g d eA ol fd dc ds fw fn ff qw qn qf va tr N p0 _ h) (cwV 1 C0.1.2.2.2.2 gL_value_X3_value rfl rfl rfl (by decide +kernel) ⟨Nat.le_of_ble_eq_true rfl, Nat.le_of_ble_eq_true rfl⟩) ⟨dP_blind, va_recv Z1.2.1 (fr_P Z1) (ci := 5) (q0 := 0) rfl rfl, fr_dP Z1 hF hN hT _⟩ rfl rfl hl.1 rfl (lv_room (Nat.le_of_ble_eq_true rfl)) dL_value_4 ⟨Nat.le_of_ble_eq_true rfl, Nat.le_of_ble_eq_true rfl⟩) Z1.2.2.2.1 (fun _ _ h => h.1) (fun _ h => h.1) (fun _ _ h => h.1) (fun E ce q9 u t H1 locs1 ht hvm _ hB _ hk hS h1 h2 h3 => ?_) (fun x u t H1 locs1 ht hvm hw hB _ hk hS => ?_)
  · obtain ⟨hne, rfl, hB⟩ := hB
    have Z2 : lZ F D cyI cyJ cyO A bs d eA ol fd dc ds fw fn ff qw qn qf va tr s H1 locs1 := fr_dZ Z1 ht hvm hB hk hS
    rcases hc with ⟨rfl, rfl⟩ | ⟨rfl, rfl⟩ | ⟨rfl, rfl⟩
    · exact absurd rfl hne
    · refine vx_catch (E := "java/lang/IndexOutOfBoundsException") C0.1.2.2.2.1 [] ⟨0, 8, 11, 20⟩ [⟨0, 8, 14, 49⟩] htab (fun _ z => nomatch z) (by decide) (by decide) (C0.1.2.2.2.2 _ kL_value_l20) (nestW_use hN.1 (.castable "java/lang/IndexOutOfBoundsException" "java/lang/IndexOutOfBoundsException") (by decide +kernel)) h1 h2 h3 ?_
      refine lv_astore_n (lv' := [(3, .ref q9), (0, .ref (d 0)), (1, .int p0), (2, .ref o)]) C0.1.1 C0.1.2.1 dL_value_11 rfl hl (by decide) rfl (fun ls hl => ?_)
      refine lv_iconst (v := 1) C0.1.1 C0.1.2.1 dL_value_12 (by decide) ?_
      exact W.iret C0.1.1 C0.1.2.1 C0.2.1 (fun t ht hW => ⟨⟨1, ov, rfl, ⟨rfl, fun z => absurd z (by decide)⟩, lW_set hq (lZ_end Z2 ht hW)⟩, va_S.F (lZ_S Z2) ht⟩) (lZ_S Z2).2.2 dL_value_13 C0.2.2
    · refine vx_catch (E := "java/lang/ArithmeticException") C0.1.2.2.2.1 [⟨0, 8, 11, 20⟩] ⟨0, 8, 14, 49⟩ [] htab (List.forall_mem_cons.mpr ⟨.inr ⟨by decide, _, C0.1.2.2.2.2 _ kL_value_l20, hN.2 ("java/lang/ArithmeticException", "java/lang/IndexOutOfBoundsException") (by decide +kernel)⟩, fun _ z => nomatch z⟩) (by decide) (by decide) (C0.1.2.2.2.2 _ kL_value_l49) (nestW_use hN.1 (.castable "java/lang/ArithmeticException" "java/lang/ArithmeticException") (by decide +kernel)) h1 h2 h3 ?_
      refine lv_astore_n (lv' := [(3, .ref q9), (0, .ref (d 0)), (1, .int p0), (2, .ref o)]) C0.1.1 C0.1.2.1 dL_value_14 rfl hl (by decide) rfl (fun ls hl => ?_)
      refine lv_iconst (v := 2) C0.1.1 C0.1.2.1 dL_value_15 (by decide) ?_
      exact W.iret C0.1.1 C0.1.2.1 C0.2.1 (fun t ht hW => ⟨⟨2, ov, rfl, ⟨rfl, fun z => absurd z (by decide)⟩, lW_set hq (lZ_end Z2 ht hW)⟩, va_S.F (lZ_S Z2) ht⟩) (lZ_S Z2).2.2 dL_value_16 C0.2.2
  obtain ⟨hcode, hx⟩ := hw
  replace hcode : code = 0 := hcode
  replace hx : r = x := hx
  subst hx
  have Z2 : lZ F D cyI cyJ cyO A bs d eA ol fd dc ds fw fn ff qw qn qf va tr s H1 locs1 := fr_dZ Z1 ht hvm hB hk hS
  have hk0 : k = 0 := by omega
  refine l_out C0.1 Z2 hq dL_value_7 (fun u H2 locs2 hu Z3 => ?_)
  refine lv_goto (tgt := 17) C0.1.1 C0.1.2.1 dL_value_8 (by decide) ?_
  refine lv_iconst (v := 0) C0.1.1 C0.1.2.1 dL_value_17 (by decide) ?_
  exact W.iret C0.1.1 C0.1.2.1 C0.2.1 (fun t ht hW => ⟨⟨0, u, rfl, ⟨by rw [hk0]; rfl, fun _ => hu⟩, lZ_end Z3 ht hW⟩, va_S.F (lZ_S Z3) ht⟩) (lZ_S Z3).2.2 dL_value_18 C0.2.2
/-! the wrapper of valueAnew -/
abbrev rmL_valueAnew : Room := { frames := 61, cells := 2, slots := 12, locals := 1485 }
theorem kL_valueAnew_l20 : Cond.classLink RL 20 "java/lang/IndexOutOfBoundsException" ∈ wsL_valueAnew := by decide +kernel
theorem kL_valueAnew_l49 : Cond.classLink RL 49 "java/lang/ArithmeticException" ∈ wsL_valueAnew := by decide +kernel
set_option maxRecDepth 20000 in
set_option maxHeartbeats 4000000 in
theorem zL_valueAnew (l : Launch) (hlf : l.stackTraces = false) (D : va_G) (cyI cyJ cyO : ClassId) (A : Nat → Prop) (bs : Nat) (hA : ∀ q, bs ≤ q → A q) (F : va_W) (q0 o : Nat) (ov : Nat → Int64) (hq : F[q0]? = some (o, .inl (cyJ, 1, .inr (.inl ov)))) (d : Nat → Nat) (eA : Nat) (ol : Int32) (fd : Int32) (dc : Int32) (ds : Nat → Int32) (fw : Nat → Int32) (fn : Nat → Nat) (ff : Nat → Nat → Int32) (qw : Nat → Int32) (qn : Nat → Nat) (qf : Nat → Nat → Int32) (va : Nat → Int64) (tr : Nat → Int64) (N : Nat) (p0 : Int32) (code : Nat) (r : Int64) (tr' : Nat → Int64) (k : Nat) (h : mX3_valueAnew N fw fn ff tr p0 = some (code, r, tr')) (hc : code = 0 ∧ k = 0 ∨ code = 1 ∧ k = 1 ∨ code = 4 ∧ k = 2) : Met l yL_valueAnew wsL_valueAnew rmL_valueAnew (va_Pc [.ref (d 0), .int p0, .ref o] (lP (lW F D cyI cyJ cyO A bs d eA ol fd dc ds fw fn ff qw qn qf va tr) A)) (va_Qi (fun (x : Int32) (u : Nat → Int64) => x = nI k ∧ (k = 0 → u 0 = r)) (fun u U => lW (F.set q0 (o, .inl (cyJ, 1, .inr (.inl u)))) D cyI cyJ cyO A bs d eA ol fd dc ds fw fn ff qw qn qf va tr' U) A) 2 12 A := by
  refine Met_ofWH (cc := cL_valueAnew) (maxL := 4) (ret := (some .int)) (by decide) rfl ?_
  intro p e s m args below meth c s₁ B hml htab hv
  obtain ⟨hav, hv⟩ := hv
  obtain ⟨hv, hN, hT⟩ := hv
  have C0 : gC p m meth c cL_valueAnew 4 (some .int) s args wsL_valueAnew RL := ⟨⟨B.exec, B.bytes, hml, findClass_of_methodNamed B.named, atoms_spec (ws := wsL_valueAnew) B.pre⟩, B.returns, B.notSynchronized⟩
  have Z := lZ_start hA hv
  have hl := lv_entry ([.ref (d 0), .int p0, .ref o]) (n := 4) (Nat.le_of_ble_eq_true rfl)
  rw [hav, lg_entry_eq]
  generalize (lg_sl ([.ref (d 0), .int p0, .ref o]) ++ List.replicate (4 - (lg_sl ([.ref (d 0), .int p0, .ref o])).length) Slot.unset).toArray = ls at hl ⊢
  have hl : lv_has ls 4 [(0, .ref (d 0)), (1, .int p0), (2, .ref o)] := hl
  rw [← hav]
  obtain ⟨P, g, rs, rr, at1, fa, ra, Z1, hF⟩ := Z
  refine lv_aload_n C0.1.1 C0.1.2.1 dL_valueAnew_0 rfl (lv_at hl 2 rfl) ?_
  refine lv_iconst (v := 0) C0.1.1 C0.1.2.1 dL_valueAnew_1 (by decide) ?_
  refine lv_aload_n C0.1.1 C0.1.2.1 dL_valueAnew_2 rfl (lv_at hl 0 rfl) ?_
  refine lv_iload_n C0.1.1 C0.1.2.1 dL_valueAnew_3 rfl (lv_at hl 1 rfl) ?_
  refine vx_calll (vx_runV (b := d 0) (C := RX3) (As := [.int p0]) (rest := [.int 0, .ref o]) C0.1 (zX3_valueAnew l hlf D cyI cyJ cyO (aA A F) s.heap.size (fr_pre Z1) P g d eA ol fd dc ds fw fn ff qw qn qf va tr N p0 _ h) (cwV 1 C0.1.2.2.2.2 gL_valueAnew_X3_valueAnew rfl rfl rfl (by decide +kernel) ⟨Nat.le_of_ble_eq_true rfl, Nat.le_of_ble_eq_true rfl⟩) ⟨dP_blind, va_recv Z1.2.1 (fr_P Z1) (ci := 5) (q0 := 0) rfl rfl, fr_dP Z1 hF hN hT _⟩ rfl rfl hl.1 rfl (lv_room (Nat.le_of_ble_eq_true rfl)) dL_valueAnew_4 ⟨Nat.le_of_ble_eq_true rfl, Nat.le_of_ble_eq_true rfl⟩) Z1.2.2.2.1 (fun _ _ h => h.1) (fun _ h => h.1) (fun _ _ h => h.1) (fun E ce q9 u t H1 locs1 ht hvm _ hB _ hk hS h1 h2 h3 => ?_) (fun x u t H1 locs1 ht hvm hw hB _ hk hS => ?_)
  · obtain ⟨hne, rfl, hu, hB⟩ := hB
    subst hu
    have Z2 : lZ F D cyI cyJ cyO A bs d eA ol fd dc ds fw fn ff qw qn qf va tr' s H1 locs1 := fr_dZ Z1 ht hvm hB hk hS
    rcases hc with ⟨rfl, rfl⟩ | ⟨rfl, rfl⟩ | ⟨rfl, rfl⟩
    · exact absurd rfl hne
    · refine vx_catch (E := "java/lang/IndexOutOfBoundsException") C0.1.2.2.2.1 [] ⟨0, 8, 11, 20⟩ [⟨0, 8, 14, 49⟩] htab (fun _ z => nomatch z) (by decide) (by decide) (C0.1.2.2.2.2 _ kL_valueAnew_l20) (nestW_use hN.1 (.castable "java/lang/IndexOutOfBoundsException" "java/lang/IndexOutOfBoundsException") (by decide +kernel)) h1 h2 h3 ?_
      refine lv_astore_n (lv' := [(3, .ref q9), (0, .ref (d 0)), (1, .int p0), (2, .ref o)]) C0.1.1 C0.1.2.1 dL_valueAnew_11 rfl hl (by decide) rfl (fun ls hl => ?_)
      refine lv_iconst (v := 1) C0.1.1 C0.1.2.1 dL_valueAnew_12 (by decide) ?_
      exact W.iret C0.1.1 C0.1.2.1 C0.2.1 (fun t ht hW => ⟨⟨1, ov, rfl, ⟨rfl, fun z => absurd z (by decide)⟩, lW_set hq (lZ_end Z2 ht hW)⟩, va_S.F (lZ_S Z2) ht⟩) (lZ_S Z2).2.2 dL_valueAnew_13 C0.2.2
    · refine vx_catch (E := "java/lang/ArithmeticException") C0.1.2.2.2.1 [⟨0, 8, 11, 20⟩] ⟨0, 8, 14, 49⟩ [] htab (List.forall_mem_cons.mpr ⟨.inr ⟨by decide, _, C0.1.2.2.2.2 _ kL_valueAnew_l20, hN.2 ("java/lang/ArithmeticException", "java/lang/IndexOutOfBoundsException") (by decide +kernel)⟩, fun _ z => nomatch z⟩) (by decide) (by decide) (C0.1.2.2.2.2 _ kL_valueAnew_l49) (nestW_use hN.1 (.castable "java/lang/ArithmeticException" "java/lang/ArithmeticException") (by decide +kernel)) h1 h2 h3 ?_
      refine lv_astore_n (lv' := [(3, .ref q9), (0, .ref (d 0)), (1, .int p0), (2, .ref o)]) C0.1.1 C0.1.2.1 dL_valueAnew_14 rfl hl (by decide) rfl (fun ls hl => ?_)
      refine lv_iconst (v := 2) C0.1.1 C0.1.2.1 dL_valueAnew_15 (by decide) ?_
      exact W.iret C0.1.1 C0.1.2.1 C0.2.1 (fun t ht hW => ⟨⟨2, ov, rfl, ⟨rfl, fun z => absurd z (by decide)⟩, lW_set hq (lZ_end Z2 ht hW)⟩, va_S.F (lZ_S Z2) ht⟩) (lZ_S Z2).2.2 dL_valueAnew_16 C0.2.2
  obtain ⟨hcode, hx, hu⟩ := hw
  subst hu
  replace hcode : code = 0 := hcode
  replace hx : r = x := hx
  subst hx
  have Z2 : lZ F D cyI cyJ cyO A bs d eA ol fd dc ds fw fn ff qw qn qf va tr' s H1 locs1 := fr_dZ Z1 ht hvm hB hk hS
  have hk0 : k = 0 := by omega
  refine l_out C0.1 Z2 hq dL_valueAnew_7 (fun u H2 locs2 hu Z3 => ?_)
  refine lv_goto (tgt := 17) C0.1.1 C0.1.2.1 dL_valueAnew_8 (by decide) ?_
  refine lv_iconst (v := 0) C0.1.1 C0.1.2.1 dL_valueAnew_17 (by decide) ?_
  exact W.iret C0.1.1 C0.1.2.1 C0.2.1 (fun t ht hW => ⟨⟨0, u, rfl, ⟨by rw [hk0]; rfl, fun _ => hu⟩, lZ_end Z3 ht hW⟩, va_S.F (lZ_S Z3) ht⟩) (lZ_S Z3).2.2 dL_valueAnew_18 C0.2.2
/-! the wrapper of signs -/
abbrev rmL_signs : Room := { frames := 8, cells := 1, slots := 6, locals := 133 }
theorem kL_signs_l20 : Cond.classLink RL 20 "java/lang/IndexOutOfBoundsException" ∈ wsL_signs := by decide +kernel
set_option maxRecDepth 20000 in
set_option maxHeartbeats 4000000 in
theorem zL_signs (l : Launch) (hlf : l.stackTraces = false) (D : va_G) (cyI cyJ cyO : ClassId) (A : Nat → Prop) (bs : Nat) (hA : ∀ q, bs ≤ q → A q) (F : va_W) (q0 o : Nat) (ov : Nat → Int64) (hq : F[q0]? = some (o, .inl (cyJ, 1, .inr (.inl ov)))) (d : Nat → Nat) (eA : Nat) (ol : Int32) (fd : Int32) (dc : Int32) (ds : Nat → Int32) (fw : Nat → Int32) (fn : Nat → Nat) (ff : Nat → Nat → Int32) (qw : Nat → Int32) (qn : Nat → Nat) (qf : Nat → Nat → Int32) (va : Nat → Int64) (tr : Nat → Int64) (N : Nat) (p0 : Int32) (code : Nat) (r : Int32) (k : Nat) (h : mX3_signs N fw fn ff p0 = some (code, r)) (hc : code = 0 ∧ k = 0 ∨ code = 1 ∧ k = 1) : Met l yL_signs wsL_signs rmL_signs (va_Pc [.ref (d 0), .int p0, .ref o] (lP (lW F D cyI cyJ cyO A bs d eA ol fd dc ds fw fn ff qw qn qf va tr) A)) (va_Qi (fun (x : Int32) (u : Nat → Int64) => x = nI k ∧ (k = 0 → u 0 = r.toInt64)) (fun u U => lW (F.set q0 (o, .inl (cyJ, 1, .inr (.inl u)))) D cyI cyJ cyO A bs d eA ol fd dc ds fw fn ff qw qn qf va tr U) A) 1 6 A := by
  refine Met_ofWH (cc := cL_signs) (maxL := 4) (ret := (some .int)) (by decide) rfl ?_
  intro p e s m args below meth c s₁ B hml htab hv
  obtain ⟨hav, hv⟩ := hv
  obtain ⟨hv, hN, hT⟩ := hv
  have C0 : gC p m meth c cL_signs 4 (some .int) s args wsL_signs RL := ⟨⟨B.exec, B.bytes, hml, findClass_of_methodNamed B.named, atoms_spec (ws := wsL_signs) B.pre⟩, B.returns, B.notSynchronized⟩
  have Z := lZ_start hA hv
  have hl := lv_entry ([.ref (d 0), .int p0, .ref o]) (n := 4) (Nat.le_of_ble_eq_true rfl)
  rw [hav, lg_entry_eq]
  generalize (lg_sl ([.ref (d 0), .int p0, .ref o]) ++ List.replicate (4 - (lg_sl ([.ref (d 0), .int p0, .ref o])).length) Slot.unset).toArray = ls at hl ⊢
  have hl : lv_has ls 4 [(0, .ref (d 0)), (1, .int p0), (2, .ref o)] := hl
  rw [← hav]
  obtain ⟨P, g, rs, rr, at1, fa, ra, Z1, hF⟩ := Z
  refine lv_aload_n C0.1.1 C0.1.2.1 dL_signs_0 rfl (lv_at hl 2 rfl) ?_
  refine lv_iconst (v := 0) C0.1.1 C0.1.2.1 dL_signs_1 (by decide) ?_
  refine lv_aload_n C0.1.1 C0.1.2.1 dL_signs_2 rfl (lv_at hl 0 rfl) ?_
  refine lv_iload_n C0.1.1 C0.1.2.1 dL_signs_3 rfl (lv_at hl 1 rfl) ?_
  refine vx_calli (vx_runV (b := d 0) (C := RX3) (As := [.int p0]) (rest := [.int 0, .ref o]) C0.1 (zX3_signs l hlf D cyI cyJ cyO (aA A F) s.heap.size (fr_pre Z1) P g d eA ol fd dc ds fw fn ff qw qn qf va tr N p0 _ h) (cwV 1 C0.1.2.2.2.2 gL_signs_X3_signs rfl rfl rfl (by decide +kernel) ⟨Nat.le_of_ble_eq_true rfl, Nat.le_of_ble_eq_true rfl⟩) ⟨dP_blind, va_recv Z1.2.1 (fr_P Z1) (ci := 5) (q0 := 0) rfl rfl, fr_dP Z1 hF hN hT _⟩ rfl rfl hl.1 rfl (lv_room (Nat.le_of_ble_eq_true rfl)) dL_signs_4 ⟨Nat.le_of_ble_eq_true rfl, Nat.le_of_ble_eq_true rfl⟩) Z1.2.2.2.1 (fun _ _ h => h.1) (fun _ h => h.1) (fun _ _ h => h.1) (fun E ce q9 u t H1 locs1 ht hvm _ hB _ hk hS h1 h2 h3 => ?_) (fun x u t H1 locs1 ht hvm hw hB _ hk hS => ?_)
  · obtain ⟨hne, rfl, hB⟩ := hB
    have Z2 : lZ F D cyI cyJ cyO A bs d eA ol fd dc ds fw fn ff qw qn qf va tr s H1 locs1 := fr_dZ Z1 ht hvm hB hk hS
    rcases hc with ⟨rfl, rfl⟩ | ⟨rfl, rfl⟩
    · exact absurd rfl hne
    · refine vx_catch (E := "java/lang/IndexOutOfBoundsException") C0.1.2.2.2.1 [] ⟨0, 9, 12, 20⟩ [] htab (fun _ z => nomatch z) (by decide) (by decide) (C0.1.2.2.2.2 _ kL_signs_l20) (nestW_use hN.1 (.castable "java/lang/IndexOutOfBoundsException" "java/lang/IndexOutOfBoundsException") (by decide +kernel)) h1 h2 h3 ?_
      refine lv_astore_n (lv' := [(3, .ref q9), (0, .ref (d 0)), (1, .int p0), (2, .ref o)]) C0.1.1 C0.1.2.1 dL_signs_12 rfl hl (by decide) rfl (fun ls hl => ?_)
      refine lv_iconst (v := 1) C0.1.1 C0.1.2.1 dL_signs_13 (by decide) ?_
      exact W.iret C0.1.1 C0.1.2.1 C0.2.1 (fun t ht hW => ⟨⟨1, ov, rfl, ⟨rfl, fun z => absurd z (by decide)⟩, lW_set hq (lZ_end Z2 ht hW)⟩, va_S.F (lZ_S Z2) ht⟩) (lZ_S Z2).2.2 dL_signs_14 C0.2.2
  obtain ⟨hcode, hx⟩ := hw
  replace hcode : code = 0 := hcode
  replace hx : r = x := hx
  subst hx
  have Z2 : lZ F D cyI cyJ cyO A bs d eA ol fd dc ds fw fn ff qw qn qf va tr s H1 locs1 := fr_dZ Z1 ht hvm hB hk hS
  have hk0 : k = 0 := by omega
  refine lv_i2l (v := r.toInt64) C0.1.1 C0.1.2.1 dL_signs_7 rfl ?_
  refine l_out C0.1 Z2 hq dL_signs_8 (fun u H2 locs2 hu Z3 => ?_)
  refine lv_goto (tgt := 15) C0.1.1 C0.1.2.1 dL_signs_9 (by decide) ?_
  refine lv_iconst (v := 0) C0.1.1 C0.1.2.1 dL_signs_15 (by decide) ?_
  exact W.iret C0.1.1 C0.1.2.1 C0.2.1 (fun t ht hW => ⟨⟨0, u, rfl, ⟨by rw [hk0]; rfl, fun _ => hu⟩, lZ_end Z3 ht hW⟩, va_S.F (lZ_S Z3) ht⟩) (lZ_S Z3).2.2 dL_signs_16 C0.2.2
/-! the wrapper of level -/
abbrev rmL_level : Room := { frames := 8, cells := 1, slots := 6, locals := 135 }
theorem kL_level_l20 : Cond.classLink RL 20 "java/lang/IndexOutOfBoundsException" ∈ wsL_level := by decide +kernel
set_option maxRecDepth 20000 in
set_option maxHeartbeats 4000000 in
theorem zL_level (l : Launch) (hlf : l.stackTraces = false) (D : va_G) (cyI cyJ cyO : ClassId) (A : Nat → Prop) (bs : Nat) (hA : ∀ q, bs ≤ q → A q) (F : va_W) (q0 o : Nat) (ov : Nat → Int64) (hq : F[q0]? = some (o, .inl (cyJ, 1, .inr (.inl ov)))) (d : Nat → Nat) (eA : Nat) (ol : Int32) (fd : Int32) (dc : Int32) (ds : Nat → Int32) (fw : Nat → Int32) (fn : Nat → Nat) (ff : Nat → Nat → Int32) (qw : Nat → Int32) (qn : Nat → Nat) (qf : Nat → Nat → Int32) (va : Nat → Int64) (tr : Nat → Int64) (N : Nat) (p0 : Int32) (code : Nat) (r : Int32) (k : Nat) (h : mX3_level N fw fn ff p0 = some (code, r)) (hc : code = 0 ∧ k = 0 ∨ code = 1 ∧ k = 1) : Met l yL_level wsL_level rmL_level (va_Pc [.ref (d 0), .int p0, .ref o] (lP (lW F D cyI cyJ cyO A bs d eA ol fd dc ds fw fn ff qw qn qf va tr) A)) (va_Qi (fun (x : Int32) (u : Nat → Int64) => x = nI k ∧ (k = 0 → u 0 = r.toInt64)) (fun u U => lW (F.set q0 (o, .inl (cyJ, 1, .inr (.inl u)))) D cyI cyJ cyO A bs d eA ol fd dc ds fw fn ff qw qn qf va tr U) A) 1 6 A := by
  refine Met_ofWH (cc := cL_level) (maxL := 4) (ret := (some .int)) (by decide) rfl ?_
  intro p e s m args below meth c s₁ B hml htab hv
  obtain ⟨hav, hv⟩ := hv
  obtain ⟨hv, hN, hT⟩ := hv
  have C0 : gC p m meth c cL_level 4 (some .int) s args wsL_level RL := ⟨⟨B.exec, B.bytes, hml, findClass_of_methodNamed B.named, atoms_spec (ws := wsL_level) B.pre⟩, B.returns, B.notSynchronized⟩
  have Z := lZ_start hA hv
  have hl := lv_entry ([.ref (d 0), .int p0, .ref o]) (n := 4) (Nat.le_of_ble_eq_true rfl)
  rw [hav, lg_entry_eq]
  generalize (lg_sl ([.ref (d 0), .int p0, .ref o]) ++ List.replicate (4 - (lg_sl ([.ref (d 0), .int p0, .ref o])).length) Slot.unset).toArray = ls at hl ⊢
  have hl : lv_has ls 4 [(0, .ref (d 0)), (1, .int p0), (2, .ref o)] := hl
  rw [← hav]
  obtain ⟨P, g, rs, rr, at1, fa, ra, Z1, hF⟩ := Z
  refine lv_aload_n C0.1.1 C0.1.2.1 dL_level_0 rfl (lv_at hl 2 rfl) ?_
  refine lv_iconst (v := 0) C0.1.1 C0.1.2.1 dL_level_1 (by decide) ?_
  refine lv_aload_n C0.1.1 C0.1.2.1 dL_level_2 rfl (lv_at hl 0 rfl) ?_
  refine lv_iload_n C0.1.1 C0.1.2.1 dL_level_3 rfl (lv_at hl 1 rfl) ?_
  refine vx_calli (vx_runV (b := d 0) (C := RX3) (As := [.int p0]) (rest := [.int 0, .ref o]) C0.1 (zX3_level l hlf D cyI cyJ cyO (aA A F) s.heap.size (fr_pre Z1) P g d eA ol fd dc ds fw fn ff qw qn qf va tr N p0 _ h) (cwV 1 C0.1.2.2.2.2 gL_level_X3_level rfl rfl rfl (by decide +kernel) ⟨Nat.le_of_ble_eq_true rfl, Nat.le_of_ble_eq_true rfl⟩) ⟨dP_blind, va_recv Z1.2.1 (fr_P Z1) (ci := 5) (q0 := 0) rfl rfl, fr_dP Z1 hF hN hT _⟩ rfl rfl hl.1 rfl (lv_room (Nat.le_of_ble_eq_true rfl)) dL_level_4 ⟨Nat.le_of_ble_eq_true rfl, Nat.le_of_ble_eq_true rfl⟩) Z1.2.2.2.1 (fun _ _ h => h.1) (fun _ h => h.1) (fun _ _ h => h.1) (fun E ce q9 u t H1 locs1 ht hvm _ hB _ hk hS h1 h2 h3 => ?_) (fun x u t H1 locs1 ht hvm hw hB _ hk hS => ?_)
  · obtain ⟨hne, rfl, hB⟩ := hB
    have Z2 : lZ F D cyI cyJ cyO A bs d eA ol fd dc ds fw fn ff qw qn qf va tr s H1 locs1 := fr_dZ Z1 ht hvm hB hk hS
    rcases hc with ⟨rfl, rfl⟩ | ⟨rfl, rfl⟩
    · exact absurd rfl hne
    · refine vx_catch (E := "java/lang/IndexOutOfBoundsException") C0.1.2.2.2.1 [] ⟨0, 9, 12, 20⟩ [] htab (fun _ z => nomatch z) (by decide) (by decide) (C0.1.2.2.2.2 _ kL_level_l20) (nestW_use hN.1 (.castable "java/lang/IndexOutOfBoundsException" "java/lang/IndexOutOfBoundsException") (by decide +kernel)) h1 h2 h3 ?_
      refine lv_astore_n (lv' := [(3, .ref q9), (0, .ref (d 0)), (1, .int p0), (2, .ref o)]) C0.1.1 C0.1.2.1 dL_level_12 rfl hl (by decide) rfl (fun ls hl => ?_)
      refine lv_iconst (v := 1) C0.1.1 C0.1.2.1 dL_level_13 (by decide) ?_
      exact W.iret C0.1.1 C0.1.2.1 C0.2.1 (fun t ht hW => ⟨⟨1, ov, rfl, ⟨rfl, fun z => absurd z (by decide)⟩, lW_set hq (lZ_end Z2 ht hW)⟩, va_S.F (lZ_S Z2) ht⟩) (lZ_S Z2).2.2 dL_level_14 C0.2.2
  obtain ⟨hcode, hx⟩ := hw
  replace hcode : code = 0 := hcode
  replace hx : r = x := hx
  subst hx
  have Z2 : lZ F D cyI cyJ cyO A bs d eA ol fd dc ds fw fn ff qw qn qf va tr s H1 locs1 := fr_dZ Z1 ht hvm hB hk hS
  have hk0 : k = 0 := by omega
  refine lv_i2l (v := r.toInt64) C0.1.1 C0.1.2.1 dL_level_7 rfl ?_
  refine l_out C0.1 Z2 hq dL_level_8 (fun u H2 locs2 hu Z3 => ?_)
  refine lv_goto (tgt := 15) C0.1.1 C0.1.2.1 dL_level_9 (by decide) ?_
  refine lv_iconst (v := 0) C0.1.1 C0.1.2.1 dL_level_15 (by decide) ?_
  exact W.iret C0.1.1 C0.1.2.1 C0.2.1 (fun t ht hW => ⟨⟨0, u, rfl, ⟨by rw [hk0]; rfl, fun _ => hu⟩, lZ_end Z3 ht hW⟩, va_S.F (lZ_S Z3) ht⟩) (lZ_S Z3).2.2 dL_level_16 C0.2.2
/-! the wrapper of depends -/
abbrev rmL_depends : Room := { frames := 8, cells := 2, slots := 12, locals := 134 }
theorem kL_depends_l20 : Cond.classLink RL 20 "java/lang/IndexOutOfBoundsException" ∈ wsL_depends := by decide +kernel
set_option maxRecDepth 20000 in
set_option maxHeartbeats 4000000 in
theorem zL_depends (l : Launch) (hlf : l.stackTraces = false) (D : va_G) (cyI cyJ cyO : ClassId) (A : Nat → Prop) (bs : Nat) (hA : ∀ q, bs ≤ q → A q) (F : va_W) (q0 o : Nat) (ov : Nat → Int64) (hq : F[q0]? = some (o, .inl (cyJ, 1, .inr (.inl ov)))) (d : Nat → Nat) (eA : Nat) (ol : Int32) (fd : Int32) (dc : Int32) (ds : Nat → Int32) (fw : Nat → Int32) (fn : Nat → Nat) (ff : Nat → Nat → Int32) (qw : Nat → Int32) (qn : Nat → Nat) (qf : Nat → Nat → Int32) (va : Nat → Int64) (tr : Nat → Int64) (N : Nat) (p0 : Int32) (p1 : Int32) (code : Nat) (r : Int32) (k : Nat) (h : mX3_depends N fw fn ff p0 p1 = some (code, r)) (hc : code = 0 ∧ k = 0 ∨ code = 1 ∧ k = 1) : Met l yL_depends wsL_depends rmL_depends (va_Pc [.ref (d 0), .int p0, .int p1, .ref o] (lP (lW F D cyI cyJ cyO A bs d eA ol fd dc ds fw fn ff qw qn qf va tr) A)) (va_Qi (fun (x : Int32) (u : Nat → Int64) => x = nI k ∧ (k = 0 → u 0 = if r = 0 then 0 else 1)) (fun u U => lW (F.set q0 (o, .inl (cyJ, 1, .inr (.inl u)))) D cyI cyJ cyO A bs d eA ol fd dc ds fw fn ff qw qn qf va tr U) A) 2 12 A := by
  refine Met_ofWH (cc := cL_depends) (maxL := 5) (ret := (some .int)) (by decide) rfl ?_
  intro p e s m args below meth c s₁ B hml htab hv
  obtain ⟨hav, hv⟩ := hv
  obtain ⟨hv, hN, hT⟩ := hv
  have C0 : gC p m meth c cL_depends 5 (some .int) s args wsL_depends RL := ⟨⟨B.exec, B.bytes, hml, findClass_of_methodNamed B.named, atoms_spec (ws := wsL_depends) B.pre⟩, B.returns, B.notSynchronized⟩
  have Z := lZ_start hA hv
  have hl := lv_entry ([.ref (d 0), .int p0, .int p1, .ref o]) (n := 5) (Nat.le_of_ble_eq_true rfl)
  rw [hav, lg_entry_eq]
  generalize (lg_sl ([.ref (d 0), .int p0, .int p1, .ref o]) ++ List.replicate (5 - (lg_sl ([.ref (d 0), .int p0, .int p1, .ref o])).length) Slot.unset).toArray = ls at hl ⊢
  have hl : lv_has ls 5 [(0, .ref (d 0)), (1, .int p0), (2, .int p1), (3, .ref o)] := hl
  rw [← hav]
  obtain ⟨P, g, rs, rr, at1, fa, ra, Z1, hF⟩ := Z
  refine lv_aload_n C0.1.1 C0.1.2.1 dL_depends_0 rfl (lv_at hl 3 rfl) ?_
  refine lv_iconst (v := 0) C0.1.1 C0.1.2.1 dL_depends_1 (by decide) ?_
  refine lv_aload_n C0.1.1 C0.1.2.1 dL_depends_2 rfl (lv_at hl 0 rfl) ?_
  refine lv_iload_n C0.1.1 C0.1.2.1 dL_depends_3 rfl (lv_at hl 1 rfl) ?_
  refine lv_iload_n C0.1.1 C0.1.2.1 dL_depends_4 rfl (lv_at hl 2 rfl) ?_
  refine vx_calli (vx_runV (b := d 0) (C := RX3) (As := [.int p0, .int p1]) (rest := [.int 0, .ref o]) C0.1 (zX3_depends l hlf D cyI cyJ cyO (aA A F) s.heap.size (fr_pre Z1) P g d eA ol fd dc ds fw fn ff qw qn qf va tr N p0 p1 _ h) (cwV 2 C0.1.2.2.2.2 gL_depends_X3_depends rfl rfl rfl (by decide +kernel) ⟨Nat.le_of_ble_eq_true rfl, Nat.le_of_ble_eq_true rfl⟩) ⟨dP_blind, va_recv Z1.2.1 (fr_P Z1) (ci := 5) (q0 := 0) rfl rfl, fr_dP Z1 hF hN hT _⟩ rfl rfl hl.1 rfl (lv_room (Nat.le_of_ble_eq_true rfl)) dL_depends_5 ⟨Nat.le_of_ble_eq_true rfl, Nat.le_of_ble_eq_true rfl⟩) Z1.2.2.2.1 (fun _ _ h => h.1) (fun _ h => h.1) (fun _ _ h => h.1) (fun E ce q9 u t H1 locs1 ht hvm _ hB _ hk hS h1 h2 h3 => ?_) (fun x u t H1 locs1 ht hvm hw hB _ hk hS => ?_)
  · obtain ⟨hne, rfl, hB⟩ := hB
    have Z2 : lZ F D cyI cyJ cyO A bs d eA ol fd dc ds fw fn ff qw qn qf va tr s H1 locs1 := fr_dZ Z1 ht hvm hB hk hS
    rcases hc with ⟨rfl, rfl⟩ | ⟨rfl, rfl⟩
    · exact absurd rfl hne
    · refine vx_catch (E := "java/lang/IndexOutOfBoundsException") C0.1.2.2.2.1 [] ⟨0, 17, 20, 20⟩ [] htab (fun _ z => nomatch z) (by decide) (by decide) (C0.1.2.2.2.2 _ kL_depends_l20) (nestW_use hN.1 (.castable "java/lang/IndexOutOfBoundsException" "java/lang/IndexOutOfBoundsException") (by decide +kernel)) h1 h2 h3 ?_
      refine lv_astore (lv' := [(4, .ref q9), (0, .ref (d 0)), (1, .int p0), (2, .int p1), (3, .ref o)]) C0.1.1 C0.1.2.1 dL_depends_20 hl (by decide) rfl (fun ls hl => ?_)
      refine lv_iconst (v := 1) C0.1.1 C0.1.2.1 dL_depends_22 (by decide) ?_
      exact W.iret C0.1.1 C0.1.2.1 C0.2.1 (fun t ht hW => ⟨⟨1, ov, rfl, ⟨rfl, fun z => absurd z (by decide)⟩, lW_set hq (lZ_end Z2 ht hW)⟩, va_S.F (lZ_S Z2) ht⟩) (lZ_S Z2).2.2 dL_depends_23 C0.2.2
  obtain ⟨hcode, hx⟩ := hw
  replace hcode : code = 0 := hcode
  replace hx : r = x := hx
  subst hx
  have Z2 : lZ F D cyI cyJ cyO A bs d eA ol fd dc ds fw fn ff qw qn qf va tr s H1 locs1 := fr_dZ Z1 ht hvm hB hk hS
  have hk0 : k = 0 := by omega
  refine lv_if_eq (tgt := 15) C0.1.1 C0.1.2.1 dL_depends_8 (by decide) (fun hr0 => ?_) (fun hr0 => ?_)
  · refine lv_lconst (v := 0) C0.1.1 C0.1.2.1 dL_depends_15 (by decide) ?_
    refine l_out C0.1 Z2 hq dL_depends_16 (fun u H2 locs2 hu Z3 => ?_)
    replace hu : u 0 = if r = 0 then 0 else 1 := by rw [hu, if_pos hr0]
    refine lv_goto (tgt := 24) C0.1.1 C0.1.2.1 dL_depends_17 (by decide) ?_
    refine lv_iconst (v := 0) C0.1.1 C0.1.2.1 dL_depends_24 (by decide) ?_
    exact W.iret C0.1.1 C0.1.2.1 C0.2.1 (fun t ht hW => ⟨⟨0, u, rfl, ⟨by rw [hk0]; rfl, fun _ => hu⟩, lZ_end Z3 ht hW⟩, va_S.F (lZ_S Z3) ht⟩) (lZ_S Z3).2.2 dL_depends_25 C0.2.2
  · refine lv_lconst (v := 1) C0.1.1 C0.1.2.1 dL_depends_11 (by decide) ?_
    refine lv_goto (tgt := 16) C0.1.1 C0.1.2.1 dL_depends_12 (by decide) ?_
    refine l_out C0.1 Z2 hq dL_depends_16 (fun u H2 locs2 hu Z3 => ?_)
    replace hu : u 0 = if r = 0 then 0 else 1 := by rw [hu, if_neg hr0]
    refine lv_goto (tgt := 24) C0.1.1 C0.1.2.1 dL_depends_17 (by decide) ?_
    refine lv_iconst (v := 0) C0.1.1 C0.1.2.1 dL_depends_24 (by decide) ?_
    exact W.iret C0.1.1 C0.1.2.1 C0.2.1 (fun t ht hW => ⟨⟨0, u, rfl, ⟨by rw [hk0]; rfl, fun _ => hu⟩, lZ_end Z3 ht hW⟩, va_S.F (lZ_S Z3) ht⟩) (lZ_S Z3).2.2 dL_depends_25 C0.2.2
/-! the wrapper of seek -/
abbrev rmL_seek : Room := { frames := 63, cells := 4, slots := 18, locals := 1550 }
theorem kL_seek_l20 : Cond.classLink RL 20 "java/lang/IndexOutOfBoundsException" ∈ wsL_seek := by decide +kernel
theorem kL_seek_l13 : Cond.classLink RL 13 "java/lang/IllegalArgumentException" ∈ wsL_seek := by decide +kernel
theorem kL_seek_l15 : Cond.classLink RL 15 "java/lang/IllegalStateException" ∈ wsL_seek := by decide +kernel
theorem kL_seek_l68 : Cond.classLink RL 68 "java/util/NoSuchElementException" ∈ wsL_seek := by decide +kernel
set_option maxRecDepth 20000 in
set_option maxHeartbeats 4000000 in
theorem zL_seek (l : Launch) (hlf : l.stackTraces = false) (D : va_G) (cyI cyJ cyO : ClassId) (A : Nat → Prop) (bs : Nat) (hA : ∀ q, bs ≤ q → A q) (F : va_W) (q0 o : Nat) (ov : Nat → Int64) (hq : F[q0]? = some (o, .inl (cyJ, 1, .inr (.inl ov)))) (d : Nat → Nat) (eA : Nat) (ol : Int32) (fd : Int32) (dc : Int32) (ds : Nat → Int32) (fw : Nat → Int32) (fn : Nat → Nat) (ff : Nat → Nat → Int32) (qw : Nat → Int32) (qn : Nat → Nat) (qf : Nat → Nat → Int32) (va : Nat → Int64) (tr : Nat → Int64) (N : Nat) (p0 : Int32) (p1 : Int32) (p2 : Int32) (p3 : Int32) (p4 : Int32) (code : Nat) (r : Int32) (fd' : Int32) (fw' : Nat → Int32) (fn' : Nat → Nat) (ff' : Nat → Nat → Int32) (va' : Nat → Int64) (tr' : Nat → Int64) (k : Nat) (h : mX3_seek N fd fw fn ff va tr p0 p1 p2 p3 p4 = some (code, r, fd', fw', fn', ff', va', tr')) (hc : code = 0 ∧ k = 0 ∨ code = 1 ∧ k = 1 ∨ code = 2 ∧ k = 2 ∨ code = 3 ∧ k = 3 ∨ code = 5 ∧ k = 4) : Met l yL_seek wsL_seek rmL_seek (va_Pc [.ref (d 0), .int p0, .int p1, .int p2, .int p3, .int p4, .ref o] (lP (lW F D cyI cyJ cyO A bs d eA ol fd dc ds fw fn ff qw qn qf va tr) A)) (va_Qi (fun (x : Int32) (u : Nat → Int64) => x = nI k ∧ (k = 0 → u 0 = r.toInt64)) (fun u U => lW (F.set q0 (o, .inl (cyJ, 1, .inr (.inl u)))) D cyI cyJ cyO A bs d eA ol fd' dc ds fw' fn' ff' qw qn qf va' tr' U) A) 4 18 A := by
  refine Met_ofWH (cc := cL_seek) (maxL := 8) (ret := (some .int)) (by decide) rfl ?_
  intro p e s m args below meth c s₁ B hml htab hv
  obtain ⟨hav, hv⟩ := hv
  obtain ⟨hv, hN, hT⟩ := hv
  have C0 : gC p m meth c cL_seek 8 (some .int) s args wsL_seek RL := ⟨⟨B.exec, B.bytes, hml, findClass_of_methodNamed B.named, atoms_spec (ws := wsL_seek) B.pre⟩, B.returns, B.notSynchronized⟩
  have Z := lZ_start hA hv
  have hl := lv_entry ([.ref (d 0), .int p0, .int p1, .int p2, .int p3, .int p4, .ref o]) (n := 8) (Nat.le_of_ble_eq_true rfl)
  rw [hav, lg_entry_eq]
  generalize (lg_sl ([.ref (d 0), .int p0, .int p1, .int p2, .int p3, .int p4, .ref o]) ++ List.replicate (8 - (lg_sl ([.ref (d 0), .int p0, .int p1, .int p2, .int p3, .int p4, .ref o])).length) Slot.unset).toArray = ls at hl ⊢
  have hl : lv_has ls 8 [(0, .ref (d 0)), (1, .int p0), (2, .int p1), (3, .int p2), (4, .int p3), (5, .int p4), (6, .ref o)] := hl
  rw [← hav]
  obtain ⟨P, g, rs, rr, at1, fa, ra, Z1, hF⟩ := Z
  refine lv_aload C0.1.1 C0.1.2.1 dL_seek_0 (lv_at hl 6 rfl) ?_
  refine lv_iconst (v := 0) C0.1.1 C0.1.2.1 dL_seek_2 (by decide) ?_
  refine lv_aload_n C0.1.1 C0.1.2.1 dL_seek_3 rfl (lv_at hl 0 rfl) ?_
  refine lv_iload_n C0.1.1 C0.1.2.1 dL_seek_4 rfl (lv_at hl 1 rfl) ?_
  refine lv_iload_n C0.1.1 C0.1.2.1 dL_seek_5 rfl (lv_at hl 2 rfl) ?_
  refine lv_iload_n C0.1.1 C0.1.2.1 dL_seek_6 rfl (lv_at hl 3 rfl) ?_
  refine lv_iload C0.1.1 C0.1.2.1 dL_seek_7 (lv_at hl 4 rfl) ?_
  refine lv_iload C0.1.1 C0.1.2.1 dL_seek_9 (lv_at hl 5 rfl) ?_
  refine vx_calli (vx_runV (b := d 0) (C := RX3) (As := [.int p0, .int p1, .int p2, .int p3, .int p4]) (rest := [.int 0, .ref o]) C0.1 (zX3_seek l hlf D cyI cyJ cyO (aA A F) s.heap.size (fr_pre Z1) P g d eA ol fd dc ds fw fn ff qw qn qf va tr N p0 p1 p2 p3 p4 _ h) (cwV 5 C0.1.2.2.2.2 gL_seek_X3_seek rfl rfl rfl (by decide +kernel) ⟨Nat.le_of_ble_eq_true rfl, Nat.le_of_ble_eq_true rfl⟩) ⟨dP_blind, va_recv Z1.2.1 (fr_P Z1) (ci := 5) (q0 := 0) rfl rfl, fr_dP Z1 hF hN hT _⟩ rfl rfl hl.1 rfl (lv_room (Nat.le_of_ble_eq_true rfl)) dL_seek_11 ⟨Nat.le_of_ble_eq_true rfl, Nat.le_of_ble_eq_true rfl⟩) Z1.2.2.2.1 (fun _ _ h => h.1) (fun _ h => h.1) (fun _ _ h => h.1) (fun E ce q9 u t H1 locs1 ht hvm _ hB _ hk hS h1 h2 h3 => ?_) (fun x u t H1 locs1 ht hvm hw hB _ hk hS => ?_)
  · obtain ⟨hne, rfl, hu, hB⟩ := hB
    subst hu
    obtain ⟨P1, g1, _, hB⟩ := hB
    have Z2 : lZ F D cyI cyJ cyO A bs d eA ol fd' dc ds fw' fn' ff' qw qn qf va' tr' s H1 locs1 := fr_dZ Z1 ht hvm hB hk hS
    rcases hc with ⟨rfl, rfl⟩ | ⟨rfl, rfl⟩ | ⟨rfl, rfl⟩ | ⟨rfl, rfl⟩ | ⟨rfl, rfl⟩
    · exact absurd rfl hne
    · refine vx_catch (E := "java/lang/IndexOutOfBoundsException") C0.1.2.2.2.1 [] ⟨0, 16, 19, 20⟩ [⟨0, 16, 23, 13⟩, ⟨0, 16, 27, 15⟩, ⟨0, 16, 31, 68⟩] htab (fun _ z => nomatch z) (by decide) (by decide) (C0.1.2.2.2.2 _ kL_seek_l20) (nestW_use hN.1 (.castable "java/lang/IndexOutOfBoundsException" "java/lang/IndexOutOfBoundsException") (by decide +kernel)) h1 h2 h3 ?_
      refine lv_astore (lv' := [(7, .ref q9), (0, .ref (d 0)), (1, .int p0), (2, .int p1), (3, .int p2), (4, .int p3), (5, .int p4), (6, .ref o)]) C0.1.1 C0.1.2.1 dL_seek_19 hl (by decide) rfl (fun ls hl => ?_)
      refine lv_iconst (v := 1) C0.1.1 C0.1.2.1 dL_seek_21 (by decide) ?_
      exact W.iret C0.1.1 C0.1.2.1 C0.2.1 (fun t ht hW => ⟨⟨1, ov, rfl, ⟨rfl, fun z => absurd z (by decide)⟩, lW_set hq (lZ_end Z2 ht hW)⟩, va_S.F (lZ_S Z2) ht⟩) (lZ_S Z2).2.2 dL_seek_22 C0.2.2
    · refine vx_catch (E := "java/lang/IllegalArgumentException") C0.1.2.2.2.1 [⟨0, 16, 19, 20⟩] ⟨0, 16, 23, 13⟩ [⟨0, 16, 27, 15⟩, ⟨0, 16, 31, 68⟩] htab (List.forall_mem_cons.mpr ⟨.inr ⟨by decide, _, C0.1.2.2.2.2 _ kL_seek_l20, hN.2 ("java/lang/IllegalArgumentException", "java/lang/IndexOutOfBoundsException") (by decide +kernel)⟩, fun _ z => nomatch z⟩) (by decide) (by decide) (C0.1.2.2.2.2 _ kL_seek_l13) (nestW_use hN.1 (.castable "java/lang/IllegalArgumentException" "java/lang/IllegalArgumentException") (by decide +kernel)) h1 h2 h3 ?_
      refine lv_astore (lv' := [(7, .ref q9), (0, .ref (d 0)), (1, .int p0), (2, .int p1), (3, .int p2), (4, .int p3), (5, .int p4), (6, .ref o)]) C0.1.1 C0.1.2.1 dL_seek_23 hl (by decide) rfl (fun ls hl => ?_)
      refine lv_iconst (v := 2) C0.1.1 C0.1.2.1 dL_seek_25 (by decide) ?_
      exact W.iret C0.1.1 C0.1.2.1 C0.2.1 (fun t ht hW => ⟨⟨2, ov, rfl, ⟨rfl, fun z => absurd z (by decide)⟩, lW_set hq (lZ_end Z2 ht hW)⟩, va_S.F (lZ_S Z2) ht⟩) (lZ_S Z2).2.2 dL_seek_26 C0.2.2
    · refine vx_catch (E := "java/lang/IllegalStateException") C0.1.2.2.2.1 [⟨0, 16, 19, 20⟩, ⟨0, 16, 23, 13⟩] ⟨0, 16, 27, 15⟩ [⟨0, 16, 31, 68⟩] htab (List.forall_mem_cons.mpr ⟨.inr ⟨by decide, _, C0.1.2.2.2.2 _ kL_seek_l20, hN.2 ("java/lang/IllegalStateException", "java/lang/IndexOutOfBoundsException") (by decide +kernel)⟩, List.forall_mem_cons.mpr ⟨.inr ⟨by decide, _, C0.1.2.2.2.2 _ kL_seek_l13, hN.2 ("java/lang/IllegalStateException", "java/lang/IllegalArgumentException") (by decide +kernel)⟩, fun _ z => nomatch z⟩⟩) (by decide) (by decide) (C0.1.2.2.2.2 _ kL_seek_l15) (nestW_use hN.1 (.castable "java/lang/IllegalStateException" "java/lang/IllegalStateException") (by decide +kernel)) h1 h2 h3 ?_
      refine lv_astore (lv' := [(7, .ref q9), (0, .ref (d 0)), (1, .int p0), (2, .int p1), (3, .int p2), (4, .int p3), (5, .int p4), (6, .ref o)]) C0.1.1 C0.1.2.1 dL_seek_27 hl (by decide) rfl (fun ls hl => ?_)
      refine lv_iconst (v := 3) C0.1.1 C0.1.2.1 dL_seek_29 (by decide) ?_
      exact W.iret C0.1.1 C0.1.2.1 C0.2.1 (fun t ht hW => ⟨⟨3, ov, rfl, ⟨rfl, fun z => absurd z (by decide)⟩, lW_set hq (lZ_end Z2 ht hW)⟩, va_S.F (lZ_S Z2) ht⟩) (lZ_S Z2).2.2 dL_seek_30 C0.2.2
    · refine vx_catch (E := "java/util/NoSuchElementException") C0.1.2.2.2.1 [⟨0, 16, 19, 20⟩, ⟨0, 16, 23, 13⟩, ⟨0, 16, 27, 15⟩] ⟨0, 16, 31, 68⟩ [] htab (List.forall_mem_cons.mpr ⟨.inr ⟨by decide, _, C0.1.2.2.2.2 _ kL_seek_l20, hN.2 ("java/util/NoSuchElementException", "java/lang/IndexOutOfBoundsException") (by decide +kernel)⟩, List.forall_mem_cons.mpr ⟨.inr ⟨by decide, _, C0.1.2.2.2.2 _ kL_seek_l13, hN.2 ("java/util/NoSuchElementException", "java/lang/IllegalArgumentException") (by decide +kernel)⟩, List.forall_mem_cons.mpr ⟨.inr ⟨by decide, _, C0.1.2.2.2.2 _ kL_seek_l15, hN.2 ("java/util/NoSuchElementException", "java/lang/IllegalStateException") (by decide +kernel)⟩, fun _ z => nomatch z⟩⟩⟩) (by decide) (by decide) (C0.1.2.2.2.2 _ kL_seek_l68) (nestW_use hN.1 (.castable "java/util/NoSuchElementException" "java/util/NoSuchElementException") (by decide +kernel)) h1 h2 h3 ?_
      refine lv_astore (lv' := [(7, .ref q9), (0, .ref (d 0)), (1, .int p0), (2, .int p1), (3, .int p2), (4, .int p3), (5, .int p4), (6, .ref o)]) C0.1.1 C0.1.2.1 dL_seek_31 hl (by decide) rfl (fun ls hl => ?_)
      refine lv_iconst (v := 4) C0.1.1 C0.1.2.1 dL_seek_33 (by decide) ?_
      exact W.iret C0.1.1 C0.1.2.1 C0.2.1 (fun t ht hW => ⟨⟨4, ov, rfl, ⟨rfl, fun z => absurd z (by decide)⟩, lW_set hq (lZ_end Z2 ht hW)⟩, va_S.F (lZ_S Z2) ht⟩) (lZ_S Z2).2.2 dL_seek_34 C0.2.2
  obtain ⟨hcode, hx, hu⟩ := hw
  subst hu
  replace hcode : code = 0 := hcode
  replace hx : r = x := hx
  subst hx
  obtain ⟨P1, g1, _, hB⟩ := hB
  have Z2 : lZ F D cyI cyJ cyO A bs d eA ol fd' dc ds fw' fn' ff' qw qn qf va' tr' s H1 locs1 := fr_dZ Z1 ht hvm hB hk hS
  have hk0 : k = 0 := by omega
  refine lv_i2l (v := r.toInt64) C0.1.1 C0.1.2.1 dL_seek_14 rfl ?_
  refine l_out C0.1 Z2 hq dL_seek_15 (fun u H2 locs2 hu Z3 => ?_)
  refine lv_goto (tgt := 35) C0.1.1 C0.1.2.1 dL_seek_16 (by decide) ?_
  refine lv_iconst (v := 0) C0.1.1 C0.1.2.1 dL_seek_35 (by decide) ?_
  exact W.iret C0.1.1 C0.1.2.1 C0.2.1 (fun t ht hW => ⟨⟨0, u, rfl, ⟨by rw [hk0]; rfl, fun _ => hu⟩, lZ_end Z3 ht hW⟩, va_S.F (lZ_S Z3) ht⟩) (lZ_S Z3).2.2 dL_seek_36 C0.2.2
