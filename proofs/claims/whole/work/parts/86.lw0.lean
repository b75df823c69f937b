/-! the law's wrappers over the office's calls -/
theorem lW_set {F : va_W} {q0 : Nat} {q : Nat × va_E} (hq : F[q0]? = some q) {D : va_G} {cyI cyJ cyO : ClassId} {A : Nat → Prop} {bs : Nat} {d : Nat → Nat} {eA : Nat} {ol : Int32} {fd : Int32} {dc : Int32} {ds : Nat → Int32} {fw : Nat → Int32} {fn : Nat → Nat} {ff : Nat → Nat → Int32} {qw : Nat → Int32} {qn : Nat → Nat} {qf : Nat → Nat → Int32} {va : Nat → Int64} {tr : Nat → Int64} {t : State} (h : lW F D cyI cyJ cyO A bs d eA ol fd dc ds fw fn ff qw qn qf va tr t) : lW (F.set q0 q) D cyI cyJ cyO A bs d eA ol fd dc ds fw fn ff qw qn qf va tr t := by rw [set_same hq]; exact h
/-! the wrapper of number -/
abbrev rmL_number : Room := { frames := 8, cells := 2, slots := 12, locals := 133 }
theorem kL_number_l13 : Cond.classLink RL 13 "java/lang/IllegalArgumentException" ∈ wsL_number := by decide +kernel
theorem kL_number_l15 : Cond.classLink RL 15 "java/lang/IllegalStateException" ∈ wsL_number := by decide +kernel
set_option maxRecDepth 20000 in
set_option maxHeartbeats 4000000 in
theorem zL_number (l : Launch) (hlf : l.stackTraces = false) (D : va_G) (cyI cyJ cyO : ClassId) (A : Nat → Prop) (bs : Nat) (hA : ∀ q, bs ≤ q → A q) (F : va_W) (q0 o : Nat) (ov : Nat → Int64) (hq : F[q0]? = some (o, .inl (cyJ, 1, .inr (.inl ov)))) (d : Nat → Nat) (eA : Nat) (ol : Int32) (fd : Int32) (dc : Int32) (ds : Nat → Int32) (fw : Nat → Int32) (fn : Nat → Nat) (ff : Nat → Nat → Int32) (qw : Nat → Int32) (qn : Nat → Nat) (qf : Nat → Nat → Int32) (va : Nat → Int64) (tr : Nat → Int64) (N : Nat) (p0 : Int32) (code : Nat) (r : Int32) (dc' : Int32) (ds' : Nat → Int32) (k : Nat) (h : mX3_number N dc ds p0 = some (code, r, dc', ds')) (hc : code = 0 ∧ k = 0 ∨ code = 2 ∧ k = 1 ∨ code = 3 ∧ k = 2) : Met l yL_number wsL_number rmL_number (va_Pc [.ref (d 0), .int p0, .ref o] (lP (lW F D cyI cyJ cyO A bs d eA ol fd dc ds fw fn ff qw qn qf va tr) A)) (va_Qi (fun (x : Int32) (u : Nat → Int64) => x = nI k ∧ (k = 0 → u 0 = r.toInt64)) (fun u U => lW (F.set q0 (o, .inl (cyJ, 1, .inr (.inl u)))) D cyI cyJ cyO A bs d eA ol fd dc' ds' fw fn ff qw qn qf va tr U) A) 2 12 A := by
  refine Met_ofWH (cc := cL_number) (maxL := 4) (ret := (some .int)) (by decide) rfl ?_
  intro p e s m args below meth c s₁ B hml htab hv
  obtain ⟨hav, hv⟩ := hv
  obtain ⟨hv, hN, hT⟩ := hv
  have C0 : gC p m meth c cL_number 4 (some .int) s args wsL_number RL := ⟨⟨B.exec, B.bytes, hml, findClass_of_methodNamed B.named, atoms_spec (ws := wsL_number) B.pre⟩, B.returns, B.notSynchronized⟩
  have Z := lZ_start hA hv
  have hl := lv_entry ([.ref (d 0), .int p0, .ref o]) (n := 4) (Nat.le_of_ble_eq_true rfl)
  rw [hav, lg_entry_eq]
  generalize (lg_sl ([.ref (d 0), .int p0, .ref o]) ++ List.replicate (4 - (lg_sl ([.ref (d 0), .int p0, .ref o])).length) Slot.unset).toArray = ls at hl ⊢
  have hl : lv_has ls 4 [(0, .ref (d 0)), (1, .int p0), (2, .ref o)] := hl
  rw [← hav]
  obtain ⟨P, g, rs, rr, at1, fa, ra, Z1, hF⟩ := Z
  refine lv_aload_n C0.1.1 C0.1.2.1 dL_number_0 rfl (lv_at hl 2 rfl) ?_
  refine lv_iconst (v := 0) C0.1.1 C0.1.2.1 dL_number_1 (by decide) ?_
  refine lv_aload_n C0.1.1 C0.1.2.1 dL_number_2 rfl (lv_at hl 0 rfl) ?_
  refine lv_iload_n C0.1.1 C0.1.2.1 dL_number_3 rfl (lv_at hl 1 rfl) ?_
  refine vx_calli (vx_runV (b := d 0) (C := RX3) (As := [.int p0]) (rest := [.int 0, .ref o]) C0.1 (zX3_number l hlf D cyI cyJ cyO (aA A F) s.heap.size (fr_pre Z1) P g d eA ol fd dc ds fw fn ff qw qn qf va tr N p0 _ h) (cwV 1 C0.1.2.2.2.2 gL_number_X3_number rfl rfl rfl (by decide +kernel) ⟨Nat.le_of_ble_eq_true rfl, Nat.le_of_ble_eq_true rfl⟩) ⟨dP_blind, va_recv Z1.2.1 (fr_P Z1) (ci := 5) (q0 := 0) rfl rfl, fr_dP Z1 hF hN hT _⟩ rfl rfl hl.1 rfl (lv_room (Nat.le_of_ble_eq_true rfl)) dL_number_4 ⟨Nat.le_of_ble_eq_true rfl, Nat.le_of_ble_eq_true rfl⟩) Z1.2.2.2.1 (fun _ _ h => h.1) (fun _ h => h.1) (fun _ _ h => h.1) (fun E ce q9 u t H1 locs1 ht hvm _ hB _ hk hS h1 h2 h3 => ?_) (fun x u t H1 locs1 ht hvm hw hB _ hk hS => ?_)
  · obtain ⟨hne, rfl, hu, hB⟩ := hB
    subst hu
    have Z2 : lZ F D cyI cyJ cyO A bs d eA ol fd dc' ds' fw fn ff qw qn qf va tr s H1 locs1 := fr_dZ Z1 ht hvm hB hk hS
    rcases hc with ⟨rfl, rfl⟩ | ⟨rfl, rfl⟩ | ⟨rfl, rfl⟩
    · exact absurd rfl hne
    · refine vx_catch (E := "java/lang/IllegalArgumentException") C0.1.2.2.2.1 [] ⟨0, 9, 12, 13⟩ [⟨0, 9, 15, 15⟩] htab (fun _ z => nomatch z) (by decide) (by decide) (C0.1.2.2.2.2 _ kL_number_l13) (nestW_use hN.1 (.castable "java/lang/IllegalArgumentException" "java/lang/IllegalArgumentException") (by decide +kernel)) h1 h2 h3 ?_
      refine lv_astore_n (lv' := [(3, .ref q9), (0, .ref (d 0)), (1, .int p0), (2, .ref o)]) C0.1.1 C0.1.2.1 dL_number_12 rfl hl (by decide) rfl (fun ls hl => ?_)
      refine lv_iconst (v := 1) C0.1.1 C0.1.2.1 dL_number_13 (by decide) ?_
      exact W.iret C0.1.1 C0.1.2.1 C0.2.1 (fun t ht hW => ⟨⟨1, ov, rfl, ⟨rfl, fun z => absurd z (by decide)⟩, lW_set hq (lZ_end Z2 ht hW)⟩, va_S.F (lZ_S Z2) ht⟩) (lZ_S Z2).2.2 dL_number_14 C0.2.2
    · refine vx_catch (E := "java/lang/IllegalStateException") C0.1.2.2.2.1 [⟨0, 9, 12, 13⟩] ⟨0, 9, 15, 15⟩ [] htab (List.forall_mem_cons.mpr ⟨.inr ⟨by decide, _, C0.1.2.2.2.2 _ kL_number_l13, hN.2 ("java/lang/IllegalStateException", "java/lang/IllegalArgumentException") (by decide +kernel)⟩, fun _ z => nomatch z⟩) (by decide) (by decide) (C0.1.2.2.2.2 _ kL_number_l15) (nestW_use hN.1 (.castable "java/lang/IllegalStateException" "java/lang/IllegalStateException") (by decide +kernel)) h1 h2 h3 ?_
      refine lv_astore_n (lv' := [(3, .ref q9), (0, .ref (d 0)), (1, .int p0), (2, .ref o)]) C0.1.1 C0.1.2.1 dL_number_15 rfl hl (by decide) rfl (fun ls hl => ?_)
      refine lv_iconst (v := 2) C0.1.1 C0.1.2.1 dL_number_16 (by decide) ?_
      exact W.iret C0.1.1 C0.1.2.1 C0.2.1 (fun t ht hW => ⟨⟨2, ov, rfl, ⟨rfl, fun z => absurd z (by decide)⟩, lW_set hq (lZ_end Z2 ht hW)⟩, va_S.F (lZ_S Z2) ht⟩) (lZ_S Z2).2.2 dL_number_17 C0.2.2
  obtain ⟨hcode, hx, hu⟩ := hw
  subst hu
  replace hcode : code = 0 := hcode
  replace hx : r = x := hx
  subst hx
  have Z2 : lZ F D cyI cyJ cyO A bs d eA ol fd dc' ds' fw fn ff qw qn qf va tr s H1 locs1 := fr_dZ Z1 ht hvm hB hk hS
  have hk0 : k = 0 := by omega
  refine lv_i2l (v := r.toInt64) C0.1.1 C0.1.2.1 dL_number_7 rfl ?_
  refine l_out C0.1 Z2 hq dL_number_8 (fun u H2 locs2 hu Z3 => ?_)
  refine lv_goto (tgt := 18) C0.1.1 C0.1.2.1 dL_number_9 (by decide) ?_
  refine lv_iconst (v := 0) C0.1.1 C0.1.2.1 dL_number_18 (by decide) ?_
  exact W.iret C0.1.1 C0.1.2.1 C0.2.1 (fun t ht hW => ⟨⟨0, u, rfl, ⟨by rw [hk0]; rfl, fun _ => hu⟩, lZ_end Z3 ht hW⟩, va_S.F (lZ_S Z3) ht⟩) (lZ_S Z3).2.2 dL_number_19 C0.2.2
/-! the wrapper of cell -/
abbrev rmL_cell : Room := { frames := 8, cells := 2, slots := 12, locals := 133 }
theorem kL_cell_l20 : Cond.classLink RL 20 "java/lang/IndexOutOfBoundsException" ∈ wsL_cell := by decide +kernel
theorem kL_cell_l15 : Cond.classLink RL 15 "java/lang/IllegalStateException" ∈ wsL_cell := by decide +kernel
set_option maxRecDepth 20000 in
set_option maxHeartbeats 4000000 in
theorem zL_cell (l : Launch) (hlf : l.stackTraces = false) (D : va_G) (cyI cyJ cyO : ClassId) (A : Nat → Prop) (bs : Nat) (hA : ∀ q, bs ≤ q → A q) (F : va_W) (q0 o : Nat) (ov : Nat → Int64) (hq : F[q0]? = some (o, .inl (cyJ, 1, .inr (.inl ov)))) (d : Nat → Nat) (eA : Nat) (ol : Int32) (fd : Int32) (dc : Int32) (ds : Nat → Int32) (fw : Nat → Int32) (fn : Nat → Nat) (ff : Nat → Nat → Int32) (qw : Nat → Int32) (qn : Nat → Nat) (qf : Nat → Nat → Int32) (va : Nat → Int64) (tr : Nat → Int64) (N : Nat) (p0 : Int32) (code : Nat) (r : Int32) (dc' : Int32) (ds' : Nat → Int32) (k : Nat) (h : mX3_cell N dc ds p0 = some (code, r, dc', ds')) (hc : code = 0 ∧ k = 0 ∨ code = 1 ∧ k = 1 ∨ code = 3 ∧ k = 2) : Met l yL_cell wsL_cell rmL_cell (va_Pc [.ref (d 0), .int p0, .ref o] (lP (lW F D cyI cyJ cyO A bs d eA ol fd dc ds fw fn ff qw qn qf va tr) A)) (va_Qi (fun (x : Int32) (u : Nat → Int64) => x = nI k ∧ (k = 0 → u 0 = r.toInt64)) (fun u U => lW (F.set q0 (o, .inl (cyJ, 1, .inr (.inl u)))) D cyI cyJ cyO A bs d eA ol fd dc' ds' fw fn ff qw qn qf va tr U) A) 2 12 A := by
  refine Met_ofWH (cc := cL_cell) (maxL := 4) (ret := (some .int)) (by decide) rfl ?_
  intro p e s m args below meth c s₁ B hml htab hv
  obtain ⟨hav, hv⟩ := hv
  obtain ⟨hv, hN, hT⟩ := hv
  have C0 : gC p m meth c cL_cell 4 (some .int) s args wsL_cell RL := ⟨⟨B.exec, B.bytes, hml, findClass_of_methodNamed B.named, atoms_spec (ws := wsL_cell) B.pre⟩, B.returns, B.notSynchronized⟩
  have Z := lZ_start hA hv
  have hl := lv_entry ([.ref (d 0), .int p0, .ref o]) (n := 4) (Nat.le_of_ble_eq_true rfl)
  rw [hav, lg_entry_eq]
  generalize (lg_sl ([.ref (d 0), .int p0, .ref o]) ++ List.replicate (4 - (lg_sl ([.ref (d 0), .int p0, .ref o])).length) Slot.unset).toArray = ls at hl ⊢
  have hl : lv_has ls 4 [(0, .ref (d 0)), (1, .int p0), (2, .ref o)] := hl
  rw [← hav]
  obtain ⟨P, g, rs, rr, at1, fa, ra, Z1, hF⟩ := Z
  refine lv_aload_n C0.1.1 C0.1.2.1 dL_cell_0 rfl (lv_at hl 2 rfl) ?_
  refine lv_iconst (v := 0) C0.1.1 C0.1.2.1 dL_cell_1 (by decide) ?_
  refine lv_aload_n C0.1.1 C0.1.2.1 dL_cell_2 rfl (lv_at hl 0 rfl) ?_
  refine lv_iload_n C0.1.1 C0.1.2.1 dL_cell_3 rfl (lv_at hl 1 rfl) ?_
  refine vx_calli (vx_runV (b := d 0) (C := RX3) (As := [.int p0]) (rest := [.int 0, .ref o]) C0.1 (zX3_cell l hlf D cyI cyJ cyO (aA A F) s.heap.size (fr_pre Z1) P g d eA ol fd dc ds fw fn ff qw qn qf va tr N p0 _ h) (cwV 1 C0.1.2.2.2.2 gL_cell_X3_cell rfl rfl rfl (by decide +kernel) ⟨Nat.le_of_ble_eq_true rfl, Nat.le_of_ble_eq_true rfl⟩) ⟨dP_blind, va_recv Z1.2.1 (fr_P Z1) (ci := 5) (q0 := 0) rfl rfl, fr_dP Z1 hF hN hT _⟩ rfl rfl hl.1 rfl (lv_room (Nat.le_of_ble_eq_true rfl)) dL_cell_4 ⟨Nat.le_of_ble_eq_true rfl, Nat.le_of_ble_eq_true rfl⟩) Z1.2.2.2.1 (fun _ _ h => h.1) (fun _ h => h.1) (fun _ _ h => h.1) (fun E ce q9 u t H1 locs1 ht hvm _ hB _ hk hS h1 h2 h3 => ?_) (fun x u t H1 locs1 ht hvm hw hB _ hk hS => ?_)
  · obtain ⟨hne, rfl, hu, hB⟩ := hB
    subst hu
    have Z2 : lZ F D cyI cyJ cyO A bs d eA ol fd dc' ds' fw fn ff qw qn qf va tr s H1 locs1 := fr_dZ Z1 ht hvm hB hk hS
    rcases hc with ⟨rfl, rfl⟩ | ⟨rfl, rfl⟩ | ⟨rfl, rfl⟩
    · exact absurd rfl hne
    · refine vx_catch (E := "java/lang/IndexOutOfBoundsException") C0.1.2.2.2.1 [] ⟨0, 9, 12, 20⟩ [⟨0, 9, 15, 15⟩] htab (fun _ z => nomatch z) (by decide) (by decide) (C0.1.2.2.2.2 _ kL_cell_l20) (nestW_use hN.1 (.castable "java/lang/IndexOutOfBoundsException" "java/lang/IndexOutOfBoundsException") (by decide +kernel)) h1 h2 h3 ?_
      refine lv_astore_n (lv' := [(3, .ref q9), (0, .ref (d 0)), (1, .int p0), (2, .ref o)]) C0.1.1 C0.1.2.1 dL_cell_12 rfl hl (by decide) rfl (fun ls hl => ?_)
      refine lv_iconst (v := 1) C0.1.1 C0.1.2.1 dL_cell_13 (by decide) ?_
      exact W.iret C0.1.1 C0.1.2.1 C0.2.1 (fun t ht hW => ⟨⟨1, ov, rfl, ⟨rfl, fun z => absurd z (by decide)⟩, lW_set hq (lZ_end Z2 ht hW)⟩, va_S.F (lZ_S Z2) ht⟩) (lZ_S Z2).2.2 dL_cell_14 C0.2.2
    · refine vx_catch (E := "java/lang/IllegalStateException") C0.1.2.2.2.1 [⟨0, 9, 12, 20⟩] ⟨0, 9, 15, 15⟩ [] htab (List.forall_mem_cons.mpr ⟨.inr ⟨by decide, _, C0.1.2.2.2.2 _ kL_cell_l20, hN.2 ("java/lang/IllegalStateException", "java/lang/IndexOutOfBoundsException") (by decide +kernel)⟩, fun _ z => nomatch z⟩) (by decide) (by decide) (C0.1.2.2.2.2 _ kL_cell_l15) (nestW_use hN.1 (.castable "java/lang/IllegalStateException" "java/lang/IllegalStateException") (by decide +kernel)) h1 h2 h3 ?_
      refine lv_astore_n (lv' := [(3, .ref q9), (0, .ref (d 0)), (1, .int p0), (2, .ref o)]) C0.1.1 C0.1.2.1 dL_cell_15 rfl hl (by decide) rfl (fun ls hl => ?_)
      refine lv_iconst (v := 2) C0.1.1 C0.1.2.1 dL_cell_16 (by decide) ?_
      exact W.iret C0.1.1 C0.1.2.1 C0.2.1 (fun t ht hW => ⟨⟨2, ov, rfl, ⟨rfl, fun z => absurd z (by decide)⟩, lW_set hq (lZ_end Z2 ht hW)⟩, va_S.F (lZ_S Z2) ht⟩) (lZ_S Z2).2.2 dL_cell_17 C0.2.2
  obtain ⟨hcode, hx, hu⟩ := hw
  subst hu
  replace hcode : code = 0 := hcode
  replace hx : r = x := hx
  subst hx
  have Z2 : lZ F D cyI cyJ cyO A bs d eA ol fd dc' ds' fw fn ff qw qn qf va tr s H1 locs1 := fr_dZ Z1 ht hvm hB hk hS
  have hk0 : k = 0 := by omega
  refine lv_i2l (v := r.toInt64) C0.1.1 C0.1.2.1 dL_cell_7 rfl ?_
  refine l_out C0.1 Z2 hq dL_cell_8 (fun u H2 locs2 hu Z3 => ?_)
  refine lv_goto (tgt := 18) C0.1.1 C0.1.2.1 dL_cell_9 (by decide) ?_
  refine lv_iconst (v := 0) C0.1.1 C0.1.2.1 dL_cell_18 (by decide) ?_
  exact W.iret C0.1.1 C0.1.2.1 C0.2.1 (fun t ht hW => ⟨⟨0, u, rfl, ⟨by rw [hk0]; rfl, fun _ => hu⟩, lZ_end Z3 ht hW⟩, va_S.F (lZ_S Z3) ht⟩) (lZ_S Z3).2.2 dL_cell_19 C0.2.2
/-! the wrapper of sign -/
abbrev rmL_sign : Room := { frames := 8, cells := 1, slots := 6, locals := 133 }
theorem kL_sign_l13 : Cond.classLink RL 13 "java/lang/IllegalArgumentException" ∈ wsL_sign := by decide +kernel
theorem kL_sign_l15 : Cond.classLink RL 15 "java/lang/IllegalStateException" ∈ wsL_sign := by decide +kernel
set_option maxRecDepth 20000 in
set_option maxHeartbeats 4000000 in
theorem zL_sign (l : Launch) (hlf : l.stackTraces = false) (D : va_G) (cyI cyJ cyO : ClassId) (A : Nat → Prop) (bs : Nat) (hA : ∀ q, bs ≤ q → A q) (F : va_W) (q0 o : Nat) (ov : Nat → Int64) (hq : F[q0]? = some (o, .inl (cyJ, 1, .inr (.inl ov)))) (d : Nat → Nat) (eA : Nat) (ol : Int32) (fd : Int32) (dc : Int32) (ds : Nat → Int32) (fw : Nat → Int32) (fn : Nat → Nat) (ff : Nat → Nat → Int32) (qw : Nat → Int32) (qn : Nat → Nat) (qf : Nat → Nat → Int32) (va : Nat → Int64) (tr : Nat → Int64) (N : Nat) (p0 : Int32) (code : Nat) (r : Int32) (dc' : Int32) (ds' : Nat → Int32) (k : Nat) (h : mX3_sign N dc ds p0 = some (code, r, dc', ds')) (hc : code = 0 ∧ k = 0 ∨ code = 2 ∧ k = 1 ∨ code = 3 ∧ k = 2) : Met l yL_sign wsL_sign rmL_sign (va_Pc [.ref (d 0), .int p0, .ref o] (lP (lW F D cyI cyJ cyO A bs d eA ol fd dc ds fw fn ff qw qn qf va tr) A)) (va_Qi (fun (x : Int32) (u : Nat → Int64) => x = nI k ∧ (k = 0 → u 0 = r.toInt64)) (fun u U => lW (F.set q0 (o, .inl (cyJ, 1, .inr (.inl u)))) D cyI cyJ cyO A bs d eA ol fd dc' ds' fw fn ff qw qn qf va tr U) A) 1 6 A := by
  refine Met_ofWH (cc := cL_sign) (maxL := 4) (ret := (some .int)) (by decide) rfl ?_
  intro p e s m args below meth c s₁ B hml htab hv
  obtain ⟨hav, hv⟩ := hv
  obtain ⟨hv, hN, hT⟩ := hv
  have C0 : gC p m meth c cL_sign 4 (some .int) s args wsL_sign RL := ⟨⟨B.exec, B.bytes, hml, findClass_of_methodNamed B.named, atoms_spec (ws := wsL_sign) B.pre⟩, B.returns, B.notSynchronized⟩
  have Z := lZ_start hA hv
  have hl := lv_entry ([.ref (d 0), .int p0, .ref o]) (n := 4) (Nat.le_of_ble_eq_true rfl)
  rw [hav, lg_entry_eq]
  generalize (lg_sl ([.ref (d 0), .int p0, .ref o]) ++ List.replicate (4 - (lg_sl ([.ref (d 0), .int p0, .ref o])).length) Slot.unset).toArray = ls at hl ⊢
  have hl : lv_has ls 4 [(0, .ref (d 0)), (1, .int p0), (2, .ref o)] := hl
  rw [← hav]
  obtain ⟨P, g, rs, rr, at1, fa, ra, Z1, hF⟩ := Z
  refine lv_aload_n C0.1.1 C0.1.2.1 dL_sign_0 rfl (lv_at hl 2 rfl) ?_
  refine lv_iconst (v := 0) C0.1.1 C0.1.2.1 dL_sign_1 (by decide) ?_
  refine lv_aload_n C0.1.1 C0.1.2.1 dL_sign_2 rfl (lv_at hl 0 rfl) ?_
  refine lv_iload_n C0.1.1 C0.1.2.1 dL_sign_3 rfl (lv_at hl 1 rfl) ?_
  refine vx_calli (vx_runV (b := d 0) (C := RX3) (As := [.int p0]) (rest := [.int 0, .ref o]) C0.1 (zX3_sign l hlf D cyI cyJ cyO (aA A F) s.heap.size (fr_pre Z1) P g d eA ol fd dc ds fw fn ff qw qn qf va tr N p0 _ h) (cwV 1 C0.1.2.2.2.2 gL_sign_X3_sign rfl rfl rfl (by decide +kernel) ⟨Nat.le_of_ble_eq_true rfl, Nat.le_of_ble_eq_true rfl⟩) ⟨dP_blind, va_recv Z1.2.1 (fr_P Z1) (ci := 5) (q0 := 0) rfl rfl, fr_dP Z1 hF hN hT _⟩ rfl rfl hl.1 rfl (lv_room (Nat.le_of_ble_eq_true rfl)) dL_sign_4 ⟨Nat.le_of_ble_eq_true rfl, Nat.le_of_ble_eq_true rfl⟩) Z1.2.2.2.1 (fun _ _ h => h.1) (fun _ h => h.1) (fun _ _ h => h.1) (fun E ce q9 u t H1 locs1 ht hvm _ hB _ hk hS h1 h2 h3 => ?_) (fun x u t H1 locs1 ht hvm hw hB _ hk hS => ?_)
  · obtain ⟨hne, rfl, hu, hB⟩ := hB
    subst hu
    have Z2 : lZ F D cyI cyJ cyO A bs d eA ol fd dc' ds' fw fn ff qw qn qf va tr s H1 locs1 := fr_dZ Z1 ht hvm hB hk hS
    rcases hc with ⟨rfl, rfl⟩ | ⟨rfl, rfl⟩ | ⟨rfl, rfl⟩
    · exact absurd rfl hne
    · refine vx_catch (E := "java/lang/IllegalArgumentException") C0.1.2.2.2.1 [] ⟨0, 9, 12, 13⟩ [⟨0, 9, 15, 15⟩] htab (fun _ z => nomatch z) (by decide) (by decide) (C0.1.2.2.2.2 _ kL_sign_l13) (nestW_use hN.1 (.castable "java/lang/IllegalArgumentException" "java/lang/IllegalArgumentException") (by decide +kernel)) h1 h2 h3 ?_
      refine lv_astore_n (lv' := [(3, .ref q9), (0, .ref (d 0)), (1, .int p0), (2, .ref o)]) C0.1.1 C0.1.2.1 dL_sign_12 rfl hl (by decide) rfl (fun ls hl => ?_)
      refine lv_iconst (v := 1) C0.1.1 C0.1.2.1 dL_sign_13 (by decide) ?_
      exact W.iret C0.1.1 C0.1.2.1 C0.2.1 (fun t ht hW => ⟨⟨1, ov, rfl, ⟨rfl, fun z => absurd z (by decide)⟩, lW_set hq (lZ_end Z2 ht hW)⟩, va_S.F (lZ_S Z2) ht⟩) (lZ_S Z2).2.2 dL_sign_14 C0.2.2
    · refine vx_catch (E := "java/lang/IllegalStateException") C0.1.2.2.2.1 [⟨0, 9, 12, 13⟩] ⟨0, 9, 15, 15⟩ [] htab (List.forall_mem_cons.mpr ⟨.inr ⟨by decide, _, C0.1.2.2.2.2 _ kL_sign_l13, hN.2 ("java/lang/IllegalStateException", "java/lang/IllegalArgumentException") (by decide +kernel)⟩, fun _ z => nomatch z⟩) (by decide) (by decide) (C0.1.2.2.2.2 _ kL_sign_l15) (nestW_use hN.1 (.castable "java/lang/IllegalStateException" "java/lang/IllegalStateException") (by decide +kernel)) h1 h2 h3 ?_
      refine lv_astore_n (lv' := [(3, .ref q9), (0, .ref (d 0)), (1, .int p0), (2, .ref o)]) C0.1.1 C0.1.2.1 dL_sign_15 rfl hl (by decide) rfl (fun ls hl => ?_)
      refine lv_iconst (v := 2) C0.1.1 C0.1.2.1 dL_sign_16 (by decide) ?_
      exact W.iret C0.1.1 C0.1.2.1 C0.2.1 (fun t ht hW => ⟨⟨2, ov, rfl, ⟨rfl, fun z => absurd z (by decide)⟩, lW_set hq (lZ_end Z2 ht hW)⟩, va_S.F (lZ_S Z2) ht⟩) (lZ_S Z2).2.2 dL_sign_17 C0.2.2
  obtain ⟨hcode, hx, hu⟩ := hw
  subst hu
  replace hcode : code = 0 := hcode
  replace hx : r = x := hx
  subst hx
  have Z2 : lZ F D cyI cyJ cyO A bs d eA ol fd dc' ds' fw fn ff qw qn qf va tr s H1 locs1 := fr_dZ Z1 ht hvm hB hk hS
  have hk0 : k = 0 := by omega
  refine lv_i2l (v := r.toInt64) C0.1.1 C0.1.2.1 dL_sign_7 rfl ?_
  refine l_out C0.1 Z2 hq dL_sign_8 (fun u H2 locs2 hu Z3 => ?_)
  refine lv_goto (tgt := 18) C0.1.1 C0.1.2.1 dL_sign_9 (by decide) ?_
  refine lv_iconst (v := 0) C0.1.1 C0.1.2.1 dL_sign_18 (by decide) ?_
  exact W.iret C0.1.1 C0.1.2.1 C0.2.1 (fun t ht hW => ⟨⟨0, u, rfl, ⟨by rw [hk0]; rfl, fun _ => hu⟩, lZ_end Z3 ht hW⟩, va_S.F (lZ_S Z3) ht⟩) (lZ_S Z3).2.2 dL_sign_19 C0.2.2
/-! the wrapper of set -/
abbrev rmL_set : Room := { frames := 63, cells := 4, slots := 29, locals := 1531 }
theorem kL_set_l20 : Cond.classLink RL 20 "java/lang/IndexOutOfBoundsException" ∈ wsL_set := by decide +kernel
theorem kL_set_l13 : Cond.classLink RL 13 "java/lang/IllegalArgumentException" ∈ wsL_set := by decide +kernel
theorem kL_set_l15 : Cond.classLink RL 15 "java/lang/IllegalStateException" ∈ wsL_set := by decide +kernel
set_option maxRecDepth 20000 in
set_option maxHeartbeats 4000000 in
theorem zL_set (l : Launch) (hlf : l.stackTraces = false) (D : va_G) (cyI cyJ cyO : ClassId) (A : Nat → Prop) (bs : Nat) (hA : ∀ q, bs ≤ q → A q) (F : va_W) (q0 o : Nat) (ov : Nat → Int64) (hq : F[q0]? = some (o, .inl (cyJ, 1, .inr (.inl ov)))) (d : Nat → Nat) (eA : Nat) (ol : Int32) (fd : Int32) (dc : Int32) (ds : Nat → Int32) (fw : Nat → Int32) (fn : Nat → Nat) (ff : Nat → Nat → Int32) (qw : Nat → Int32) (qn : Nat → Nat) (qf : Nat → Nat → Int32) (va : Nat → Int64) (tr : Nat → Int64) (N : Nat) (p0 : Int32) (code : Nat) (r : Int32) (fd' : Int32) (dc' : Int32) (fw' : Nat → Int32) (fn' : Nat → Nat) (ff' : Nat → Nat → Int32) (va' : Nat → Int64) (k : Nat) (h : mX3_set N ds fd dc fw fn ff va p0 = some (code, r, fd', dc', fw', fn', ff', va')) (hc : code = 0 ∧ k = 0 ∨ code = 1 ∧ k = 1 ∨ code = 2 ∧ k = 2 ∨ code = 3 ∧ k = 3) : Met l yL_set wsL_set rmL_set (va_Pc [.ref (d 0), .int p0, .ref o] (lP (lW F D cyI cyJ cyO A bs d eA ol fd dc ds fw fn ff qw qn qf va tr) A)) (va_Qi (fun (x : Int32) (u : Nat → Int64) => x = nI k ∧ (k = 0 → u 0 = r.toInt64)) (fun u U => lW (F.set q0 (o, .inl (cyJ, 1, .inr (.inl u)))) D cyI cyJ cyO A bs d eA ol fd' dc' ds fw' fn' ff' qw qn qf va' tr U) A) 4 29 A := by
  refine Met_ofWH (cc := cL_set) (maxL := 4) (ret := (some .int)) (by decide) rfl ?_
  intro p e s m args below meth c s₁ B hml htab hv
  obtain ⟨hav, hv⟩ := hv
  obtain ⟨hv, hN, hT⟩ := hv
  have C0 : gC p m meth c cL_set 4 (some .int) s args wsL_set RL := ⟨⟨B.exec, B.bytes, hml, findClass_of_methodNamed B.named, atoms_spec (ws := wsL_set) B.pre⟩, B.returns, B.notSynchronized⟩
  have Z := lZ_start hA hv
  have hl := lv_entry ([.ref (d 0), .int p0, .ref o]) (n := 4) (Nat.le_of_ble_eq_true rfl)
  rw [hav, lg_entry_eq]
  generalize (lg_sl ([.ref (d 0), .int p0, .ref o]) ++ List.replicate (4 - (lg_sl ([.ref (d 0), .int p0, .ref o])).length) Slot.unset).toArray = ls at hl ⊢
  have hl : lv_has ls 4 [(0, .ref (d 0)), (1, .int p0), (2, .ref o)] := hl
  rw [← hav]
  obtain ⟨P, g, rs, rr, at1, fa, ra, Z1, hF⟩ := Z
  refine lv_aload_n C0.1.1 C0.1.2.1 dL_set_0 rfl (lv_at hl 2 rfl) ?_
  refine lv_iconst (v := 0) C0.1.1 C0.1.2.1 dL_set_1 (by decide) ?_
  refine lv_aload_n C0.1.1 C0.1.2.1 dL_set_2 rfl (lv_at hl 0 rfl) ?_
  refine lv_iload_n C0.1.1 C0.1.2.1 dL_set_3 rfl (lv_at hl 1 rfl) ?_
  refine vx_calli (vx_runV (b := d 0) (C := RX3) (As := [.int p0]) (rest := [.int 0, .ref o]) C0.1 (zX3_set l hlf D cyI cyJ cyO (aA A F) s.heap.size (fr_pre Z1) P g d eA ol fd dc ds fw fn ff qw qn qf va tr N p0 _ h) (cwV 1 C0.1.2.2.2.2 gL_set_X3_set rfl rfl rfl (by decide +kernel) ⟨Nat.le_of_ble_eq_true rfl, Nat.le_of_ble_eq_true rfl⟩) ⟨dP_blind, va_recv Z1.2.1 (fr_P Z1) (ci := 5) (q0 := 0) rfl rfl, fr_dP Z1 hF hN hT _⟩ rfl rfl hl.1 rfl (lv_room (Nat.le_of_ble_eq_true rfl)) dL_set_4 ⟨Nat.le_of_ble_eq_true rfl, Nat.le_of_ble_eq_true rfl⟩) Z1.2.2.2.1 (fun _ _ h => h.1) (fun _ h => h.1) (fun _ _ h => h.1) (fun E ce q9 u t H1 locs1 ht hvm _ hB _ hk hS h1 h2 h3 => ?_) (fun x u t H1 locs1 ht hvm hw hB _ hk hS => ?_)
  · obtain ⟨hne, rfl, hu, hB⟩ := hB
    subst hu
    obtain ⟨P1, g1, _, hB⟩ := hB
    have Z2 : lZ F D cyI cyJ cyO A bs d eA ol fd' dc' ds fw' fn' ff' qw qn qf va' tr s H1 locs1 := fr_dZ Z1 ht hvm hB hk hS
    rcases hc with ⟨rfl, rfl⟩ | ⟨rfl, rfl⟩ | ⟨rfl, rfl⟩ | ⟨rfl, rfl⟩
    · exact absurd rfl hne
    · refine vx_catch (E := "java/lang/IndexOutOfBoundsException") C0.1.2.2.2.1 [] ⟨0, 9, 12, 20⟩ [⟨0, 9, 15, 13⟩, ⟨0, 9, 18, 15⟩] htab (fun _ z => nomatch z) (by decide) (by decide) (C0.1.2.2.2.2 _ kL_set_l20) (nestW_use hN.1 (.castable "java/lang/IndexOutOfBoundsException" "java/lang/IndexOutOfBoundsException") (by decide +kernel)) h1 h2 h3 ?_
      refine lv_astore_n (lv' := [(3, .ref q9), (0, .ref (d 0)), (1, .int p0), (2, .ref o)]) C0.1.1 C0.1.2.1 dL_set_12 rfl hl (by decide) rfl (fun ls hl => ?_)
      refine lv_iconst (v := 1) C0.1.1 C0.1.2.1 dL_set_13 (by decide) ?_
      exact W.iret C0.1.1 C0.1.2.1 C0.2.1 (fun t ht hW => ⟨⟨1, ov, rfl, ⟨rfl, fun z => absurd z (by decide)⟩, lW_set hq (lZ_end Z2 ht hW)⟩, va_S.F (lZ_S Z2) ht⟩) (lZ_S Z2).2.2 dL_set_14 C0.2.2
    · refine vx_catch (E := "java/lang/IllegalArgumentException") C0.1.2.2.2.1 [⟨0, 9, 12, 20⟩] ⟨0, 9, 15, 13⟩ [⟨0, 9, 18, 15⟩] htab (List.forall_mem_cons.mpr ⟨.inr ⟨by decide, _, C0.1.2.2.2.2 _ kL_set_l20, hN.2 ("java/lang/IllegalArgumentException", "java/lang/IndexOutOfBoundsException") (by decide +kernel)⟩, fun _ z => nomatch z⟩) (by decide) (by decide) (C0.1.2.2.2.2 _ kL_set_l13) (nestW_use hN.1 (.castable "java/lang/IllegalArgumentException" "java/lang/IllegalArgumentException") (by decide +kernel)) h1 h2 h3 ?_
      refine lv_astore_n (lv' := [(3, .ref q9), (0, .ref (d 0)), (1, .int p0), (2, .ref o)]) C0.1.1 C0.1.2.1 dL_set_15 rfl hl (by decide) rfl (fun ls hl => ?_)
      refine lv_iconst (v := 2) C0.1.1 C0.1.2.1 dL_set_16 (by decide) ?_
      exact W.iret C0.1.1 C0.1.2.1 C0.2.1 (fun t ht hW => ⟨⟨2, ov, rfl, ⟨rfl, fun z => absurd z (by decide)⟩, lW_set hq (lZ_end Z2 ht hW)⟩, va_S.F (lZ_S Z2) ht⟩) (lZ_S Z2).2.2 dL_set_17 C0.2.2
    · refine vx_catch (E := "java/lang/IllegalStateException") C0.1.2.2.2.1 [⟨0, 9, 12, 20⟩, ⟨0, 9, 15, 13⟩] ⟨0, 9, 18, 15⟩ [] htab (List.forall_mem_cons.mpr ⟨.inr ⟨by decide, _, C0.1.2.2.2.2 _ kL_set_l20, hN.2 ("java/lang/IllegalStateException", "java/lang/IndexOutOfBoundsException") (by decide +kernel)⟩, List.forall_mem_cons.mpr ⟨.inr ⟨by decide, _, C0.1.2.2.2.2 _ kL_set_l13, hN.2 ("java/lang/IllegalStateException", "java/lang/IllegalArgumentException") (by decide +kernel)⟩, fun _ z => nomatch z⟩⟩) (by decide) (by decide) (C0.1.2.2.2.2 _ kL_set_l15) (nestW_use hN.1 (.castable "java/lang/IllegalStateException" "java/lang/IllegalStateException") (by decide +kernel)) h1 h2 h3 ?_
      refine lv_astore_n (lv' := [(3, .ref q9), (0, .ref (d 0)), (1, .int p0), (2, .ref o)]) C0.1.1 C0.1.2.1 dL_set_18 rfl hl (by decide) rfl (fun ls hl => ?_)
      refine lv_iconst (v := 3) C0.1.1 C0.1.2.1 dL_set_19 (by decide) ?_
      exact W.iret C0.1.1 C0.1.2.1 C0.2.1 (fun t ht hW => ⟨⟨3, ov, rfl, ⟨rfl, fun z => absurd z (by decide)⟩, lW_set hq (lZ_end Z2 ht hW)⟩, va_S.F (lZ_S Z2) ht⟩) (lZ_S Z2).2.2 dL_set_20 C0.2.2
  obtain ⟨hcode, hx, hu⟩ := hw
  subst hu
  replace hcode : code = 0 := hcode
  replace hx : r = x := hx
  subst hx
  obtain ⟨P1, g1, _, hB⟩ := hB
  have Z2 : lZ F D cyI cyJ cyO A bs d eA ol fd' dc' ds fw' fn' ff' qw qn qf va' tr s H1 locs1 := fr_dZ Z1 ht hvm hB hk hS
  have hk0 : k = 0 := by omega
  refine lv_i2l (v := r.toInt64) C0.1.1 C0.1.2.1 dL_set_7 rfl ?_
  refine l_out C0.1 Z2 hq dL_set_8 (fun u H2 locs2 hu Z3 => ?_)
  refine lv_goto (tgt := 21) C0.1.1 C0.1.2.1 dL_set_9 (by decide) ?_
  refine lv_iconst (v := 0) C0.1.1 C0.1.2.1 dL_set_21 (by decide) ?_
  exact W.iret C0.1.1 C0.1.2.1 C0.2.1 (fun t ht hW => ⟨⟨0, u, rfl, ⟨by rw [hk0]; rfl, fun _ => hu⟩, lZ_end Z3 ht hW⟩, va_S.F (lZ_S Z3) ht⟩) (lZ_S Z3).2.2 dL_set_22 C0.2.2
/-! the wrapper of put -/
abbrev rmL_put : Room := { frames := 63, cells := 4, slots := 15, locals := 1531 }
theorem kL_put_l20 : Cond.classLink RL 20 "java/lang/IndexOutOfBoundsException" ∈ wsL_put := by decide +kernel
theorem kL_put_l13 : Cond.classLink RL 13 "java/lang/IllegalArgumentException" ∈ wsL_put := by decide +kernel
set_option maxRecDepth 20000 in
set_option maxHeartbeats 4000000 in
theorem zL_put (l : Launch) (hlf : l.stackTraces = false) (D : va_G) (cyI cyJ cyO : ClassId) (A : Nat → Prop) (bs : Nat) (hA : ∀ q, bs ≤ q → A q) (F : va_W) (q0 o : Nat) (ov : Nat → Int64) (hq : F[q0]? = some (o, .inl (cyJ, 1, .inr (.inl ov)))) (d : Nat → Nat) (eA : Nat) (ol : Int32) (fd : Int32) (dc : Int32) (ds : Nat → Int32) (fw : Nat → Int32) (fn : Nat → Nat) (ff : Nat → Nat → Int32) (qw : Nat → Int32) (qn : Nat → Nat) (qf : Nat → Nat → Int32) (va : Nat → Int64) (tr : Nat → Int64) (N : Nat) (p0 : Int32) (p1 : Int32) (code : Nat) (r : Int32) (fd' : Int32) (fw' : Nat → Int32) (fn' : Nat → Nat) (ff' : Nat → Nat → Int32) (va' : Nat → Int64) (k : Nat) (h : mX3_put N fd fw fn ff va p0 p1 = some (code, r, fd', fw', fn', ff', va')) (hc : code = 0 ∧ k = 0 ∨ code = 1 ∧ k = 1 ∨ code = 2 ∧ k = 2) : Met l yL_put wsL_put rmL_put (va_Pc [.ref (d 0), .int p0, .int p1, .ref o] (lP (lW F D cyI cyJ cyO A bs d eA ol fd dc ds fw fn ff qw qn qf va tr) A)) (va_Qi (fun (x : Int32) (u : Nat → Int64) => x = nI k ∧ (k = 0 → u 0 = r.toInt64)) (fun u U => lW (F.set q0 (o, .inl (cyJ, 1, .inr (.inl u)))) D cyI cyJ cyO A bs d eA ol fd' dc ds fw' fn' ff' qw qn qf va' tr U) A) 4 15 A := by
  refine Met_ofWH (cc := cL_put) (maxL := 5) (ret := (some .int)) (by decide) rfl ?_
  intro p e s m args below meth c s₁ B hml htab hv
  obtain ⟨hav, hv⟩ := hv
  obtain ⟨hv, hN, hT⟩ := hv
  have C0 : gC p m meth c cL_put 5 (some .int) s args wsL_put RL := ⟨⟨B.exec, B.bytes, hml, findClass_of_methodNamed B.named, atoms_spec (ws := wsL_put) B.pre⟩, B.returns, B.notSynchronized⟩
  have Z := lZ_start hA hv
  have hl := lv_entry ([.ref (d 0), .int p0, .int p1, .ref o]) (n := 5) (Nat.le_of_ble_eq_true rfl)
  rw [hav, lg_entry_eq]
  generalize (lg_sl ([.ref (d 0), .int p0, .int p1, .ref o]) ++ List.replicate (5 - (lg_sl ([.ref (d 0), .int p0, .int p1, .ref o])).length) Slot.unset).toArray = ls at hl ⊢
  have hl : lv_has ls 5 [(0, .ref (d 0)), (1, .int p0), (2, .int p1), (3, .ref o)] := hl
  rw [← hav]
  obtain ⟨P, g, rs, rr, at1, fa, ra, Z1, hF⟩ := Z
  refine lv_aload_n C0.1.1 C0.1.2.1 dL_put_0 rfl (lv_at hl 3 rfl) ?_
  refine lv_iconst (v := 0) C0.1.1 C0.1.2.1 dL_put_1 (by decide) ?_
  refine lv_aload_n C0.1.1 C0.1.2.1 dL_put_2 rfl (lv_at hl 0 rfl) ?_
  refine lv_iload_n C0.1.1 C0.1.2.1 dL_put_3 rfl (lv_at hl 1 rfl) ?_
  refine lv_iload_n C0.1.1 C0.1.2.1 dL_put_4 rfl (lv_at hl 2 rfl) ?_
  refine vx_calli (vx_runV (b := d 0) (C := RX3) (As := [.int p0, .int p1]) (rest := [.int 0, .ref o]) C0.1 (zX3_put l hlf D cyI cyJ cyO (aA A F) s.heap.size (fr_pre Z1) P g d eA ol fd dc ds fw fn ff qw qn qf va tr N p0 p1 _ h) (cwV 2 C0.1.2.2.2.2 gL_put_X3_put rfl rfl rfl (by decide +kernel) ⟨Nat.le_of_ble_eq_true rfl, Nat.le_of_ble_eq_true rfl⟩) ⟨dP_blind, va_recv Z1.2.1 (fr_P Z1) (ci := 5) (q0 := 0) rfl rfl, fr_dP Z1 hF hN hT _⟩ rfl rfl hl.1 rfl (lv_room (Nat.le_of_ble_eq_true rfl)) dL_put_5 ⟨Nat.le_of_ble_eq_true rfl, Nat.le_of_ble_eq_true rfl⟩) Z1.2.2.2.1 (fun _ _ h => h.1) (fun _ h => h.1) (fun _ _ h => h.1) (fun E ce q9 u t H1 locs1 ht hvm _ hB _ hk hS h1 h2 h3 => ?_) (fun x u t H1 locs1 ht hvm hw hB _ hk hS => ?_)
  · obtain ⟨hne, rfl, hu, hB⟩ := hB
    subst hu
    obtain ⟨P1, g1, _, hB⟩ := hB
    have Z2 : lZ F D cyI cyJ cyO A bs d eA ol fd' dc ds fw' fn' ff' qw qn qf va' tr s H1 locs1 := fr_dZ Z1 ht hvm hB hk hS
    rcases hc with ⟨rfl, rfl⟩ | ⟨rfl, rfl⟩ | ⟨rfl, rfl⟩
    · exact absurd rfl hne
    · refine vx_catch (E := "java/lang/IndexOutOfBoundsException") C0.1.2.2.2.1 [] ⟨0, 10, 13, 20⟩ [⟨0, 10, 17, 13⟩] htab (fun _ z => nomatch z) (by decide) (by decide) (C0.1.2.2.2.2 _ kL_put_l20) (nestW_use hN.1 (.castable "java/lang/IndexOutOfBoundsException" "java/lang/IndexOutOfBoundsException") (by decide +kernel)) h1 h2 h3 ?_
      refine lv_astore (lv' := [(4, .ref q9), (0, .ref (d 0)), (1, .int p0), (2, .int p1), (3, .ref o)]) C0.1.1 C0.1.2.1 dL_put_13 hl (by decide) rfl (fun ls hl => ?_)
      refine lv_iconst (v := 1) C0.1.1 C0.1.2.1 dL_put_15 (by decide) ?_
      exact W.iret C0.1.1 C0.1.2.1 C0.2.1 (fun t ht hW => ⟨⟨1, ov, rfl, ⟨rfl, fun z => absurd z (by decide)⟩, lW_set hq (lZ_end Z2 ht hW)⟩, va_S.F (lZ_S Z2) ht⟩) (lZ_S Z2).2.2 dL_put_16 C0.2.2
    · refine vx_catch (E := "java/lang/IllegalArgumentException") C0.1.2.2.2.1 [⟨0, 10, 13, 20⟩] ⟨0, 10, 17, 13⟩ [] htab (List.forall_mem_cons.mpr ⟨.inr ⟨by decide, _, C0.1.2.2.2.2 _ kL_put_l20, hN.2 ("java/lang/IllegalArgumentException", "java/lang/IndexOutOfBoundsException") (by decide +kernel)⟩, fun _ z => nomatch z⟩) (by decide) (by decide) (C0.1.2.2.2.2 _ kL_put_l13) (nestW_use hN.1 (.castable "java/lang/IllegalArgumentException" "java/lang/IllegalArgumentException") (by decide +kernel)) h1 h2 h3 ?_
      refine lv_astore (lv' := [(4, .ref q9), (0, .ref (d 0)), (1, .int p0), (2, .int p1), (3, .ref o)]) C0.1.1 C0.1.2.1 dL_put_17 hl (by decide) rfl (fun ls hl => ?_)
      refine lv_iconst (v := 2) C0.1.1 C0.1.2.1 dL_put_19 (by decide) ?_
      exact W.iret C0.1.1 C0.1.2.1 C0.2.1 (fun t ht hW => ⟨⟨2, ov, rfl, ⟨rfl, fun z => absurd z (by decide)⟩, lW_set hq (lZ_end Z2 ht hW)⟩, va_S.F (lZ_S Z2) ht⟩) (lZ_S Z2).2.2 dL_put_20 C0.2.2
  obtain ⟨hcode, hx, hu⟩ := hw
  subst hu
  replace hcode : code = 0 := hcode
  replace hx : r = x := hx
  subst hx
  obtain ⟨P1, g1, _, hB⟩ := hB
  have Z2 : lZ F D cyI cyJ cyO A bs d eA ol fd' dc ds fw' fn' ff' qw qn qf va' tr s H1 locs1 := fr_dZ Z1 ht hvm hB hk hS
  have hk0 : k = 0 := by omega
  refine lv_i2l (v := r.toInt64) C0.1.1 C0.1.2.1 dL_put_8 rfl ?_
  refine l_out C0.1 Z2 hq dL_put_9 (fun u H2 locs2 hu Z3 => ?_)
  refine lv_goto (tgt := 21) C0.1.1 C0.1.2.1 dL_put_10 (by decide) ?_
  refine lv_iconst (v := 0) C0.1.1 C0.1.2.1 dL_put_21 (by decide) ?_
  exact W.iret C0.1.1 C0.1.2.1 C0.2.1 (fun t ht hW => ⟨⟨0, u, rfl, ⟨by rw [hk0]; rfl, fun _ => hu⟩, lZ_end Z3 ht hW⟩, va_S.F (lZ_S Z3) ht⟩) (lZ_S Z3).2.2 dL_put_22 C0.2.2
/-! the wrapper of clear -/
abbrev rmL_clear : Room := { frames := 63, cells := 1, slots := 6, locals := 1530 }
theorem kL_clear_l20 : Cond.classLink RL 20 "java/lang/IndexOutOfBoundsException" ∈ wsL_clear := by decide +kernel
set_option maxRecDepth 20000 in
set_option maxHeartbeats 4000000 in
theorem zL_clear (l : Launch) (hlf : l.stackTraces = false) (D : va_G) (cyI cyJ cyO : ClassId) (A : Nat → Prop) (bs : Nat) (hA : ∀ q, bs ≤ q → A q) (F : va_W) (q0 o : Nat) (ov : Nat → Int64) (hq : F[q0]? = some (o, .inl (cyJ, 1, .inr (.inl ov)))) (d : Nat → Nat) (eA : Nat) (ol : Int32) (fd : Int32) (dc : Int32) (ds : Nat → Int32) (fw : Nat → Int32) (fn : Nat → Nat) (ff : Nat → Nat → Int32) (qw : Nat → Int32) (qn : Nat → Nat) (qf : Nat → Nat → Int32) (va : Nat → Int64) (tr : Nat → Int64) (N : Nat) (p0 : Int32) (code : Nat) (r : Int32) (fd' : Int32) (fw' : Nat → Int32) (fn' : Nat → Nat) (ff' : Nat → Nat → Int32) (va' : Nat → Int64) (k : Nat) (h : mX3_clear N fd fw fn ff va p0 = some (code, r, fd', fw', fn', ff', va')) (hc : code = 0 ∧ k = 0 ∨ code = 1 ∧ k = 1) : Met l yL_clear wsL_clear rmL_clear (va_Pc [.ref (d 0), .int p0, .ref o] (lP (lW F D cyI cyJ cyO A bs d eA ol fd dc ds fw fn ff qw qn qf va tr) A)) (va_Qi (fun (x : Int32) (u : Nat → Int64) => x = nI k ∧ (k = 0 → u 0 = r.toInt64)) (fun u U => lW (F.set q0 (o, .inl (cyJ, 1, .inr (.inl u)))) D cyI cyJ cyO A bs d eA ol fd' dc ds fw' fn' ff' qw qn qf va' tr U) A) 1 6 A := by
  refine Met_ofWH (cc := cL_clear) (maxL := 4) (ret := (some .int)) (by decide) rfl ?_
  intro p e s m args below meth c s₁ B hml htab hv
  obtain ⟨hav, hv⟩ := hv
  obtain ⟨hv, hN, hT⟩ := hv
  have C0 : gC p m meth c cL_clear 4 (some .int) s args wsL_clear RL := ⟨⟨B.exec, B.bytes, hml, findClass_of_methodNamed B.named, atoms_spec (ws := wsL_clear) B.pre⟩, B.returns, B.notSynchronized⟩
  have Z := lZ_start hA hv
  have hl := lv_entry ([.ref (d 0), .int p0, .ref o]) (n := 4) (Nat.le_of_ble_eq_true rfl)
  rw [hav, lg_entry_eq]
  generalize (lg_sl ([.ref (d 0), .int p0, .ref o]) ++ List.replicate (4 - (lg_sl ([.ref (d 0), .int p0, .ref o])).length) Slot.unset).toArray = ls at hl ⊢
  have hl : lv_has ls 4 [(0, .ref (d 0)), (1, .int p0), (2, .ref o)] := hl
  rw [← hav]
  obtain ⟨P, g, rs, rr, at1, fa, ra, Z1, hF⟩ := Z
  refine lv_aload_n C0.1.1 C0.1.2.1 dL_clear_0 rfl (lv_at hl 2 rfl) ?_
  refine lv_iconst (v := 0) C0.1.1 C0.1.2.1 dL_clear_1 (by decide) ?_
  refine lv_aload_n C0.1.1 C0.1.2.1 dL_clear_2 rfl (lv_at hl 0 rfl) ?_
  refine lv_iload_n C0.1.1 C0.1.2.1 dL_clear_3 rfl (lv_at hl 1 rfl) ?_
  refine vx_calli (vx_runV (b := d 0) (C := RX3) (As := [.int p0]) (rest := [.int 0, .ref o]) C0.1 (zX3_clear l hlf D cyI cyJ cyO (aA A F) s.heap.size (fr_pre Z1) P g d eA ol fd dc ds fw fn ff qw qn qf va tr N p0 _ h) (cwV 1 C0.1.2.2.2.2 gL_clear_X3_clear rfl rfl rfl (by decide +kernel) ⟨Nat.le_of_ble_eq_true rfl, Nat.le_of_ble_eq_true rfl⟩) ⟨dP_blind, va_recv Z1.2.1 (fr_P Z1) (ci := 5) (q0 := 0) rfl rfl, fr_dP Z1 hF hN hT _⟩ rfl rfl hl.1 rfl (lv_room (Nat.le_of_ble_eq_true rfl)) dL_clear_4 ⟨Nat.le_of_ble_eq_true rfl, Nat.le_of_ble_eq_true rfl⟩) Z1.2.2.2.1 (fun _ _ h => h.1) (fun _ h => h.1) (fun _ _ h => h.1) (fun E ce q9 u t H1 locs1 ht hvm _ hB _ hk hS h1 h2 h3 => ?_) (fun x u t H1 locs1 ht hvm hw hB _ hk hS => ?_)
  · obtain ⟨hne, rfl, hu, hB⟩ := hB
    subst hu
    have Z2 : lZ F D cyI cyJ cyO A bs d eA ol fd' dc ds fw' fn' ff' qw qn qf va' tr s H1 locs1 := fr_dZ Z1 ht hvm hB hk hS
    rcases hc with ⟨rfl, rfl⟩ | ⟨rfl, rfl⟩
    · exact absurd rfl hne
    · refine vx_catch (E := "java/lang/IndexOutOfBoundsException") C0.1.2.2.2.1 [] ⟨0, 9, 12, 20⟩ [] htab (fun _ z => nomatch z) (by decide) (by decide) (C0.1.2.2.2.2 _ kL_clear_l20) (nestW_use hN.1 (.castable "java/lang/IndexOutOfBoundsException" "java/lang/IndexOutOfBoundsException") (by decide +kernel)) h1 h2 h3 ?_
      refine lv_astore_n (lv' := [(3, .ref q9), (0, .ref (d 0)), (1, .int p0), (2, .ref o)]) C0.1.1 C0.1.2.1 dL_clear_12 rfl hl (by decide) rfl (fun ls hl => ?_)
      refine lv_iconst (v := 1) C0.1.1 C0.1.2.1 dL_clear_13 (by decide) ?_
      exact W.iret C0.1.1 C0.1.2.1 C0.2.1 (fun t ht hW => ⟨⟨1, ov, rfl, ⟨rfl, fun z => absurd z (by decide)⟩, lW_set hq (lZ_end Z2 ht hW)⟩, va_S.F (lZ_S Z2) ht⟩) (lZ_S Z2).2.2 dL_clear_14 C0.2.2
  obtain ⟨hcode, hx, hu⟩ := hw
  subst hu
  replace hcode : code = 0 := hcode
  replace hx : r = x := hx
  subst hx
  have Z2 : lZ F D cyI cyJ cyO A bs d eA ol fd' dc ds fw' fn' ff' qw qn qf va' tr s H1 locs1 := fr_dZ Z1 ht hvm hB hk hS
  have hk0 : k = 0 := by omega
  refine lv_i2l (v := r.toInt64) C0.1.1 C0.1.2.1 dL_clear_7 rfl ?_
  refine l_out C0.1 Z2 hq dL_clear_8 (fun u H2 locs2 hu Z3 => ?_)
  refine lv_goto (tgt := 15) C0.1.1 C0.1.2.1 dL_clear_9 (by decide) ?_
  refine lv_iconst (v := 0) C0.1.1 C0.1.2.1 dL_clear_15 (by decide) ?_
  exact W.iret C0.1.1 C0.1.2.1 C0.2.1 (fun t ht hW => ⟨⟨0, u, rfl, ⟨by rw [hk0]; rfl, fun _ => hu⟩, lZ_end Z3 ht hW⟩, va_S.F (lZ_S Z3) ht⟩) (lZ_S Z3).2.2 dL_clear_16 C0.2.2
