/-! X4_side -/
abbrev rmX4_side : Room := { frames := 6, cells := 0, slots := 0, locals := 144 }
theorem kX4_side_f16 : Cond.fieldLink RX4 16 "GoalseekOfficeModel" "sizes" "[I" ∈ wsX4_side := by decide +kernel
theorem kX4_side_in : ∀ w ∈ wsX40, w ∈ wsX4_side := by decide +kernel
theorem kX4_side_f13 : Cond.fieldLink RX4 13 "GoalseekOfficeModel" "formulas" "[I" ∈ wsX4_side := by decide +kernel
theorem kX4_side_f29 : Cond.fieldLink RX4 29 "GoalseekOfficeModel" "states" "[I" ∈ wsX4_side := by decide +kernel
theorem kX4_side_f25 : Cond.fieldLink RX4 25 "GoalseekOfficeModel" "values" "[J" ∈ wsX4_side := by decide +kernel
def mX4_side_107 (N : Nat) (he : Int32) (wt : Int32) (br : Int32) (fm : Nat → Int32) (sz : Nat → Int32) (st : Nat → Int32) (wa : Nat → Int32) (va : Nat → Int64) (sk : Nat → Int64) (s0 : Int32) : Option (Int32 × Int32 × Int32 × Int32 × (Nat → Int32) × (Nat → Int32) × (Nat → Int32) × (Nat → Int32) × (Nat → Int64) × (Nat → Int64)) := some (s0, he, wt, br, fm, sz, st, wa, va, sk)
def mX4_side (N : Nat) (he : Int32) (wt : Int32) (br : Int32) (fm : Nat → Int32) (sz : Nat → Int32) (st : Nat → Int32) (wa : Nat → Int32) (va : Nat → Int64) (sk : Nat → Int64) (p0 : Int32) (p1 : Int32) (p2 : Int32) (p3 : Int32) : Option (Int32 × Int32 × Int32 × Int32 × (Nat → Int32) × (Nat → Int32) × (Nat → Int32) × (Nat → Int32) × (Nat → Int64) × (Nat → Int64)) := (if p2 < 0 ∨ 30 ≤ p2.toNatClampNeg then none else (if ((15 : Int32) * p2) < 0 ∨ 450 ≤ ((15 : Int32) * p2).toNatClampNeg then none else (if ((15 : Int32) * p2) < 0 ∨ 450 ≤ ((15 : Int32) * p2).toNatClampNeg then none else (if p2 < 0 ∨ 30 ≤ p2.toNatClampNeg then none else ((mX4_worksAll N (upd fm ((15 : Int32) * p2).toNatClampNeg p3) (upd sz p2.toNatClampNeg (1 : Int32)) he wt br st wa va sk).bind fun x5 => (if ((15 : Int32) * p2) < 0 ∨ 450 ≤ ((15 : Int32) * p2).toNatClampNeg then none else (if p2 < 0 ∨ 30 ≤ p2.toNatClampNeg then none else (if p0 < 0 ∨ 30 ≤ p0.toNatClampNeg then none else (if (x5.2.2.2.1 p0.toNatClampNeg) = (2 : Int32) then mX4_side_107 N x5.1 x5.2.1 x5.2.2.1 (upd (upd fm ((15 : Int32) * p2).toNatClampNeg p3) ((15 : Int32) * p2).toNatClampNeg (fm ((15 : Int32) * p2).toNatClampNeg)) (upd (upd sz p2.toNatClampNeg (1 : Int32)) p2.toNatClampNeg (sz p2.toNatClampNeg)) x5.2.2.2.1 x5.2.2.2.2.1 x5.2.2.2.2.2.1 x5.2.2.2.2.2.2 (2 : Int32) else (if p0 < 0 ∨ 30 ≤ p0.toNatClampNeg then none else (if 0 ≤ (lg_cmp (x5.2.2.2.2.2.1 p0.toNatClampNeg) (p1.toInt64)) then (if p0 < 0 ∨ 30 ≤ p0.toNatClampNeg then none else (if (lg_cmp (x5.2.2.2.2.2.1 p0.toNatClampNeg) (p1.toInt64)) ≤ 0 then mX4_side_107 N x5.1 x5.2.1 x5.2.2.1 (upd (upd fm ((15 : Int32) * p2).toNatClampNeg p3) ((15 : Int32) * p2).toNatClampNeg (fm ((15 : Int32) * p2).toNatClampNeg)) (upd (upd sz p2.toNatClampNeg (1 : Int32)) p2.toNatClampNeg (sz p2.toNatClampNeg)) x5.2.2.2.1 x5.2.2.2.2.1 x5.2.2.2.2.2.1 x5.2.2.2.2.2.2 (0 : Int32) else mX4_side_107 N x5.1 x5.2.1 x5.2.2.1 (upd (upd fm ((15 : Int32) * p2).toNatClampNeg p3) ((15 : Int32) * p2).toNatClampNeg (fm ((15 : Int32) * p2).toNatClampNeg)) (upd (upd sz p2.toNatClampNeg (1 : Int32)) p2.toNatClampNeg (sz p2.toNatClampNeg)) x5.2.2.2.1 x5.2.2.2.2.1 x5.2.2.2.2.2.1 x5.2.2.2.2.2.2 (1 : Int32))) else mX4_side_107 N x5.1 x5.2.1 x5.2.2.1 (upd (upd fm ((15 : Int32) * p2).toNatClampNeg p3) ((15 : Int32) * p2).toNatClampNeg (fm ((15 : Int32) * p2).toNatClampNeg)) (upd (upd sz p2.toNatClampNeg (1 : Int32)) p2.toNatClampNeg (sz p2.toNatClampNeg)) x5.2.2.2.1 x5.2.2.2.2.1 x5.2.2.2.2.2.1 x5.2.2.2.2.2.2 (-1 : Int32))))))))))))
set_option maxRecDepth 20000 in
set_option maxHeartbeats 4000000 in
theorem wX4_side_107 {p : Program} {l : Launch} {e : Env} {s : State} {m : MethodId} {args : Array Value} {below : List Frame} {meth : Method} {c : Code} {Q : State → Prop} {D : va_G} {cyI cyJ cyO : ClassId} {A : Nat → Prop} {bs : Nat} {a : Nat → Nat} {Y : va_W} {th : Int32} {df : Int32} {la : Int32} {fo : Int32} {dr : Nat → Int32} {om : Nat → Int32} {os : Nat → Int32} {N : Nat} {res : Int32 × Int32 × Int32 × Int32 × (Nat → Int32) × (Nat → Int32) × (Nat → Int32) × (Nat → Int32) × (Nat → Int64) × (Nat → Int64)} (C0 : gC p m meth c cX4_side 7 (some .int) s args wsX4_side RX4) (hret : ∀ (r : Int32) (he_r : Int32) (wt_r : Int32) (br_r : Int32) (fm_r : Nat → Int32) (sz_r : Nat → Int32) (st_r : Nat → Int32) (wa_r : Nat → Int32) (va_r : Nat → Int64) (sk_r : Nat → Int64) (H : Heap) (locs : List Loc) (pc : Nat) (ls : Array Slot), some (r, he_r, wt_r, br_r, fm_r, sz_r, st_r, wa_r, va_r, sk_r) = some res → gZ D (gT cyI cyJ cyO) (XM a cyI cyJ th df la fo he_r wt_r br_r dr fm_r sz_r om os st_r wa_r va_r sk_r ++ Y) A bs s H locs → decode cX4_side pc = .ok (.ireturn, 1) → W p l e rmX4_side s m args below meth c H locs 0 0 Q (F0 m pc ls [.int r]))  : ∀ (he : Int32) (wt : Int32) (br : Int32) (fm : Nat → Int32) (sz : Nat → Int32) (st : Nat → Int32) (wa : Nat → Int32) (va : Nat → Int64) (sk : Nat → Int64) (s0 : Int32) (H : Heap) (locs : List Loc) (ls : Array Slot), mX4_side_107 N he wt br fm sz st wa va sk s0 = some res → gZ D (gT cyI cyJ cyO) (XM a cyI cyJ th df la fo he wt br dr fm sz om os st wa va sk ++ Y) A bs s H locs → lv_has ls 7 [] → W p l e rmX4_side s m args below meth c H locs 0 0 Q (F0 m 107 ls [.int s0]) := by
  intro he wt br fm sz st wa va sk s0 H locs ls h Z hl
  unfold mX4_side_107 at h
  exact hret s0 he wt br fm sz st wa va sk _ _ _ _ h Z dX4_side_107
set_option maxRecDepth 20000 in
set_option maxHeartbeats 4000000 in
theorem zX4_side (l : Launch) (D : va_G) (cyI cyJ cyO : ClassId) (A : Nat → Prop) (bs : Nat) (hA : ∀ q, bs ≤ q → A q) (a : Nat → Nat) (Y : va_W) (th : Int32) (df : Int32) (la : Int32) (fo : Int32) (he : Int32) (wt : Int32) (br : Int32) (dr : Nat → Int32) (fm : Nat → Int32) (sz : Nat → Int32) (om : Nat → Int32) (os : Nat → Int32) (st : Nat → Int32) (wa : Nat → Int32) (va : Nat → Int64) (sk : Nat → Int64) (N : Nat) (p0 : Int32) (p1 : Int32) (p2 : Int32) (p3 : Int32) (res : Int32 × Int32 × Int32 × Int32 × (Nat → Int32) × (Nat → Int32) × (Nat → Int32) × (Nat → Int32) × (Nat → Int64) × (Nat → Int64)) (h : mX4_side N he wt br fm sz st wa va sk p0 p1 p2 p3 = some res) : Met l yX4_side wsX4_side rmX4_side (va_Pc [.ref (a 0), .int p0, .int p1, .int p2, .int p3] (gW D (gT cyI cyJ cyO) (XM a cyI cyJ th df la fo he wt br dr fm sz om os st wa va sk ++ Y) A bs)) (va_Qi (fun (r : Int32) (u : Int32 × Int32 × Int32 × (Nat → Int32) × (Nat → Int32) × (Nat → Int32) × (Nat → Int32) × (Nat → Int64) × (Nat → Int64)) => res.1 = r ∧ res.2 = u) (fun (u : Int32 × Int32 × Int32 × (Nat → Int32) × (Nat → Int32) × (Nat → Int32) × (Nat → Int32) × (Nat → Int64) × (Nat → Int64)) U => gW D (gT cyI cyJ cyO) (XM a cyI cyJ th df la fo u.1 u.2.1 u.2.2.1 dr u.2.2.2.1 u.2.2.2.2.1 om os u.2.2.2.2.2.1 u.2.2.2.2.2.2.1 u.2.2.2.2.2.2.2.1 u.2.2.2.2.2.2.2.2 ++ Y) A bs U) A) 0 0 A := by
  refine Met.ofW (cc := cX4_side) (maxL := 7) (ret := (some .int)) (by decide) rfl ?_
  intro p e s m args below meth c s₁ B hml hv
  obtain ⟨hav, hv⟩ := hv
  have C0 : gC p m meth c cX4_side 7 (some .int) s args wsX4_side RX4 := ⟨⟨B.exec, B.bytes, hml, findClass_of_methodNamed B.named, atoms_spec (ws := wsX4_side) B.pre⟩, B.returns, B.notSynchronized⟩
  have Z := g_start hA hv
  have hret : ∀ (r : Int32) (he_r : Int32) (wt_r : Int32) (br_r : Int32) (fm_r : Nat → Int32) (sz_r : Nat → Int32) (st_r : Nat → Int32) (wa_r : Nat → Int32) (va_r : Nat → Int64) (sk_r : Nat → Int64) (H : Heap) (locs : List Loc) (pc : Nat) (ls : Array Slot), some (r, he_r, wt_r, br_r, fm_r, sz_r, st_r, wa_r, va_r, sk_r) = some res → gZ D (gT cyI cyJ cyO) (XM a cyI cyJ th df la fo he_r wt_r br_r dr fm_r sz_r om os st_r wa_r va_r sk_r ++ Y) A bs s H locs → decode cX4_side pc = .ok (.ireturn, 1) → W p l e rmX4_side s m args below meth c H locs 0 0 (MQ below (va_Qi (fun (r : Int32) (u : Int32 × Int32 × Int32 × (Nat → Int32) × (Nat → Int32) × (Nat → Int32) × (Nat → Int32) × (Nat → Int64) × (Nat → Int64)) => res.1 = r ∧ res.2 = u) (fun (u : Int32 × Int32 × Int32 × (Nat → Int32) × (Nat → Int32) × (Nat → Int32) × (Nat → Int32) × (Nat → Int64) × (Nat → Int64)) U => gW D (gT cyI cyJ cyO) (XM a cyI cyJ th df la fo u.1 u.2.1 u.2.2.1 dr u.2.2.2.1 u.2.2.2.2.1 om os u.2.2.2.2.2.1 u.2.2.2.2.2.2.1 u.2.2.2.2.2.2.2.1 u.2.2.2.2.2.2.2.2 ++ Y) A bs U) A) args s 0 0 A) (F0 m pc ls [.int r]) := by
    intro r he_r wt_r br_r fm_r sz_r st_r wa_r va_r sk_r H locs pc ls h Z hd
    replace h := Option.some.inj h
    exact W.iret C0.1.1 C0.1.2.1 C0.2.1 (fun t ht hW => ⟨⟨r, (he_r, wt_r, br_r, fm_r, sz_r, st_r, wa_r, va_r, sk_r), rfl, ⟨congrArg Prod.fst h.symm, congrArg Prod.snd h.symm⟩, g_end Z ht hW⟩, Z.2.2.2.1.F ht⟩) Z.2.2.2.1.2.2 hd C0.2.2
  have hl := lv_entry ([.ref (a 0), .int p0, .int p1, .int p2, .int p3]) (n := 7) (Nat.le_of_ble_eq_true rfl)
  rw [hav, lg_entry_eq]
  generalize (lg_sl ([.ref (a 0), .int p0, .int p1, .int p2, .int p3]) ++ List.replicate (7 - (lg_sl ([.ref (a 0), .int p0, .int p1, .int p2, .int p3])).length) Slot.unset).toArray = ls at hl ⊢
  have hl : lv_has ls 7 [(0, .ref (a 0)), (1, .int p0), (2, .int p1), (3, .int p2), (4, .int p3)] := hl
  rw [← hav]
  unfold mX4_side at h
  refine lv_aload_n C0.1.1 C0.1.2.1 dX4_side_0 rfl (lv_at hl 0 rfl) ?_
  refine g_get (ci := 6) (v := .ref (a 3)) (T := TX4) (N := 16) C0.1 Z 0 rfl rfl 4 (by decide) kX4_side_in kX4_side_f16 rfl rfl dX4_side_1 ?_
  refine lv_iload_n C0.1.1 C0.1.2.1 dX4_side_4 rfl (lv_at hl 3 rfl) ?_
  obtain ⟨hi1, h⟩ := g_ni h
  refine g_iald (f := sz) (n := 30) C0.1 Z 3 0 rfl rfl hi1 dX4_side_5 ?_
  refine lv_istore (lv' := [(5, .int (sz p2.toNatClampNeg)), (0, .ref (a 0)), (1, .int p0), (2, .int p1), (3, .int p2), (4, .int p3)]) C0.1.1 C0.1.2.1 dX4_side_6 hl (by decide) rfl (fun ls hl => ?_)
  refine lv_aload_n C0.1.1 C0.1.2.1 dX4_side_8 rfl (lv_at hl 1 rfl) ?_
  refine g_get (ci := 6) (v := .ref (a 2)) (T := TX4) (N := 16) C0.1 Z 0 rfl rfl 3 (by decide) kX4_side_in kX4_side_f13 rfl rfl dX4_side_9 ?_
  refine lv_bipush (v := 15) C0.1.1 C0.1.2.1 dX4_side_12 (by decide +kernel) ?_
  refine lv_iload_n C0.1.1 C0.1.2.1 dX4_side_14 rfl (lv_at hl 4 rfl) ?_
  refine lv_imul C0.1.1 C0.1.2.1 dX4_side_15 ?_
  obtain ⟨hi2, h⟩ := g_ni h
  refine g_iald (f := fm) (n := 450) C0.1 Z 2 0 rfl rfl hi2 dX4_side_16 ?_
  refine lv_istore (lv' := [(6, .int (fm ((15 : Int32) * p2).toNatClampNeg)), (5, .int (sz p2.toNatClampNeg)), (0, .ref (a 0)), (1, .int p0), (2, .int p1), (3, .int p2), (4, .int p3)]) C0.1.1 C0.1.2.1 dX4_side_17 hl (by decide) rfl (fun ls hl => ?_)
  refine lv_aload_n C0.1.1 C0.1.2.1 dX4_side_19 rfl (lv_at hl 2 rfl) ?_
  refine g_get (ci := 6) (v := .ref (a 2)) (T := TX4) (N := 16) C0.1 Z 0 rfl rfl 3 (by decide) kX4_side_in kX4_side_f13 rfl rfl dX4_side_20 ?_
  refine lv_bipush (v := 15) C0.1.1 C0.1.2.1 dX4_side_23 (by decide +kernel) ?_
  refine lv_iload_n C0.1.1 C0.1.2.1 dX4_side_25 rfl (lv_at hl 5 rfl) ?_
  refine lv_imul C0.1.1 C0.1.2.1 dX4_side_26 ?_
  refine lv_iload C0.1.1 C0.1.2.1 dX4_side_27 (lv_at hl 6 rfl) ?_
  obtain ⟨hi3, h⟩ := g_ni h
  refine g_iast (f := fm) (n := 450) (ws' := (XM a cyI cyJ th df la fo he wt br dr (upd fm ((15 : Int32) * p2).toNatClampNeg p3) sz om os st wa va sk ++ Y)) C0.1 Z 2 0 rfl rfl hi3 dX4_side_29 rfl (fun H locs Z => ?_)
  refine lv_aload_n C0.1.1 C0.1.2.1 dX4_side_30 rfl (lv_at hl 2 rfl) ?_
  refine g_get (ci := 6) (v := .ref (a 3)) (T := TX4) (N := 16) C0.1 Z 0 rfl rfl 4 (by decide) kX4_side_in kX4_side_f16 rfl rfl dX4_side_31 ?_
  refine lv_iload_n C0.1.1 C0.1.2.1 dX4_side_34 rfl (lv_at hl 5 rfl) ?_
  refine lv_iconst (v := 1) C0.1.1 C0.1.2.1 dX4_side_35 (by decide) ?_
  obtain ⟨hi4, h⟩ := g_ni h
  refine g_iast (f := sz) (n := 30) (ws' := (XM a cyI cyJ th df la fo he wt br dr (upd fm ((15 : Int32) * p2).toNatClampNeg p3) (upd sz p2.toNatClampNeg (1 : Int32)) om os st wa va sk ++ Y)) C0.1 Z 3 0 rfl rfl hi4 dX4_side_36 rfl (fun H locs Z => ?_)
  refine lv_aload_n C0.1.1 C0.1.2.1 dX4_side_37 rfl (lv_at hl 2 rfl) ?_
  obtain ⟨x5, hx6, h⟩ := g_bd h
  refine g_callVv (b := a 0) (As := []) (rest := []) (ws' := (fun (u : Int32 × Int32 × Int32 × (Nat → Int32) × (Nat → Int32) × (Nat → Int64) × (Nat → Int64)) => (XM a cyI cyJ th df la fo u.1 u.2.1 u.2.2.1 dr (upd fm ((15 : Int32) * p2).toNatClampNeg p3) (upd sz p2.toNatClampNeg (1 : Int32)) om os u.2.2.2.1 u.2.2.2.2.1 u.2.2.2.2.2.1 u.2.2.2.2.2.2 ++ Y))) C0.1 Z (zX4_worksAll l D cyI cyJ cyO A bs Z.2.2.2.2.2 a Y th df la fo he wt br dr (upd fm ((15 : Int32) * p2).toNatClampNeg p3) (upd sz p2.toNatClampNeg (1 : Int32)) om os st wa va sk N x5 hx6) (cwV 0 C0.1.2.2.2.2 gX4_side_X4_worksAll rfl rfl rfl (by decide +kernel) ⟨Nat.le_of_ble_eq_true rfl, Nat.le_of_ble_eq_true rfl⟩) 0 (ci := 6) rfl rfl rfl rfl hl.1 rfl (Nat.le_of_ble_eq_true rfl) dX4_side_38 ⟨Nat.zero_le _, Nat.zero_le _⟩ (fun u H locs hw Z => ?_)
  subst hw
  refine lv_aload_n C0.1.1 C0.1.2.1 dX4_side_41 rfl (lv_at hl 2 rfl) ?_
  refine g_get (ci := 6) (v := .ref (a 2)) (T := TX4) (N := 16) C0.1 Z 0 rfl rfl 3 (by decide) kX4_side_in kX4_side_f13 rfl rfl dX4_side_42 ?_
  refine lv_bipush (v := 15) C0.1.1 C0.1.2.1 dX4_side_45 (by decide +kernel) ?_
  refine lv_iload_n C0.1.1 C0.1.2.1 dX4_side_47 rfl (lv_at hl 5 rfl) ?_
  refine lv_imul C0.1.1 C0.1.2.1 dX4_side_48 ?_
  refine lv_iload C0.1.1 C0.1.2.1 dX4_side_49 (lv_at hl 0 rfl) ?_
  obtain ⟨hi7, h⟩ := g_ni h
  refine g_iast (f := (upd fm ((15 : Int32) * p2).toNatClampNeg p3)) (n := 450) (ws' := (XM a cyI cyJ th df la fo x5.1 x5.2.1 x5.2.2.1 dr (upd (upd fm ((15 : Int32) * p2).toNatClampNeg p3) ((15 : Int32) * p2).toNatClampNeg (fm ((15 : Int32) * p2).toNatClampNeg)) (upd sz p2.toNatClampNeg (1 : Int32)) om os x5.2.2.2.1 x5.2.2.2.2.1 x5.2.2.2.2.2.1 x5.2.2.2.2.2.2 ++ Y)) C0.1 Z 2 0 rfl rfl hi7 dX4_side_51 rfl (fun H locs Z => ?_)
  refine lv_aload_n C0.1.1 C0.1.2.1 dX4_side_52 rfl (lv_at hl 2 rfl) ?_
  refine g_get (ci := 6) (v := .ref (a 3)) (T := TX4) (N := 16) C0.1 Z 0 rfl rfl 4 (by decide) kX4_side_in kX4_side_f16 rfl rfl dX4_side_53 ?_
  refine lv_iload_n C0.1.1 C0.1.2.1 dX4_side_56 rfl (lv_at hl 5 rfl) ?_
  refine lv_iload C0.1.1 C0.1.2.1 dX4_side_57 (lv_at hl 1 rfl) ?_
  obtain ⟨hi8, h⟩ := g_ni h
  refine g_iast (f := (upd sz p2.toNatClampNeg (1 : Int32))) (n := 30) (ws' := (XM a cyI cyJ th df la fo x5.1 x5.2.1 x5.2.2.1 dr (upd (upd fm ((15 : Int32) * p2).toNatClampNeg p3) ((15 : Int32) * p2).toNatClampNeg (fm ((15 : Int32) * p2).toNatClampNeg)) (upd (upd sz p2.toNatClampNeg (1 : Int32)) p2.toNatClampNeg (sz p2.toNatClampNeg)) om os x5.2.2.2.1 x5.2.2.2.2.1 x5.2.2.2.2.2.1 x5.2.2.2.2.2.2 ++ Y)) C0.1 Z 3 0 rfl rfl hi8 dX4_side_59 rfl (fun H locs Z => ?_)
  refine lv_aload_n C0.1.1 C0.1.2.1 dX4_side_60 rfl (lv_at hl 2 rfl) ?_
  refine g_get (ci := 6) (v := .ref (a 7)) (T := TX4) (N := 16) C0.1 Z 0 rfl rfl 10 (by decide) kX4_side_in kX4_side_f29 rfl rfl dX4_side_61 ?_
  refine lv_iload_n C0.1.1 C0.1.2.1 dX4_side_64 rfl (lv_at hl 3 rfl) ?_
  obtain ⟨hi9, h⟩ := g_ni h
  refine g_iald (f := x5.2.2.2.1) (n := 30) C0.1 Z 7 0 rfl rfl hi9 dX4_side_65 ?_
  refine lv_iconst (v := 2) C0.1.1 C0.1.2.1 dX4_side_66 (by decide) ?_
  refine lv_icmp_ne (tgt := 74) C0.1.1 C0.1.2.1 dX4_side_67 (by decide) (fun hc => ?_) (fun hc => ?_)
  · replace h := (if_neg hc).symm.trans h
    refine lv_aload_n C0.1.1 C0.1.2.1 dX4_side_74 rfl (lv_at hl 2 rfl) ?_
    refine g_get (ci := 6) (v := .ref (a 6)) (T := TX4) (N := 16) C0.1 Z 0 rfl rfl 9 (by decide) kX4_side_in kX4_side_f25 rfl rfl dX4_side_75 ?_
    refine lv_iload_n C0.1.1 C0.1.2.1 dX4_side_78 rfl (lv_at hl 3 rfl) ?_
    obtain ⟨hi10, h⟩ := g_ni h
    refine g_lald (f := x5.2.2.2.2.2.1) (n := 30) C0.1 Z 6 1 rfl rfl hi10 dX4_side_79 ?_
    refine lv_iload_n C0.1.1 C0.1.2.1 dX4_side_80 rfl (lv_at hl 4 rfl) ?_
    refine lv_i2l C0.1.1 C0.1.2.1 dX4_side_81 rfl ?_
    refine W.lcmp C0.1.1 C0.1.2.1 dX4_side_82 ?_
    refine lv_if_ge (tgt := 90) C0.1.1 C0.1.2.1 dX4_side_83 (by decide) (fun hc => ?_) (fun hc => ?_)
    · replace h := (if_pos hc).symm.trans h
      refine lv_aload_n C0.1.1 C0.1.2.1 dX4_side_90 rfl (lv_at hl 2 rfl) ?_
      refine g_get (ci := 6) (v := .ref (a 6)) (T := TX4) (N := 16) C0.1 Z 0 rfl rfl 9 (by decide) kX4_side_in kX4_side_f25 rfl rfl dX4_side_91 ?_
      refine lv_iload_n C0.1.1 C0.1.2.1 dX4_side_94 rfl (lv_at hl 3 rfl) ?_
      obtain ⟨hi11, h⟩ := g_ni h
      refine g_lald (f := x5.2.2.2.2.2.1) (n := 30) C0.1 Z 6 1 rfl rfl hi11 dX4_side_95 ?_
      refine lv_iload_n C0.1.1 C0.1.2.1 dX4_side_96 rfl (lv_at hl 4 rfl) ?_
      refine lv_i2l C0.1.1 C0.1.2.1 dX4_side_97 rfl ?_
      refine W.lcmp C0.1.1 C0.1.2.1 dX4_side_98 ?_
      refine lv_if_le (tgt := 106) C0.1.1 C0.1.2.1 dX4_side_99 (by decide) (fun hc => ?_) (fun hc => ?_)
      · replace h := (if_pos hc).symm.trans h
        refine lv_iconst (v := 0) C0.1.1 C0.1.2.1 dX4_side_106 (by decide) ?_
        exact wX4_side_107 (N := N) C0 hret x5.1 x5.2.1 x5.2.2.1 (upd (upd fm ((15 : Int32) * p2).toNatClampNeg p3) ((15 : Int32) * p2).toNatClampNeg (fm ((15 : Int32) * p2).toNatClampNeg)) (upd (upd sz p2.toNatClampNeg (1 : Int32)) p2.toNatClampNeg (sz p2.toNatClampNeg)) x5.2.2.2.1 x5.2.2.2.2.1 x5.2.2.2.2.2.1 x5.2.2.2.2.2.2 (0 : Int32) _ _ _ h Z (lv_sub hl [] rfl)
      · replace h := (if_neg hc).symm.trans h
        refine lv_iconst (v := 1) C0.1.1 C0.1.2.1 dX4_side_102 (by decide) ?_
        refine lv_goto (tgt := 107) C0.1.1 C0.1.2.1 dX4_side_103 (by decide) ?_
        exact wX4_side_107 (N := N) C0 hret x5.1 x5.2.1 x5.2.2.1 (upd (upd fm ((15 : Int32) * p2).toNatClampNeg p3) ((15 : Int32) * p2).toNatClampNeg (fm ((15 : Int32) * p2).toNatClampNeg)) (upd (upd sz p2.toNatClampNeg (1 : Int32)) p2.toNatClampNeg (sz p2.toNatClampNeg)) x5.2.2.2.1 x5.2.2.2.2.1 x5.2.2.2.2.2.1 x5.2.2.2.2.2.2 (1 : Int32) _ _ _ h Z (lv_sub hl [] rfl)
    · replace h := (if_neg hc).symm.trans h
      refine lv_iconst (v := -1) C0.1.1 C0.1.2.1 dX4_side_86 (by decide) ?_
      refine lv_goto (tgt := 107) C0.1.1 C0.1.2.1 dX4_side_87 (by decide) ?_
      exact wX4_side_107 (N := N) C0 hret x5.1 x5.2.1 x5.2.2.1 (upd (upd fm ((15 : Int32) * p2).toNatClampNeg p3) ((15 : Int32) * p2).toNatClampNeg (fm ((15 : Int32) * p2).toNatClampNeg)) (upd (upd sz p2.toNatClampNeg (1 : Int32)) p2.toNatClampNeg (sz p2.toNatClampNeg)) x5.2.2.2.1 x5.2.2.2.2.1 x5.2.2.2.2.2.1 x5.2.2.2.2.2.2 (-1 : Int32) _ _ _ h Z (lv_sub hl [] rfl)
  · replace h := (if_pos hc).symm.trans h
    refine lv_iconst (v := 2) C0.1.1 C0.1.2.1 dX4_side_70 (by decide) ?_
    refine lv_goto (tgt := 107) C0.1.1 C0.1.2.1 dX4_side_71 (by decide) ?_
    exact wX4_side_107 (N := N) C0 hret x5.1 x5.2.1 x5.2.2.1 (upd (upd fm ((15 : Int32) * p2).toNatClampNeg p3) ((15 : Int32) * p2).toNatClampNeg (fm ((15 : Int32) * p2).toNatClampNeg)) (upd (upd sz p2.toNatClampNeg (1 : Int32)) p2.toNatClampNeg (sz p2.toNatClampNeg)) x5.2.2.2.1 x5.2.2.2.2.1 x5.2.2.2.2.2.1 x5.2.2.2.2.2.2 (2 : Int32) _ _ _ h Z (lv_sub hl [] rfl)
/-! X4_sought -/
abbrev rmX4_sought : Room := { frames := 7, cells := 0, slots := 0, locals := 170 }
def mX4_sought_131 (N : Nat) (he : Int32) (wt : Int32) (br : Int32) (fm : Nat → Int32) (sz : Nat → Int32) (st : Nat → Int32) (wa : Nat → Int32) (va : Nat → Int64) (sk : Nat → Int64) (s0 : Int32) : Option (Int32 × Int32 × Int32 × Int32 × (Nat → Int32) × (Nat → Int32) × (Nat → Int32) × (Nat → Int32) × (Nat → Int64) × (Nat → Int64)) := some (s0, he, wt, br, fm, sz, st, wa, va, sk)
def mX4_sought_116 (N : Nat) (r56 : Int32 → Int32 → Int32 → (Nat → Int32) → (Nat → Int32) → (Nat → Int32) → (Nat → Int32) → (Nat → Int64) → (Nat → Int64) → Int32 → Int32 → Int32 → Int32 → Int32 → Int32 → Option (Int32 × Int32 × Int32 × Int32 × (Nat → Int32) × (Nat → Int32) × (Nat → Int32) × (Nat → Int32) × (Nat → Int64) × (Nat → Int64))) (he : Int32) (wt : Int32) (br : Int32) (fm : Nat → Int32) (sz : Nat → Int32) (st : Nat → Int32) (wa : Nat → Int32) (va : Nat → Int64) (sk : Nat → Int64) (v1 : Int32) (v2 : Int32) (v3 : Int32) (v6 : Int32) (v7 : Int32) (v8 : Int32) : Option (Int32 × Int32 × Int32 × Int32 × (Nat → Int32) × (Nat → Int32) × (Nat → Int32) × (Nat → Int32) × (Nat → Int64) × (Nat → Int64)) := r56 he wt br fm sz st wa va sk v1 v2 v3 v6 v7 v8
def mX4_sought_112 (N : Nat) (r56 : Int32 → Int32 → Int32 → (Nat → Int32) → (Nat → Int32) → (Nat → Int32) → (Nat → Int32) → (Nat → Int64) → (Nat → Int64) → Int32 → Int32 → Int32 → Int32 → Int32 → Int32 → Option (Int32 × Int32 × Int32 × Int32 × (Nat → Int32) × (Nat → Int32) × (Nat → Int32) × (Nat → Int32) × (Nat → Int64) × (Nat → Int64))) (he : Int32) (wt : Int32) (br : Int32) (fm : Nat → Int32) (sz : Nat → Int32) (st : Nat → Int32) (wa : Nat → Int32) (va : Nat → Int64) (sk : Nat → Int64) (v1 : Int32) (v2 : Int32) (v3 : Int32) (v6 : Int32) (v8 : Int32) (v10 : Int32) : Option (Int32 × Int32 × Int32 × Int32 × (Nat → Int32) × (Nat → Int32) × (Nat → Int32) × (Nat → Int32) × (Nat → Int64) × (Nat → Int64)) := mX4_sought_116 N r56 he wt br fm sz st wa va sk v1 v2 v3 v6 v10 v8
def mX4_sought_56_b (N : Nat) (r56 : Int32 → Int32 → Int32 → (Nat → Int32) → (Nat → Int32) → (Nat → Int32) → (Nat → Int32) → (Nat → Int64) → (Nat → Int64) → Int32 → Int32 → Int32 → Int32 → Int32 → Int32 → Option (Int32 × Int32 × Int32 × Int32 × (Nat → Int32) × (Nat → Int32) × (Nat → Int32) × (Nat → Int32) × (Nat → Int64) × (Nat → Int64))) (he : Int32) (wt : Int32) (br : Int32) (fm : Nat → Int32) (sz : Nat → Int32) (st : Nat → Int32) (wa : Nat → Int32) (va : Nat → Int64) (sk : Nat → Int64) (v1 : Int32) (v2 : Int32) (v3 : Int32) (v6 : Int32) (v7 : Int32) (v8 : Int32) : Option (Int32 × Int32 × Int32 × Int32 × (Nat → Int32) × (Nat → Int32) × (Nat → Int32) × (Nat → Int32) × (Nat → Int64) × (Nat → Int64)) := (if v7 ≤ (v6 + (1 : Int32)) then (if v8 = 0 then mX4_sought_131 N he wt br fm sz st wa va sk v6 else mX4_sought_131 N he wt br fm sz st wa va sk v7) else ((mX4_side N he wt br fm sz st wa va sk v1 v2 v3 ((v6 + v7) / (2 : Int32))).bind fun x1 => (if x1.1 = (2 : Int32) then some ((-1 : Int32), x1.2.1, x1.2.2.1, x1.2.2.2.1, x1.2.2.2.2.1, x1.2.2.2.2.2.1, x1.2.2.2.2.2.2.1, x1.2.2.2.2.2.2.2.1, x1.2.2.2.2.2.2.2.2.1, x1.2.2.2.2.2.2.2.2.2) else (if x1.1 = v8 then (if x1.1 = 0 then mX4_sought_112 N r56 x1.2.1 x1.2.2.1 x1.2.2.2.1 x1.2.2.2.2.1 x1.2.2.2.2.2.1 x1.2.2.2.2.2.2.1 x1.2.2.2.2.2.2.2.1 x1.2.2.2.2.2.2.2.2.1 x1.2.2.2.2.2.2.2.2.2 v1 v2 v3 v6 v8 ((v6 + v7) / (2 : Int32)) else mX4_sought_116 N r56 x1.2.1 x1.2.2.1 x1.2.2.2.1 x1.2.2.2.2.1 x1.2.2.2.2.2.1 x1.2.2.2.2.2.2.1 x1.2.2.2.2.2.2.2.1 x1.2.2.2.2.2.2.2.2.1 x1.2.2.2.2.2.2.2.2.2 v1 v2 v3 ((v6 + v7) / (2 : Int32)) v7 v8) else mX4_sought_112 N r56 x1.2.1 x1.2.2.1 x1.2.2.2.1 x1.2.2.2.2.1 x1.2.2.2.2.2.1 x1.2.2.2.2.2.2.1 x1.2.2.2.2.2.2.2.1 x1.2.2.2.2.2.2.2.2.1 x1.2.2.2.2.2.2.2.2.2 v1 v2 v3 v6 v8 ((v6 + v7) / (2 : Int32))))))
def mX4_sought_56 (N : Nat) : Nat → Int32 → Int32 → Int32 → (Nat → Int32) → (Nat → Int32) → (Nat → Int32) → (Nat → Int32) → (Nat → Int64) → (Nat → Int64) → Int32 → Int32 → Int32 → Int32 → Int32 → Int32 → Option (Int32 × Int32 × Int32 × Int32 × (Nat → Int32) × (Nat → Int32) × (Nat → Int32) × (Nat → Int32) × (Nat → Int64) × (Nat → Int64))
  | 0 => fun _ _ _ _ _ _ _ _ _ _ _ _ _ _ _ => none
  | n + 1 => fun he wt br fm sz st wa va sk v1 v2 v3 v6 v7 v8 => mX4_sought_56_b N (mX4_sought_56 N n) he wt br fm sz st wa va sk v1 v2 v3 v6 v7 v8
def mX4_sought_54 (N : Nat) (he : Int32) (wt : Int32) (br : Int32) (fm : Nat → Int32) (sz : Nat → Int32) (st : Nat → Int32) (wa : Nat → Int32) (va : Nat → Int64) (sk : Nat → Int64) : Option (Int32 × Int32 × Int32 × Int32 × (Nat → Int32) × (Nat → Int32) × (Nat → Int32) × (Nat → Int32) × (Nat → Int64) × (Nat → Int64)) := some ((-1 : Int32), he, wt, br, fm, sz, st, wa, va, sk)
def mX4_sought (N : Nat) (he : Int32) (wt : Int32) (br : Int32) (fm : Nat → Int32) (sz : Nat → Int32) (st : Nat → Int32) (wa : Nat → Int32) (va : Nat → Int64) (sk : Nat → Int64) (p0 : Int32) (p1 : Int32) (p2 : Int32) (p3 : Int32) (p4 : Int32) : Option (Int32 × Int32 × Int32 × Int32 × (Nat → Int32) × (Nat → Int32) × (Nat → Int32) × (Nat → Int32) × (Nat → Int64) × (Nat → Int64)) := ((mX4_side N he wt br fm sz st wa va sk p0 p1 p2 p3).bind fun x3 => ((mX4_side N x3.2.1 x3.2.2.1 x3.2.2.2.1 x3.2.2.2.2.1 x3.2.2.2.2.2.1 x3.2.2.2.2.2.2.1 x3.2.2.2.2.2.2.2.1 x3.2.2.2.2.2.2.2.2.1 x3.2.2.2.2.2.2.2.2.2 p0 p1 p2 p4).bind fun x5 => (if x3.1 = (2 : Int32) then mX4_sought_54 N x5.2.1 x5.2.2.1 x5.2.2.2.1 x5.2.2.2.2.1 x5.2.2.2.2.2.1 x5.2.2.2.2.2.2.1 x5.2.2.2.2.2.2.2.1 x5.2.2.2.2.2.2.2.2.1 x5.2.2.2.2.2.2.2.2.2 else (if x5.1 = (2 : Int32) then mX4_sought_54 N x5.2.1 x5.2.2.1 x5.2.2.2.1 x5.2.2.2.2.1 x5.2.2.2.2.2.1 x5.2.2.2.2.2.2.1 x5.2.2.2.2.2.2.2.1 x5.2.2.2.2.2.2.2.2.1 x5.2.2.2.2.2.2.2.2.2 else (if x3.1 = x5.1 then (if x3.1 = 0 then mX4_sought_56 N N x5.2.1 x5.2.2.1 x5.2.2.2.1 x5.2.2.2.2.1 x5.2.2.2.2.2.1 x5.2.2.2.2.2.2.1 x5.2.2.2.2.2.2.2.1 x5.2.2.2.2.2.2.2.2.1 x5.2.2.2.2.2.2.2.2.2 p0 p1 p2 p3 p4 x3.1 else mX4_sought_54 N x5.2.1 x5.2.2.1 x5.2.2.2.1 x5.2.2.2.2.1 x5.2.2.2.2.2.1 x5.2.2.2.2.2.2.1 x5.2.2.2.2.2.2.2.1 x5.2.2.2.2.2.2.2.2.1 x5.2.2.2.2.2.2.2.2.2) else mX4_sought_56 N N x5.2.1 x5.2.2.1 x5.2.2.2.1 x5.2.2.2.2.1 x5.2.2.2.2.2.1 x5.2.2.2.2.2.2.1 x5.2.2.2.2.2.2.2.1 x5.2.2.2.2.2.2.2.2.1 x5.2.2.2.2.2.2.2.2.2 p0 p1 p2 p3 p4 x3.1)))))
set_option maxRecDepth 20000 in
set_option maxHeartbeats 4000000 in
theorem wX4_sought_131 {p : Program} {l : Launch} {e : Env} {s : State} {m : MethodId} {args : Array Value} {below : List Frame} {meth : Method} {c : Code} {Q : State → Prop} {D : va_G} {cyI cyJ cyO : ClassId} {A : Nat → Prop} {bs : Nat} {a : Nat → Nat} {Y : va_W} {th : Int32} {df : Int32} {la : Int32} {fo : Int32} {dr : Nat → Int32} {om : Nat → Int32} {os : Nat → Int32} {N : Nat} {res : Int32 × Int32 × Int32 × Int32 × (Nat → Int32) × (Nat → Int32) × (Nat → Int32) × (Nat → Int32) × (Nat → Int64) × (Nat → Int64)} (C0 : gC p m meth c cX4_sought 12 (some .int) s args wsX4_sought RX4) (hret : ∀ (r : Int32) (he_r : Int32) (wt_r : Int32) (br_r : Int32) (fm_r : Nat → Int32) (sz_r : Nat → Int32) (st_r : Nat → Int32) (wa_r : Nat → Int32) (va_r : Nat → Int64) (sk_r : Nat → Int64) (H : Heap) (locs : List Loc) (pc : Nat) (ls : Array Slot), some (r, he_r, wt_r, br_r, fm_r, sz_r, st_r, wa_r, va_r, sk_r) = some res → gZ D (gT cyI cyJ cyO) (XM a cyI cyJ th df la fo he_r wt_r br_r dr fm_r sz_r om os st_r wa_r va_r sk_r ++ Y) A bs s H locs → decode cX4_sought pc = .ok (.ireturn, 1) → W p l e rmX4_sought s m args below meth c H locs 0 0 Q (F0 m pc ls [.int r]))  : ∀ (he : Int32) (wt : Int32) (br : Int32) (fm : Nat → Int32) (sz : Nat → Int32) (st : Nat → Int32) (wa : Nat → Int32) (va : Nat → Int64) (sk : Nat → Int64) (s0 : Int32) (H : Heap) (locs : List Loc) (ls : Array Slot), mX4_sought_131 N he wt br fm sz st wa va sk s0 = some res → gZ D (gT cyI cyJ cyO) (XM a cyI cyJ th df la fo he wt br dr fm sz om os st wa va sk ++ Y) A bs s H locs → lv_has ls 12 [] → W p l e rmX4_sought s m args below meth c H locs 0 0 Q (F0 m 131 ls [.int s0]) := by
  intro he wt br fm sz st wa va sk s0 H locs ls h Z hl
  unfold mX4_sought_131 at h
  exact hret s0 he wt br fm sz st wa va sk _ _ _ _ h Z dX4_sought_131
set_option maxRecDepth 20000 in
set_option maxHeartbeats 4000000 in
theorem wX4_sought_116 {p : Program} {l : Launch} {e : Env} {s : State} {m : MethodId} {args : Array Value} {below : List Frame} {meth : Method} {c : Code} {Q : State → Prop} {D : va_G} {cyI cyJ cyO : ClassId} {A : Nat → Prop} {bs : Nat} {a : Nat → Nat} {Y : va_W} {th : Int32} {df : Int32} {la : Int32} {fo : Int32} {dr : Nat → Int32} {om : Nat → Int32} {os : Nat → Int32} {N : Nat} {res : Int32 × Int32 × Int32 × Int32 × (Nat → Int32) × (Nat → Int32) × (Nat → Int32) × (Nat → Int32) × (Nat → Int64) × (Nat → Int64)} (C0 : gC p m meth c cX4_sought 12 (some .int) s args wsX4_sought RX4) (hret : ∀ (r : Int32) (he_r : Int32) (wt_r : Int32) (br_r : Int32) (fm_r : Nat → Int32) (sz_r : Nat → Int32) (st_r : Nat → Int32) (wa_r : Nat → Int32) (va_r : Nat → Int64) (sk_r : Nat → Int64) (H : Heap) (locs : List Loc) (pc : Nat) (ls : Array Slot), some (r, he_r, wt_r, br_r, fm_r, sz_r, st_r, wa_r, va_r, sk_r) = some res → gZ D (gT cyI cyJ cyO) (XM a cyI cyJ th df la fo he_r wt_r br_r dr fm_r sz_r om os st_r wa_r va_r sk_r ++ Y) A bs s H locs → decode cX4_sought pc = .ok (.ireturn, 1) → W p l e rmX4_sought s m args below meth c H locs 0 0 Q (F0 m pc ls [.int r])) {r56 : Int32 → Int32 → Int32 → (Nat → Int32) → (Nat → Int32) → (Nat → Int32) → (Nat → Int32) → (Nat → Int64) → (Nat → Int64) → Int32 → Int32 → Int32 → Int32 → Int32 → Int32 → Option (Int32 × Int32 × Int32 × Int32 × (Nat → Int32) × (Nat → Int32) × (Nat → Int32) × (Nat → Int32) × (Nat → Int64) × (Nat → Int64))} (hr56 : ∀ (he : Int32) (wt : Int32) (br : Int32) (fm : Nat → Int32) (sz : Nat → Int32) (st : Nat → Int32) (wa : Nat → Int32) (va : Nat → Int64) (sk : Nat → Int64) (v1 : Int32) (v2 : Int32) (v3 : Int32) (v6 : Int32) (v7 : Int32) (v8 : Int32) (H : Heap) (locs : List Loc) (ls : Array Slot), r56 he wt br fm sz st wa va sk v1 v2 v3 v6 v7 v8 = some res → gZ D (gT cyI cyJ cyO) (XM a cyI cyJ th df la fo he wt br dr fm sz om os st wa va sk ++ Y) A bs s H locs → lv_has ls 12 [(0, .ref (a 0)), (1, .int v1), (2, .int v2), (3, .int v3), (6, .int v6), (7, .int v7), (8, .int v8)] → W p l e rmX4_sought s m args below meth c H locs 0 0 Q (F0 m 56 ls [])) : ∀ (he : Int32) (wt : Int32) (br : Int32) (fm : Nat → Int32) (sz : Nat → Int32) (st : Nat → Int32) (wa : Nat → Int32) (va : Nat → Int64) (sk : Nat → Int64) (v1 : Int32) (v2 : Int32) (v3 : Int32) (v6 : Int32) (v7 : Int32) (v8 : Int32) (H : Heap) (locs : List Loc) (ls : Array Slot), mX4_sought_116 N r56 he wt br fm sz st wa va sk v1 v2 v3 v6 v7 v8 = some res → gZ D (gT cyI cyJ cyO) (XM a cyI cyJ th df la fo he wt br dr fm sz om os st wa va sk ++ Y) A bs s H locs → lv_has ls 12 [(0, .ref (a 0)), (1, .int v1), (2, .int v2), (3, .int v3), (6, .int v6), (7, .int v7), (8, .int v8)] → W p l e rmX4_sought s m args below meth c H locs 0 0 Q (F0 m 116 ls []) := by
  intro he wt br fm sz st wa va sk v1 v2 v3 v6 v7 v8 H locs ls h Z hl
  unfold mX4_sought_116 at h
  refine lv_goto (tgt := 56) C0.1.1 C0.1.2.1 dX4_sought_116 (by decide) ?_
  exact hr56 he wt br fm sz st wa va sk v1 v2 v3 v6 v7 v8 _ _ _ h Z (lv_sub hl [0, 1, 2, 3, 4, 5, 6] rfl)
set_option maxRecDepth 20000 in
set_option maxHeartbeats 4000000 in
theorem wX4_sought_112 {p : Program} {l : Launch} {e : Env} {s : State} {m : MethodId} {args : Array Value} {below : List Frame} {meth : Method} {c : Code} {Q : State → Prop} {D : va_G} {cyI cyJ cyO : ClassId} {A : Nat → Prop} {bs : Nat} {a : Nat → Nat} {Y : va_W} {th : Int32} {df : Int32} {la : Int32} {fo : Int32} {dr : Nat → Int32} {om : Nat → Int32} {os : Nat → Int32} {N : Nat} {res : Int32 × Int32 × Int32 × Int32 × (Nat → Int32) × (Nat → Int32) × (Nat → Int32) × (Nat → Int32) × (Nat → Int64) × (Nat → Int64)} (C0 : gC p m meth c cX4_sought 12 (some .int) s args wsX4_sought RX4) (hret : ∀ (r : Int32) (he_r : Int32) (wt_r : Int32) (br_r : Int32) (fm_r : Nat → Int32) (sz_r : Nat → Int32) (st_r : Nat → Int32) (wa_r : Nat → Int32) (va_r : Nat → Int64) (sk_r : Nat → Int64) (H : Heap) (locs : List Loc) (pc : Nat) (ls : Array Slot), some (r, he_r, wt_r, br_r, fm_r, sz_r, st_r, wa_r, va_r, sk_r) = some res → gZ D (gT cyI cyJ cyO) (XM a cyI cyJ th df la fo he_r wt_r br_r dr fm_r sz_r om os st_r wa_r va_r sk_r ++ Y) A bs s H locs → decode cX4_sought pc = .ok (.ireturn, 1) → W p l e rmX4_sought s m args below meth c H locs 0 0 Q (F0 m pc ls [.int r])) {r56 : Int32 → Int32 → Int32 → (Nat → Int32) → (Nat → Int32) → (Nat → Int32) → (Nat → Int32) → (Nat → Int64) → (Nat → Int64) → Int32 → Int32 → Int32 → Int32 → Int32 → Int32 → Option (Int32 × Int32 × Int32 × Int32 × (Nat → Int32) × (Nat → Int32) × (Nat → Int32) × (Nat → Int32) × (Nat → Int64) × (Nat → Int64))} (hr56 : ∀ (he : Int32) (wt : Int32) (br : Int32) (fm : Nat → Int32) (sz : Nat → Int32) (st : Nat → Int32) (wa : Nat → Int32) (va : Nat → Int64) (sk : Nat → Int64) (v1 : Int32) (v2 : Int32) (v3 : Int32) (v6 : Int32) (v7 : Int32) (v8 : Int32) (H : Heap) (locs : List Loc) (ls : Array Slot), r56 he wt br fm sz st wa va sk v1 v2 v3 v6 v7 v8 = some res → gZ D (gT cyI cyJ cyO) (XM a cyI cyJ th df la fo he wt br dr fm sz om os st wa va sk ++ Y) A bs s H locs → lv_has ls 12 [(0, .ref (a 0)), (1, .int v1), (2, .int v2), (3, .int v3), (6, .int v6), (7, .int v7), (8, .int v8)] → W p l e rmX4_sought s m args below meth c H locs 0 0 Q (F0 m 56 ls [])) : ∀ (he : Int32) (wt : Int32) (br : Int32) (fm : Nat → Int32) (sz : Nat → Int32) (st : Nat → Int32) (wa : Nat → Int32) (va : Nat → Int64) (sk : Nat → Int64) (v1 : Int32) (v2 : Int32) (v3 : Int32) (v6 : Int32) (v8 : Int32) (v10 : Int32) (H : Heap) (locs : List Loc) (ls : Array Slot), mX4_sought_112 N r56 he wt br fm sz st wa va sk v1 v2 v3 v6 v8 v10 = some res → gZ D (gT cyI cyJ cyO) (XM a cyI cyJ th df la fo he wt br dr fm sz om os st wa va sk ++ Y) A bs s H locs → lv_has ls 12 [(0, .ref (a 0)), (1, .int v1), (2, .int v2), (3, .int v3), (6, .int v6), (8, .int v8), (10, .int v10)] → W p l e rmX4_sought s m args below meth c H locs 0 0 Q (F0 m 112 ls []) := by
  intro he wt br fm sz st wa va sk v1 v2 v3 v6 v8 v10 H locs ls h Z hl
  unfold mX4_sought_112 at h
  refine lv_iload C0.1.1 C0.1.2.1 dX4_sought_112 (lv_at hl 6 rfl) ?_
  refine lv_istore (lv' := [(7, .int v10), (0, .ref (a 0)), (1, .int v1), (2, .int v2), (3, .int v3), (6, .int v6), (8, .int v8), (10, .int v10)]) C0.1.1 C0.1.2.1 dX4_sought_114 hl (by decide) rfl (fun ls hl => ?_)
  exact wX4_sought_116 (N := N) C0 hret hr56 he wt br fm sz st wa va sk v1 v2 v3 v6 v10 v8 _ _ _ h Z (lv_sub hl [1, 2, 3, 4, 5, 0, 6] rfl)
set_option maxRecDepth 20000 in
set_option maxHeartbeats 4000000 in
theorem wX4_sought_56_b {p : Program} {l : Launch} {e : Env} {s : State} {m : MethodId} {args : Array Value} {below : List Frame} {meth : Method} {c : Code} {Q : State → Prop} {D : va_G} {cyI cyJ cyO : ClassId} {A : Nat → Prop} {bs : Nat} {a : Nat → Nat} {Y : va_W} {th : Int32} {df : Int32} {la : Int32} {fo : Int32} {dr : Nat → Int32} {om : Nat → Int32} {os : Nat → Int32} {N : Nat} {res : Int32 × Int32 × Int32 × Int32 × (Nat → Int32) × (Nat → Int32) × (Nat → Int32) × (Nat → Int32) × (Nat → Int64) × (Nat → Int64)} (C0 : gC p m meth c cX4_sought 12 (some .int) s args wsX4_sought RX4) (hret : ∀ (r : Int32) (he_r : Int32) (wt_r : Int32) (br_r : Int32) (fm_r : Nat → Int32) (sz_r : Nat → Int32) (st_r : Nat → Int32) (wa_r : Nat → Int32) (va_r : Nat → Int64) (sk_r : Nat → Int64) (H : Heap) (locs : List Loc) (pc : Nat) (ls : Array Slot), some (r, he_r, wt_r, br_r, fm_r, sz_r, st_r, wa_r, va_r, sk_r) = some res → gZ D (gT cyI cyJ cyO) (XM a cyI cyJ th df la fo he_r wt_r br_r dr fm_r sz_r om os st_r wa_r va_r sk_r ++ Y) A bs s H locs → decode cX4_sought pc = .ok (.ireturn, 1) → W p l e rmX4_sought s m args below meth c H locs 0 0 Q (F0 m pc ls [.int r])) {r56 : Int32 → Int32 → Int32 → (Nat → Int32) → (Nat → Int32) → (Nat → Int32) → (Nat → Int32) → (Nat → Int64) → (Nat → Int64) → Int32 → Int32 → Int32 → Int32 → Int32 → Int32 → Option (Int32 × Int32 × Int32 × Int32 × (Nat → Int32) × (Nat → Int32) × (Nat → Int32) × (Nat → Int32) × (Nat → Int64) × (Nat → Int64))} (hr56 : ∀ (he : Int32) (wt : Int32) (br : Int32) (fm : Nat → Int32) (sz : Nat → Int32) (st : Nat → Int32) (wa : Nat → Int32) (va : Nat → Int64) (sk : Nat → Int64) (v1 : Int32) (v2 : Int32) (v3 : Int32) (v6 : Int32) (v7 : Int32) (v8 : Int32) (H : Heap) (locs : List Loc) (ls : Array Slot), r56 he wt br fm sz st wa va sk v1 v2 v3 v6 v7 v8 = some res → gZ D (gT cyI cyJ cyO) (XM a cyI cyJ th df la fo he wt br dr fm sz om os st wa va sk ++ Y) A bs s H locs → lv_has ls 12 [(0, .ref (a 0)), (1, .int v1), (2, .int v2), (3, .int v3), (6, .int v6), (7, .int v7), (8, .int v8)] → W p l e rmX4_sought s m args below meth c H locs 0 0 Q (F0 m 56 ls [])) : ∀ (he : Int32) (wt : Int32) (br : Int32) (fm : Nat → Int32) (sz : Nat → Int32) (st : Nat → Int32) (wa : Nat → Int32) (va : Nat → Int64) (sk : Nat → Int64) (v1 : Int32) (v2 : Int32) (v3 : Int32) (v6 : Int32) (v7 : Int32) (v8 : Int32) (H : Heap) (locs : List Loc) (ls : Array Slot), mX4_sought_56_b N r56 he wt br fm sz st wa va sk v1 v2 v3 v6 v7 v8 = some res → gZ D (gT cyI cyJ cyO) (XM a cyI cyJ th df la fo he wt br dr fm sz om os st wa va sk ++ Y) A bs s H locs → lv_has ls 12 [(0, .ref (a 0)), (1, .int v1), (2, .int v2), (3, .int v3), (6, .int v6), (7, .int v7), (8, .int v8)] → W p l e rmX4_sought s m args below meth c H locs 0 0 Q (F0 m 56 ls []) := by
  intro he wt br fm sz st wa va sk v1 v2 v3 v6 v7 v8 H locs ls h Z hl
  unfold mX4_sought_56_b at h
  refine lv_iload C0.1.1 C0.1.2.1 dX4_sought_56 (lv_at hl 5 rfl) ?_
  refine lv_iload C0.1.1 C0.1.2.1 dX4_sought_58 (lv_at hl 4 rfl) ?_
  refine lv_iconst (v := 1) C0.1.1 C0.1.2.1 dX4_sought_60 (by decide) ?_
  refine lv_iadd C0.1.1 C0.1.2.1 dX4_sought_61 ?_
  refine lv_icmp_le (tgt := 119) C0.1.1 C0.1.2.1 dX4_sought_62 (by decide) (fun hc => ?_) (fun hc => ?_)
  · replace h := (if_pos hc).symm.trans h
    refine lv_iload C0.1.1 C0.1.2.1 dX4_sought_119 (lv_at hl 6 rfl) ?_
    refine lv_if_ne (tgt := 129) C0.1.1 C0.1.2.1 dX4_sought_121 (by decide) (fun hc => ?_) (fun hc => ?_)
    · replace h := (if_neg hc).symm.trans h
      refine lv_iload C0.1.1 C0.1.2.1 dX4_sought_129 (lv_at hl 5 rfl) ?_
      exact wX4_sought_131 (N := N) C0 hret he wt br fm sz st wa va sk v7 _ _ _ h Z (lv_sub hl [] rfl)
    · replace h := (if_pos hc).symm.trans h
      refine lv_iload C0.1.1 C0.1.2.1 dX4_sought_124 (lv_at hl 4 rfl) ?_
      refine lv_goto (tgt := 131) C0.1.1 C0.1.2.1 dX4_sought_126 (by decide) ?_
      exact wX4_sought_131 (N := N) C0 hret he wt br fm sz st wa va sk v6 _ _ _ h Z (lv_sub hl [] rfl)
  · replace h := (if_neg hc).symm.trans h
    refine lv_iload C0.1.1 C0.1.2.1 dX4_sought_65 (lv_at hl 4 rfl) ?_
    refine lv_iload C0.1.1 C0.1.2.1 dX4_sought_67 (lv_at hl 5 rfl) ?_
    refine lv_iadd C0.1.1 C0.1.2.1 dX4_sought_69 ?_
    refine lv_iconst (v := 2) C0.1.1 C0.1.2.1 dX4_sought_70 (by decide) ?_
    refine lv_idiv C0.1.1 C0.1.2.1 dX4_sought_71 (by decide) ?_
    refine lv_istore (lv' := [(10, .int ((v6 + v7) / (2 : Int32))), (0, .ref (a 0)), (1, .int v1), (2, .int v2), (3, .int v3), (6, .int v6), (7, .int v7), (8, .int v8)]) C0.1.1 C0.1.2.1 dX4_sought_72 hl (by decide) rfl (fun ls hl => ?_)
    refine lv_aload_n C0.1.1 C0.1.2.1 dX4_sought_74 rfl (lv_at hl 1 rfl) ?_
    refine lv_iload_n C0.1.1 C0.1.2.1 dX4_sought_75 rfl (lv_at hl 2 rfl) ?_
    refine lv_iload_n C0.1.1 C0.1.2.1 dX4_sought_76 rfl (lv_at hl 3 rfl) ?_
    refine lv_iload_n C0.1.1 C0.1.2.1 dX4_sought_77 rfl (lv_at hl 4 rfl) ?_
    refine lv_iload C0.1.1 C0.1.2.1 dX4_sought_78 (lv_at hl 0 rfl) ?_
    obtain ⟨x1, hx2, h⟩ := g_bd h
    refine g_callVi (b := a 0) (As := [.int v1, .int v2, .int v3, .int ((v6 + v7) / (2 : Int32))]) (rest := []) (ws' := (fun (u : Int32 × Int32 × Int32 × (Nat → Int32) × (Nat → Int32) × (Nat → Int32) × (Nat → Int32) × (Nat → Int64) × (Nat → Int64)) => (XM a cyI cyJ th df la fo u.1 u.2.1 u.2.2.1 dr u.2.2.2.1 u.2.2.2.2.1 om os u.2.2.2.2.2.1 u.2.2.2.2.2.2.1 u.2.2.2.2.2.2.2.1 u.2.2.2.2.2.2.2.2 ++ Y))) C0.1 Z (zX4_side l D cyI cyJ cyO A bs Z.2.2.2.2.2 a Y th df la fo he wt br dr fm sz om os st wa va sk N v1 v2 v3 ((v6 + v7) / (2 : Int32)) x1 hx2) (cwV 4 C0.1.2.2.2.2 gX4_sought_X4_side rfl rfl rfl (by decide +kernel) ⟨Nat.le_of_ble_eq_true rfl, Nat.le_of_ble_eq_true rfl⟩) 0 (ci := 6) rfl rfl rfl rfl hl.1 rfl (Nat.le_of_ble_eq_true rfl) dX4_sought_80 ⟨Nat.zero_le _, Nat.zero_le _⟩ (fun r u H locs hw Z => ?_)
    obtain ⟨rfl, rfl⟩ := hw
    refine lv_istore (lv' := [(11, .int x1.1), (10, .int ((v6 + v7) / (2 : Int32))), (0, .ref (a 0)), (1, .int v1), (2, .int v2), (3, .int v3), (6, .int v6), (7, .int v7), (8, .int v8)]) C0.1.1 C0.1.2.1 dX4_sought_83 hl (by decide) rfl (fun ls hl => ?_)
    refine lv_iload C0.1.1 C0.1.2.1 dX4_sought_85 (lv_at hl 0 rfl) ?_
    refine lv_iconst (v := 2) C0.1.1 C0.1.2.1 dX4_sought_87 (by decide) ?_
    refine lv_icmp_ne (tgt := 93) C0.1.1 C0.1.2.1 dX4_sought_88 (by decide) (fun hc => ?_) (fun hc => ?_)
    · replace h := (if_neg hc).symm.trans h
      refine lv_iload C0.1.1 C0.1.2.1 dX4_sought_93 (lv_at hl 0 rfl) ?_
      refine lv_iload C0.1.1 C0.1.2.1 dX4_sought_95 (lv_at hl 8 rfl) ?_
      refine lv_icmp_ne (tgt := 112) C0.1.1 C0.1.2.1 dX4_sought_97 (by decide) (fun hc => ?_) (fun hc => ?_)
      · replace h := (if_neg hc).symm.trans h
        exact wX4_sought_112 (N := N) C0 hret hr56 x1.2.1 x1.2.2.1 x1.2.2.2.1 x1.2.2.2.2.1 x1.2.2.2.2.2.1 x1.2.2.2.2.2.2.1 x1.2.2.2.2.2.2.2.1 x1.2.2.2.2.2.2.2.2.1 x1.2.2.2.2.2.2.2.2.2 v1 v2 v3 v6 v8 ((v6 + v7) / (2 : Int32)) _ _ _ h Z (lv_sub hl [2, 3, 4, 5, 6, 8, 1] rfl)
      · replace h := (if_pos hc).symm.trans h
        refine lv_iload C0.1.1 C0.1.2.1 dX4_sought_100 (lv_at hl 0 rfl) ?_
        refine lv_if_eq (tgt := 112) C0.1.1 C0.1.2.1 dX4_sought_102 (by decide) (fun hc => ?_) (fun hc => ?_)
        · replace h := (if_pos hc).symm.trans h
          exact wX4_sought_112 (N := N) C0 hret hr56 x1.2.1 x1.2.2.1 x1.2.2.2.1 x1.2.2.2.2.1 x1.2.2.2.2.2.1 x1.2.2.2.2.2.2.1 x1.2.2.2.2.2.2.2.1 x1.2.2.2.2.2.2.2.2.1 x1.2.2.2.2.2.2.2.2.2 v1 v2 v3 v6 v8 ((v6 + v7) / (2 : Int32)) _ _ _ h Z (lv_sub hl [2, 3, 4, 5, 6, 8, 1] rfl)
        · replace h := (if_neg hc).symm.trans h
          refine lv_iload C0.1.1 C0.1.2.1 dX4_sought_105 (lv_at hl 1 rfl) ?_
          refine lv_istore (lv' := [(6, .int ((v6 + v7) / (2 : Int32))), (11, .int x1.1), (10, .int ((v6 + v7) / (2 : Int32))), (0, .ref (a 0)), (1, .int v1), (2, .int v2), (3, .int v3), (7, .int v7), (8, .int v8)]) C0.1.1 C0.1.2.1 dX4_sought_107 hl (by decide) rfl (fun ls hl => ?_)
          refine lv_goto (tgt := 116) C0.1.1 C0.1.2.1 dX4_sought_109 (by decide) ?_
          exact wX4_sought_116 (N := N) C0 hret hr56 x1.2.1 x1.2.2.1 x1.2.2.2.1 x1.2.2.2.2.1 x1.2.2.2.2.2.1 x1.2.2.2.2.2.2.1 x1.2.2.2.2.2.2.2.1 x1.2.2.2.2.2.2.2.2.1 x1.2.2.2.2.2.2.2.2.2 v1 v2 v3 ((v6 + v7) / (2 : Int32)) v7 v8 _ _ _ h Z (lv_sub hl [3, 4, 5, 6, 0, 7, 8] rfl)
    · replace h := (if_pos hc).symm.trans h
      refine lv_iconst (v := -1) C0.1.1 C0.1.2.1 dX4_sought_91 (by decide) ?_
      exact hret (-1 : Int32) x1.2.1 x1.2.2.1 x1.2.2.2.1 x1.2.2.2.2.1 x1.2.2.2.2.2.1 x1.2.2.2.2.2.2.1 x1.2.2.2.2.2.2.2.1 x1.2.2.2.2.2.2.2.2.1 x1.2.2.2.2.2.2.2.2.2 _ _ _ _ h Z dX4_sought_92
theorem wX4_sought_56 {p : Program} {l : Launch} {e : Env} {s : State} {m : MethodId} {args : Array Value} {below : List Frame} {meth : Method} {c : Code} {Q : State → Prop} {D : va_G} {cyI cyJ cyO : ClassId} {A : Nat → Prop} {bs : Nat} {a : Nat → Nat} {Y : va_W} {th : Int32} {df : Int32} {la : Int32} {fo : Int32} {dr : Nat → Int32} {om : Nat → Int32} {os : Nat → Int32} {N : Nat} {res : Int32 × Int32 × Int32 × Int32 × (Nat → Int32) × (Nat → Int32) × (Nat → Int32) × (Nat → Int32) × (Nat → Int64) × (Nat → Int64)} (C0 : gC p m meth c cX4_sought 12 (some .int) s args wsX4_sought RX4) (hret : ∀ (r : Int32) (he_r : Int32) (wt_r : Int32) (br_r : Int32) (fm_r : Nat → Int32) (sz_r : Nat → Int32) (st_r : Nat → Int32) (wa_r : Nat → Int32) (va_r : Nat → Int64) (sk_r : Nat → Int64) (H : Heap) (locs : List Loc) (pc : Nat) (ls : Array Slot), some (r, he_r, wt_r, br_r, fm_r, sz_r, st_r, wa_r, va_r, sk_r) = some res → gZ D (gT cyI cyJ cyO) (XM a cyI cyJ th df la fo he_r wt_r br_r dr fm_r sz_r om os st_r wa_r va_r sk_r ++ Y) A bs s H locs → decode cX4_sought pc = .ok (.ireturn, 1) → W p l e rmX4_sought s m args below meth c H locs 0 0 Q (F0 m pc ls [.int r]))  : ∀ (n : Nat), ∀ (he : Int32) (wt : Int32) (br : Int32) (fm : Nat → Int32) (sz : Nat → Int32) (st : Nat → Int32) (wa : Nat → Int32) (va : Nat → Int64) (sk : Nat → Int64) (v1 : Int32) (v2 : Int32) (v3 : Int32) (v6 : Int32) (v7 : Int32) (v8 : Int32) (H : Heap) (locs : List Loc) (ls : Array Slot), mX4_sought_56 N n he wt br fm sz st wa va sk v1 v2 v3 v6 v7 v8 = some res → gZ D (gT cyI cyJ cyO) (XM a cyI cyJ th df la fo he wt br dr fm sz om os st wa va sk ++ Y) A bs s H locs → lv_has ls 12 [(0, .ref (a 0)), (1, .int v1), (2, .int v2), (3, .int v3), (6, .int v6), (7, .int v7), (8, .int v8)] → W p l e rmX4_sought s m args below meth c H locs 0 0 Q (F0 m 56 ls []) := by
  intro n
  induction n with
  | zero => intro _ _ _ _ _ _ _ _ _ _ _ _ _ _ _ _ _ _ h; cases h
  | succ n ih => exact wX4_sought_56_b (N := N) C0 hret ih
set_option maxRecDepth 20000 in
set_option maxHeartbeats 4000000 in
theorem wX4_sought_54 {p : Program} {l : Launch} {e : Env} {s : State} {m : MethodId} {args : Array Value} {below : List Frame} {meth : Method} {c : Code} {Q : State → Prop} {D : va_G} {cyI cyJ cyO : ClassId} {A : Nat → Prop} {bs : Nat} {a : Nat → Nat} {Y : va_W} {th : Int32} {df : Int32} {la : Int32} {fo : Int32} {dr : Nat → Int32} {om : Nat → Int32} {os : Nat → Int32} {N : Nat} {res : Int32 × Int32 × Int32 × Int32 × (Nat → Int32) × (Nat → Int32) × (Nat → Int32) × (Nat → Int32) × (Nat → Int64) × (Nat → Int64)} (C0 : gC p m meth c cX4_sought 12 (some .int) s args wsX4_sought RX4) (hret : ∀ (r : Int32) (he_r : Int32) (wt_r : Int32) (br_r : Int32) (fm_r : Nat → Int32) (sz_r : Nat → Int32) (st_r : Nat → Int32) (wa_r : Nat → Int32) (va_r : Nat → Int64) (sk_r : Nat → Int64) (H : Heap) (locs : List Loc) (pc : Nat) (ls : Array Slot), some (r, he_r, wt_r, br_r, fm_r, sz_r, st_r, wa_r, va_r, sk_r) = some res → gZ D (gT cyI cyJ cyO) (XM a cyI cyJ th df la fo he_r wt_r br_r dr fm_r sz_r om os st_r wa_r va_r sk_r ++ Y) A bs s H locs → decode cX4_sought pc = .ok (.ireturn, 1) → W p l e rmX4_sought s m args below meth c H locs 0 0 Q (F0 m pc ls [.int r]))  : ∀ (he : Int32) (wt : Int32) (br : Int32) (fm : Nat → Int32) (sz : Nat → Int32) (st : Nat → Int32) (wa : Nat → Int32) (va : Nat → Int64) (sk : Nat → Int64) (H : Heap) (locs : List Loc) (ls : Array Slot), mX4_sought_54 N he wt br fm sz st wa va sk = some res → gZ D (gT cyI cyJ cyO) (XM a cyI cyJ th df la fo he wt br dr fm sz om os st wa va sk ++ Y) A bs s H locs → lv_has ls 12 [] → W p l e rmX4_sought s m args below meth c H locs 0 0 Q (F0 m 54 ls []) := by
  intro he wt br fm sz st wa va sk H locs ls h Z hl
  unfold mX4_sought_54 at h
  refine lv_iconst (v := -1) C0.1.1 C0.1.2.1 dX4_sought_54 (by decide) ?_
  exact hret (-1 : Int32) he wt br fm sz st wa va sk _ _ _ _ h Z dX4_sought_55
set_option maxRecDepth 20000 in
set_option maxHeartbeats 4000000 in
theorem zX4_sought (l : Launch) (D : va_G) (cyI cyJ cyO : ClassId) (A : Nat → Prop) (bs : Nat) (hA : ∀ q, bs ≤ q → A q) (a : Nat → Nat) (Y : va_W) (th : Int32) (df : Int32) (la : Int32) (fo : Int32) (he : Int32) (wt : Int32) (br : Int32) (dr : Nat → Int32) (fm : Nat → Int32) (sz : Nat → Int32) (om : Nat → Int32) (os : Nat → Int32) (st : Nat → Int32) (wa : Nat → Int32) (va : Nat → Int64) (sk : Nat → Int64) (N : Nat) (p0 : Int32) (p1 : Int32) (p2 : Int32) (p3 : Int32) (p4 : Int32) (res : Int32 × Int32 × Int32 × Int32 × (Nat → Int32) × (Nat → Int32) × (Nat → Int32) × (Nat → Int32) × (Nat → Int64) × (Nat → Int64)) (h : mX4_sought N he wt br fm sz st wa va sk p0 p1 p2 p3 p4 = some res) : Met l yX4_sought wsX4_sought rmX4_sought (va_Pc [.ref (a 0), .int p0, .int p1, .int p2, .int p3, .int p4] (gW D (gT cyI cyJ cyO) (XM a cyI cyJ th df la fo he wt br dr fm sz om os st wa va sk ++ Y) A bs)) (va_Qi (fun (r : Int32) (u : Int32 × Int32 × Int32 × (Nat → Int32) × (Nat → Int32) × (Nat → Int32) × (Nat → Int32) × (Nat → Int64) × (Nat → Int64)) => res.1 = r ∧ res.2 = u) (fun (u : Int32 × Int32 × Int32 × (Nat → Int32) × (Nat → Int32) × (Nat → Int32) × (Nat → Int32) × (Nat → Int64) × (Nat → Int64)) U => gW D (gT cyI cyJ cyO) (XM a cyI cyJ th df la fo u.1 u.2.1 u.2.2.1 dr u.2.2.2.1 u.2.2.2.2.1 om os u.2.2.2.2.2.1 u.2.2.2.2.2.2.1 u.2.2.2.2.2.2.2.1 u.2.2.2.2.2.2.2.2 ++ Y) A bs U) A) 0 0 A := by
  refine Met.ofW (cc := cX4_sought) (maxL := 12) (ret := (some .int)) (by decide) rfl ?_
  intro p e s m args below meth c s₁ B hml hv
  obtain ⟨hav, hv⟩ := hv
  have C0 : gC p m meth c cX4_sought 12 (some .int) s args wsX4_sought RX4 := ⟨⟨B.exec, B.bytes, hml, findClass_of_methodNamed B.named, atoms_spec (ws := wsX4_sought) B.pre⟩, B.returns, B.notSynchronized⟩
  have Z := g_start hA hv
  have hret : ∀ (r : Int32) (he_r : Int32) (wt_r : Int32) (br_r : Int32) (fm_r : Nat → Int32) (sz_r : Nat → Int32) (st_r : Nat → Int32) (wa_r : Nat → Int32) (va_r : Nat → Int64) (sk_r : Nat → Int64) (H : Heap) (locs : List Loc) (pc : Nat) (ls : Array Slot), some (r, he_r, wt_r, br_r, fm_r, sz_r, st_r, wa_r, va_r, sk_r) = some res → gZ D (gT cyI cyJ cyO) (XM a cyI cyJ th df la fo he_r wt_r br_r dr fm_r sz_r om os st_r wa_r va_r sk_r ++ Y) A bs s H locs → decode cX4_sought pc = .ok (.ireturn, 1) → W p l e rmX4_sought s m args below meth c H locs 0 0 (MQ below (va_Qi (fun (r : Int32) (u : Int32 × Int32 × Int32 × (Nat → Int32) × (Nat → Int32) × (Nat → Int32) × (Nat → Int32) × (Nat → Int64) × (Nat → Int64)) => res.1 = r ∧ res.2 = u) (fun (u : Int32 × Int32 × Int32 × (Nat → Int32) × (Nat → Int32) × (Nat → Int32) × (Nat → Int32) × (Nat → Int64) × (Nat → Int64)) U => gW D (gT cyI cyJ cyO) (XM a cyI cyJ th df la fo u.1 u.2.1 u.2.2.1 dr u.2.2.2.1 u.2.2.2.2.1 om os u.2.2.2.2.2.1 u.2.2.2.2.2.2.1 u.2.2.2.2.2.2.2.1 u.2.2.2.2.2.2.2.2 ++ Y) A bs U) A) args s 0 0 A) (F0 m pc ls [.int r]) := by
    intro r he_r wt_r br_r fm_r sz_r st_r wa_r va_r sk_r H locs pc ls h Z hd
    replace h := Option.some.inj h
    exact W.iret C0.1.1 C0.1.2.1 C0.2.1 (fun t ht hW => ⟨⟨r, (he_r, wt_r, br_r, fm_r, sz_r, st_r, wa_r, va_r, sk_r), rfl, ⟨congrArg Prod.fst h.symm, congrArg Prod.snd h.symm⟩, g_end Z ht hW⟩, Z.2.2.2.1.F ht⟩) Z.2.2.2.1.2.2 hd C0.2.2
  have hl := lv_entry ([.ref (a 0), .int p0, .int p1, .int p2, .int p3, .int p4]) (n := 12) (Nat.le_of_ble_eq_true rfl)
  rw [hav, lg_entry_eq]
  generalize (lg_sl ([.ref (a 0), .int p0, .int p1, .int p2, .int p3, .int p4]) ++ List.replicate (12 - (lg_sl ([.ref (a 0), .int p0, .int p1, .int p2, .int p3, .int p4])).length) Slot.unset).toArray = ls at hl ⊢
  have hl : lv_has ls 12 [(0, .ref (a 0)), (1, .int p0), (2, .int p1), (3, .int p2), (4, .int p3), (5, .int p4)] := hl
  rw [← hav]
  unfold mX4_sought at h
  refine lv_iload C0.1.1 C0.1.2.1 dX4_sought_0 (lv_at hl 4 rfl) ?_
  refine lv_istore (lv' := [(6, .int p3), (0, .ref (a 0)), (1, .int p0), (2, .int p1), (3, .int p2), (4, .int p3), (5, .int p4)]) C0.1.1 C0.1.2.1 dX4_sought_2 hl (by decide) rfl (fun ls hl => ?_)
  refine lv_iload C0.1.1 C0.1.2.1 dX4_sought_4 (lv_at hl 6 rfl) ?_
  refine lv_istore (lv' := [(7, .int p4), (6, .int p3), (0, .ref (a 0)), (1, .int p0), (2, .int p1), (3, .int p2), (4, .int p3), (5, .int p4)]) C0.1.1 C0.1.2.1 dX4_sought_6 hl (by decide) rfl (fun ls hl => ?_)
  refine lv_aload_n C0.1.1 C0.1.2.1 dX4_sought_8 rfl (lv_at hl 2 rfl) ?_
  refine lv_iload_n C0.1.1 C0.1.2.1 dX4_sought_9 rfl (lv_at hl 3 rfl) ?_
  refine lv_iload_n C0.1.1 C0.1.2.1 dX4_sought_10 rfl (lv_at hl 4 rfl) ?_
  refine lv_iload_n C0.1.1 C0.1.2.1 dX4_sought_11 rfl (lv_at hl 5 rfl) ?_
  refine lv_iload C0.1.1 C0.1.2.1 dX4_sought_12 (lv_at hl 1 rfl) ?_
  obtain ⟨x3, hx4, h⟩ := g_bd h
  refine g_callVi (b := a 0) (As := [.int p0, .int p1, .int p2, .int p3]) (rest := []) (ws' := (fun (u : Int32 × Int32 × Int32 × (Nat → Int32) × (Nat → Int32) × (Nat → Int32) × (Nat → Int32) × (Nat → Int64) × (Nat → Int64)) => (XM a cyI cyJ th df la fo u.1 u.2.1 u.2.2.1 dr u.2.2.2.1 u.2.2.2.2.1 om os u.2.2.2.2.2.1 u.2.2.2.2.2.2.1 u.2.2.2.2.2.2.2.1 u.2.2.2.2.2.2.2.2 ++ Y))) C0.1 Z (zX4_side l D cyI cyJ cyO A bs Z.2.2.2.2.2 a Y th df la fo he wt br dr fm sz om os st wa va sk N p0 p1 p2 p3 x3 hx4) (cwV 4 C0.1.2.2.2.2 gX4_sought_X4_side rfl rfl rfl (by decide +kernel) ⟨Nat.le_of_ble_eq_true rfl, Nat.le_of_ble_eq_true rfl⟩) 0 (ci := 6) rfl rfl rfl rfl hl.1 rfl (Nat.le_of_ble_eq_true rfl) dX4_sought_14 ⟨Nat.zero_le _, Nat.zero_le _⟩ (fun r u H locs hw Z => ?_)
  obtain ⟨rfl, rfl⟩ := hw
  refine lv_istore (lv' := [(8, .int x3.1), (7, .int p4), (6, .int p3), (0, .ref (a 0)), (1, .int p0), (2, .int p1), (3, .int p2), (4, .int p3), (5, .int p4)]) C0.1.1 C0.1.2.1 dX4_sought_17 hl (by decide) rfl (fun ls hl => ?_)
  refine lv_aload_n C0.1.1 C0.1.2.1 dX4_sought_19 rfl (lv_at hl 3 rfl) ?_
  refine lv_iload_n C0.1.1 C0.1.2.1 dX4_sought_20 rfl (lv_at hl 4 rfl) ?_
  refine lv_iload_n C0.1.1 C0.1.2.1 dX4_sought_21 rfl (lv_at hl 5 rfl) ?_
  refine lv_iload_n C0.1.1 C0.1.2.1 dX4_sought_22 rfl (lv_at hl 6 rfl) ?_
  refine lv_iload C0.1.1 C0.1.2.1 dX4_sought_23 (lv_at hl 1 rfl) ?_
  obtain ⟨x5, hx6, h⟩ := g_bd h
  refine g_callVi (b := a 0) (As := [.int p0, .int p1, .int p2, .int p4]) (rest := []) (ws' := (fun (u : Int32 × Int32 × Int32 × (Nat → Int32) × (Nat → Int32) × (Nat → Int32) × (Nat → Int32) × (Nat → Int64) × (Nat → Int64)) => (XM a cyI cyJ th df la fo u.1 u.2.1 u.2.2.1 dr u.2.2.2.1 u.2.2.2.2.1 om os u.2.2.2.2.2.1 u.2.2.2.2.2.2.1 u.2.2.2.2.2.2.2.1 u.2.2.2.2.2.2.2.2 ++ Y))) C0.1 Z (zX4_side l D cyI cyJ cyO A bs Z.2.2.2.2.2 a Y th df la fo x3.2.1 x3.2.2.1 x3.2.2.2.1 dr x3.2.2.2.2.1 x3.2.2.2.2.2.1 om os x3.2.2.2.2.2.2.1 x3.2.2.2.2.2.2.2.1 x3.2.2.2.2.2.2.2.2.1 x3.2.2.2.2.2.2.2.2.2 N p0 p1 p2 p4 x5 hx6) (cwV 4 C0.1.2.2.2.2 gX4_sought_X4_side rfl rfl rfl (by decide +kernel) ⟨Nat.le_of_ble_eq_true rfl, Nat.le_of_ble_eq_true rfl⟩) 0 (ci := 6) rfl rfl rfl rfl hl.1 rfl (Nat.le_of_ble_eq_true rfl) dX4_sought_25 ⟨Nat.zero_le _, Nat.zero_le _⟩ (fun r u H locs hw Z => ?_)
  obtain ⟨rfl, rfl⟩ := hw
  refine lv_istore (lv' := [(9, .int x5.1), (8, .int x3.1), (7, .int p4), (6, .int p3), (0, .ref (a 0)), (1, .int p0), (2, .int p1), (3, .int p2), (4, .int p3), (5, .int p4)]) C0.1.1 C0.1.2.1 dX4_sought_28 hl (by decide) rfl (fun ls hl => ?_)
  refine lv_iload C0.1.1 C0.1.2.1 dX4_sought_30 (lv_at hl 1 rfl) ?_
  refine lv_iconst (v := 2) C0.1.1 C0.1.2.1 dX4_sought_32 (by decide) ?_
  refine lv_icmp_eq (tgt := 54) C0.1.1 C0.1.2.1 dX4_sought_33 (by decide) (fun hc => ?_) (fun hc => ?_)
  · replace h := (if_pos hc).symm.trans h
    exact wX4_sought_54 (N := N) C0 hret x5.2.1 x5.2.2.1 x5.2.2.2.1 x5.2.2.2.2.1 x5.2.2.2.2.2.1 x5.2.2.2.2.2.2.1 x5.2.2.2.2.2.2.2.1 x5.2.2.2.2.2.2.2.2.1 x5.2.2.2.2.2.2.2.2.2 _ _ _ h Z (lv_sub hl [] rfl)
  · replace h := (if_neg hc).symm.trans h
    refine lv_iload C0.1.1 C0.1.2.1 dX4_sought_36 (lv_at hl 0 rfl) ?_
    refine lv_iconst (v := 2) C0.1.1 C0.1.2.1 dX4_sought_38 (by decide) ?_
    refine lv_icmp_eq (tgt := 54) C0.1.1 C0.1.2.1 dX4_sought_39 (by decide) (fun hc => ?_) (fun hc => ?_)
    · replace h := (if_pos hc).symm.trans h
      exact wX4_sought_54 (N := N) C0 hret x5.2.1 x5.2.2.1 x5.2.2.2.1 x5.2.2.2.2.1 x5.2.2.2.2.2.1 x5.2.2.2.2.2.2.1 x5.2.2.2.2.2.2.2.1 x5.2.2.2.2.2.2.2.2.1 x5.2.2.2.2.2.2.2.2.2 _ _ _ h Z (lv_sub hl [] rfl)
    · replace h := (if_neg hc).symm.trans h
      refine lv_iload C0.1.1 C0.1.2.1 dX4_sought_42 (lv_at hl 1 rfl) ?_
      refine lv_iload C0.1.1 C0.1.2.1 dX4_sought_44 (lv_at hl 0 rfl) ?_
      refine lv_icmp_ne (tgt := 56) C0.1.1 C0.1.2.1 dX4_sought_46 (by decide) (fun hc => ?_) (fun hc => ?_)
      · replace h := (if_neg hc).symm.trans h
        exact wX4_sought_56 (N := N) C0 hret N x5.2.1 x5.2.2.1 x5.2.2.2.1 x5.2.2.2.2.1 x5.2.2.2.2.2.1 x5.2.2.2.2.2.2.1 x5.2.2.2.2.2.2.2.1 x5.2.2.2.2.2.2.2.2.1 x5.2.2.2.2.2.2.2.2.2 p0 p1 p2 p3 p4 x3.1 _ _ _ h Z (lv_sub hl [4, 5, 6, 7, 3, 2, 1] rfl)
      · replace h := (if_pos hc).symm.trans h
        refine lv_iload C0.1.1 C0.1.2.1 dX4_sought_49 (lv_at hl 1 rfl) ?_
        refine lv_if_eq (tgt := 56) C0.1.1 C0.1.2.1 dX4_sought_51 (by decide) (fun hc => ?_) (fun hc => ?_)
        · replace h := (if_pos hc).symm.trans h
          exact wX4_sought_56 (N := N) C0 hret N x5.2.1 x5.2.2.1 x5.2.2.2.1 x5.2.2.2.2.1 x5.2.2.2.2.2.1 x5.2.2.2.2.2.2.1 x5.2.2.2.2.2.2.2.1 x5.2.2.2.2.2.2.2.2.1 x5.2.2.2.2.2.2.2.2.2 p0 p1 p2 p3 p4 x3.1 _ _ _ h Z (lv_sub hl [4, 5, 6, 7, 3, 2, 1] rfl)
        · replace h := (if_neg hc).symm.trans h
          exact wX4_sought_54 (N := N) C0 hret x5.2.1 x5.2.2.1 x5.2.2.2.1 x5.2.2.2.2.1 x5.2.2.2.2.2.1 x5.2.2.2.2.2.2.1 x5.2.2.2.2.2.2.2.1 x5.2.2.2.2.2.2.2.2.1 x5.2.2.2.2.2.2.2.2.2 _ _ _ h Z (lv_sub hl [] rfl)
/-! X4_errorOfSeek -/
abbrev rmX4_errorOfSeek : Room := { frames := 5, cells := 0, slots := 0, locals := 113 }
theorem kX4_errorOfSeek_c156 : Cond.constant RX4 156 (-1000000000) ∈ wsX4_errorOfSeek := by decide +kernel
theorem kX4_errorOfSeek_c157 : Cond.constant RX4 157 (1000000000) ∈ wsX4_errorOfSeek := by decide +kernel
theorem kX4_errorOfSeek_c49 : Cond.constant RX4 49 (999999) ∈ wsX4_errorOfSeek := by decide +kernel
theorem kX4_errorOfSeek_f16 : Cond.fieldLink RX4 16 "GoalseekOfficeModel" "sizes" "[I" ∈ wsX4_errorOfSeek := by decide +kernel
theorem kX4_errorOfSeek_in : ∀ w ∈ wsX40, w ∈ wsX4_errorOfSeek := by decide +kernel
theorem kX4_errorOfSeek_f13 : Cond.fieldLink RX4 13 "GoalseekOfficeModel" "formulas" "[I" ∈ wsX4_errorOfSeek := by decide +kernel
theorem kX4_errorOfSeek_c65 : Cond.constant RX4 65 (1000000) ∈ wsX4_errorOfSeek := by decide +kernel
def mX4_errorOfSeek_111 (N : Nat) (fm : Nat → Int32) (sz : Nat → Int32) (s0 : Int32) : Option (Int32) := some (s0)
def mX4_errorOfSeek_110 (N : Nat) (fm : Nat → Int32) (sz : Nat → Int32) : Option (Int32) := mX4_errorOfSeek_111 N fm sz (3 : Int32)
def mX4_errorOfSeek_90 (N : Nat) (fm : Nat → Int32) (sz : Nat → Int32) (v1 : Int32) (v3 : Int32) (s0 : Int32) : Option (Int32) := (if s0 = 0 then mX4_errorOfSeek_110 N fm sz else ((mX4_doesDepend N fm sz v1 v3).bind fun x1 => (if x1 = 0 then mX4_errorOfSeek_110 N fm sz else mX4_errorOfSeek_111 N fm sz (0 : Int32))))
def mX4_errorOfSeek_89 (N : Nat) (fm : Nat → Int32) (sz : Nat → Int32) (v1 : Int32) (v3 : Int32) : Option (Int32) := mX4_errorOfSeek_90 N fm sz v1 v3 (0 : Int32)
def mX4_errorOfSeek_85 (N : Nat) (fm : Nat → Int32) (sz : Nat → Int32) (v1 : Int32) (v3 : Int32) : Option (Int32) := mX4_errorOfSeek_90 N fm sz v1 v3 (1 : Int32)
def mX4_errorOfSeek_50 (N : Nat) (fm : Nat → Int32) (sz : Nat → Int32) : Option (Int32) := some ((2 : Int32))
def mX4_errorOfSeek_14 (N : Nat) (fm : Nat → Int32) (sz : Nat → Int32) : Option (Int32) := some ((1 : Int32))
def mX4_errorOfSeek (N : Nat) (fm : Nat → Int32) (sz : Nat → Int32) (p0 : Int32) (p1 : Int32) (p2 : Int32) (p3 : Int32) (p4 : Int32) : Option (Int32) := ((mX4_isCell N p0).bind fun x3 => (if x3 = 0 then mX4_errorOfSeek_14 N fm sz else ((mX4_isCell N p2).bind fun x5 => (if x5 = 0 then mX4_errorOfSeek_14 N fm sz else ((mX4_in N p1 (-1000000000 : Int32) (1000000000 : Int32)).bind fun x7 => (if x7 = 0 then mX4_errorOfSeek_50 N fm sz else ((mX4_in N p3 (0 : Int32) (999999 : Int32)).bind fun x9 => (if x9 = 0 then mX4_errorOfSeek_50 N fm sz else ((mX4_in N p4 p3 (999999 : Int32)).bind fun x11 => (if x11 = 0 then mX4_errorOfSeek_50 N fm sz else (if p2 < 0 ∨ 30 ≤ p2.toNatClampNeg then none else (if (sz p2.toNatClampNeg) = 0 then mX4_errorOfSeek_85 N fm sz p0 p2 else (if p2 < 0 ∨ 30 ≤ p2.toNatClampNeg then none else (if (sz p2.toNatClampNeg) = (1 : Int32) then (if ((15 : Int32) * p2) < 0 ∨ 450 ≤ ((15 : Int32) * p2).toNatClampNeg then none else (if (1000000 : Int32) ≤ (fm ((15 : Int32) * p2).toNatClampNeg) then mX4_errorOfSeek_89 N fm sz p0 p2 else mX4_errorOfSeek_85 N fm sz p0 p2)) else mX4_errorOfSeek_89 N fm sz p0 p2))))))))))))))
set_option maxRecDepth 20000 in
set_option maxHeartbeats 4000000 in
theorem wX4_errorOfSeek_111 {p : Program} {l : Launch} {e : Env} {s : State} {m : MethodId} {args : Array Value} {below : List Frame} {meth : Method} {c : Code} {Q : State → Prop} {D : va_G} {cyI cyJ cyO : ClassId} {A : Nat → Prop} {bs : Nat} {a : Nat → Nat} {Y : va_W} {th : Int32} {df : Int32} {la : Int32} {fo : Int32} {he : Int32} {wt : Int32} {br : Int32} {dr : Nat → Int32} {fm : Nat → Int32} {sz : Nat → Int32} {om : Nat → Int32} {os : Nat → Int32} {st : Nat → Int32} {wa : Nat → Int32} {va : Nat → Int64} {sk : Nat → Int64} {N : Nat} {res : Int32} (C0 : gC p m meth c cX4_errorOfSeek 7 (some .int) s args wsX4_errorOfSeek RX4) (hret : ∀ (r : Int32) (H : Heap) (locs : List Loc) (pc : Nat) (ls : Array Slot), some r = some res → gZ D (gT cyI cyJ cyO) (XM a cyI cyJ th df la fo he wt br dr fm sz om os st wa va sk ++ Y) A bs s H locs → decode cX4_errorOfSeek pc = .ok (.ireturn, 1) → W p l e rmX4_errorOfSeek s m args below meth c H locs 0 0 Q (F0 m pc ls [.int r]))  : ∀ (s0 : Int32) (H : Heap) (locs : List Loc) (ls : Array Slot), mX4_errorOfSeek_111 N fm sz s0 = some res → gZ D (gT cyI cyJ cyO) (XM a cyI cyJ th df la fo he wt br dr fm sz om os st wa va sk ++ Y) A bs s H locs → lv_has ls 7 [] → W p l e rmX4_errorOfSeek s m args below meth c H locs 0 0 Q (F0 m 111 ls [.int s0]) := by
  intro s0 H locs ls h Z hl
  unfold mX4_errorOfSeek_111 at h
  exact hret s0 _ _ _ _ h Z dX4_errorOfSeek_111
set_option maxRecDepth 20000 in
set_option maxHeartbeats 4000000 in
theorem wX4_errorOfSeek_110 {p : Program} {l : Launch} {e : Env} {s : State} {m : MethodId} {args : Array Value} {below : List Frame} {meth : Method} {c : Code} {Q : State → Prop} {D : va_G} {cyI cyJ cyO : ClassId} {A : Nat → Prop} {bs : Nat} {a : Nat → Nat} {Y : va_W} {th : Int32} {df : Int32} {la : Int32} {fo : Int32} {he : Int32} {wt : Int32} {br : Int32} {dr : Nat → Int32} {fm : Nat → Int32} {sz : Nat → Int32} {om : Nat → Int32} {os : Nat → Int32} {st : Nat → Int32} {wa : Nat → Int32} {va : Nat → Int64} {sk : Nat → Int64} {N : Nat} {res : Int32} (C0 : gC p m meth c cX4_errorOfSeek 7 (some .int) s args wsX4_errorOfSeek RX4) (hret : ∀ (r : Int32) (H : Heap) (locs : List Loc) (pc : Nat) (ls : Array Slot), some r = some res → gZ D (gT cyI cyJ cyO) (XM a cyI cyJ th df la fo he wt br dr fm sz om os st wa va sk ++ Y) A bs s H locs → decode cX4_errorOfSeek pc = .ok (.ireturn, 1) → W p l e rmX4_errorOfSeek s m args below meth c H locs 0 0 Q (F0 m pc ls [.int r]))  : ∀ (H : Heap) (locs : List Loc) (ls : Array Slot), mX4_errorOfSeek_110 N fm sz = some res → gZ D (gT cyI cyJ cyO) (XM a cyI cyJ th df la fo he wt br dr fm sz om os st wa va sk ++ Y) A bs s H locs → lv_has ls 7 [] → W p l e rmX4_errorOfSeek s m args below meth c H locs 0 0 Q (F0 m 110 ls []) := by
  intro  H locs ls h Z hl
  unfold mX4_errorOfSeek_110 at h
  refine lv_iconst (v := 3) C0.1.1 C0.1.2.1 dX4_errorOfSeek_110 (by decide) ?_
  exact wX4_errorOfSeek_111 (N := N) C0 hret (3 : Int32) _ _ _ h Z (lv_sub hl [] rfl)
set_option maxRecDepth 20000 in
set_option maxHeartbeats 4000000 in
theorem wX4_errorOfSeek_90 {p : Program} {l : Launch} {e : Env} {s : State} {m : MethodId} {args : Array Value} {below : List Frame} {meth : Method} {c : Code} {Q : State → Prop} {D : va_G} {cyI cyJ cyO : ClassId} {A : Nat → Prop} {bs : Nat} {a : Nat → Nat} {Y : va_W} {th : Int32} {df : Int32} {la : Int32} {fo : Int32} {he : Int32} {wt : Int32} {br : Int32} {dr : Nat → Int32} {fm : Nat → Int32} {sz : Nat → Int32} {om : Nat → Int32} {os : Nat → Int32} {st : Nat → Int32} {wa : Nat → Int32} {va : Nat → Int64} {sk : Nat → Int64} {N : Nat} {res : Int32} (C0 : gC p m meth c cX4_errorOfSeek 7 (some .int) s args wsX4_errorOfSeek RX4) (hret : ∀ (r : Int32) (H : Heap) (locs : List Loc) (pc : Nat) (ls : Array Slot), some r = some res → gZ D (gT cyI cyJ cyO) (XM a cyI cyJ th df la fo he wt br dr fm sz om os st wa va sk ++ Y) A bs s H locs → decode cX4_errorOfSeek pc = .ok (.ireturn, 1) → W p l e rmX4_errorOfSeek s m args below meth c H locs 0 0 Q (F0 m pc ls [.int r]))  : ∀ (v1 : Int32) (v3 : Int32) (s0 : Int32) (H : Heap) (locs : List Loc) (ls : Array Slot), mX4_errorOfSeek_90 N fm sz v1 v3 s0 = some res → gZ D (gT cyI cyJ cyO) (XM a cyI cyJ th df la fo he wt br dr fm sz om os st wa va sk ++ Y) A bs s H locs → lv_has ls 7 [(0, .ref (a 0)), (1, .int v1), (3, .int v3)] → W p l e rmX4_errorOfSeek s m args below meth c H locs 0 0 Q (F0 m 90 ls [.int s0]) := by
  intro v1 v3 s0 H locs ls h Z hl
  unfold mX4_errorOfSeek_90 at h
  refine lv_istore (lv' := [(6, .int s0), (0, .ref (a 0)), (1, .int v1), (3, .int v3)]) C0.1.1 C0.1.2.1 dX4_errorOfSeek_90 hl (by decide) rfl (fun ls hl => ?_)
  refine lv_iload C0.1.1 C0.1.2.1 dX4_errorOfSeek_92 (lv_at hl 0 rfl) ?_
  refine lv_if_eq (tgt := 110) C0.1.1 C0.1.2.1 dX4_errorOfSeek_94 (by decide) (fun hc => ?_) (fun hc => ?_)
  · replace h := (if_pos hc).symm.trans h
    exact wX4_errorOfSeek_110 (N := N) C0 hret  _ _ _ h Z (lv_sub hl [] rfl)
  · replace h := (if_neg hc).symm.trans h
    refine lv_aload_n C0.1.1 C0.1.2.1 dX4_errorOfSeek_97 rfl (lv_at hl 1 rfl) ?_
    refine lv_iload_n C0.1.1 C0.1.2.1 dX4_errorOfSeek_98 rfl (lv_at hl 2 rfl) ?_
    refine lv_iload_n C0.1.1 C0.1.2.1 dX4_errorOfSeek_99 rfl (lv_at hl 3 rfl) ?_
    obtain ⟨x1, hx2, h⟩ := g_bd h
    refine g_callVi (b := a 0) (As := [.int v1, .int v3]) (rest := []) (ws' := (fun (u : Unit) => (XM a cyI cyJ th df la fo he wt br dr fm sz om os st wa va sk ++ Y))) C0.1 Z (zX4_doesDepend l D cyI cyJ cyO A bs Z.2.2.2.2.2 a Y th df la fo he wt br dr fm sz om os st wa va sk N v1 v3 x1 hx2) (cwV 2 C0.1.2.2.2.2 gX4_errorOfSeek_X4_doesDepend rfl rfl rfl (by decide +kernel) ⟨Nat.le_of_ble_eq_true rfl, Nat.le_of_ble_eq_true rfl⟩) 0 (ci := 6) rfl rfl rfl rfl hl.1 rfl (Nat.le_of_ble_eq_true rfl) dX4_errorOfSeek_100 ⟨Nat.zero_le _, Nat.zero_le _⟩ (fun r u H locs hw Z => ?_)
    subst hw
    refine lv_if_eq (tgt := 110) C0.1.1 C0.1.2.1 dX4_errorOfSeek_103 (by decide) (fun hc => ?_) (fun hc => ?_)
    · replace h := (if_pos hc).symm.trans h
      exact wX4_errorOfSeek_110 (N := N) C0 hret  _ _ _ h Z (lv_sub hl [] rfl)
    · replace h := (if_neg hc).symm.trans h
      refine lv_iconst (v := 0) C0.1.1 C0.1.2.1 dX4_errorOfSeek_106 (by decide) ?_
      refine lv_goto (tgt := 111) C0.1.1 C0.1.2.1 dX4_errorOfSeek_107 (by decide) ?_
      exact wX4_errorOfSeek_111 (N := N) C0 hret (0 : Int32) _ _ _ h Z (lv_sub hl [] rfl)
set_option maxRecDepth 20000 in
set_option maxHeartbeats 4000000 in
theorem wX4_errorOfSeek_89 {p : Program} {l : Launch} {e : Env} {s : State} {m : MethodId} {args : Array Value} {below : List Frame} {meth : Method} {c : Code} {Q : State → Prop} {D : va_G} {cyI cyJ cyO : ClassId} {A : Nat → Prop} {bs : Nat} {a : Nat → Nat} {Y : va_W} {th : Int32} {df : Int32} {la : Int32} {fo : Int32} {he : Int32} {wt : Int32} {br : Int32} {dr : Nat → Int32} {fm : Nat → Int32} {sz : Nat → Int32} {om : Nat → Int32} {os : Nat → Int32} {st : Nat → Int32} {wa : Nat → Int32} {va : Nat → Int64} {sk : Nat → Int64} {N : Nat} {res : Int32} (C0 : gC p m meth c cX4_errorOfSeek 7 (some .int) s args wsX4_errorOfSeek RX4) (hret : ∀ (r : Int32) (H : Heap) (locs : List Loc) (pc : Nat) (ls : Array Slot), some r = some res → gZ D (gT cyI cyJ cyO) (XM a cyI cyJ th df la fo he wt br dr fm sz om os st wa va sk ++ Y) A bs s H locs → decode cX4_errorOfSeek pc = .ok (.ireturn, 1) → W p l e rmX4_errorOfSeek s m args below meth c H locs 0 0 Q (F0 m pc ls [.int r]))  : ∀ (v1 : Int32) (v3 : Int32) (H : Heap) (locs : List Loc) (ls : Array Slot), mX4_errorOfSeek_89 N fm sz v1 v3 = some res → gZ D (gT cyI cyJ cyO) (XM a cyI cyJ th df la fo he wt br dr fm sz om os st wa va sk ++ Y) A bs s H locs → lv_has ls 7 [(0, .ref (a 0)), (1, .int v1), (3, .int v3)] → W p l e rmX4_errorOfSeek s m args below meth c H locs 0 0 Q (F0 m 89 ls []) := by
  intro v1 v3 H locs ls h Z hl
  unfold mX4_errorOfSeek_89 at h
  refine lv_iconst (v := 0) C0.1.1 C0.1.2.1 dX4_errorOfSeek_89 (by decide) ?_
  exact wX4_errorOfSeek_90 (N := N) C0 hret v1 v3 (0 : Int32) _ _ _ h Z (lv_sub hl [0, 1, 2] rfl)
set_option maxRecDepth 20000 in
set_option maxHeartbeats 4000000 in
theorem wX4_errorOfSeek_85 {p : Program} {l : Launch} {e : Env} {s : State} {m : MethodId} {args : Array Value} {below : List Frame} {meth : Method} {c : Code} {Q : State → Prop} {D : va_G} {cyI cyJ cyO : ClassId} {A : Nat → Prop} {bs : Nat} {a : Nat → Nat} {Y : va_W} {th : Int32} {df : Int32} {la : Int32} {fo : Int32} {he : Int32} {wt : Int32} {br : Int32} {dr : Nat → Int32} {fm : Nat → Int32} {sz : Nat → Int32} {om : Nat → Int32} {os : Nat → Int32} {st : Nat → Int32} {wa : Nat → Int32} {va : Nat → Int64} {sk : Nat → Int64} {N : Nat} {res : Int32} (C0 : gC p m meth c cX4_errorOfSeek 7 (some .int) s args wsX4_errorOfSeek RX4) (hret : ∀ (r : Int32) (H : Heap) (locs : List Loc) (pc : Nat) (ls : Array Slot), some r = some res → gZ D (gT cyI cyJ cyO) (XM a cyI cyJ th df la fo he wt br dr fm sz om os st wa va sk ++ Y) A bs s H locs → decode cX4_errorOfSeek pc = .ok (.ireturn, 1) → W p l e rmX4_errorOfSeek s m args below meth c H locs 0 0 Q (F0 m pc ls [.int r]))  : ∀ (v1 : Int32) (v3 : Int32) (H : Heap) (locs : List Loc) (ls : Array Slot), mX4_errorOfSeek_85 N fm sz v1 v3 = some res → gZ D (gT cyI cyJ cyO) (XM a cyI cyJ th df la fo he wt br dr fm sz om os st wa va sk ++ Y) A bs s H locs → lv_has ls 7 [(0, .ref (a 0)), (1, .int v1), (3, .int v3)] → W p l e rmX4_errorOfSeek s m args below meth c H locs 0 0 Q (F0 m 85 ls []) := by
  intro v1 v3 H locs ls h Z hl
  unfold mX4_errorOfSeek_85 at h
  refine lv_iconst (v := 1) C0.1.1 C0.1.2.1 dX4_errorOfSeek_85 (by decide) ?_
  refine lv_goto (tgt := 90) C0.1.1 C0.1.2.1 dX4_errorOfSeek_86 (by decide) ?_
  exact wX4_errorOfSeek_90 (N := N) C0 hret v1 v3 (1 : Int32) _ _ _ h Z (lv_sub hl [0, 1, 2] rfl)
set_option maxRecDepth 20000 in
set_option maxHeartbeats 4000000 in
theorem wX4_errorOfSeek_50 {p : Program} {l : Launch} {e : Env} {s : State} {m : MethodId} {args : Array Value} {below : List Frame} {meth : Method} {c : Code} {Q : State → Prop} {D : va_G} {cyI cyJ cyO : ClassId} {A : Nat → Prop} {bs : Nat} {a : Nat → Nat} {Y : va_W} {th : Int32} {df : Int32} {la : Int32} {fo : Int32} {he : Int32} {wt : Int32} {br : Int32} {dr : Nat → Int32} {fm : Nat → Int32} {sz : Nat → Int32} {om : Nat → Int32} {os : Nat → Int32} {st : Nat → Int32} {wa : Nat → Int32} {va : Nat → Int64} {sk : Nat → Int64} {N : Nat} {res : Int32} (C0 : gC p m meth c cX4_errorOfSeek 7 (some .int) s args wsX4_errorOfSeek RX4) (hret : ∀ (r : Int32) (H : Heap) (locs : List Loc) (pc : Nat) (ls : Array Slot), some r = some res → gZ D (gT cyI cyJ cyO) (XM a cyI cyJ th df la fo he wt br dr fm sz om os st wa va sk ++ Y) A bs s H locs → decode cX4_errorOfSeek pc = .ok (.ireturn, 1) → W p l e rmX4_errorOfSeek s m args below meth c H locs 0 0 Q (F0 m pc ls [.int r]))  : ∀ (H : Heap) (locs : List Loc) (ls : Array Slot), mX4_errorOfSeek_50 N fm sz = some res → gZ D (gT cyI cyJ cyO) (XM a cyI cyJ th df la fo he wt br dr fm sz om os st wa va sk ++ Y) A bs s H locs → lv_has ls 7 [] → W p l e rmX4_errorOfSeek s m args below meth c H locs 0 0 Q (F0 m 50 ls []) := by
  intro  H locs ls h Z hl
  unfold mX4_errorOfSeek_50 at h
  refine lv_iconst (v := 2) C0.1.1 C0.1.2.1 dX4_errorOfSeek_50 (by decide) ?_
  exact hret (2 : Int32) _ _ _ _ h Z dX4_errorOfSeek_51
set_option maxRecDepth 20000 in
set_option maxHeartbeats 4000000 in
theorem wX4_errorOfSeek_14 {p : Program} {l : Launch} {e : Env} {s : State} {m : MethodId} {args : Array Value} {below : List Frame} {meth : Method} {c : Code} {Q : State → Prop} {D : va_G} {cyI cyJ cyO : ClassId} {A : Nat → Prop} {bs : Nat} {a : Nat → Nat} {Y : va_W} {th : Int32} {df : Int32} {la : Int32} {fo : Int32} {he : Int32} {wt : Int32} {br : Int32} {dr : Nat → Int32} {fm : Nat → Int32} {sz : Nat → Int32} {om : Nat → Int32} {os : Nat → Int32} {st : Nat → Int32} {wa : Nat → Int32} {va : Nat → Int64} {sk : Nat → Int64} {N : Nat} {res : Int32} (C0 : gC p m meth c cX4_errorOfSeek 7 (some .int) s args wsX4_errorOfSeek RX4) (hret : ∀ (r : Int32) (H : Heap) (locs : List Loc) (pc : Nat) (ls : Array Slot), some r = some res → gZ D (gT cyI cyJ cyO) (XM a cyI cyJ th df la fo he wt br dr fm sz om os st wa va sk ++ Y) A bs s H locs → decode cX4_errorOfSeek pc = .ok (.ireturn, 1) → W p l e rmX4_errorOfSeek s m args below meth c H locs 0 0 Q (F0 m pc ls [.int r]))  : ∀ (H : Heap) (locs : List Loc) (ls : Array Slot), mX4_errorOfSeek_14 N fm sz = some res → gZ D (gT cyI cyJ cyO) (XM a cyI cyJ th df la fo he wt br dr fm sz om os st wa va sk ++ Y) A bs s H locs → lv_has ls 7 [] → W p l e rmX4_errorOfSeek s m args below meth c H locs 0 0 Q (F0 m 14 ls []) := by
  intro  H locs ls h Z hl
  unfold mX4_errorOfSeek_14 at h
  refine lv_iconst (v := 1) C0.1.1 C0.1.2.1 dX4_errorOfSeek_14 (by decide) ?_
  exact hret (1 : Int32) _ _ _ _ h Z dX4_errorOfSeek_15
set_option maxRecDepth 20000 in
set_option maxHeartbeats 4000000 in
theorem zX4_errorOfSeek (l : Launch) (D : va_G) (cyI cyJ cyO : ClassId) (A : Nat → Prop) (bs : Nat) (hA : ∀ q, bs ≤ q → A q) (a : Nat → Nat) (Y : va_W) (th : Int32) (df : Int32) (la : Int32) (fo : Int32) (he : Int32) (wt : Int32) (br : Int32) (dr : Nat → Int32) (fm : Nat → Int32) (sz : Nat → Int32) (om : Nat → Int32) (os : Nat → Int32) (st : Nat → Int32) (wa : Nat → Int32) (va : Nat → Int64) (sk : Nat → Int64) (N : Nat) (p0 : Int32) (p1 : Int32) (p2 : Int32) (p3 : Int32) (p4 : Int32) (res : Int32) (h : mX4_errorOfSeek N fm sz p0 p1 p2 p3 p4 = some res) : Met l yX4_errorOfSeek wsX4_errorOfSeek rmX4_errorOfSeek (va_Pc [.ref (a 0), .int p0, .int p1, .int p2, .int p3, .int p4] (gW D (gT cyI cyJ cyO) (XM a cyI cyJ th df la fo he wt br dr fm sz om os st wa va sk ++ Y) A bs)) (va_Qi (fun (r : Int32) (_ : Unit) => res = r) (fun (u : Unit) U => gW D (gT cyI cyJ cyO) (XM a cyI cyJ th df la fo he wt br dr fm sz om os st wa va sk ++ Y) A bs U) A) 0 0 A := by
  refine Met.ofW (cc := cX4_errorOfSeek) (maxL := 7) (ret := (some .int)) (by decide) rfl ?_
  intro p e s m args below meth c s₁ B hml hv
  obtain ⟨hav, hv⟩ := hv
  have C0 : gC p m meth c cX4_errorOfSeek 7 (some .int) s args wsX4_errorOfSeek RX4 := ⟨⟨B.exec, B.bytes, hml, findClass_of_methodNamed B.named, atoms_spec (ws := wsX4_errorOfSeek) B.pre⟩, B.returns, B.notSynchronized⟩
  have Z := g_start hA hv
  have hret : ∀ (r : Int32) (H : Heap) (locs : List Loc) (pc : Nat) (ls : Array Slot), some r = some res → gZ D (gT cyI cyJ cyO) (XM a cyI cyJ th df la fo he wt br dr fm sz om os st wa va sk ++ Y) A bs s H locs → decode cX4_errorOfSeek pc = .ok (.ireturn, 1) → W p l e rmX4_errorOfSeek s m args below meth c H locs 0 0 (MQ below (va_Qi (fun (r : Int32) (_ : Unit) => res = r) (fun (u : Unit) U => gW D (gT cyI cyJ cyO) (XM a cyI cyJ th df la fo he wt br dr fm sz om os st wa va sk ++ Y) A bs U) A) args s 0 0 A) (F0 m pc ls [.int r]) := by
    intro r H locs pc ls h Z hd
    replace h := Option.some.inj h
    exact W.iret C0.1.1 C0.1.2.1 C0.2.1 (fun t ht hW => ⟨⟨r, (()), rfl, h.symm, g_end Z ht hW⟩, Z.2.2.2.1.F ht⟩) Z.2.2.2.1.2.2 hd C0.2.2
  have hl := lv_entry ([.ref (a 0), .int p0, .int p1, .int p2, .int p3, .int p4]) (n := 7) (Nat.le_of_ble_eq_true rfl)
  rw [hav, lg_entry_eq]
  generalize (lg_sl ([.ref (a 0), .int p0, .int p1, .int p2, .int p3, .int p4]) ++ List.replicate (7 - (lg_sl ([.ref (a 0), .int p0, .int p1, .int p2, .int p3, .int p4])).length) Slot.unset).toArray = ls at hl ⊢
  have hl : lv_has ls 7 [(0, .ref (a 0)), (1, .int p0), (2, .int p1), (3, .int p2), (4, .int p3), (5, .int p4)] := hl
  rw [← hav]
  unfold mX4_errorOfSeek at h
  refine lv_iload_n C0.1.1 C0.1.2.1 dX4_errorOfSeek_0 rfl (lv_at hl 1 rfl) ?_
  obtain ⟨x3, hx4, h⟩ := g_bd h
  refine g_callSi (As := [.int p0]) (rest := []) (ws' := (fun (u : Unit) => (XM a cyI cyJ th df la fo he wt br dr fm sz om os st wa va sk ++ Y))) C0.1 Z (zX4_isCell l D cyI cyJ cyO A bs Z.2.2.2.2.2 (XM a cyI cyJ th df la fo he wt br dr fm sz om os st wa va sk ++ Y) N p0 x3 hx4) (va_cwS 1 C0.1.2.2.2.2 gX4_errorOfSeek_X4_isCell rfl rfl rfl (by decide +kernel) ⟨Nat.le_of_ble_eq_true rfl, Nat.le_of_ble_eq_true rfl⟩) rfl hl.1 rfl (Nat.le_of_ble_eq_true rfl) dX4_errorOfSeek_1 ⟨Nat.zero_le _, Nat.zero_le _⟩ (fun r u H locs hw Z => ?_)
  subst hw
  refine lv_if_eq (tgt := 14) C0.1.1 C0.1.2.1 dX4_errorOfSeek_4 (by decide) (fun hc => ?_) (fun hc => ?_)
  · replace h := (if_pos hc).symm.trans h
    exact wX4_errorOfSeek_14 (N := N) C0 hret  _ _ _ h Z (lv_sub hl [] rfl)
  · replace h := (if_neg hc).symm.trans h
    refine lv_iload_n C0.1.1 C0.1.2.1 dX4_errorOfSeek_7 rfl (lv_at hl 3 rfl) ?_
    obtain ⟨x5, hx6, h⟩ := g_bd h
    refine g_callSi (As := [.int p2]) (rest := []) (ws' := (fun (u : Unit) => (XM a cyI cyJ th df la fo he wt br dr fm sz om os st wa va sk ++ Y))) C0.1 Z (zX4_isCell l D cyI cyJ cyO A bs Z.2.2.2.2.2 (XM a cyI cyJ th df la fo he wt br dr fm sz om os st wa va sk ++ Y) N p2 x5 hx6) (va_cwS 1 C0.1.2.2.2.2 gX4_errorOfSeek_X4_isCell rfl rfl rfl (by decide +kernel) ⟨Nat.le_of_ble_eq_true rfl, Nat.le_of_ble_eq_true rfl⟩) rfl hl.1 rfl (Nat.le_of_ble_eq_true rfl) dX4_errorOfSeek_8 ⟨Nat.zero_le _, Nat.zero_le _⟩ (fun r u H locs hw Z => ?_)
    subst hw
    refine lv_if_ne (tgt := 16) C0.1.1 C0.1.2.1 dX4_errorOfSeek_11 (by decide) (fun hc => ?_) (fun hc => ?_)
    · replace h := (if_neg hc).symm.trans h
      refine lv_iload_n C0.1.1 C0.1.2.1 dX4_errorOfSeek_16 rfl (lv_at hl 2 rfl) ?_
      refine lv_ldc C0.1.1 C0.1.2.1 C0.1.2.2.2.1 (C0.1.2.2.2.2 _ kX4_errorOfSeek_c156) dX4_errorOfSeek_17 ?_
      refine lv_ldc C0.1.1 C0.1.2.1 C0.1.2.2.2.1 (C0.1.2.2.2.2 _ kX4_errorOfSeek_c157) dX4_errorOfSeek_19 ?_
      obtain ⟨x7, hx8, h⟩ := g_bd h
      refine g_callSi (As := [.int p1, .int (-1000000000 : Int32), .int (1000000000 : Int32)]) (rest := []) (ws' := (fun (u : Unit) => (XM a cyI cyJ th df la fo he wt br dr fm sz om os st wa va sk ++ Y))) C0.1 Z (zX4_in l D cyI cyJ cyO A bs Z.2.2.2.2.2 (XM a cyI cyJ th df la fo he wt br dr fm sz om os st wa va sk ++ Y) N p1 (-1000000000 : Int32) (1000000000 : Int32) x7 hx8) (va_cwS 3 C0.1.2.2.2.2 gX4_errorOfSeek_X4_in rfl rfl rfl (by decide +kernel) ⟨Nat.le_of_ble_eq_true rfl, Nat.le_of_ble_eq_true rfl⟩) rfl hl.1 rfl (Nat.le_of_ble_eq_true rfl) dX4_errorOfSeek_21 ⟨Nat.zero_le _, Nat.zero_le _⟩ (fun r u H locs hw Z => ?_)
      subst hw
      refine lv_if_eq (tgt := 50) C0.1.1 C0.1.2.1 dX4_errorOfSeek_24 (by decide) (fun hc => ?_) (fun hc => ?_)
      · replace h := (if_pos hc).symm.trans h
        exact wX4_errorOfSeek_50 (N := N) C0 hret  _ _ _ h Z (lv_sub hl [] rfl)
      · replace h := (if_neg hc).symm.trans h
        refine lv_iload C0.1.1 C0.1.2.1 dX4_errorOfSeek_27 (lv_at hl 4 rfl) ?_
        refine lv_iconst (v := 0) C0.1.1 C0.1.2.1 dX4_errorOfSeek_29 (by decide) ?_
        refine lv_ldc C0.1.1 C0.1.2.1 C0.1.2.2.2.1 (C0.1.2.2.2.2 _ kX4_errorOfSeek_c49) dX4_errorOfSeek_30 ?_
        obtain ⟨x9, hx10, h⟩ := g_bd h
        refine g_callSi (As := [.int p3, .int (0 : Int32), .int (999999 : Int32)]) (rest := []) (ws' := (fun (u : Unit) => (XM a cyI cyJ th df la fo he wt br dr fm sz om os st wa va sk ++ Y))) C0.1 Z (zX4_in l D cyI cyJ cyO A bs Z.2.2.2.2.2 (XM a cyI cyJ th df la fo he wt br dr fm sz om os st wa va sk ++ Y) N p3 (0 : Int32) (999999 : Int32) x9 hx10) (va_cwS 3 C0.1.2.2.2.2 gX4_errorOfSeek_X4_in rfl rfl rfl (by decide +kernel) ⟨Nat.le_of_ble_eq_true rfl, Nat.le_of_ble_eq_true rfl⟩) rfl hl.1 rfl (Nat.le_of_ble_eq_true rfl) dX4_errorOfSeek_32 ⟨Nat.zero_le _, Nat.zero_le _⟩ (fun r u H locs hw Z => ?_)
        subst hw
        refine lv_if_eq (tgt := 50) C0.1.1 C0.1.2.1 dX4_errorOfSeek_35 (by decide) (fun hc => ?_) (fun hc => ?_)
        · replace h := (if_pos hc).symm.trans h
          exact wX4_errorOfSeek_50 (N := N) C0 hret  _ _ _ h Z (lv_sub hl [] rfl)
        · replace h := (if_neg hc).symm.trans h
          refine lv_iload C0.1.1 C0.1.2.1 dX4_errorOfSeek_38 (lv_at hl 5 rfl) ?_
          refine lv_iload C0.1.1 C0.1.2.1 dX4_errorOfSeek_40 (lv_at hl 4 rfl) ?_
          refine lv_ldc C0.1.1 C0.1.2.1 C0.1.2.2.2.1 (C0.1.2.2.2.2 _ kX4_errorOfSeek_c49) dX4_errorOfSeek_42 ?_
          obtain ⟨x11, hx12, h⟩ := g_bd h
          refine g_callSi (As := [.int p4, .int p3, .int (999999 : Int32)]) (rest := []) (ws' := (fun (u : Unit) => (XM a cyI cyJ th df la fo he wt br dr fm sz om os st wa va sk ++ Y))) C0.1 Z (zX4_in l D cyI cyJ cyO A bs Z.2.2.2.2.2 (XM a cyI cyJ th df la fo he wt br dr fm sz om os st wa va sk ++ Y) N p4 p3 (999999 : Int32) x11 hx12) (va_cwS 3 C0.1.2.2.2.2 gX4_errorOfSeek_X4_in rfl rfl rfl (by decide +kernel) ⟨Nat.le_of_ble_eq_true rfl, Nat.le_of_ble_eq_true rfl⟩) rfl hl.1 rfl (Nat.le_of_ble_eq_true rfl) dX4_errorOfSeek_44 ⟨Nat.zero_le _, Nat.zero_le _⟩ (fun r u H locs hw Z => ?_)
          subst hw
          refine lv_if_ne (tgt := 52) C0.1.1 C0.1.2.1 dX4_errorOfSeek_47 (by decide) (fun hc => ?_) (fun hc => ?_)
          · replace h := (if_neg hc).symm.trans h
            refine lv_aload_n C0.1.1 C0.1.2.1 dX4_errorOfSeek_52 rfl (lv_at hl 0 rfl) ?_
            refine g_get (ci := 6) (v := .ref (a 3)) (T := TX4) (N := 16) C0.1 Z 0 rfl rfl 4 (by decide) kX4_errorOfSeek_in kX4_errorOfSeek_f16 rfl rfl dX4_errorOfSeek_53 ?_
            refine lv_iload_n C0.1.1 C0.1.2.1 dX4_errorOfSeek_56 rfl (lv_at hl 3 rfl) ?_
            obtain ⟨hi13, h⟩ := g_ni h
            refine g_iald (f := sz) (n := 30) C0.1 Z 3 0 rfl rfl hi13 dX4_errorOfSeek_57 ?_
            refine lv_if_eq (tgt := 85) C0.1.1 C0.1.2.1 dX4_errorOfSeek_58 (by decide) (fun hc => ?_) (fun hc => ?_)
            · replace h := (if_pos hc).symm.trans h
              exact wX4_errorOfSeek_85 (N := N) C0 hret p0 p2 _ _ _ h Z (lv_sub hl [0, 1, 3] rfl)
            · replace h := (if_neg hc).symm.trans h
              refine lv_aload_n C0.1.1 C0.1.2.1 dX4_errorOfSeek_61 rfl (lv_at hl 0 rfl) ?_
              refine g_get (ci := 6) (v := .ref (a 3)) (T := TX4) (N := 16) C0.1 Z 0 rfl rfl 4 (by decide) kX4_errorOfSeek_in kX4_errorOfSeek_f16 rfl rfl dX4_errorOfSeek_62 ?_
              refine lv_iload_n C0.1.1 C0.1.2.1 dX4_errorOfSeek_65 rfl (lv_at hl 3 rfl) ?_
              obtain ⟨hi14, h⟩ := g_ni h
              refine g_iald (f := sz) (n := 30) C0.1 Z 3 0 rfl rfl hi14 dX4_errorOfSeek_66 ?_
              refine lv_iconst (v := 1) C0.1.1 C0.1.2.1 dX4_errorOfSeek_67 (by decide) ?_
              refine lv_icmp_ne (tgt := 89) C0.1.1 C0.1.2.1 dX4_errorOfSeek_68 (by decide) (fun hc => ?_) (fun hc => ?_)
              · replace h := (if_neg hc).symm.trans h
                exact wX4_errorOfSeek_89 (N := N) C0 hret p0 p2 _ _ _ h Z (lv_sub hl [0, 1, 3] rfl)
              · replace h := (if_pos hc).symm.trans h
                refine lv_aload_n C0.1.1 C0.1.2.1 dX4_errorOfSeek_71 rfl (lv_at hl 0 rfl) ?_
                refine g_get (ci := 6) (v := .ref (a 2)) (T := TX4) (N := 16) C0.1 Z 0 rfl rfl 3 (by decide) kX4_errorOfSeek_in kX4_errorOfSeek_f13 rfl rfl dX4_errorOfSeek_72 ?_
                refine lv_bipush (v := 15) C0.1.1 C0.1.2.1 dX4_errorOfSeek_75 (by decide +kernel) ?_
                refine lv_iload_n C0.1.1 C0.1.2.1 dX4_errorOfSeek_77 rfl (lv_at hl 3 rfl) ?_
                refine lv_imul C0.1.1 C0.1.2.1 dX4_errorOfSeek_78 ?_
                obtain ⟨hi15, h⟩ := g_ni h
                refine g_iald (f := fm) (n := 450) C0.1 Z 2 0 rfl rfl hi15 dX4_errorOfSeek_79 ?_
                refine lv_ldc C0.1.1 C0.1.2.1 C0.1.2.2.2.1 (C0.1.2.2.2.2 _ kX4_errorOfSeek_c65) dX4_errorOfSeek_80 ?_
                refine lv_icmp_ge (tgt := 89) C0.1.1 C0.1.2.1 dX4_errorOfSeek_82 (by decide) (fun hc => ?_) (fun hc => ?_)
                · replace h := (if_pos hc).symm.trans h
                  exact wX4_errorOfSeek_89 (N := N) C0 hret p0 p2 _ _ _ h Z (lv_sub hl [0, 1, 3] rfl)
                · replace h := (if_neg hc).symm.trans h
                  exact wX4_errorOfSeek_85 (N := N) C0 hret p0 p2 _ _ _ h Z (lv_sub hl [0, 1, 3] rfl)
          · replace h := (if_pos hc).symm.trans h
            exact wX4_errorOfSeek_50 (N := N) C0 hret  _ _ _ h Z (lv_sub hl [] rfl)
    · replace h := (if_pos hc).symm.trans h
      exact wX4_errorOfSeek_14 (N := N) C0 hret  _ _ _ h Z (lv_sub hl [] rfl)
/-! X4_seek -/
abbrev rmX4_seek : Room := { frames := 8, cells := 0, slots := 0, locals := 201 }
def mX4_seek_57 (N : Nat) (th : Int32) (fo : Int32) (he : Int32) (wt : Int32) (br : Int32) (fm : Nat → Int32) (sz : Nat → Int32) (st : Nat → Int32) (wa : Nat → Int32) (va : Nat → Int64) (sk : Nat → Int64) (v3 : Int32) (v7 : Int32) (s1 : Int32) : Option (Int32 × Int32 × Int32 × Int32 × Int32 × Int32 × (Nat → Int32) × (Nat → Int32) × (Nat → Int32) × (Nat → Int32) × (Nat → Int64) × (Nat → Int64)) := ((mX4_holds N th s1).bind fun x1 => (if x1.1 = 0 then some ((0 : Int32), x1.2, fo, he, wt, br, fm, sz, st, wa, va, sk) else ((mX4_puts N fo fm sz v3 v7).bind fun x3 => some (v7, x1.2, x3.2.1, he, wt, br, x3.2.2.1, x3.2.2.2, st, wa, va, sk))))
def mX4_seek_33 (N : Nat) (th : Int32) (fo : Int32) (he : Int32) (wt : Int32) (br : Int32) (fm : Nat → Int32) (sz : Nat → Int32) (st : Nat → Int32) (wa : Nat → Int32) (va : Nat → Int64) (sk : Nat → Int64) (v3 : Int32) (v6 : Int32) (s0 : Int32) : Option (Int32 × Int32 × Int32 × Int32 × Int32 × Int32 × (Nat → Int32) × (Nat → Int32) × (Nat → Int32) × (Nat → Int32) × (Nat → Int64) × (Nat → Int64)) := (if v6 ≤ 0 then (if s0 = (-1 : Int32) then mX4_seek_57 N th fo he wt br fm sz st wa va sk v3 s0 (4 : Int32) else mX4_seek_57 N th fo he wt br fm sz st wa va sk v3 s0 (0 : Int32)) else mX4_seek_57 N th fo he wt br fm sz st wa va sk v3 s0 v6)
def mX4_seek (N : Nat) (th : Int32) (fo : Int32) (he : Int32) (wt : Int32) (br : Int32) (fm : Nat → Int32) (sz : Nat → Int32) (st : Nat → Int32) (wa : Nat → Int32) (va : Nat → Int64) (sk : Nat → Int64) (p0 : Int32) (p1 : Int32) (p2 : Int32) (p3 : Int32) (p4 : Int32) : Option (Int32 × Int32 × Int32 × Int32 × Int32 × Int32 × (Nat → Int32) × (Nat → Int32) × (Nat → Int32) × (Nat → Int32) × (Nat → Int64) × (Nat → Int64)) := ((mX4_errorOfSeek N fm sz p0 p1 p2 p3 p4).bind fun x5 => (if x5 = 0 then ((mX4_sought N he wt br fm sz st wa va sk p0 p1 p2 p3 p4).bind fun x7 => mX4_seek_33 N th fo x7.2.1 x7.2.2.1 x7.2.2.2.1 x7.2.2.2.2.1 x7.2.2.2.2.2.1 x7.2.2.2.2.2.2.1 x7.2.2.2.2.2.2.2.1 x7.2.2.2.2.2.2.2.2.1 x7.2.2.2.2.2.2.2.2.2 p2 x5 x7.1) else mX4_seek_33 N th fo he wt br fm sz st wa va sk p2 x5 (-1 : Int32)))
set_option maxRecDepth 20000 in
set_option maxHeartbeats 4000000 in
theorem wX4_seek_57 {p : Program} {l : Launch} {e : Env} {s : State} {m : MethodId} {args : Array Value} {below : List Frame} {meth : Method} {c : Code} {Q : State → Prop} {D : va_G} {cyI cyJ cyO : ClassId} {A : Nat → Prop} {bs : Nat} {a : Nat → Nat} {Y : va_W} {df : Int32} {la : Int32} {dr : Nat → Int32} {om : Nat → Int32} {os : Nat → Int32} {N : Nat} {res : Int32 × Int32 × Int32 × Int32 × Int32 × Int32 × (Nat → Int32) × (Nat → Int32) × (Nat → Int32) × (Nat → Int32) × (Nat → Int64) × (Nat → Int64)} (C0 : gC p m meth c cX4_seek 8 (some .int) s args wsX4_seek RX4) (hret : ∀ (r : Int32) (th_r : Int32) (fo_r : Int32) (he_r : Int32) (wt_r : Int32) (br_r : Int32) (fm_r : Nat → Int32) (sz_r : Nat → Int32) (st_r : Nat → Int32) (wa_r : Nat → Int32) (va_r : Nat → Int64) (sk_r : Nat → Int64) (H : Heap) (locs : List Loc) (pc : Nat) (ls : Array Slot), some (r, th_r, fo_r, he_r, wt_r, br_r, fm_r, sz_r, st_r, wa_r, va_r, sk_r) = some res → gZ D (gT cyI cyJ cyO) (XM a cyI cyJ th_r df la fo_r he_r wt_r br_r dr fm_r sz_r om os st_r wa_r va_r sk_r ++ Y) A bs s H locs → decode cX4_seek pc = .ok (.ireturn, 1) → W p l e rmX4_seek s m args below meth c H locs 0 0 Q (F0 m pc ls [.int r]))  : ∀ (th : Int32) (fo : Int32) (he : Int32) (wt : Int32) (br : Int32) (fm : Nat → Int32) (sz : Nat → Int32) (st : Nat → Int32) (wa : Nat → Int32) (va : Nat → Int64) (sk : Nat → Int64) (v3 : Int32) (v7 : Int32) (s1 : Int32) (H : Heap) (locs : List Loc) (ls : Array Slot), mX4_seek_57 N th fo he wt br fm sz st wa va sk v3 v7 s1 = some res → gZ D (gT cyI cyJ cyO) (XM a cyI cyJ th df la fo he wt br dr fm sz om os st wa va sk ++ Y) A bs s H locs → lv_has ls 8 [(0, .ref (a 0)), (3, .int v3), (7, .int v7)] → W p l e rmX4_seek s m args below meth c H locs 0 0 Q (F0 m 57 ls [.int s1, .ref (a 0)]) := by
  intro th fo he wt br fm sz st wa va sk v3 v7 s1 H locs ls h Z hl
  unfold mX4_seek_57 at h
  obtain ⟨x1, hx2, h⟩ := g_bd h
  refine g_callVi (b := a 0) (As := [.int s1]) (rest := []) (ws' := (fun (u : Int32) => (XM a cyI cyJ u df la fo he wt br dr fm sz om os st wa va sk ++ Y))) C0.1 Z (zX4_holds l D cyI cyJ cyO A bs Z.2.2.2.2.2 a Y th df la fo he wt br dr fm sz om os st wa va sk N s1 x1 hx2) (cwV 1 C0.1.2.2.2.2 gX4_seek_X4_holds rfl rfl rfl (by decide +kernel) ⟨Nat.le_of_ble_eq_true rfl, Nat.le_of_ble_eq_true rfl⟩) 0 (ci := 6) rfl rfl rfl rfl hl.1 rfl (Nat.le_of_ble_eq_true rfl) dX4_seek_57 ⟨Nat.zero_le _, Nat.zero_le _⟩ (fun r u H locs hw Z => ?_)
  obtain ⟨rfl, rfl⟩ := hw
  refine lv_if_ne (tgt := 65) C0.1.1 C0.1.2.1 dX4_seek_60 (by decide) (fun hc => ?_) (fun hc => ?_)
  · replace h := (if_neg hc).symm.trans h
    refine lv_aload_n C0.1.1 C0.1.2.1 dX4_seek_65 rfl (lv_at hl 0 rfl) ?_
    refine lv_iload_n C0.1.1 C0.1.2.1 dX4_seek_66 rfl (lv_at hl 1 rfl) ?_
    refine lv_iload C0.1.1 C0.1.2.1 dX4_seek_67 (lv_at hl 2 rfl) ?_
    obtain ⟨x3, hx4, h⟩ := g_bd h
    refine g_callVi (b := a 0) (As := [.int v3, .int v7]) (rest := []) (ws' := (fun (u : Int32 × (Nat → Int32) × (Nat → Int32)) => (XM a cyI cyJ x1.2 df la u.1 he wt br dr u.2.1 u.2.2 om os st wa va sk ++ Y))) C0.1 Z (zX4_puts l D cyI cyJ cyO A bs Z.2.2.2.2.2 a Y x1.2 df la fo he wt br dr fm sz om os st wa va sk N v3 v7 x3 hx4) (cwV 2 C0.1.2.2.2.2 gX4_seek_X4_puts rfl rfl rfl (by decide +kernel) ⟨Nat.le_of_ble_eq_true rfl, Nat.le_of_ble_eq_true rfl⟩) 0 (ci := 6) rfl rfl rfl rfl hl.1 rfl (Nat.le_of_ble_eq_true rfl) dX4_seek_69 ⟨Nat.zero_le _, Nat.zero_le _⟩ (fun r u H locs hw Z => ?_)
    obtain ⟨rfl, rfl⟩ := hw
    refine lv_pop C0.1.1 C0.1.2.1 dX4_seek_72 rfl ?_
    refine lv_iload C0.1.1 C0.1.2.1 dX4_seek_73 (lv_at hl 2 rfl) ?_
    exact hret v7 x1.2 x3.2.1 he wt br x3.2.2.1 x3.2.2.2 st wa va sk _ _ _ _ h Z dX4_seek_75
  · replace h := (if_pos hc).symm.trans h
    refine lv_iconst (v := 0) C0.1.1 C0.1.2.1 dX4_seek_63 (by decide) ?_
    exact hret (0 : Int32) x1.2 fo he wt br fm sz st wa va sk _ _ _ _ h Z dX4_seek_64
set_option maxRecDepth 20000 in
set_option maxHeartbeats 4000000 in
theorem wX4_seek_33 {p : Program} {l : Launch} {e : Env} {s : State} {m : MethodId} {args : Array Value} {below : List Frame} {meth : Method} {c : Code} {Q : State → Prop} {D : va_G} {cyI cyJ cyO : ClassId} {A : Nat → Prop} {bs : Nat} {a : Nat → Nat} {Y : va_W} {df : Int32} {la : Int32} {dr : Nat → Int32} {om : Nat → Int32} {os : Nat → Int32} {N : Nat} {res : Int32 × Int32 × Int32 × Int32 × Int32 × Int32 × (Nat → Int32) × (Nat → Int32) × (Nat → Int32) × (Nat → Int32) × (Nat → Int64) × (Nat → Int64)} (C0 : gC p m meth c cX4_seek 8 (some .int) s args wsX4_seek RX4) (hret : ∀ (r : Int32) (th_r : Int32) (fo_r : Int32) (he_r : Int32) (wt_r : Int32) (br_r : Int32) (fm_r : Nat → Int32) (sz_r : Nat → Int32) (st_r : Nat → Int32) (wa_r : Nat → Int32) (va_r : Nat → Int64) (sk_r : Nat → Int64) (H : Heap) (locs : List Loc) (pc : Nat) (ls : Array Slot), some (r, th_r, fo_r, he_r, wt_r, br_r, fm_r, sz_r, st_r, wa_r, va_r, sk_r) = some res → gZ D (gT cyI cyJ cyO) (XM a cyI cyJ th_r df la fo_r he_r wt_r br_r dr fm_r sz_r om os st_r wa_r va_r sk_r ++ Y) A bs s H locs → decode cX4_seek pc = .ok (.ireturn, 1) → W p l e rmX4_seek s m args below meth c H locs 0 0 Q (F0 m pc ls [.int r]))  : ∀ (th : Int32) (fo : Int32) (he : Int32) (wt : Int32) (br : Int32) (fm : Nat → Int32) (sz : Nat → Int32) (st : Nat → Int32) (wa : Nat → Int32) (va : Nat → Int64) (sk : Nat → Int64) (v3 : Int32) (v6 : Int32) (s0 : Int32) (H : Heap) (locs : List Loc) (ls : Array Slot), mX4_seek_33 N th fo he wt br fm sz st wa va sk v3 v6 s0 = some res → gZ D (gT cyI cyJ cyO) (XM a cyI cyJ th df la fo he wt br dr fm sz om os st wa va sk ++ Y) A bs s H locs → lv_has ls 8 [(0, .ref (a 0)), (3, .int v3), (6, .int v6)] → W p l e rmX4_seek s m args below meth c H locs 0 0 Q (F0 m 33 ls [.int s0]) := by
  intro th fo he wt br fm sz st wa va sk v3 v6 s0 H locs ls h Z hl
  unfold mX4_seek_33 at h
  refine lv_istore (lv' := [(7, .int s0), (0, .ref (a 0)), (3, .int v3), (6, .int v6)]) C0.1.1 C0.1.2.1 dX4_seek_33 hl (by decide) rfl (fun ls hl => ?_)
  refine lv_aload_n C0.1.1 C0.1.2.1 dX4_seek_35 rfl (lv_at hl 1 rfl) ?_
  refine lv_iload C0.1.1 C0.1.2.1 dX4_seek_36 (lv_at hl 3 rfl) ?_
  refine lv_if_le (tgt := 46) C0.1.1 C0.1.2.1 dX4_seek_38 (by decide) (fun hc => ?_) (fun hc => ?_)
  · replace h := (if_pos hc).symm.trans h
    refine lv_iload C0.1.1 C0.1.2.1 dX4_seek_46 (lv_at hl 0 rfl) ?_
    refine lv_iconst (v := -1) C0.1.1 C0.1.2.1 dX4_seek_48 (by decide) ?_
    refine lv_icmp_ne (tgt := 56) C0.1.1 C0.1.2.1 dX4_seek_49 (by decide) (fun hc => ?_) (fun hc => ?_)
    · replace h := (if_neg hc).symm.trans h
      refine lv_iconst (v := 0) C0.1.1 C0.1.2.1 dX4_seek_56 (by decide) ?_
      exact wX4_seek_57 (N := N) C0 hret th fo he wt br fm sz st wa va sk v3 s0 (0 : Int32) _ _ _ h Z (lv_sub hl [1, 2, 0] rfl)
    · replace h := (if_pos hc).symm.trans h
      refine lv_iconst (v := 4) C0.1.1 C0.1.2.1 dX4_seek_52 (by decide) ?_
      refine lv_goto (tgt := 57) C0.1.1 C0.1.2.1 dX4_seek_53 (by decide) ?_
      exact wX4_seek_57 (N := N) C0 hret th fo he wt br fm sz st wa va sk v3 s0 (4 : Int32) _ _ _ h Z (lv_sub hl [1, 2, 0] rfl)
  · replace h := (if_neg hc).symm.trans h
    refine lv_iload C0.1.1 C0.1.2.1 dX4_seek_41 (lv_at hl 3 rfl) ?_
    refine lv_goto (tgt := 57) C0.1.1 C0.1.2.1 dX4_seek_43 (by decide) ?_
    exact wX4_seek_57 (N := N) C0 hret th fo he wt br fm sz st wa va sk v3 s0 v6 _ _ _ h Z (lv_sub hl [1, 2, 0] rfl)
set_option maxRecDepth 20000 in
set_option maxHeartbeats 4000000 in
theorem zX4_seek (l : Launch) (D : va_G) (cyI cyJ cyO : ClassId) (A : Nat → Prop) (bs : Nat) (hA : ∀ q, bs ≤ q → A q) (a : Nat → Nat) (Y : va_W) (th : Int32) (df : Int32) (la : Int32) (fo : Int32) (he : Int32) (wt : Int32) (br : Int32) (dr : Nat → Int32) (fm : Nat → Int32) (sz : Nat → Int32) (om : Nat → Int32) (os : Nat → Int32) (st : Nat → Int32) (wa : Nat → Int32) (va : Nat → Int64) (sk : Nat → Int64) (N : Nat) (p0 : Int32) (p1 : Int32) (p2 : Int32) (p3 : Int32) (p4 : Int32) (res : Int32 × Int32 × Int32 × Int32 × Int32 × Int32 × (Nat → Int32) × (Nat → Int32) × (Nat → Int32) × (Nat → Int32) × (Nat → Int64) × (Nat → Int64)) (h : mX4_seek N th fo he wt br fm sz st wa va sk p0 p1 p2 p3 p4 = some res) : Met l yX4_seek wsX4_seek rmX4_seek (va_Pc [.ref (a 0), .int p0, .int p1, .int p2, .int p3, .int p4] (gW D (gT cyI cyJ cyO) (XM a cyI cyJ th df la fo he wt br dr fm sz om os st wa va sk ++ Y) A bs)) (va_Qi (fun (r : Int32) (u : Int32 × Int32 × Int32 × Int32 × Int32 × (Nat → Int32) × (Nat → Int32) × (Nat → Int32) × (Nat → Int32) × (Nat → Int64) × (Nat → Int64)) => res.1 = r ∧ res.2 = u) (fun (u : Int32 × Int32 × Int32 × Int32 × Int32 × (Nat → Int32) × (Nat → Int32) × (Nat → Int32) × (Nat → Int32) × (Nat → Int64) × (Nat → Int64)) U => gW D (gT cyI cyJ cyO) (XM a cyI cyJ u.1 df la u.2.1 u.2.2.1 u.2.2.2.1 u.2.2.2.2.1 dr u.2.2.2.2.2.1 u.2.2.2.2.2.2.1 om os u.2.2.2.2.2.2.2.1 u.2.2.2.2.2.2.2.2.1 u.2.2.2.2.2.2.2.2.2.1 u.2.2.2.2.2.2.2.2.2.2 ++ Y) A bs U) A) 0 0 A := by
  refine Met.ofW (cc := cX4_seek) (maxL := 8) (ret := (some .int)) (by decide) rfl ?_
  intro p e s m args below meth c s₁ B hml hv
  obtain ⟨hav, hv⟩ := hv
  have C0 : gC p m meth c cX4_seek 8 (some .int) s args wsX4_seek RX4 := ⟨⟨B.exec, B.bytes, hml, findClass_of_methodNamed B.named, atoms_spec (ws := wsX4_seek) B.pre⟩, B.returns, B.notSynchronized⟩
  have Z := g_start hA hv
  have hret : ∀ (r : Int32) (th_r : Int32) (fo_r : Int32) (he_r : Int32) (wt_r : Int32) (br_r : Int32) (fm_r : Nat → Int32) (sz_r : Nat → Int32) (st_r : Nat → Int32) (wa_r : Nat → Int32) (va_r : Nat → Int64) (sk_r : Nat → Int64) (H : Heap) (locs : List Loc) (pc : Nat) (ls : Array Slot), some (r, th_r, fo_r, he_r, wt_r, br_r, fm_r, sz_r, st_r, wa_r, va_r, sk_r) = some res → gZ D (gT cyI cyJ cyO) (XM a cyI cyJ th_r df la fo_r he_r wt_r br_r dr fm_r sz_r om os st_r wa_r va_r sk_r ++ Y) A bs s H locs → decode cX4_seek pc = .ok (.ireturn, 1) → W p l e rmX4_seek s m args below meth c H locs 0 0 (MQ below (va_Qi (fun (r : Int32) (u : Int32 × Int32 × Int32 × Int32 × Int32 × (Nat → Int32) × (Nat → Int32) × (Nat → Int32) × (Nat → Int32) × (Nat → Int64) × (Nat → Int64)) => res.1 = r ∧ res.2 = u) (fun (u : Int32 × Int32 × Int32 × Int32 × Int32 × (Nat → Int32) × (Nat → Int32) × (Nat → Int32) × (Nat → Int32) × (Nat → Int64) × (Nat → Int64)) U => gW D (gT cyI cyJ cyO) (XM a cyI cyJ u.1 df la u.2.1 u.2.2.1 u.2.2.2.1 u.2.2.2.2.1 dr u.2.2.2.2.2.1 u.2.2.2.2.2.2.1 om os u.2.2.2.2.2.2.2.1 u.2.2.2.2.2.2.2.2.1 u.2.2.2.2.2.2.2.2.2.1 u.2.2.2.2.2.2.2.2.2.2 ++ Y) A bs U) A) args s 0 0 A) (F0 m pc ls [.int r]) := by
    intro r th_r fo_r he_r wt_r br_r fm_r sz_r st_r wa_r va_r sk_r H locs pc ls h Z hd
    replace h := Option.some.inj h
    exact W.iret C0.1.1 C0.1.2.1 C0.2.1 (fun t ht hW => ⟨⟨r, (th_r, fo_r, he_r, wt_r, br_r, fm_r, sz_r, st_r, wa_r, va_r, sk_r), rfl, ⟨congrArg Prod.fst h.symm, congrArg Prod.snd h.symm⟩, g_end Z ht hW⟩, Z.2.2.2.1.F ht⟩) Z.2.2.2.1.2.2 hd C0.2.2
  have hl := lv_entry ([.ref (a 0), .int p0, .int p1, .int p2, .int p3, .int p4]) (n := 8) (Nat.le_of_ble_eq_true rfl)
  rw [hav, lg_entry_eq]
  generalize (lg_sl ([.ref (a 0), .int p0, .int p1, .int p2, .int p3, .int p4]) ++ List.replicate (8 - (lg_sl ([.ref (a 0), .int p0, .int p1, .int p2, .int p3, .int p4])).length) Slot.unset).toArray = ls at hl ⊢
  have hl : lv_has ls 8 [(0, .ref (a 0)), (1, .int p0), (2, .int p1), (3, .int p2), (4, .int p3), (5, .int p4)] := hl
  rw [← hav]
  unfold mX4_seek at h
  refine lv_aload_n C0.1.1 C0.1.2.1 dX4_seek_0 rfl (lv_at hl 0 rfl) ?_
  refine lv_iload_n C0.1.1 C0.1.2.1 dX4_seek_1 rfl (lv_at hl 1 rfl) ?_
  refine lv_iload_n C0.1.1 C0.1.2.1 dX4_seek_2 rfl (lv_at hl 2 rfl) ?_
  refine lv_iload_n C0.1.1 C0.1.2.1 dX4_seek_3 rfl (lv_at hl 3 rfl) ?_
  refine lv_iload C0.1.1 C0.1.2.1 dX4_seek_4 (lv_at hl 4 rfl) ?_
  refine lv_iload C0.1.1 C0.1.2.1 dX4_seek_6 (lv_at hl 5 rfl) ?_
  obtain ⟨x5, hx6, h⟩ := g_bd h
  refine g_callVi (b := a 0) (As := [.int p0, .int p1, .int p2, .int p3, .int p4]) (rest := []) (ws' := (fun (u : Unit) => (XM a cyI cyJ th df la fo he wt br dr fm sz om os st wa va sk ++ Y))) C0.1 Z (zX4_errorOfSeek l D cyI cyJ cyO A bs Z.2.2.2.2.2 a Y th df la fo he wt br dr fm sz om os st wa va sk N p0 p1 p2 p3 p4 x5 hx6) (cwV 5 C0.1.2.2.2.2 gX4_seek_X4_errorOfSeek rfl rfl rfl (by decide +kernel) ⟨Nat.le_of_ble_eq_true rfl, Nat.le_of_ble_eq_true rfl⟩) 0 (ci := 6) rfl rfl rfl rfl hl.1 rfl (Nat.le_of_ble_eq_true rfl) dX4_seek_8 ⟨Nat.zero_le _, Nat.zero_le _⟩ (fun r u H locs hw Z => ?_)
  subst hw
  refine lv_istore (lv' := [(6, .int x5), (0, .ref (a 0)), (1, .int p0), (2, .int p1), (3, .int p2), (4, .int p3), (5, .int p4)]) C0.1.1 C0.1.2.1 dX4_seek_11 hl (by decide) rfl (fun ls hl => ?_)
  refine lv_iload C0.1.1 C0.1.2.1 dX4_seek_13 (lv_at hl 0 rfl) ?_
  refine lv_if_ne (tgt := 32) C0.1.1 C0.1.2.1 dX4_seek_15 (by decide) (fun hc => ?_) (fun hc => ?_)
  · replace h := (if_neg hc).symm.trans h
    refine lv_iconst (v := -1) C0.1.1 C0.1.2.1 dX4_seek_32 (by decide) ?_
    exact wX4_seek_33 (N := N) C0 hret th fo he wt br fm sz st wa va sk p2 x5 (-1 : Int32) _ _ _ h Z (lv_sub hl [1, 4, 0] rfl)
  · replace h := (if_pos hc).symm.trans h
    refine lv_aload_n C0.1.1 C0.1.2.1 dX4_seek_18 rfl (lv_at hl 1 rfl) ?_
    refine lv_iload_n C0.1.1 C0.1.2.1 dX4_seek_19 rfl (lv_at hl 2 rfl) ?_
    refine lv_iload_n C0.1.1 C0.1.2.1 dX4_seek_20 rfl (lv_at hl 3 rfl) ?_
    refine lv_iload_n C0.1.1 C0.1.2.1 dX4_seek_21 rfl (lv_at hl 4 rfl) ?_
    refine lv_iload C0.1.1 C0.1.2.1 dX4_seek_22 (lv_at hl 5 rfl) ?_
    refine lv_iload C0.1.1 C0.1.2.1 dX4_seek_24 (lv_at hl 6 rfl) ?_
    obtain ⟨x7, hx8, h⟩ := g_bd h
    refine g_callVi (b := a 0) (As := [.int p0, .int p1, .int p2, .int p3, .int p4]) (rest := []) (ws' := (fun (u : Int32 × Int32 × Int32 × (Nat → Int32) × (Nat → Int32) × (Nat → Int32) × (Nat → Int32) × (Nat → Int64) × (Nat → Int64)) => (XM a cyI cyJ th df la fo u.1 u.2.1 u.2.2.1 dr u.2.2.2.1 u.2.2.2.2.1 om os u.2.2.2.2.2.1 u.2.2.2.2.2.2.1 u.2.2.2.2.2.2.2.1 u.2.2.2.2.2.2.2.2 ++ Y))) C0.1 Z (zX4_sought l D cyI cyJ cyO A bs Z.2.2.2.2.2 a Y th df la fo he wt br dr fm sz om os st wa va sk N p0 p1 p2 p3 p4 x7 hx8) (cwV 5 C0.1.2.2.2.2 gX4_seek_X4_sought rfl rfl rfl (by decide +kernel) ⟨Nat.le_of_ble_eq_true rfl, Nat.le_of_ble_eq_true rfl⟩) 0 (ci := 6) rfl rfl rfl rfl hl.1 rfl (Nat.le_of_ble_eq_true rfl) dX4_seek_26 ⟨Nat.zero_le _, Nat.zero_le _⟩ (fun r u H locs hw Z => ?_)
    obtain ⟨rfl, rfl⟩ := hw
    refine lv_goto (tgt := 33) C0.1.1 C0.1.2.1 dX4_seek_29 (by decide) ?_
    exact wX4_seek_33 (N := N) C0 hret th fo x7.2.1 x7.2.2.1 x7.2.2.2.1 x7.2.2.2.2.1 x7.2.2.2.2.2.1 x7.2.2.2.2.2.2.1 x7.2.2.2.2.2.2.2.1 x7.2.2.2.2.2.2.2.2.1 x7.2.2.2.2.2.2.2.2.2 p2 x5 x7.1 _ _ _ h Z (lv_sub hl [1, 4, 0] rfl)
