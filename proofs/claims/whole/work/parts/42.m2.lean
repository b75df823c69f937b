/-! X4_errorOfSign -/
abbrev rmX4_errorOfSign : Room := { frames := 0, cells := 0, slots := 0, locals := 0 }
theorem kX4_errorOfSign_f46 : Cond.fieldLink RX4 46 "GoalseekOfficeModel" "drafted" "I" ∈ wsX4_errorOfSign := by decide +kernel
theorem kX4_errorOfSign_in : ∀ w ∈ wsX40, w ∈ wsX4_errorOfSign := by decide +kernel
def mX4_errorOfSign_22 (N : Nat) (df : Int32) (s0 : Int32) : Option (Int32) := some (s0)
def mX4_errorOfSign (N : Nat) (df : Int32) (p0 : Int32) : Option (Int32) := (if p0 = 0 then mX4_errorOfSign_22 N df (1 : Int32) else (if df = (15 : Int32) then mX4_errorOfSign_22 N df (2 : Int32) else mX4_errorOfSign_22 N df (0 : Int32)))
set_option maxRecDepth 20000 in
set_option maxHeartbeats 4000000 in
theorem wX4_errorOfSign_22 {p : Program} {l : Launch} {e : Env} {s : State} {m : MethodId} {args : Array Value} {below : List Frame} {meth : Method} {c : Code} {Q : State → Prop} {D : va_G} {cyI cyJ cyO : ClassId} {A : Nat → Prop} {bs : Nat} {a : Nat → Nat} {Y : va_W} {th : Int32} {df : Int32} {la : Int32} {fo : Int32} {he : Int32} {wt : Int32} {br : Int32} {dr : Nat → Int32} {fm : Nat → Int32} {sz : Nat → Int32} {om : Nat → Int32} {os : Nat → Int32} {st : Nat → Int32} {wa : Nat → Int32} {va : Nat → Int64} {sk : Nat → Int64} {N : Nat} {res : Int32} (C0 : gC p m meth c cX4_errorOfSign 2 (some .int) s args wsX4_errorOfSign RX4) (hret : ∀ (r : Int32) (H : Heap) (locs : List Loc) (pc : Nat) (ls : Array Slot), some r = some res → gZ D (gT cyI cyJ cyO) (XM a cyI cyJ th df la fo he wt br dr fm sz om os st wa va sk ++ Y) A bs s H locs → decode cX4_errorOfSign pc = .ok (.ireturn, 1) → W p l e rmX4_errorOfSign s m args below meth c H locs 0 0 Q (F0 m pc ls [.int r]))  : ∀ (s0 : Int32) (H : Heap) (locs : List Loc) (ls : Array Slot), mX4_errorOfSign_22 N df s0 = some res → gZ D (gT cyI cyJ cyO) (XM a cyI cyJ th df la fo he wt br dr fm sz om os st wa va sk ++ Y) A bs s H locs → lv_has ls 2 [] → W p l e rmX4_errorOfSign s m args below meth c H locs 0 0 Q (F0 m 22 ls [.int s0]) := by
  intro s0 H locs ls h Z hl
  unfold mX4_errorOfSign_22 at h
  exact hret s0 _ _ _ _ h Z dX4_errorOfSign_22
set_option maxRecDepth 20000 in
set_option maxHeartbeats 4000000 in
theorem zX4_errorOfSign (l : Launch) (D : va_G) (cyI cyJ cyO : ClassId) (A : Nat → Prop) (bs : Nat) (hA : ∀ q, bs ≤ q → A q) (a : Nat → Nat) (Y : va_W) (th : Int32) (df : Int32) (la : Int32) (fo : Int32) (he : Int32) (wt : Int32) (br : Int32) (dr : Nat → Int32) (fm : Nat → Int32) (sz : Nat → Int32) (om : Nat → Int32) (os : Nat → Int32) (st : Nat → Int32) (wa : Nat → Int32) (va : Nat → Int64) (sk : Nat → Int64) (N : Nat) (p0 : Int32) (res : Int32) (h : mX4_errorOfSign N df p0 = some res) : Met l yX4_errorOfSign wsX4_errorOfSign rmX4_errorOfSign (va_Pc [.ref (a 0), .int p0] (gW D (gT cyI cyJ cyO) (XM a cyI cyJ th df la fo he wt br dr fm sz om os st wa va sk ++ Y) A bs)) (va_Qi (fun (r : Int32) (_ : Unit) => res = r) (fun (u : Unit) U => gW D (gT cyI cyJ cyO) (XM a cyI cyJ th df la fo he wt br dr fm sz om os st wa va sk ++ Y) A bs U) A) 0 0 A := by
  refine Met.ofW (cc := cX4_errorOfSign) (maxL := 2) (ret := (some .int)) (by decide) rfl ?_
  intro p e s m args below meth c s₁ B hml hv
  obtain ⟨hav, hv⟩ := hv
  have C0 : gC p m meth c cX4_errorOfSign 2 (some .int) s args wsX4_errorOfSign RX4 := ⟨⟨B.exec, B.bytes, hml, findClass_of_methodNamed B.named, atoms_spec (ws := wsX4_errorOfSign) B.pre⟩, B.returns, B.notSynchronized⟩
  have Z := g_start hA hv
  have hret : ∀ (r : Int32) (H : Heap) (locs : List Loc) (pc : Nat) (ls : Array Slot), some r = some res → gZ D (gT cyI cyJ cyO) (XM a cyI cyJ th df la fo he wt br dr fm sz om os st wa va sk ++ Y) A bs s H locs → decode cX4_errorOfSign pc = .ok (.ireturn, 1) → W p l e rmX4_errorOfSign s m args below meth c H locs 0 0 (MQ below (va_Qi (fun (r : Int32) (_ : Unit) => res = r) (fun (u : Unit) U => gW D (gT cyI cyJ cyO) (XM a cyI cyJ th df la fo he wt br dr fm sz om os st wa va sk ++ Y) A bs U) A) args s 0 0 A) (F0 m pc ls [.int r]) := by
    intro r H locs pc ls h Z hd
    replace h := Option.some.inj h
    exact W.iret C0.1.1 C0.1.2.1 C0.2.1 (fun t ht hW => ⟨⟨r, (()), rfl, h.symm, g_end Z ht hW⟩, Z.2.2.2.1.F ht⟩) Z.2.2.2.1.2.2 hd C0.2.2
  have hl := lv_entry ([.ref (a 0), .int p0]) (n := 2) (Nat.le_of_ble_eq_true rfl)
  rw [hav, lg_entry_eq]
  generalize (lg_sl ([.ref (a 0), .int p0]) ++ List.replicate (2 - (lg_sl ([.ref (a 0), .int p0])).length) Slot.unset).toArray = ls at hl ⊢
  have hl : lv_has ls 2 [(0, .ref (a 0)), (1, .int p0)] := hl
  rw [← hav]
  unfold mX4_errorOfSign at h
  refine lv_iload_n C0.1.1 C0.1.2.1 dX4_errorOfSign_0 rfl (lv_at hl 1 rfl) ?_
  refine lv_if_ne (tgt := 8) C0.1.1 C0.1.2.1 dX4_errorOfSign_1 (by decide) (fun hc => ?_) (fun hc => ?_)
  · replace h := (if_neg hc).symm.trans h
    refine lv_aload_n C0.1.1 C0.1.2.1 dX4_errorOfSign_8 rfl (lv_at hl 0 rfl) ?_
    refine g_get (ci := 6) (v := .int df) (T := TX4) (N := 16) C0.1 Z 0 rfl rfl 2 (by decide) kX4_errorOfSign_in kX4_errorOfSign_f46 rfl rfl dX4_errorOfSign_9 ?_
    refine lv_bipush (v := 15) C0.1.1 C0.1.2.1 dX4_errorOfSign_12 (by decide +kernel) ?_
    refine lv_icmp_ne (tgt := 21) C0.1.1 C0.1.2.1 dX4_errorOfSign_14 (by decide) (fun hc => ?_) (fun hc => ?_)
    · replace h := (if_neg hc).symm.trans h
      refine lv_iconst (v := 0) C0.1.1 C0.1.2.1 dX4_errorOfSign_21 (by decide) ?_
      exact wX4_errorOfSign_22 (N := N) C0 hret (0 : Int32) _ _ _ h Z (lv_sub hl [] rfl)
    · replace h := (if_pos hc).symm.trans h
      refine lv_iconst (v := 2) C0.1.1 C0.1.2.1 dX4_errorOfSign_17 (by decide) ?_
      refine lv_goto (tgt := 22) C0.1.1 C0.1.2.1 dX4_errorOfSign_18 (by decide) ?_
      exact wX4_errorOfSign_22 (N := N) C0 hret (2 : Int32) _ _ _ h Z (lv_sub hl [] rfl)
  · replace h := (if_pos hc).symm.trans h
    refine lv_iconst (v := 1) C0.1.1 C0.1.2.1 dX4_errorOfSign_4 (by decide) ?_
    refine lv_goto (tgt := 22) C0.1.1 C0.1.2.1 dX4_errorOfSign_5 (by decide) ?_
    exact wX4_errorOfSign_22 (N := N) C0 hret (1 : Int32) _ _ _ h Z (lv_sub hl [] rfl)
/-! X4_number -/
abbrev rmX4_number : Room := { frames := 1, cells := 0, slots := 0, locals := 22 }
theorem kX4_number_c49 : Cond.constant RX4 49 (999999) ∈ wsX4_number := by decide +kernel
def mX4_number_27 (N : Nat) (th : Int32) (df : Int32) (dr : Nat → Int32) (s0 : Int32) : Option (Int32 × Int32 × Int32 × (Nat → Int32)) := some (s0, th, df, dr)
def mX4_number (N : Nat) (th : Int32) (df : Int32) (dr : Nat → Int32) (p0 : Int32) : Option (Int32 × Int32 × Int32 × (Nat → Int32)) := ((mX4_in N p0 (0 : Int32) (999999 : Int32)).bind fun x1 => ((mX4_errorOfSign N df x1).bind fun x3 => ((mX4_holds N th x3).bind fun x5 => (if x5.1 = 0 then mX4_number_27 N x5.2 df dr (0 : Int32) else ((mX4_writes N df dr p0).bind fun x7 => mX4_number_27 N x5.2 x7.2.1 x7.2.2 x7.1)))))
set_option maxRecDepth 20000 in
set_option maxHeartbeats 4000000 in
theorem wX4_number_27 {p : Program} {l : Launch} {e : Env} {s : State} {m : MethodId} {args : Array Value} {below : List Frame} {meth : Method} {c : Code} {Q : State → Prop} {D : va_G} {cyI cyJ cyO : ClassId} {A : Nat → Prop} {bs : Nat} {a : Nat → Nat} {Y : va_W} {la : Int32} {fo : Int32} {he : Int32} {wt : Int32} {br : Int32} {fm : Nat → Int32} {sz : Nat → Int32} {om : Nat → Int32} {os : Nat → Int32} {st : Nat → Int32} {wa : Nat → Int32} {va : Nat → Int64} {sk : Nat → Int64} {N : Nat} {res : Int32 × Int32 × Int32 × (Nat → Int32)} (C0 : gC p m meth c cX4_number 2 (some .int) s args wsX4_number RX4) (hret : ∀ (r : Int32) (th_r : Int32) (df_r : Int32) (dr_r : Nat → Int32) (H : Heap) (locs : List Loc) (pc : Nat) (ls : Array Slot), some (r, th_r, df_r, dr_r) = some res → gZ D (gT cyI cyJ cyO) (XM a cyI cyJ th_r df_r la fo he wt br dr_r fm sz om os st wa va sk ++ Y) A bs s H locs → decode cX4_number pc = .ok (.ireturn, 1) → W p l e rmX4_number s m args below meth c H locs 0 0 Q (F0 m pc ls [.int r]))  : ∀ (th : Int32) (df : Int32) (dr : Nat → Int32) (s0 : Int32) (H : Heap) (locs : List Loc) (ls : Array Slot), mX4_number_27 N th df dr s0 = some res → gZ D (gT cyI cyJ cyO) (XM a cyI cyJ th df la fo he wt br dr fm sz om os st wa va sk ++ Y) A bs s H locs → lv_has ls 2 [] → W p l e rmX4_number s m args below meth c H locs 0 0 Q (F0 m 27 ls [.int s0]) := by
  intro th df dr s0 H locs ls h Z hl
  unfold mX4_number_27 at h
  exact hret s0 th df dr _ _ _ _ h Z dX4_number_27
set_option maxRecDepth 20000 in
set_option maxHeartbeats 4000000 in
theorem zX4_number (l : Launch) (D : va_G) (cyI cyJ cyO : ClassId) (A : Nat → Prop) (bs : Nat) (hA : ∀ q, bs ≤ q → A q) (a : Nat → Nat) (Y : va_W) (th : Int32) (df : Int32) (la : Int32) (fo : Int32) (he : Int32) (wt : Int32) (br : Int32) (dr : Nat → Int32) (fm : Nat → Int32) (sz : Nat → Int32) (om : Nat → Int32) (os : Nat → Int32) (st : Nat → Int32) (wa : Nat → Int32) (va : Nat → Int64) (sk : Nat → Int64) (N : Nat) (p0 : Int32) (res : Int32 × Int32 × Int32 × (Nat → Int32)) (h : mX4_number N th df dr p0 = some res) : Met l yX4_number wsX4_number rmX4_number (va_Pc [.ref (a 0), .int p0] (gW D (gT cyI cyJ cyO) (XM a cyI cyJ th df la fo he wt br dr fm sz om os st wa va sk ++ Y) A bs)) (va_Qi (fun (r : Int32) (u : Int32 × Int32 × (Nat → Int32)) => res.1 = r ∧ res.2 = u) (fun (u : Int32 × Int32 × (Nat → Int32)) U => gW D (gT cyI cyJ cyO) (XM a cyI cyJ u.1 u.2.1 la fo he wt br u.2.2 fm sz om os st wa va sk ++ Y) A bs U) A) 0 0 A := by
  refine Met.ofW (cc := cX4_number) (maxL := 2) (ret := (some .int)) (by decide) rfl ?_
  intro p e s m args below meth c s₁ B hml hv
  obtain ⟨hav, hv⟩ := hv
  have C0 : gC p m meth c cX4_number 2 (some .int) s args wsX4_number RX4 := ⟨⟨B.exec, B.bytes, hml, findClass_of_methodNamed B.named, atoms_spec (ws := wsX4_number) B.pre⟩, B.returns, B.notSynchronized⟩
  have Z := g_start hA hv
  have hret : ∀ (r : Int32) (th_r : Int32) (df_r : Int32) (dr_r : Nat → Int32) (H : Heap) (locs : List Loc) (pc : Nat) (ls : Array Slot), some (r, th_r, df_r, dr_r) = some res → gZ D (gT cyI cyJ cyO) (XM a cyI cyJ th_r df_r la fo he wt br dr_r fm sz om os st wa va sk ++ Y) A bs s H locs → decode cX4_number pc = .ok (.ireturn, 1) → W p l e rmX4_number s m args below meth c H locs 0 0 (MQ below (va_Qi (fun (r : Int32) (u : Int32 × Int32 × (Nat → Int32)) => res.1 = r ∧ res.2 = u) (fun (u : Int32 × Int32 × (Nat → Int32)) U => gW D (gT cyI cyJ cyO) (XM a cyI cyJ u.1 u.2.1 la fo he wt br u.2.2 fm sz om os st wa va sk ++ Y) A bs U) A) args s 0 0 A) (F0 m pc ls [.int r]) := by
    intro r th_r df_r dr_r H locs pc ls h Z hd
    replace h := Option.some.inj h
    exact W.iret C0.1.1 C0.1.2.1 C0.2.1 (fun t ht hW => ⟨⟨r, (th_r, df_r, dr_r), rfl, ⟨congrArg Prod.fst h.symm, congrArg Prod.snd h.symm⟩, g_end Z ht hW⟩, Z.2.2.2.1.F ht⟩) Z.2.2.2.1.2.2 hd C0.2.2
  have hl := lv_entry ([.ref (a 0), .int p0]) (n := 2) (Nat.le_of_ble_eq_true rfl)
  rw [hav, lg_entry_eq]
  generalize (lg_sl ([.ref (a 0), .int p0]) ++ List.replicate (2 - (lg_sl ([.ref (a 0), .int p0])).length) Slot.unset).toArray = ls at hl ⊢
  have hl : lv_has ls 2 [(0, .ref (a 0)), (1, .int p0)] := hl
  rw [← hav]
  unfold mX4_number at h
  refine lv_aload_n C0.1.1 C0.1.2.1 dX4_number_0 rfl (lv_at hl 0 rfl) ?_
  refine lv_aload_n C0.1.1 C0.1.2.1 dX4_number_1 rfl (lv_at hl 0 rfl) ?_
  refine lv_iload_n C0.1.1 C0.1.2.1 dX4_number_2 rfl (lv_at hl 1 rfl) ?_
  refine lv_iconst (v := 0) C0.1.1 C0.1.2.1 dX4_number_3 (by decide) ?_
  refine lv_ldc C0.1.1 C0.1.2.1 C0.1.2.2.2.1 (C0.1.2.2.2.2 _ kX4_number_c49) dX4_number_4 ?_
  obtain ⟨x1, hx2, h⟩ := g_bd h
  refine g_callSi (As := [.int p0, .int (0 : Int32), .int (999999 : Int32)]) (rest := [.ref (a 0), .ref (a 0)]) (ws' := (fun (u : Unit) => (XM a cyI cyJ th df la fo he wt br dr fm sz om os st wa va sk ++ Y))) C0.1 Z (zX4_in l D cyI cyJ cyO A bs Z.2.2.2.2.2 (XM a cyI cyJ th df la fo he wt br dr fm sz om os st wa va sk ++ Y) N p0 (0 : Int32) (999999 : Int32) x1 hx2) (va_cwS 3 C0.1.2.2.2.2 gX4_number_X4_in rfl rfl rfl (by decide +kernel) ⟨Nat.le_of_ble_eq_true rfl, Nat.le_of_ble_eq_true rfl⟩) rfl hl.1 rfl (Nat.le_of_ble_eq_true rfl) dX4_number_6 ⟨Nat.zero_le _, Nat.zero_le _⟩ (fun r u H locs hw Z => ?_)
  subst hw
  obtain ⟨x3, hx4, h⟩ := g_bd h
  refine g_callVi (b := a 0) (As := [.int x1]) (rest := [.ref (a 0)]) (ws' := (fun (u : Unit) => (XM a cyI cyJ th df la fo he wt br dr fm sz om os st wa va sk ++ Y))) C0.1 Z (zX4_errorOfSign l D cyI cyJ cyO A bs Z.2.2.2.2.2 a Y th df la fo he wt br dr fm sz om os st wa va sk N x1 x3 hx4) (cwV 1 C0.1.2.2.2.2 gX4_number_X4_errorOfSign rfl rfl rfl (by decide +kernel) ⟨Nat.le_of_ble_eq_true rfl, Nat.le_of_ble_eq_true rfl⟩) 0 (ci := 6) rfl rfl rfl rfl hl.1 rfl (Nat.le_of_ble_eq_true rfl) dX4_number_9 ⟨Nat.zero_le _, Nat.zero_le _⟩ (fun r u H locs hw Z => ?_)
  subst hw
  obtain ⟨x5, hx6, h⟩ := g_bd h
  refine g_callVi (b := a 0) (As := [.int x3]) (rest := []) (ws' := (fun (u : Int32) => (XM a cyI cyJ u df la fo he wt br dr fm sz om os st wa va sk ++ Y))) C0.1 Z (zX4_holds l D cyI cyJ cyO A bs Z.2.2.2.2.2 a Y th df la fo he wt br dr fm sz om os st wa va sk N x3 x5 hx6) (cwV 1 C0.1.2.2.2.2 gX4_number_X4_holds rfl rfl rfl (by decide +kernel) ⟨Nat.le_of_ble_eq_true rfl, Nat.le_of_ble_eq_true rfl⟩) 0 (ci := 6) rfl rfl rfl rfl hl.1 rfl (Nat.le_of_ble_eq_true rfl) dX4_number_12 ⟨Nat.zero_le _, Nat.zero_le _⟩ (fun r u H locs hw Z => ?_)
  obtain ⟨rfl, rfl⟩ := hw
  refine lv_if_eq (tgt := 26) C0.1.1 C0.1.2.1 dX4_number_15 (by decide) (fun hc => ?_) (fun hc => ?_)
  · replace h := (if_pos hc).symm.trans h
    refine lv_iconst (v := 0) C0.1.1 C0.1.2.1 dX4_number_26 (by decide) ?_
    exact wX4_number_27 (N := N) C0 hret x5.2 df dr (0 : Int32) _ _ _ h Z (lv_sub hl [] rfl)
  · replace h := (if_neg hc).symm.trans h
    refine lv_aload_n C0.1.1 C0.1.2.1 dX4_number_18 rfl (lv_at hl 0 rfl) ?_
    refine lv_iload_n C0.1.1 C0.1.2.1 dX4_number_19 rfl (lv_at hl 1 rfl) ?_
    obtain ⟨x7, hx8, h⟩ := g_bd h
    refine g_callVi (b := a 0) (As := [.int p0]) (rest := []) (ws' := (fun (u : Int32 × (Nat → Int32)) => (XM a cyI cyJ x5.2 u.1 la fo he wt br u.2 fm sz om os st wa va sk ++ Y))) C0.1 Z (zX4_writes l D cyI cyJ cyO A bs Z.2.2.2.2.2 a Y x5.2 df la fo he wt br dr fm sz om os st wa va sk N p0 x7 hx8) (cwV 1 C0.1.2.2.2.2 gX4_number_X4_writes rfl rfl rfl (by decide +kernel) ⟨Nat.le_of_ble_eq_true rfl, Nat.le_of_ble_eq_true rfl⟩) 0 (ci := 6) rfl rfl rfl rfl hl.1 rfl (Nat.le_of_ble_eq_true rfl) dX4_number_20 ⟨Nat.zero_le _, Nat.zero_le _⟩ (fun r u H locs hw Z => ?_)
    obtain ⟨rfl, rfl⟩ := hw
    refine lv_goto (tgt := 27) C0.1.1 C0.1.2.1 dX4_number_23 (by decide) ?_
    exact wX4_number_27 (N := N) C0 hret x5.2 x7.2.1 x7.2.2 x7.1 _ _ _ h Z (lv_sub hl [] rfl)
/-! X4_cell -/
abbrev rmX4_cell : Room := { frames := 2, cells := 0, slots := 0, locals := 42 }
theorem kX4_cell_c65 : Cond.constant RX4 65 (1000000) ∈ wsX4_cell := by decide +kernel
def mX4_cell_27 (N : Nat) (th : Int32) (df : Int32) (dr : Nat → Int32) (s0 : Int32) : Option (Int32 × Int32 × Int32 × (Nat → Int32)) := some (s0, th, df, dr)
def mX4_cell (N : Nat) (th : Int32) (df : Int32) (dr : Nat → Int32) (p0 : Int32) : Option (Int32 × Int32 × Int32 × (Nat → Int32)) := ((mX4_isCell N p0).bind fun x1 => ((mX4_errorOfSign N df x1).bind fun x3 => ((mX4_holds N th x3).bind fun x5 => (if x5.1 = 0 then mX4_cell_27 N x5.2 df dr (0 : Int32) else ((mX4_writes N df dr ((1000000 : Int32) + p0)).bind fun x7 => mX4_cell_27 N x5.2 x7.2.1 x7.2.2 x7.1)))))
set_option maxRecDepth 20000 in
set_option maxHeartbeats 4000000 in
theorem wX4_cell_27 {p : Program} {l : Launch} {e : Env} {s : State} {m : MethodId} {args : Array Value} {below : List Frame} {meth : Method} {c : Code} {Q : State → Prop} {D : va_G} {cyI cyJ cyO : ClassId} {A : Nat → Prop} {bs : Nat} {a : Nat → Nat} {Y : va_W} {la : Int32} {fo : Int32} {he : Int32} {wt : Int32} {br : Int32} {fm : Nat → Int32} {sz : Nat → Int32} {om : Nat → Int32} {os : Nat → Int32} {st : Nat → Int32} {wa : Nat → Int32} {va : Nat → Int64} {sk : Nat → Int64} {N : Nat} {res : Int32 × Int32 × Int32 × (Nat → Int32)} (C0 : gC p m meth c cX4_cell 2 (some .int) s args wsX4_cell RX4) (hret : ∀ (r : Int32) (th_r : Int32) (df_r : Int32) (dr_r : Nat → Int32) (H : Heap) (locs : List Loc) (pc : Nat) (ls : Array Slot), some (r, th_r, df_r, dr_r) = some res → gZ D (gT cyI cyJ cyO) (XM a cyI cyJ th_r df_r la fo he wt br dr_r fm sz om os st wa va sk ++ Y) A bs s H locs → decode cX4_cell pc = .ok (.ireturn, 1) → W p l e rmX4_cell s m args below meth c H locs 0 0 Q (F0 m pc ls [.int r]))  : ∀ (th : Int32) (df : Int32) (dr : Nat → Int32) (s0 : Int32) (H : Heap) (locs : List Loc) (ls : Array Slot), mX4_cell_27 N th df dr s0 = some res → gZ D (gT cyI cyJ cyO) (XM a cyI cyJ th df la fo he wt br dr fm sz om os st wa va sk ++ Y) A bs s H locs → lv_has ls 2 [] → W p l e rmX4_cell s m args below meth c H locs 0 0 Q (F0 m 27 ls [.int s0]) := by
  intro th df dr s0 H locs ls h Z hl
  unfold mX4_cell_27 at h
  exact hret s0 th df dr _ _ _ _ h Z dX4_cell_27
set_option maxRecDepth 20000 in
set_option maxHeartbeats 4000000 in
theorem zX4_cell (l : Launch) (D : va_G) (cyI cyJ cyO : ClassId) (A : Nat → Prop) (bs : Nat) (hA : ∀ q, bs ≤ q → A q) (a : Nat → Nat) (Y : va_W) (th : Int32) (df : Int32) (la : Int32) (fo : Int32) (he : Int32) (wt : Int32) (br : Int32) (dr : Nat → Int32) (fm : Nat → Int32) (sz : Nat → Int32) (om : Nat → Int32) (os : Nat → Int32) (st : Nat → Int32) (wa : Nat → Int32) (va : Nat → Int64) (sk : Nat → Int64) (N : Nat) (p0 : Int32) (res : Int32 × Int32 × Int32 × (Nat → Int32)) (h : mX4_cell N th df dr p0 = some res) : Met l yX4_cell wsX4_cell rmX4_cell (va_Pc [.ref (a 0), .int p0] (gW D (gT cyI cyJ cyO) (XM a cyI cyJ th df la fo he wt br dr fm sz om os st wa va sk ++ Y) A bs)) (va_Qi (fun (r : Int32) (u : Int32 × Int32 × (Nat → Int32)) => res.1 = r ∧ res.2 = u) (fun (u : Int32 × Int32 × (Nat → Int32)) U => gW D (gT cyI cyJ cyO) (XM a cyI cyJ u.1 u.2.1 la fo he wt br u.2.2 fm sz om os st wa va sk ++ Y) A bs U) A) 0 0 A := by
  refine Met.ofW (cc := cX4_cell) (maxL := 2) (ret := (some .int)) (by decide) rfl ?_
  intro p e s m args below meth c s₁ B hml hv
  obtain ⟨hav, hv⟩ := hv
  have C0 : gC p m meth c cX4_cell 2 (some .int) s args wsX4_cell RX4 := ⟨⟨B.exec, B.bytes, hml, findClass_of_methodNamed B.named, atoms_spec (ws := wsX4_cell) B.pre⟩, B.returns, B.notSynchronized⟩
  have Z := g_start hA hv
  have hret : ∀ (r : Int32) (th_r : Int32) (df_r : Int32) (dr_r : Nat → Int32) (H : Heap) (locs : List Loc) (pc : Nat) (ls : Array Slot), some (r, th_r, df_r, dr_r) = some res → gZ D (gT cyI cyJ cyO) (XM a cyI cyJ th_r df_r la fo he wt br dr_r fm sz om os st wa va sk ++ Y) A bs s H locs → decode cX4_cell pc = .ok (.ireturn, 1) → W p l e rmX4_cell s m args below meth c H locs 0 0 (MQ below (va_Qi (fun (r : Int32) (u : Int32 × Int32 × (Nat → Int32)) => res.1 = r ∧ res.2 = u) (fun (u : Int32 × Int32 × (Nat → Int32)) U => gW D (gT cyI cyJ cyO) (XM a cyI cyJ u.1 u.2.1 la fo he wt br u.2.2 fm sz om os st wa va sk ++ Y) A bs U) A) args s 0 0 A) (F0 m pc ls [.int r]) := by
    intro r th_r df_r dr_r H locs pc ls h Z hd
    replace h := Option.some.inj h
    exact W.iret C0.1.1 C0.1.2.1 C0.2.1 (fun t ht hW => ⟨⟨r, (th_r, df_r, dr_r), rfl, ⟨congrArg Prod.fst h.symm, congrArg Prod.snd h.symm⟩, g_end Z ht hW⟩, Z.2.2.2.1.F ht⟩) Z.2.2.2.1.2.2 hd C0.2.2
  have hl := lv_entry ([.ref (a 0), .int p0]) (n := 2) (Nat.le_of_ble_eq_true rfl)
  rw [hav, lg_entry_eq]
  generalize (lg_sl ([.ref (a 0), .int p0]) ++ List.replicate (2 - (lg_sl ([.ref (a 0), .int p0])).length) Slot.unset).toArray = ls at hl ⊢
  have hl : lv_has ls 2 [(0, .ref (a 0)), (1, .int p0)] := hl
  rw [← hav]
  unfold mX4_cell at h
  refine lv_aload_n C0.1.1 C0.1.2.1 dX4_cell_0 rfl (lv_at hl 0 rfl) ?_
  refine lv_aload_n C0.1.1 C0.1.2.1 dX4_cell_1 rfl (lv_at hl 0 rfl) ?_
  refine lv_iload_n C0.1.1 C0.1.2.1 dX4_cell_2 rfl (lv_at hl 1 rfl) ?_
  obtain ⟨x1, hx2, h⟩ := g_bd h
  refine g_callSi (As := [.int p0]) (rest := [.ref (a 0), .ref (a 0)]) (ws' := (fun (u : Unit) => (XM a cyI cyJ th df la fo he wt br dr fm sz om os st wa va sk ++ Y))) C0.1 Z (zX4_isCell l D cyI cyJ cyO A bs Z.2.2.2.2.2 (XM a cyI cyJ th df la fo he wt br dr fm sz om os st wa va sk ++ Y) N p0 x1 hx2) (va_cwS 1 C0.1.2.2.2.2 gX4_cell_X4_isCell rfl rfl rfl (by decide +kernel) ⟨Nat.le_of_ble_eq_true rfl, Nat.le_of_ble_eq_true rfl⟩) rfl hl.1 rfl (Nat.le_of_ble_eq_true rfl) dX4_cell_3 ⟨Nat.zero_le _, Nat.zero_le _⟩ (fun r u H locs hw Z => ?_)
  subst hw
  obtain ⟨x3, hx4, h⟩ := g_bd h
  refine g_callVi (b := a 0) (As := [.int x1]) (rest := [.ref (a 0)]) (ws' := (fun (u : Unit) => (XM a cyI cyJ th df la fo he wt br dr fm sz om os st wa va sk ++ Y))) C0.1 Z (zX4_errorOfSign l D cyI cyJ cyO A bs Z.2.2.2.2.2 a Y th df la fo he wt br dr fm sz om os st wa va sk N x1 x3 hx4) (cwV 1 C0.1.2.2.2.2 gX4_cell_X4_errorOfSign rfl rfl rfl (by decide +kernel) ⟨Nat.le_of_ble_eq_true rfl, Nat.le_of_ble_eq_true rfl⟩) 0 (ci := 6) rfl rfl rfl rfl hl.1 rfl (Nat.le_of_ble_eq_true rfl) dX4_cell_6 ⟨Nat.zero_le _, Nat.zero_le _⟩ (fun r u H locs hw Z => ?_)
  subst hw
  obtain ⟨x5, hx6, h⟩ := g_bd h
  refine g_callVi (b := a 0) (As := [.int x3]) (rest := []) (ws' := (fun (u : Int32) => (XM a cyI cyJ u df la fo he wt br dr fm sz om os st wa va sk ++ Y))) C0.1 Z (zX4_holds l D cyI cyJ cyO A bs Z.2.2.2.2.2 a Y th df la fo he wt br dr fm sz om os st wa va sk N x3 x5 hx6) (cwV 1 C0.1.2.2.2.2 gX4_cell_X4_holds rfl rfl rfl (by decide +kernel) ⟨Nat.le_of_ble_eq_true rfl, Nat.le_of_ble_eq_true rfl⟩) 0 (ci := 6) rfl rfl rfl rfl hl.1 rfl (Nat.le_of_ble_eq_true rfl) dX4_cell_9 ⟨Nat.zero_le _, Nat.zero_le _⟩ (fun r u H locs hw Z => ?_)
  obtain ⟨rfl, rfl⟩ := hw
  refine lv_if_eq (tgt := 26) C0.1.1 C0.1.2.1 dX4_cell_12 (by decide) (fun hc => ?_) (fun hc => ?_)
  · replace h := (if_pos hc).symm.trans h
    refine lv_iconst (v := 0) C0.1.1 C0.1.2.1 dX4_cell_26 (by decide) ?_
    exact wX4_cell_27 (N := N) C0 hret x5.2 df dr (0 : Int32) _ _ _ h Z (lv_sub hl [] rfl)
  · replace h := (if_neg hc).symm.trans h
    refine lv_aload_n C0.1.1 C0.1.2.1 dX4_cell_15 rfl (lv_at hl 0 rfl) ?_
    refine lv_ldc C0.1.1 C0.1.2.1 C0.1.2.2.2.1 (C0.1.2.2.2.2 _ kX4_cell_c65) dX4_cell_16 ?_
    refine lv_iload_n C0.1.1 C0.1.2.1 dX4_cell_18 rfl (lv_at hl 1 rfl) ?_
    refine lv_iadd C0.1.1 C0.1.2.1 dX4_cell_19 ?_
    obtain ⟨x7, hx8, h⟩ := g_bd h
    refine g_callVi (b := a 0) (As := [.int ((1000000 : Int32) + p0)]) (rest := []) (ws' := (fun (u : Int32 × (Nat → Int32)) => (XM a cyI cyJ x5.2 u.1 la fo he wt br u.2 fm sz om os st wa va sk ++ Y))) C0.1 Z (zX4_writes l D cyI cyJ cyO A bs Z.2.2.2.2.2 a Y x5.2 df la fo he wt br dr fm sz om os st wa va sk N ((1000000 : Int32) + p0) x7 hx8) (cwV 1 C0.1.2.2.2.2 gX4_cell_X4_writes rfl rfl rfl (by decide +kernel) ⟨Nat.le_of_ble_eq_true rfl, Nat.le_of_ble_eq_true rfl⟩) 0 (ci := 6) rfl rfl rfl rfl hl.1 rfl (Nat.le_of_ble_eq_true rfl) dX4_cell_20 ⟨Nat.zero_le _, Nat.zero_le _⟩ (fun r u H locs hw Z => ?_)
    obtain ⟨rfl, rfl⟩ := hw
    refine lv_goto (tgt := 27) C0.1.1 C0.1.2.1 dX4_cell_23 (by decide) ?_
    exact wX4_cell_27 (N := N) C0 hret x5.2 x7.2.1 x7.2.2 x7.1 _ _ _ h Z (lv_sub hl [] rfl)
/-! X4_sign -/
abbrev rmX4_sign : Room := { frames := 1, cells := 0, slots := 0, locals := 22 }
theorem kX4_sign_c66 : Cond.constant RX4 66 (2000000) ∈ wsX4_sign := by decide +kernel
def mX4_sign_29 (N : Nat) (th : Int32) (df : Int32) (dr : Nat → Int32) (s0 : Int32) : Option (Int32 × Int32 × Int32 × (Nat → Int32)) := some (s0, th, df, dr)
def mX4_sign (N : Nat) (th : Int32) (df : Int32) (dr : Nat → Int32) (p0 : Int32) : Option (Int32 × Int32 × Int32 × (Nat → Int32)) := ((mX4_in N p0 (0 : Int32) (5 : Int32)).bind fun x1 => ((mX4_errorOfSign N df x1).bind fun x3 => ((mX4_holds N th x3).bind fun x5 => (if x5.1 = 0 then mX4_sign_29 N x5.2 df dr (0 : Int32) else ((mX4_writes N df dr ((2000000 : Int32) + p0)).bind fun x7 => mX4_sign_29 N x5.2 x7.2.1 x7.2.2 x7.1)))))
set_option maxRecDepth 20000 in
set_option maxHeartbeats 4000000 in
theorem wX4_sign_29 {p : Program} {l : Launch} {e : Env} {s : State} {m : MethodId} {args : Array Value} {below : List Frame} {meth : Method} {c : Code} {Q : State → Prop} {D : va_G} {cyI cyJ cyO : ClassId} {A : Nat → Prop} {bs : Nat} {a : Nat → Nat} {Y : va_W} {la : Int32} {fo : Int32} {he : Int32} {wt : Int32} {br : Int32} {fm : Nat → Int32} {sz : Nat → Int32} {om : Nat → Int32} {os : Nat → Int32} {st : Nat → Int32} {wa : Nat → Int32} {va : Nat → Int64} {sk : Nat → Int64} {N : Nat} {res : Int32 × Int32 × Int32 × (Nat → Int32)} (C0 : gC p m meth c cX4_sign 2 (some .int) s args wsX4_sign RX4) (hret : ∀ (r : Int32) (th_r : Int32) (df_r : Int32) (dr_r : Nat → Int32) (H : Heap) (locs : List Loc) (pc : Nat) (ls : Array Slot), some (r, th_r, df_r, dr_r) = some res → gZ D (gT cyI cyJ cyO) (XM a cyI cyJ th_r df_r la fo he wt br dr_r fm sz om os st wa va sk ++ Y) A bs s H locs → decode cX4_sign pc = .ok (.ireturn, 1) → W p l e rmX4_sign s m args below meth c H locs 0 0 Q (F0 m pc ls [.int r]))  : ∀ (th : Int32) (df : Int32) (dr : Nat → Int32) (s0 : Int32) (H : Heap) (locs : List Loc) (ls : Array Slot), mX4_sign_29 N th df dr s0 = some res → gZ D (gT cyI cyJ cyO) (XM a cyI cyJ th df la fo he wt br dr fm sz om os st wa va sk ++ Y) A bs s H locs → lv_has ls 2 [] → W p l e rmX4_sign s m args below meth c H locs 0 0 Q (F0 m 29 ls [.int s0]) := by
  intro th df dr s0 H locs ls h Z hl
  unfold mX4_sign_29 at h
  exact hret s0 th df dr _ _ _ _ h Z dX4_sign_29
set_option maxRecDepth 20000 in
set_option maxHeartbeats 4000000 in
theorem zX4_sign (l : Launch) (D : va_G) (cyI cyJ cyO : ClassId) (A : Nat → Prop) (bs : Nat) (hA : ∀ q, bs ≤ q → A q) (a : Nat → Nat) (Y : va_W) (th : Int32) (df : Int32) (la : Int32) (fo : Int32) (he : Int32) (wt : Int32) (br : Int32) (dr : Nat → Int32) (fm : Nat → Int32) (sz : Nat → Int32) (om : Nat → Int32) (os : Nat → Int32) (st : Nat → Int32) (wa : Nat → Int32) (va : Nat → Int64) (sk : Nat → Int64) (N : Nat) (p0 : Int32) (res : Int32 × Int32 × Int32 × (Nat → Int32)) (h : mX4_sign N th df dr p0 = some res) : Met l yX4_sign wsX4_sign rmX4_sign (va_Pc [.ref (a 0), .int p0] (gW D (gT cyI cyJ cyO) (XM a cyI cyJ th df la fo he wt br dr fm sz om os st wa va sk ++ Y) A bs)) (va_Qi (fun (r : Int32) (u : Int32 × Int32 × (Nat → Int32)) => res.1 = r ∧ res.2 = u) (fun (u : Int32 × Int32 × (Nat → Int32)) U => gW D (gT cyI cyJ cyO) (XM a cyI cyJ u.1 u.2.1 la fo he wt br u.2.2 fm sz om os st wa va sk ++ Y) A bs U) A) 0 0 A := by
  refine Met.ofW (cc := cX4_sign) (maxL := 2) (ret := (some .int)) (by decide) rfl ?_
  intro p e s m args below meth c s₁ B hml hv
  obtain ⟨hav, hv⟩ := hv
  have C0 : gC p m meth c cX4_sign 2 (some .int) s args wsX4_sign RX4 := ⟨⟨B.exec, B.bytes, hml, findClass_of_methodNamed B.named, atoms_spec (ws := wsX4_sign) B.pre⟩, B.returns, B.notSynchronized⟩
  have Z := g_start hA hv
  have hret : ∀ (r : Int32) (th_r : Int32) (df_r : Int32) (dr_r : Nat → Int32) (H : Heap) (locs : List Loc) (pc : Nat) (ls : Array Slot), some (r, th_r, df_r, dr_r) = some res → gZ D (gT cyI cyJ cyO) (XM a cyI cyJ th_r df_r la fo he wt br dr_r fm sz om os st wa va sk ++ Y) A bs s H locs → decode cX4_sign pc = .ok (.ireturn, 1) → W p l e rmX4_sign s m args below meth c H locs 0 0 (MQ below (va_Qi (fun (r : Int32) (u : Int32 × Int32 × (Nat → Int32)) => res.1 = r ∧ res.2 = u) (fun (u : Int32 × Int32 × (Nat → Int32)) U => gW D (gT cyI cyJ cyO) (XM a cyI cyJ u.1 u.2.1 la fo he wt br u.2.2 fm sz om os st wa va sk ++ Y) A bs U) A) args s 0 0 A) (F0 m pc ls [.int r]) := by
    intro r th_r df_r dr_r H locs pc ls h Z hd
    replace h := Option.some.inj h
    exact W.iret C0.1.1 C0.1.2.1 C0.2.1 (fun t ht hW => ⟨⟨r, (th_r, df_r, dr_r), rfl, ⟨congrArg Prod.fst h.symm, congrArg Prod.snd h.symm⟩, g_end Z ht hW⟩, Z.2.2.2.1.F ht⟩) Z.2.2.2.1.2.2 hd C0.2.2
  have hl := lv_entry ([.ref (a 0), .int p0]) (n := 2) (Nat.le_of_ble_eq_true rfl)
  rw [hav, lg_entry_eq]
  generalize (lg_sl ([.ref (a 0), .int p0]) ++ List.replicate (2 - (lg_sl ([.ref (a 0), .int p0])).length) Slot.unset).toArray = ls at hl ⊢
  have hl : lv_has ls 2 [(0, .ref (a 0)), (1, .int p0)] := hl
  rw [← hav]
  unfold mX4_sign at h
  refine lv_aload_n C0.1.1 C0.1.2.1 dX4_sign_0 rfl (lv_at hl 0 rfl) ?_
  refine lv_aload_n C0.1.1 C0.1.2.1 dX4_sign_1 rfl (lv_at hl 0 rfl) ?_
  refine lv_iload_n C0.1.1 C0.1.2.1 dX4_sign_2 rfl (lv_at hl 1 rfl) ?_
  refine lv_iconst (v := 0) C0.1.1 C0.1.2.1 dX4_sign_3 (by decide) ?_
  refine lv_iconst (v := 5) C0.1.1 C0.1.2.1 dX4_sign_4 (by decide) ?_
  obtain ⟨x1, hx2, h⟩ := g_bd h
  refine g_callSi (As := [.int p0, .int (0 : Int32), .int (5 : Int32)]) (rest := [.ref (a 0), .ref (a 0)]) (ws' := (fun (u : Unit) => (XM a cyI cyJ th df la fo he wt br dr fm sz om os st wa va sk ++ Y))) C0.1 Z (zX4_in l D cyI cyJ cyO A bs Z.2.2.2.2.2 (XM a cyI cyJ th df la fo he wt br dr fm sz om os st wa va sk ++ Y) N p0 (0 : Int32) (5 : Int32) x1 hx2) (va_cwS 3 C0.1.2.2.2.2 gX4_sign_X4_in rfl rfl rfl (by decide +kernel) ⟨Nat.le_of_ble_eq_true rfl, Nat.le_of_ble_eq_true rfl⟩) rfl hl.1 rfl (Nat.le_of_ble_eq_true rfl) dX4_sign_5 ⟨Nat.zero_le _, Nat.zero_le _⟩ (fun r u H locs hw Z => ?_)
  subst hw
  obtain ⟨x3, hx4, h⟩ := g_bd h
  refine g_callVi (b := a 0) (As := [.int x1]) (rest := [.ref (a 0)]) (ws' := (fun (u : Unit) => (XM a cyI cyJ th df la fo he wt br dr fm sz om os st wa va sk ++ Y))) C0.1 Z (zX4_errorOfSign l D cyI cyJ cyO A bs Z.2.2.2.2.2 a Y th df la fo he wt br dr fm sz om os st wa va sk N x1 x3 hx4) (cwV 1 C0.1.2.2.2.2 gX4_sign_X4_errorOfSign rfl rfl rfl (by decide +kernel) ⟨Nat.le_of_ble_eq_true rfl, Nat.le_of_ble_eq_true rfl⟩) 0 (ci := 6) rfl rfl rfl rfl hl.1 rfl (Nat.le_of_ble_eq_true rfl) dX4_sign_8 ⟨Nat.zero_le _, Nat.zero_le _⟩ (fun r u H locs hw Z => ?_)
  subst hw
  obtain ⟨x5, hx6, h⟩ := g_bd h
  refine g_callVi (b := a 0) (As := [.int x3]) (rest := []) (ws' := (fun (u : Int32) => (XM a cyI cyJ u df la fo he wt br dr fm sz om os st wa va sk ++ Y))) C0.1 Z (zX4_holds l D cyI cyJ cyO A bs Z.2.2.2.2.2 a Y th df la fo he wt br dr fm sz om os st wa va sk N x3 x5 hx6) (cwV 1 C0.1.2.2.2.2 gX4_sign_X4_holds rfl rfl rfl (by decide +kernel) ⟨Nat.le_of_ble_eq_true rfl, Nat.le_of_ble_eq_true rfl⟩) 0 (ci := 6) rfl rfl rfl rfl hl.1 rfl (Nat.le_of_ble_eq_true rfl) dX4_sign_11 ⟨Nat.zero_le _, Nat.zero_le _⟩ (fun r u H locs hw Z => ?_)
  obtain ⟨rfl, rfl⟩ := hw
  refine lv_if_eq (tgt := 28) C0.1.1 C0.1.2.1 dX4_sign_14 (by decide) (fun hc => ?_) (fun hc => ?_)
  · replace h := (if_pos hc).symm.trans h
    refine lv_iconst (v := 0) C0.1.1 C0.1.2.1 dX4_sign_28 (by decide) ?_
    exact wX4_sign_29 (N := N) C0 hret x5.2 df dr (0 : Int32) _ _ _ h Z (lv_sub hl [] rfl)
  · replace h := (if_neg hc).symm.trans h
    refine lv_aload_n C0.1.1 C0.1.2.1 dX4_sign_17 rfl (lv_at hl 0 rfl) ?_
    refine lv_ldc C0.1.1 C0.1.2.1 C0.1.2.2.2.1 (C0.1.2.2.2.2 _ kX4_sign_c66) dX4_sign_18 ?_
    refine lv_iload_n C0.1.1 C0.1.2.1 dX4_sign_20 rfl (lv_at hl 1 rfl) ?_
    refine lv_iadd C0.1.1 C0.1.2.1 dX4_sign_21 ?_
    obtain ⟨x7, hx8, h⟩ := g_bd h
    refine g_callVi (b := a 0) (As := [.int ((2000000 : Int32) + p0)]) (rest := []) (ws' := (fun (u : Int32 × (Nat → Int32)) => (XM a cyI cyJ x5.2 u.1 la fo he wt br u.2 fm sz om os st wa va sk ++ Y))) C0.1 Z (zX4_writes l D cyI cyJ cyO A bs Z.2.2.2.2.2 a Y x5.2 df la fo he wt br dr fm sz om os st wa va sk N ((2000000 : Int32) + p0) x7 hx8) (cwV 1 C0.1.2.2.2.2 gX4_sign_X4_writes rfl rfl rfl (by decide +kernel) ⟨Nat.le_of_ble_eq_true rfl, Nat.le_of_ble_eq_true rfl⟩) 0 (ci := 6) rfl rfl rfl rfl hl.1 rfl (Nat.le_of_ble_eq_true rfl) dX4_sign_22 ⟨Nat.zero_le _, Nat.zero_le _⟩ (fun r u H locs hw Z => ?_)
    obtain ⟨rfl, rfl⟩ := hw
    refine lv_goto (tgt := 29) C0.1.1 C0.1.2.1 dX4_sign_25 (by decide) ?_
    exact wX4_sign_29 (N := N) C0 hret x5.2 x7.2.1 x7.2.2 x7.1 _ _ _ h Z (lv_sub hl [] rfl)
/-! X4_wipe -/
abbrev rmX4_wipe : Room := { frames := 0, cells := 0, slots := 0, locals := 0 }
theorem kX4_wipe_f38 : Cond.fieldLink RX4 38 "GoalseekOfficeModel" "thrown" "I" ∈ wsX4_wipe := by decide +kernel
theorem kX4_wipe_in : ∀ w ∈ wsX40, w ∈ wsX4_wipe := by decide +kernel
theorem kX4_wipe_f46 : Cond.fieldLink RX4 46 "GoalseekOfficeModel" "drafted" "I" ∈ wsX4_wipe := by decide +kernel
def mX4_wipe (N : Nat) (th : Int32) (df : Int32) : Option (Int32 × Int32 × Int32) := some (df, (0 : Int32), (0 : Int32))
set_option maxRecDepth 20000 in
set_option maxHeartbeats 4000000 in
theorem zX4_wipe (l : Launch) (D : va_G) (cyI cyJ cyO : ClassId) (A : Nat → Prop) (bs : Nat) (hA : ∀ q, bs ≤ q → A q) (a : Nat → Nat) (Y : va_W) (th : Int32) (df : Int32) (la : Int32) (fo : Int32) (he : Int32) (wt : Int32) (br : Int32) (dr : Nat → Int32) (fm : Nat → Int32) (sz : Nat → Int32) (om : Nat → Int32) (os : Nat → Int32) (st : Nat → Int32) (wa : Nat → Int32) (va : Nat → Int64) (sk : Nat → Int64) (N : Nat)  (res : Int32 × Int32 × Int32) (h : mX4_wipe N th df = some res) : Met l yX4_wipe wsX4_wipe rmX4_wipe (va_Pc [.ref (a 0)] (gW D (gT cyI cyJ cyO) (XM a cyI cyJ th df la fo he wt br dr fm sz om os st wa va sk ++ Y) A bs)) (va_Qi (fun (r : Int32) (u : Int32 × Int32) => res.1 = r ∧ res.2 = u) (fun (u : Int32 × Int32) U => gW D (gT cyI cyJ cyO) (XM a cyI cyJ u.1 u.2 la fo he wt br dr fm sz om os st wa va sk ++ Y) A bs U) A) 0 0 A := by
  refine Met.ofW (cc := cX4_wipe) (maxL := 2) (ret := (some .int)) (by decide) rfl ?_
  intro p e s m args below meth c s₁ B hml hv
  obtain ⟨hav, hv⟩ := hv
  have C0 : gC p m meth c cX4_wipe 2 (some .int) s args wsX4_wipe RX4 := ⟨⟨B.exec, B.bytes, hml, findClass_of_methodNamed B.named, atoms_spec (ws := wsX4_wipe) B.pre⟩, B.returns, B.notSynchronized⟩
  have Z := g_start hA hv
  have hret : ∀ (r : Int32) (th_r : Int32) (df_r : Int32) (H : Heap) (locs : List Loc) (pc : Nat) (ls : Array Slot), some (r, th_r, df_r) = some res → gZ D (gT cyI cyJ cyO) (XM a cyI cyJ th_r df_r la fo he wt br dr fm sz om os st wa va sk ++ Y) A bs s H locs → decode cX4_wipe pc = .ok (.ireturn, 1) → W p l e rmX4_wipe s m args below meth c H locs 0 0 (MQ below (va_Qi (fun (r : Int32) (u : Int32 × Int32) => res.1 = r ∧ res.2 = u) (fun (u : Int32 × Int32) U => gW D (gT cyI cyJ cyO) (XM a cyI cyJ u.1 u.2 la fo he wt br dr fm sz om os st wa va sk ++ Y) A bs U) A) args s 0 0 A) (F0 m pc ls [.int r]) := by
    intro r th_r df_r H locs pc ls h Z hd
    replace h := Option.some.inj h
    exact W.iret C0.1.1 C0.1.2.1 C0.2.1 (fun t ht hW => ⟨⟨r, (th_r, df_r), rfl, ⟨congrArg Prod.fst h.symm, congrArg Prod.snd h.symm⟩, g_end Z ht hW⟩, Z.2.2.2.1.F ht⟩) Z.2.2.2.1.2.2 hd C0.2.2
  have hl := lv_entry ([.ref (a 0)]) (n := 2) (Nat.le_of_ble_eq_true rfl)
  rw [hav, lg_entry_eq]
  generalize (lg_sl ([.ref (a 0)]) ++ List.replicate (2 - (lg_sl ([.ref (a 0)])).length) Slot.unset).toArray = ls at hl ⊢
  have hl : lv_has ls 2 [(0, .ref (a 0))] := hl
  rw [← hav]
  unfold mX4_wipe at h
  refine lv_aload_n C0.1.1 C0.1.2.1 dX4_wipe_0 rfl (lv_at hl 0 rfl) ?_
  refine lv_iconst (v := 0) C0.1.1 C0.1.2.1 dX4_wipe_1 (by decide) ?_
  refine g_put (ci := 6) (v := .int (0 : Int32)) (T := TX4) (N := 16) (ws' := (XM a cyI cyJ (0 : Int32) df la fo he wt br dr fm sz om os st wa va sk ++ Y)) C0.1 Z 0 rfl rfl 0 (by decide) kX4_wipe_in kX4_wipe_f38 rfl tyX4 tyX4_ok nmX4 rfl rfl rfl (Nat.le_of_ble_eq_true rfl) dX4_wipe_2 rfl (fun H locs Z => ?_)
  refine lv_aload_n C0.1.1 C0.1.2.1 dX4_wipe_5 rfl (lv_at hl 0 rfl) ?_
  refine g_get (ci := 6) (v := .int df) (T := TX4) (N := 16) C0.1 Z 0 rfl rfl 2 (by decide) kX4_wipe_in kX4_wipe_f46 rfl rfl dX4_wipe_6 ?_
  refine lv_istore_n (lv' := [(1, .int df), (0, .ref (a 0))]) C0.1.1 C0.1.2.1 dX4_wipe_9 rfl hl (by decide) rfl (fun ls hl => ?_)
  refine lv_aload_n C0.1.1 C0.1.2.1 dX4_wipe_10 rfl (lv_at hl 1 rfl) ?_
  refine lv_iconst (v := 0) C0.1.1 C0.1.2.1 dX4_wipe_11 (by decide) ?_
  refine g_put (ci := 6) (v := .int (0 : Int32)) (T := TX4) (N := 16) (ws' := (XM a cyI cyJ (0 : Int32) (0 : Int32) la fo he wt br dr fm sz om os st wa va sk ++ Y)) C0.1 Z 0 rfl rfl 2 (by decide) kX4_wipe_in kX4_wipe_f46 rfl tyX4 tyX4_ok nmX4 rfl rfl rfl (Nat.le_of_ble_eq_true rfl) dX4_wipe_12 rfl (fun H locs Z => ?_)
  refine lv_iload_n C0.1.1 C0.1.2.1 dX4_wipe_15 rfl (lv_at hl 0 rfl) ?_
  exact hret df (0 : Int32) (0 : Int32) _ _ _ _ h Z dX4_wipe_16
/-! X4_faultOf -/
abbrev rmX4_faultOf : Room := { frames := 0, cells := 0, slots := 0, locals := 0 }
theorem kX4_faultOf_f46 : Cond.fieldLink RX4 46 "GoalseekOfficeModel" "drafted" "I" ∈ wsX4_faultOf := by decide +kernel
theorem kX4_faultOf_in : ∀ w ∈ wsX40, w ∈ wsX4_faultOf := by decide +kernel
theorem kX4_faultOf_f7 : Cond.fieldLink RX4 7 "GoalseekOfficeModel" "draft" "[I" ∈ wsX4_faultOf := by decide +kernel
theorem kX4_faultOf_c66 : Cond.constant RX4 66 (2000000) ∈ wsX4_faultOf := by decide +kernel
def mX4_faultOf_177 (N : Nat) (df : Int32) (dr : Nat → Int32) (s0 : Int32) : Option (Int32) := some (s0)
def mX4_faultOf_173 (N : Nat) (df : Int32) (dr : Nat → Int32) : Option (Int32) := mX4_faultOf_177 N df dr df
def mX4_faultOf_154 (N : Nat) (df : Int32) (dr : Nat → Int32) (r6 : Int32 → Int32 → Int32 → Option (Int32)) (v1 : Int32) (v3 : Int32) (s0 : Int32) : Option (Int32) := r6 v1 s0 (v3 + (1 : Int32))
def mX4_faultOf_149 (N : Nat) (df : Int32) (dr : Nat → Int32) (r6 : Int32 → Int32 → Int32 → Option (Int32)) (v1 : Int32) (v3 : Int32) : Option (Int32) := mX4_faultOf_154 N df dr r6 v1 v3 (1 : Int32)
def mX4_faultOf_135 (N : Nat) (df : Int32) (dr : Nat → Int32) (r6 : Int32 → Int32 → Int32 → Option (Int32)) (v3 : Int32) (v4 : Int32) (s0 : Int32) (s1 : Int32) : Option (Int32) := (if v4 = (-1 : Int32) then mX4_faultOf_149 N df dr r6 (s0 + s1) v3 else (if v4 = (5 : Int32) then mX4_faultOf_149 N df dr r6 (s0 + s1) v3 else mX4_faultOf_154 N df dr r6 (s0 + s1) v3 (0 : Int32)))
def mX4_faultOf_113 (N : Nat) (df : Int32) (dr : Nat → Int32) (r6 : Int32 → Int32 → Int32 → Option (Int32)) (v1 : Int32) (v3 : Int32) (v4 : Int32) : Option (Int32) := (if v4 = (4 : Int32) then mX4_faultOf_135 N df dr r6 v3 v4 v1 (1 : Int32) else (if v4 = (5 : Int32) then mX4_faultOf_135 N df dr r6 v3 v4 v1 (-1 : Int32) else mX4_faultOf_135 N df dr r6 v3 v4 v1 (0 : Int32)))
def mX4_faultOf_111 (N : Nat) (df : Int32) (dr : Nat → Int32) (v3 : Int32) : Option (Int32) := some (v3)
def mX4_faultOf_92 (N : Nat) (df : Int32) (dr : Nat → Int32) (r6 : Int32 → Int32 → Int32 → Option (Int32)) (v1 : Int32) (v2 : Int32) (v3 : Int32) (v4 : Int32) (v5 : Int32) (s0 : Int32) : Option (Int32) := (if v2 = 0 then (if v5 = 0 then mX4_faultOf_111 N df dr v3 else mX4_faultOf_113 N df dr r6 v1 v3 v4) else (if s0 = 0 then mX4_faultOf_111 N df dr v3 else mX4_faultOf_113 N df dr r6 v1 v3 v4))
def mX4_faultOf_91 (N : Nat) (df : Int32) (dr : Nat → Int32) (r6 : Int32 → Int32 → Int32 → Option (Int32)) (v1 : Int32) (v2 : Int32) (v3 : Int32) (v4 : Int32) (v5 : Int32) : Option (Int32) := mX4_faultOf_92 N df dr r6 v1 v2 v3 v4 v5 (0 : Int32)
def mX4_faultOf_87 (N : Nat) (df : Int32) (dr : Nat → Int32) (r6 : Int32 → Int32 → Int32 → Option (Int32)) (v1 : Int32) (v2 : Int32) (v3 : Int32) (v4 : Int32) (v5 : Int32) : Option (Int32) := mX4_faultOf_92 N df dr r6 v1 v2 v3 v4 v5 (1 : Int32)
def mX4_faultOf_63 (N : Nat) (df : Int32) (dr : Nat → Int32) (r6 : Int32 → Int32 → Int32 → Option (Int32)) (v1 : Int32) (v2 : Int32) (v3 : Int32) (v4 : Int32) (s0 : Int32) : Option (Int32) := (if v4 = (-1 : Int32) then mX4_faultOf_91 N df dr r6 v1 v2 v3 v4 s0 else (if v4 = (4 : Int32) then mX4_faultOf_91 N df dr r6 v1 v2 v3 v4 s0 else (if v4 = (5 : Int32) then (if v1 ≤ 0 then mX4_faultOf_91 N df dr r6 v1 v2 v3 v4 s0 else mX4_faultOf_87 N df dr r6 v1 v2 v3 v4 s0) else mX4_faultOf_87 N df dr r6 v1 v2 v3 v4 s0)))
def mX4_faultOf_58 (N : Nat) (df : Int32) (dr : Nat → Int32) (r6 : Int32 → Int32 → Int32 → Option (Int32)) (v1 : Int32) (v2 : Int32) (v3 : Int32) (v4 : Int32) : Option (Int32) := mX4_faultOf_63 N df dr r6 v1 v2 v3 v4 (1 : Int32)
def mX4_faultOf_38 (N : Nat) (df : Int32) (dr : Nat → Int32) (r6 : Int32 → Int32 → Int32 → Option (Int32)) (v1 : Int32) (v2 : Int32) (v3 : Int32) (s0 : Int32) : Option (Int32) := (if s0 = (-1 : Int32) then mX4_faultOf_58 N df dr r6 v1 v2 v3 s0 else (if s0 = (4 : Int32) then mX4_faultOf_58 N df dr r6 v1 v2 v3 s0 else (if s0 = (1 : Int32) then mX4_faultOf_58 N df dr r6 v1 v2 v3 s0 else mX4_faultOf_63 N df dr r6 v1 v2 v3 s0 (0 : Int32))))
def mX4_faultOf_6_b (N : Nat) (df : Int32) (dr : Nat → Int32) (r6 : Int32 → Int32 → Int32 → Option (Int32)) (v1 : Int32) (v2 : Int32) (v3 : Int32) : Option (Int32) := (if df ≤ v3 then (if v2 = 0 then mX4_faultOf_173 N df dr else (if v1 = 0 then mX4_faultOf_177 N df dr (-1 : Int32) else mX4_faultOf_173 N df dr)) else (if v3 < 0 ∨ 15 ≤ v3.toNatClampNeg then none else (if (2000000 : Int32) ≤ (dr v3.toNatClampNeg) then (if v3 < 0 ∨ 15 ≤ v3.toNatClampNeg then none else mX4_faultOf_38 N df dr r6 v1 v2 v3 ((dr v3.toNatClampNeg) - (2000000 : Int32))) else mX4_faultOf_38 N df dr r6 v1 v2 v3 (-1 : Int32))))
def mX4_faultOf_6 (N : Nat) (df : Int32) (dr : Nat → Int32) : Nat → Int32 → Int32 → Int32 → Option (Int32)
  | 0 => fun _ _ _ => none
  | n + 1 => fun v1 v2 v3 => mX4_faultOf_6_b N df dr (mX4_faultOf_6 N df dr n) v1 v2 v3
def mX4_faultOf (N : Nat) (df : Int32) (dr : Nat → Int32) : Option (Int32) := mX4_faultOf_6 N df dr N (0 : Int32) (0 : Int32) (0 : Int32)
set_option maxRecDepth 20000 in
set_option maxHeartbeats 4000000 in
theorem wX4_faultOf_177 {p : Program} {l : Launch} {e : Env} {s : State} {m : MethodId} {args : Array Value} {below : List Frame} {meth : Method} {c : Code} {Q : State → Prop} {D : va_G} {cyI cyJ cyO : ClassId} {A : Nat → Prop} {bs : Nat} {a : Nat → Nat} {Y : va_W} {th : Int32} {df : Int32} {la : Int32} {fo : Int32} {he : Int32} {wt : Int32} {br : Int32} {dr : Nat → Int32} {fm : Nat → Int32} {sz : Nat → Int32} {om : Nat → Int32} {os : Nat → Int32} {st : Nat → Int32} {wa : Nat → Int32} {va : Nat → Int64} {sk : Nat → Int64} {N : Nat} {res : Int32} (C0 : gC p m meth c cX4_faultOf 7 (some .int) s args wsX4_faultOf RX4) (hret : ∀ (r : Int32) (H : Heap) (locs : List Loc) (pc : Nat) (ls : Array Slot), some r = some res → gZ D (gT cyI cyJ cyO) (XM a cyI cyJ th df la fo he wt br dr fm sz om os st wa va sk ++ Y) A bs s H locs → decode cX4_faultOf pc = .ok (.ireturn, 1) → W p l e rmX4_faultOf s m args below meth c H locs 0 0 Q (F0 m pc ls [.int r]))  : ∀ (s0 : Int32) (H : Heap) (locs : List Loc) (ls : Array Slot), mX4_faultOf_177 N df dr s0 = some res → gZ D (gT cyI cyJ cyO) (XM a cyI cyJ th df la fo he wt br dr fm sz om os st wa va sk ++ Y) A bs s H locs → lv_has ls 7 [] → W p l e rmX4_faultOf s m args below meth c H locs 0 0 Q (F0 m 177 ls [.int s0]) := by
  intro s0 H locs ls h Z hl
  unfold mX4_faultOf_177 at h
  exact hret s0 _ _ _ _ h Z dX4_faultOf_177
set_option maxRecDepth 20000 in
set_option maxHeartbeats 4000000 in
theorem wX4_faultOf_173 {p : Program} {l : Launch} {e : Env} {s : State} {m : MethodId} {args : Array Value} {below : List Frame} {meth : Method} {c : Code} {Q : State → Prop} {D : va_G} {cyI cyJ cyO : ClassId} {A : Nat → Prop} {bs : Nat} {a : Nat → Nat} {Y : va_W} {th : Int32} {df : Int32} {la : Int32} {fo : Int32} {he : Int32} {wt : Int32} {br : Int32} {dr : Nat → Int32} {fm : Nat → Int32} {sz : Nat → Int32} {om : Nat → Int32} {os : Nat → Int32} {st : Nat → Int32} {wa : Nat → Int32} {va : Nat → Int64} {sk : Nat → Int64} {N : Nat} {res : Int32} (C0 : gC p m meth c cX4_faultOf 7 (some .int) s args wsX4_faultOf RX4) (hret : ∀ (r : Int32) (H : Heap) (locs : List Loc) (pc : Nat) (ls : Array Slot), some r = some res → gZ D (gT cyI cyJ cyO) (XM a cyI cyJ th df la fo he wt br dr fm sz om os st wa va sk ++ Y) A bs s H locs → decode cX4_faultOf pc = .ok (.ireturn, 1) → W p l e rmX4_faultOf s m args below meth c H locs 0 0 Q (F0 m pc ls [.int r]))  : ∀ (H : Heap) (locs : List Loc) (ls : Array Slot), mX4_faultOf_173 N df dr = some res → gZ D (gT cyI cyJ cyO) (XM a cyI cyJ th df la fo he wt br dr fm sz om os st wa va sk ++ Y) A bs s H locs → lv_has ls 7 [(0, .ref (a 0))] → W p l e rmX4_faultOf s m args below meth c H locs 0 0 Q (F0 m 173 ls []) := by
  intro  H locs ls h Z hl
  unfold mX4_faultOf_173 at h
  refine lv_aload_n C0.1.1 C0.1.2.1 dX4_faultOf_173 rfl (lv_at hl 0 rfl) ?_
  refine g_get (ci := 6) (v := .int df) (T := TX4) (N := 16) C0.1 Z 0 rfl rfl 2 (by decide) kX4_faultOf_in kX4_faultOf_f46 rfl rfl dX4_faultOf_174 ?_
  exact wX4_faultOf_177 (N := N) C0 hret df _ _ _ h Z (lv_sub hl [] rfl)
set_option maxRecDepth 20000 in
set_option maxHeartbeats 4000000 in
theorem wX4_faultOf_154 {p : Program} {l : Launch} {e : Env} {s : State} {m : MethodId} {args : Array Value} {below : List Frame} {meth : Method} {c : Code} {Q : State → Prop} {D : va_G} {cyI cyJ cyO : ClassId} {A : Nat → Prop} {bs : Nat} {a : Nat → Nat} {Y : va_W} {th : Int32} {df : Int32} {la : Int32} {fo : Int32} {he : Int32} {wt : Int32} {br : Int32} {dr : Nat → Int32} {fm : Nat → Int32} {sz : Nat → Int32} {om : Nat → Int32} {os : Nat → Int32} {st : Nat → Int32} {wa : Nat → Int32} {va : Nat → Int64} {sk : Nat → Int64} {N : Nat} {res : Int32} (C0 : gC p m meth c cX4_faultOf 7 (some .int) s args wsX4_faultOf RX4) (hret : ∀ (r : Int32) (H : Heap) (locs : List Loc) (pc : Nat) (ls : Array Slot), some r = some res → gZ D (gT cyI cyJ cyO) (XM a cyI cyJ th df la fo he wt br dr fm sz om os st wa va sk ++ Y) A bs s H locs → decode cX4_faultOf pc = .ok (.ireturn, 1) → W p l e rmX4_faultOf s m args below meth c H locs 0 0 Q (F0 m pc ls [.int r])) {r6 : Int32 → Int32 → Int32 → Option (Int32)} (hr6 : ∀ (v1 : Int32) (v2 : Int32) (v3 : Int32) (H : Heap) (locs : List Loc) (ls : Array Slot), r6 v1 v2 v3 = some res → gZ D (gT cyI cyJ cyO) (XM a cyI cyJ th df la fo he wt br dr fm sz om os st wa va sk ++ Y) A bs s H locs → lv_has ls 7 [(0, .ref (a 0)), (1, .int v1), (2, .int v2), (3, .int v3)] → W p l e rmX4_faultOf s m args below meth c H locs 0 0 Q (F0 m 6 ls [])) : ∀ (v1 : Int32) (v3 : Int32) (s0 : Int32) (H : Heap) (locs : List Loc) (ls : Array Slot), mX4_faultOf_154 N df dr r6 v1 v3 s0 = some res → gZ D (gT cyI cyJ cyO) (XM a cyI cyJ th df la fo he wt br dr fm sz om os st wa va sk ++ Y) A bs s H locs → lv_has ls 7 [(0, .ref (a 0)), (1, .int v1), (3, .int v3)] → W p l e rmX4_faultOf s m args below meth c H locs 0 0 Q (F0 m 154 ls [.int s0]) := by
  intro v1 v3 s0 H locs ls h Z hl
  unfold mX4_faultOf_154 at h
  refine lv_istore_n (lv' := [(2, .int s0), (0, .ref (a 0)), (1, .int v1), (3, .int v3)]) C0.1.1 C0.1.2.1 dX4_faultOf_154 rfl hl (by decide) rfl (fun ls hl => ?_)
  refine lv_iinc (v := v3 + (1 : Int32)) (lv' := [(3, .int (v3 + (1 : Int32))), (2, .int s0), (0, .ref (a 0)), (1, .int v1)]) C0.1.1 C0.1.2.1 dX4_faultOf_155 hl (k := 3) rfl rfl (by decide) rfl (fun ls hl => ?_)
  refine lv_goto (tgt := 6) C0.1.1 C0.1.2.1 dX4_faultOf_158 (by decide) ?_
  exact hr6 v1 s0 (v3 + (1 : Int32)) _ _ _ h Z (lv_sub hl [2, 3, 1, 0] rfl)
set_option maxRecDepth 20000 in
set_option maxHeartbeats 4000000 in
theorem wX4_faultOf_149 {p : Program} {l : Launch} {e : Env} {s : State} {m : MethodId} {args : Array Value} {below : List Frame} {meth : Method} {c : Code} {Q : State → Prop} {D : va_G} {cyI cyJ cyO : ClassId} {A : Nat → Prop} {bs : Nat} {a : Nat → Nat} {Y : va_W} {th : Int32} {df : Int32} {la : Int32} {fo : Int32} {he : Int32} {wt : Int32} {br : Int32} {dr : Nat → Int32} {fm : Nat → Int32} {sz : Nat → Int32} {om : Nat → Int32} {os : Nat → Int32} {st : Nat → Int32} {wa : Nat → Int32} {va : Nat → Int64} {sk : Nat → Int64} {N : Nat} {res : Int32} (C0 : gC p m meth c cX4_faultOf 7 (some .int) s args wsX4_faultOf RX4) (hret : ∀ (r : Int32) (H : Heap) (locs : List Loc) (pc : Nat) (ls : Array Slot), some r = some res → gZ D (gT cyI cyJ cyO) (XM a cyI cyJ th df la fo he wt br dr fm sz om os st wa va sk ++ Y) A bs s H locs → decode cX4_faultOf pc = .ok (.ireturn, 1) → W p l e rmX4_faultOf s m args below meth c H locs 0 0 Q (F0 m pc ls [.int r])) {r6 : Int32 → Int32 → Int32 → Option (Int32)} (hr6 : ∀ (v1 : Int32) (v2 : Int32) (v3 : Int32) (H : Heap) (locs : List Loc) (ls : Array Slot), r6 v1 v2 v3 = some res → gZ D (gT cyI cyJ cyO) (XM a cyI cyJ th df la fo he wt br dr fm sz om os st wa va sk ++ Y) A bs s H locs → lv_has ls 7 [(0, .ref (a 0)), (1, .int v1), (2, .int v2), (3, .int v3)] → W p l e rmX4_faultOf s m args below meth c H locs 0 0 Q (F0 m 6 ls [])) : ∀ (v1 : Int32) (v3 : Int32) (H : Heap) (locs : List Loc) (ls : Array Slot), mX4_faultOf_149 N df dr r6 v1 v3 = some res → gZ D (gT cyI cyJ cyO) (XM a cyI cyJ th df la fo he wt br dr fm sz om os st wa va sk ++ Y) A bs s H locs → lv_has ls 7 [(0, .ref (a 0)), (1, .int v1), (3, .int v3)] → W p l e rmX4_faultOf s m args below meth c H locs 0 0 Q (F0 m 149 ls []) := by
  intro v1 v3 H locs ls h Z hl
  unfold mX4_faultOf_149 at h
  refine lv_iconst (v := 1) C0.1.1 C0.1.2.1 dX4_faultOf_149 (by decide) ?_
  refine lv_goto (tgt := 154) C0.1.1 C0.1.2.1 dX4_faultOf_150 (by decide) ?_
  exact wX4_faultOf_154 (N := N) C0 hret hr6 v1 v3 (1 : Int32) _ _ _ h Z (lv_sub hl [0, 1, 2] rfl)
set_option maxRecDepth 20000 in
set_option maxHeartbeats 4000000 in
theorem wX4_faultOf_135 {p : Program} {l : Launch} {e : Env} {s : State} {m : MethodId} {args : Array Value} {below : List Frame} {meth : Method} {c : Code} {Q : State → Prop} {D : va_G} {cyI cyJ cyO : ClassId} {A : Nat → Prop} {bs : Nat} {a : Nat → Nat} {Y : va_W} {th : Int32} {df : Int32} {la : Int32} {fo : Int32} {he : Int32} {wt : Int32} {br : Int32} {dr : Nat → Int32} {fm : Nat → Int32} {sz : Nat → Int32} {om : Nat → Int32} {os : Nat → Int32} {st : Nat → Int32} {wa : Nat → Int32} {va : Nat → Int64} {sk : Nat → Int64} {N : Nat} {res : Int32} (C0 : gC p m meth c cX4_faultOf 7 (some .int) s args wsX4_faultOf RX4) (hret : ∀ (r : Int32) (H : Heap) (locs : List Loc) (pc : Nat) (ls : Array Slot), some r = some res → gZ D (gT cyI cyJ cyO) (XM a cyI cyJ th df la fo he wt br dr fm sz om os st wa va sk ++ Y) A bs s H locs → decode cX4_faultOf pc = .ok (.ireturn, 1) → W p l e rmX4_faultOf s m args below meth c H locs 0 0 Q (F0 m pc ls [.int r])) {r6 : Int32 → Int32 → Int32 → Option (Int32)} (hr6 : ∀ (v1 : Int32) (v2 : Int32) (v3 : Int32) (H : Heap) (locs : List Loc) (ls : Array Slot), r6 v1 v2 v3 = some res → gZ D (gT cyI cyJ cyO) (XM a cyI cyJ th df la fo he wt br dr fm sz om os st wa va sk ++ Y) A bs s H locs → lv_has ls 7 [(0, .ref (a 0)), (1, .int v1), (2, .int v2), (3, .int v3)] → W p l e rmX4_faultOf s m args below meth c H locs 0 0 Q (F0 m 6 ls [])) : ∀ (v3 : Int32) (v4 : Int32) (s0 : Int32) (s1 : Int32) (H : Heap) (locs : List Loc) (ls : Array Slot), mX4_faultOf_135 N df dr r6 v3 v4 s0 s1 = some res → gZ D (gT cyI cyJ cyO) (XM a cyI cyJ th df la fo he wt br dr fm sz om os st wa va sk ++ Y) A bs s H locs → lv_has ls 7 [(0, .ref (a 0)), (3, .int v3), (4, .int v4)] → W p l e rmX4_faultOf s m args below meth c H locs 0 0 Q (F0 m 135 ls [.int s1, .int s0]) := by
  intro v3 v4 s0 s1 H locs ls h Z hl
  unfold mX4_faultOf_135 at h
  refine lv_iadd C0.1.1 C0.1.2.1 dX4_faultOf_135 ?_
  refine lv_istore_n (lv' := [(1, .int (s0 + s1)), (0, .ref (a 0)), (3, .int v3), (4, .int v4)]) C0.1.1 C0.1.2.1 dX4_faultOf_136 rfl hl (by decide) rfl (fun ls hl => ?_)
  refine lv_iload C0.1.1 C0.1.2.1 dX4_faultOf_137 (lv_at hl 3 rfl) ?_
  refine lv_iconst (v := -1) C0.1.1 C0.1.2.1 dX4_faultOf_139 (by decide) ?_
  refine lv_icmp_eq (tgt := 149) C0.1.1 C0.1.2.1 dX4_faultOf_140 (by decide) (fun hc => ?_) (fun hc => ?_)
  · replace h := (if_pos hc).symm.trans h
    exact wX4_faultOf_149 (N := N) C0 hret hr6 (s0 + s1) v3 _ _ _ h Z (lv_sub hl [1, 0, 2] rfl)
  · replace h := (if_neg hc).symm.trans h
    refine lv_iload C0.1.1 C0.1.2.1 dX4_faultOf_143 (lv_at hl 3 rfl) ?_
    refine lv_iconst (v := 5) C0.1.1 C0.1.2.1 dX4_faultOf_145 (by decide) ?_
    refine lv_icmp_ne (tgt := 153) C0.1.1 C0.1.2.1 dX4_faultOf_146 (by decide) (fun hc => ?_) (fun hc => ?_)
    · replace h := (if_neg hc).symm.trans h
      refine lv_iconst (v := 0) C0.1.1 C0.1.2.1 dX4_faultOf_153 (by decide) ?_
      exact wX4_faultOf_154 (N := N) C0 hret hr6 (s0 + s1) v3 (0 : Int32) _ _ _ h Z (lv_sub hl [1, 0, 2] rfl)
    · replace h := (if_pos hc).symm.trans h
      exact wX4_faultOf_149 (N := N) C0 hret hr6 (s0 + s1) v3 _ _ _ h Z (lv_sub hl [1, 0, 2] rfl)
set_option maxRecDepth 20000 in
set_option maxHeartbeats 4000000 in
theorem wX4_faultOf_113 {p : Program} {l : Launch} {e : Env} {s : State} {m : MethodId} {args : Array Value} {below : List Frame} {meth : Method} {c : Code} {Q : State → Prop} {D : va_G} {cyI cyJ cyO : ClassId} {A : Nat → Prop} {bs : Nat} {a : Nat → Nat} {Y : va_W} {th : Int32} {df : Int32} {la : Int32} {fo : Int32} {he : Int32} {wt : Int32} {br : Int32} {dr : Nat → Int32} {fm : Nat → Int32} {sz : Nat → Int32} {om : Nat → Int32} {os : Nat → Int32} {st : Nat → Int32} {wa : Nat → Int32} {va : Nat → Int64} {sk : Nat → Int64} {N : Nat} {res : Int32} (C0 : gC p m meth c cX4_faultOf 7 (some .int) s args wsX4_faultOf RX4) (hret : ∀ (r : Int32) (H : Heap) (locs : List Loc) (pc : Nat) (ls : Array Slot), some r = some res → gZ D (gT cyI cyJ cyO) (XM a cyI cyJ th df la fo he wt br dr fm sz om os st wa va sk ++ Y) A bs s H locs → decode cX4_faultOf pc = .ok (.ireturn, 1) → W p l e rmX4_faultOf s m args below meth c H locs 0 0 Q (F0 m pc ls [.int r])) {r6 : Int32 → Int32 → Int32 → Option (Int32)} (hr6 : ∀ (v1 : Int32) (v2 : Int32) (v3 : Int32) (H : Heap) (locs : List Loc) (ls : Array Slot), r6 v1 v2 v3 = some res → gZ D (gT cyI cyJ cyO) (XM a cyI cyJ th df la fo he wt br dr fm sz om os st wa va sk ++ Y) A bs s H locs → lv_has ls 7 [(0, .ref (a 0)), (1, .int v1), (2, .int v2), (3, .int v3)] → W p l e rmX4_faultOf s m args below meth c H locs 0 0 Q (F0 m 6 ls [])) : ∀ (v1 : Int32) (v3 : Int32) (v4 : Int32) (H : Heap) (locs : List Loc) (ls : Array Slot), mX4_faultOf_113 N df dr r6 v1 v3 v4 = some res → gZ D (gT cyI cyJ cyO) (XM a cyI cyJ th df la fo he wt br dr fm sz om os st wa va sk ++ Y) A bs s H locs → lv_has ls 7 [(0, .ref (a 0)), (1, .int v1), (3, .int v3), (4, .int v4)] → W p l e rmX4_faultOf s m args below meth c H locs 0 0 Q (F0 m 113 ls []) := by
  intro v1 v3 v4 H locs ls h Z hl
  unfold mX4_faultOf_113 at h
  refine lv_iload_n C0.1.1 C0.1.2.1 dX4_faultOf_113 rfl (lv_at hl 1 rfl) ?_
  refine lv_iload C0.1.1 C0.1.2.1 dX4_faultOf_114 (lv_at hl 3 rfl) ?_
  refine lv_iconst (v := 4) C0.1.1 C0.1.2.1 dX4_faultOf_116 (by decide) ?_
  refine lv_icmp_ne (tgt := 124) C0.1.1 C0.1.2.1 dX4_faultOf_117 (by decide) (fun hc => ?_) (fun hc => ?_)
  · replace h := (if_neg hc).symm.trans h
    refine lv_iload C0.1.1 C0.1.2.1 dX4_faultOf_124 (lv_at hl 3 rfl) ?_
    refine lv_iconst (v := 5) C0.1.1 C0.1.2.1 dX4_faultOf_126 (by decide) ?_
    refine lv_icmp_ne (tgt := 134) C0.1.1 C0.1.2.1 dX4_faultOf_127 (by decide) (fun hc => ?_) (fun hc => ?_)
    · replace h := (if_neg hc).symm.trans h
      refine lv_iconst (v := 0) C0.1.1 C0.1.2.1 dX4_faultOf_134 (by decide) ?_
      exact wX4_faultOf_135 (N := N) C0 hret hr6 v3 v4 v1 (0 : Int32) _ _ _ h Z (lv_sub hl [0, 2, 3] rfl)
    · replace h := (if_pos hc).symm.trans h
      refine lv_iconst (v := -1) C0.1.1 C0.1.2.1 dX4_faultOf_130 (by decide) ?_
      refine lv_goto (tgt := 135) C0.1.1 C0.1.2.1 dX4_faultOf_131 (by decide) ?_
      exact wX4_faultOf_135 (N := N) C0 hret hr6 v3 v4 v1 (-1 : Int32) _ _ _ h Z (lv_sub hl [0, 2, 3] rfl)
  · replace h := (if_pos hc).symm.trans h
    refine lv_iconst (v := 1) C0.1.1 C0.1.2.1 dX4_faultOf_120 (by decide) ?_
    refine lv_goto (tgt := 135) C0.1.1 C0.1.2.1 dX4_faultOf_121 (by decide) ?_
    exact wX4_faultOf_135 (N := N) C0 hret hr6 v3 v4 v1 (1 : Int32) _ _ _ h Z (lv_sub hl [0, 2, 3] rfl)
set_option maxRecDepth 20000 in
set_option maxHeartbeats 4000000 in
theorem wX4_faultOf_111 {p : Program} {l : Launch} {e : Env} {s : State} {m : MethodId} {args : Array Value} {below : List Frame} {meth : Method} {c : Code} {Q : State → Prop} {D : va_G} {cyI cyJ cyO : ClassId} {A : Nat → Prop} {bs : Nat} {a : Nat → Nat} {Y : va_W} {th : Int32} {df : Int32} {la : Int32} {fo : Int32} {he : Int32} {wt : Int32} {br : Int32} {dr : Nat → Int32} {fm : Nat → Int32} {sz : Nat → Int32} {om : Nat → Int32} {os : Nat → Int32} {st : Nat → Int32} {wa : Nat → Int32} {va : Nat → Int64} {sk : Nat → Int64} {N : Nat} {res : Int32} (C0 : gC p m meth c cX4_faultOf 7 (some .int) s args wsX4_faultOf RX4) (hret : ∀ (r : Int32) (H : Heap) (locs : List Loc) (pc : Nat) (ls : Array Slot), some r = some res → gZ D (gT cyI cyJ cyO) (XM a cyI cyJ th df la fo he wt br dr fm sz om os st wa va sk ++ Y) A bs s H locs → decode cX4_faultOf pc = .ok (.ireturn, 1) → W p l e rmX4_faultOf s m args below meth c H locs 0 0 Q (F0 m pc ls [.int r]))  : ∀ (v3 : Int32) (H : Heap) (locs : List Loc) (ls : Array Slot), mX4_faultOf_111 N df dr v3 = some res → gZ D (gT cyI cyJ cyO) (XM a cyI cyJ th df la fo he wt br dr fm sz om os st wa va sk ++ Y) A bs s H locs → lv_has ls 7 [(3, .int v3)] → W p l e rmX4_faultOf s m args below meth c H locs 0 0 Q (F0 m 111 ls []) := by
  intro v3 H locs ls h Z hl
  unfold mX4_faultOf_111 at h
  refine lv_iload_n C0.1.1 C0.1.2.1 dX4_faultOf_111 rfl (lv_at hl 0 rfl) ?_
  exact hret v3 _ _ _ _ h Z dX4_faultOf_112
set_option maxRecDepth 20000 in
set_option maxHeartbeats 4000000 in
theorem wX4_faultOf_92 {p : Program} {l : Launch} {e : Env} {s : State} {m : MethodId} {args : Array Value} {below : List Frame} {meth : Method} {c : Code} {Q : State → Prop} {D : va_G} {cyI cyJ cyO : ClassId} {A : Nat → Prop} {bs : Nat} {a : Nat → Nat} {Y : va_W} {th : Int32} {df : Int32} {la : Int32} {fo : Int32} {he : Int32} {wt : Int32} {br : Int32} {dr : Nat → Int32} {fm : Nat → Int32} {sz : Nat → Int32} {om : Nat → Int32} {os : Nat → Int32} {st : Nat → Int32} {wa : Nat → Int32} {va : Nat → Int64} {sk : Nat → Int64} {N : Nat} {res : Int32} (C0 : gC p m meth c cX4_faultOf 7 (some .int) s args wsX4_faultOf RX4) (hret : ∀ (r : Int32) (H : Heap) (locs : List Loc) (pc : Nat) (ls : Array Slot), some r = some res → gZ D (gT cyI cyJ cyO) (XM a cyI cyJ th df la fo he wt br dr fm sz om os st wa va sk ++ Y) A bs s H locs → decode cX4_faultOf pc = .ok (.ireturn, 1) → W p l e rmX4_faultOf s m args below meth c H locs 0 0 Q (F0 m pc ls [.int r])) {r6 : Int32 → Int32 → Int32 → Option (Int32)} (hr6 : ∀ (v1 : Int32) (v2 : Int32) (v3 : Int32) (H : Heap) (locs : List Loc) (ls : Array Slot), r6 v1 v2 v3 = some res → gZ D (gT cyI cyJ cyO) (XM a cyI cyJ th df la fo he wt br dr fm sz om os st wa va sk ++ Y) A bs s H locs → lv_has ls 7 [(0, .ref (a 0)), (1, .int v1), (2, .int v2), (3, .int v3)] → W p l e rmX4_faultOf s m args below meth c H locs 0 0 Q (F0 m 6 ls [])) : ∀ (v1 : Int32) (v2 : Int32) (v3 : Int32) (v4 : Int32) (v5 : Int32) (s0 : Int32) (H : Heap) (locs : List Loc) (ls : Array Slot), mX4_faultOf_92 N df dr r6 v1 v2 v3 v4 v5 s0 = some res → gZ D (gT cyI cyJ cyO) (XM a cyI cyJ th df la fo he wt br dr fm sz om os st wa va sk ++ Y) A bs s H locs → lv_has ls 7 [(0, .ref (a 0)), (1, .int v1), (2, .int v2), (3, .int v3), (4, .int v4), (5, .int v5)] → W p l e rmX4_faultOf s m args below meth c H locs 0 0 Q (F0 m 92 ls [.int s0]) := by
  intro v1 v2 v3 v4 v5 s0 H locs ls h Z hl
  unfold mX4_faultOf_92 at h
  refine lv_istore (lv' := [(6, .int s0), (0, .ref (a 0)), (1, .int v1), (2, .int v2), (3, .int v3), (4, .int v4), (5, .int v5)]) C0.1.1 C0.1.2.1 dX4_faultOf_92 hl (by decide) rfl (fun ls hl => ?_)
  refine lv_iload_n C0.1.1 C0.1.2.1 dX4_faultOf_94 rfl (lv_at hl 3 rfl) ?_
  refine lv_if_eq (tgt := 106) C0.1.1 C0.1.2.1 dX4_faultOf_95 (by decide) (fun hc => ?_) (fun hc => ?_)
  · replace h := (if_pos hc).symm.trans h
    refine lv_iload C0.1.1 C0.1.2.1 dX4_faultOf_106 (lv_at hl 6 rfl) ?_
    refine lv_if_ne (tgt := 113) C0.1.1 C0.1.2.1 dX4_faultOf_108 (by decide) (fun hc => ?_) (fun hc => ?_)
    · replace h := (if_neg hc).symm.trans h
      exact wX4_faultOf_113 (N := N) C0 hret hr6 v1 v3 v4 _ _ _ h Z (lv_sub hl [1, 2, 4, 5] rfl)
    · replace h := (if_pos hc).symm.trans h
      exact wX4_faultOf_111 (N := N) C0 hret v3 _ _ _ h Z (lv_sub hl [4] rfl)
  · replace h := (if_neg hc).symm.trans h
    refine lv_iload C0.1.1 C0.1.2.1 dX4_faultOf_98 (lv_at hl 0 rfl) ?_
    refine lv_if_ne (tgt := 113) C0.1.1 C0.1.2.1 dX4_faultOf_100 (by decide) (fun hc => ?_) (fun hc => ?_)
    · replace h := (if_neg hc).symm.trans h
      exact wX4_faultOf_113 (N := N) C0 hret hr6 v1 v3 v4 _ _ _ h Z (lv_sub hl [1, 2, 4, 5] rfl)
    · replace h := (if_pos hc).symm.trans h
      refine lv_goto (tgt := 111) C0.1.1 C0.1.2.1 dX4_faultOf_103 (by decide) ?_
      exact wX4_faultOf_111 (N := N) C0 hret v3 _ _ _ h Z (lv_sub hl [4] rfl)
set_option maxRecDepth 20000 in
set_option maxHeartbeats 4000000 in
theorem wX4_faultOf_91 {p : Program} {l : Launch} {e : Env} {s : State} {m : MethodId} {args : Array Value} {below : List Frame} {meth : Method} {c : Code} {Q : State → Prop} {D : va_G} {cyI cyJ cyO : ClassId} {A : Nat → Prop} {bs : Nat} {a : Nat → Nat} {Y : va_W} {th : Int32} {df : Int32} {la : Int32} {fo : Int32} {he : Int32} {wt : Int32} {br : Int32} {dr : Nat → Int32} {fm : Nat → Int32} {sz : Nat → Int32} {om : Nat → Int32} {os : Nat → Int32} {st : Nat → Int32} {wa : Nat → Int32} {va : Nat → Int64} {sk : Nat → Int64} {N : Nat} {res : Int32} (C0 : gC p m meth c cX4_faultOf 7 (some .int) s args wsX4_faultOf RX4) (hret : ∀ (r : Int32) (H : Heap) (locs : List Loc) (pc : Nat) (ls : Array Slot), some r = some res → gZ D (gT cyI cyJ cyO) (XM a cyI cyJ th df la fo he wt br dr fm sz om os st wa va sk ++ Y) A bs s H locs → decode cX4_faultOf pc = .ok (.ireturn, 1) → W p l e rmX4_faultOf s m args below meth c H locs 0 0 Q (F0 m pc ls [.int r])) {r6 : Int32 → Int32 → Int32 → Option (Int32)} (hr6 : ∀ (v1 : Int32) (v2 : Int32) (v3 : Int32) (H : Heap) (locs : List Loc) (ls : Array Slot), r6 v1 v2 v3 = some res → gZ D (gT cyI cyJ cyO) (XM a cyI cyJ th df la fo he wt br dr fm sz om os st wa va sk ++ Y) A bs s H locs → lv_has ls 7 [(0, .ref (a 0)), (1, .int v1), (2, .int v2), (3, .int v3)] → W p l e rmX4_faultOf s m args below meth c H locs 0 0 Q (F0 m 6 ls [])) : ∀ (v1 : Int32) (v2 : Int32) (v3 : Int32) (v4 : Int32) (v5 : Int32) (H : Heap) (locs : List Loc) (ls : Array Slot), mX4_faultOf_91 N df dr r6 v1 v2 v3 v4 v5 = some res → gZ D (gT cyI cyJ cyO) (XM a cyI cyJ th df la fo he wt br dr fm sz om os st wa va sk ++ Y) A bs s H locs → lv_has ls 7 [(0, .ref (a 0)), (1, .int v1), (2, .int v2), (3, .int v3), (4, .int v4), (5, .int v5)] → W p l e rmX4_faultOf s m args below meth c H locs 0 0 Q (F0 m 91 ls []) := by
  intro v1 v2 v3 v4 v5 H locs ls h Z hl
  unfold mX4_faultOf_91 at h
  refine lv_iconst (v := 0) C0.1.1 C0.1.2.1 dX4_faultOf_91 (by decide) ?_
  exact wX4_faultOf_92 (N := N) C0 hret hr6 v1 v2 v3 v4 v5 (0 : Int32) _ _ _ h Z (lv_sub hl [0, 1, 2, 3, 4, 5] rfl)
set_option maxRecDepth 20000 in
set_option maxHeartbeats 4000000 in
theorem wX4_faultOf_87 {p : Program} {l : Launch} {e : Env} {s : State} {m : MethodId} {args : Array Value} {below : List Frame} {meth : Method} {c : Code} {Q : State → Prop} {D : va_G} {cyI cyJ cyO : ClassId} {A : Nat → Prop} {bs : Nat} {a : Nat → Nat} {Y : va_W} {th : Int32} {df : Int32} {la : Int32} {fo : Int32} {he : Int32} {wt : Int32} {br : Int32} {dr : Nat → Int32} {fm : Nat → Int32} {sz : Nat → Int32} {om : Nat → Int32} {os : Nat → Int32} {st : Nat → Int32} {wa : Nat → Int32} {va : Nat → Int64} {sk : Nat → Int64} {N : Nat} {res : Int32} (C0 : gC p m meth c cX4_faultOf 7 (some .int) s args wsX4_faultOf RX4) (hret : ∀ (r : Int32) (H : Heap) (locs : List Loc) (pc : Nat) (ls : Array Slot), some r = some res → gZ D (gT cyI cyJ cyO) (XM a cyI cyJ th df la fo he wt br dr fm sz om os st wa va sk ++ Y) A bs s H locs → decode cX4_faultOf pc = .ok (.ireturn, 1) → W p l e rmX4_faultOf s m args below meth c H locs 0 0 Q (F0 m pc ls [.int r])) {r6 : Int32 → Int32 → Int32 → Option (Int32)} (hr6 : ∀ (v1 : Int32) (v2 : Int32) (v3 : Int32) (H : Heap) (locs : List Loc) (ls : Array Slot), r6 v1 v2 v3 = some res → gZ D (gT cyI cyJ cyO) (XM a cyI cyJ th df la fo he wt br dr fm sz om os st wa va sk ++ Y) A bs s H locs → lv_has ls 7 [(0, .ref (a 0)), (1, .int v1), (2, .int v2), (3, .int v3)] → W p l e rmX4_faultOf s m args below meth c H locs 0 0 Q (F0 m 6 ls [])) : ∀ (v1 : Int32) (v2 : Int32) (v3 : Int32) (v4 : Int32) (v5 : Int32) (H : Heap) (locs : List Loc) (ls : Array Slot), mX4_faultOf_87 N df dr r6 v1 v2 v3 v4 v5 = some res → gZ D (gT cyI cyJ cyO) (XM a cyI cyJ th df la fo he wt br dr fm sz om os st wa va sk ++ Y) A bs s H locs → lv_has ls 7 [(0, .ref (a 0)), (1, .int v1), (2, .int v2), (3, .int v3), (4, .int v4), (5, .int v5)] → W p l e rmX4_faultOf s m args below meth c H locs 0 0 Q (F0 m 87 ls []) := by
  intro v1 v2 v3 v4 v5 H locs ls h Z hl
  unfold mX4_faultOf_87 at h
  refine lv_iconst (v := 1) C0.1.1 C0.1.2.1 dX4_faultOf_87 (by decide) ?_
  refine lv_goto (tgt := 92) C0.1.1 C0.1.2.1 dX4_faultOf_88 (by decide) ?_
  exact wX4_faultOf_92 (N := N) C0 hret hr6 v1 v2 v3 v4 v5 (1 : Int32) _ _ _ h Z (lv_sub hl [0, 1, 2, 3, 4, 5] rfl)
set_option maxRecDepth 20000 in
set_option maxHeartbeats 4000000 in
theorem wX4_faultOf_63 {p : Program} {l : Launch} {e : Env} {s : State} {m : MethodId} {args : Array Value} {below : List Frame} {meth : Method} {c : Code} {Q : State → Prop} {D : va_G} {cyI cyJ cyO : ClassId} {A : Nat → Prop} {bs : Nat} {a : Nat → Nat} {Y : va_W} {th : Int32} {df : Int32} {la : Int32} {fo : Int32} {he : Int32} {wt : Int32} {br : Int32} {dr : Nat → Int32} {fm : Nat → Int32} {sz : Nat → Int32} {om : Nat → Int32} {os : Nat → Int32} {st : Nat → Int32} {wa : Nat → Int32} {va : Nat → Int64} {sk : Nat → Int64} {N : Nat} {res : Int32} (C0 : gC p m meth c cX4_faultOf 7 (some .int) s args wsX4_faultOf RX4) (hret : ∀ (r : Int32) (H : Heap) (locs : List Loc) (pc : Nat) (ls : Array Slot), some r = some res → gZ D (gT cyI cyJ cyO) (XM a cyI cyJ th df la fo he wt br dr fm sz om os st wa va sk ++ Y) A bs s H locs → decode cX4_faultOf pc = .ok (.ireturn, 1) → W p l e rmX4_faultOf s m args below meth c H locs 0 0 Q (F0 m pc ls [.int r])) {r6 : Int32 → Int32 → Int32 → Option (Int32)} (hr6 : ∀ (v1 : Int32) (v2 : Int32) (v3 : Int32) (H : Heap) (locs : List Loc) (ls : Array Slot), r6 v1 v2 v3 = some res → gZ D (gT cyI cyJ cyO) (XM a cyI cyJ th df la fo he wt br dr fm sz om os st wa va sk ++ Y) A bs s H locs → lv_has ls 7 [(0, .ref (a 0)), (1, .int v1), (2, .int v2), (3, .int v3)] → W p l e rmX4_faultOf s m args below meth c H locs 0 0 Q (F0 m 6 ls [])) : ∀ (v1 : Int32) (v2 : Int32) (v3 : Int32) (v4 : Int32) (s0 : Int32) (H : Heap) (locs : List Loc) (ls : Array Slot), mX4_faultOf_63 N df dr r6 v1 v2 v3 v4 s0 = some res → gZ D (gT cyI cyJ cyO) (XM a cyI cyJ th df la fo he wt br dr fm sz om os st wa va sk ++ Y) A bs s H locs → lv_has ls 7 [(0, .ref (a 0)), (1, .int v1), (2, .int v2), (3, .int v3), (4, .int v4)] → W p l e rmX4_faultOf s m args below meth c H locs 0 0 Q (F0 m 63 ls [.int s0]) := by
  intro v1 v2 v3 v4 s0 H locs ls h Z hl
  unfold mX4_faultOf_63 at h
  refine lv_istore (lv' := [(5, .int s0), (0, .ref (a 0)), (1, .int v1), (2, .int v2), (3, .int v3), (4, .int v4)]) C0.1.1 C0.1.2.1 dX4_faultOf_63 hl (by decide) rfl (fun ls hl => ?_)
  refine lv_iload C0.1.1 C0.1.2.1 dX4_faultOf_65 (lv_at hl 5 rfl) ?_
  refine lv_iconst (v := -1) C0.1.1 C0.1.2.1 dX4_faultOf_67 (by decide) ?_
  refine lv_icmp_eq (tgt := 91) C0.1.1 C0.1.2.1 dX4_faultOf_68 (by decide) (fun hc => ?_) (fun hc => ?_)
  · replace h := (if_pos hc).symm.trans h
    exact wX4_faultOf_91 (N := N) C0 hret hr6 v1 v2 v3 v4 s0 _ _ _ h Z (lv_sub hl [1, 2, 3, 4, 5, 0] rfl)
  · replace h := (if_neg hc).symm.trans h
    refine lv_iload C0.1.1 C0.1.2.1 dX4_faultOf_71 (lv_at hl 5 rfl) ?_
    refine lv_iconst (v := 4) C0.1.1 C0.1.2.1 dX4_faultOf_73 (by decide) ?_
    refine lv_icmp_eq (tgt := 91) C0.1.1 C0.1.2.1 dX4_faultOf_74 (by decide) (fun hc => ?_) (fun hc => ?_)
    · replace h := (if_pos hc).symm.trans h
      exact wX4_faultOf_91 (N := N) C0 hret hr6 v1 v2 v3 v4 s0 _ _ _ h Z (lv_sub hl [1, 2, 3, 4, 5, 0] rfl)
    · replace h := (if_neg hc).symm.trans h
      refine lv_iload C0.1.1 C0.1.2.1 dX4_faultOf_77 (lv_at hl 5 rfl) ?_
      refine lv_iconst (v := 5) C0.1.1 C0.1.2.1 dX4_faultOf_79 (by decide) ?_
      refine lv_icmp_ne (tgt := 87) C0.1.1 C0.1.2.1 dX4_faultOf_80 (by decide) (fun hc => ?_) (fun hc => ?_)
      · replace h := (if_neg hc).symm.trans h
        exact wX4_faultOf_87 (N := N) C0 hret hr6 v1 v2 v3 v4 s0 _ _ _ h Z (lv_sub hl [1, 2, 3, 4, 5, 0] rfl)
      · replace h := (if_pos hc).symm.trans h
        refine lv_iload_n C0.1.1 C0.1.2.1 dX4_faultOf_83 rfl (lv_at hl 2 rfl) ?_
        refine lv_if_le (tgt := 91) C0.1.1 C0.1.2.1 dX4_faultOf_84 (by decide) (fun hc => ?_) (fun hc => ?_)
        · replace h := (if_pos hc).symm.trans h
          exact wX4_faultOf_91 (N := N) C0 hret hr6 v1 v2 v3 v4 s0 _ _ _ h Z (lv_sub hl [1, 2, 3, 4, 5, 0] rfl)
        · replace h := (if_neg hc).symm.trans h
          exact wX4_faultOf_87 (N := N) C0 hret hr6 v1 v2 v3 v4 s0 _ _ _ h Z (lv_sub hl [1, 2, 3, 4, 5, 0] rfl)
set_option maxRecDepth 20000 in
set_option maxHeartbeats 4000000 in
theorem wX4_faultOf_58 {p : Program} {l : Launch} {e : Env} {s : State} {m : MethodId} {args : Array Value} {below : List Frame} {meth : Method} {c : Code} {Q : State → Prop} {D : va_G} {cyI cyJ cyO : ClassId} {A : Nat → Prop} {bs : Nat} {a : Nat → Nat} {Y : va_W} {th : Int32} {df : Int32} {la : Int32} {fo : Int32} {he : Int32} {wt : Int32} {br : Int32} {dr : Nat → Int32} {fm : Nat → Int32} {sz : Nat → Int32} {om : Nat → Int32} {os : Nat → Int32} {st : Nat → Int32} {wa : Nat → Int32} {va : Nat → Int64} {sk : Nat → Int64} {N : Nat} {res : Int32} (C0 : gC p m meth c cX4_faultOf 7 (some .int) s args wsX4_faultOf RX4) (hret : ∀ (r : Int32) (H : Heap) (locs : List Loc) (pc : Nat) (ls : Array Slot), some r = some res → gZ D (gT cyI cyJ cyO) (XM a cyI cyJ th df la fo he wt br dr fm sz om os st wa va sk ++ Y) A bs s H locs → decode cX4_faultOf pc = .ok (.ireturn, 1) → W p l e rmX4_faultOf s m args below meth c H locs 0 0 Q (F0 m pc ls [.int r])) {r6 : Int32 → Int32 → Int32 → Option (Int32)} (hr6 : ∀ (v1 : Int32) (v2 : Int32) (v3 : Int32) (H : Heap) (locs : List Loc) (ls : Array Slot), r6 v1 v2 v3 = some res → gZ D (gT cyI cyJ cyO) (XM a cyI cyJ th df la fo he wt br dr fm sz om os st wa va sk ++ Y) A bs s H locs → lv_has ls 7 [(0, .ref (a 0)), (1, .int v1), (2, .int v2), (3, .int v3)] → W p l e rmX4_faultOf s m args below meth c H locs 0 0 Q (F0 m 6 ls [])) : ∀ (v1 : Int32) (v2 : Int32) (v3 : Int32) (v4 : Int32) (H : Heap) (locs : List Loc) (ls : Array Slot), mX4_faultOf_58 N df dr r6 v1 v2 v3 v4 = some res → gZ D (gT cyI cyJ cyO) (XM a cyI cyJ th df la fo he wt br dr fm sz om os st wa va sk ++ Y) A bs s H locs → lv_has ls 7 [(0, .ref (a 0)), (1, .int v1), (2, .int v2), (3, .int v3), (4, .int v4)] → W p l e rmX4_faultOf s m args below meth c H locs 0 0 Q (F0 m 58 ls []) := by
  intro v1 v2 v3 v4 H locs ls h Z hl
  unfold mX4_faultOf_58 at h
  refine lv_iconst (v := 1) C0.1.1 C0.1.2.1 dX4_faultOf_58 (by decide) ?_
  refine lv_goto (tgt := 63) C0.1.1 C0.1.2.1 dX4_faultOf_59 (by decide) ?_
  exact wX4_faultOf_63 (N := N) C0 hret hr6 v1 v2 v3 v4 (1 : Int32) _ _ _ h Z (lv_sub hl [0, 1, 2, 3, 4] rfl)
set_option maxRecDepth 20000 in
set_option maxHeartbeats 4000000 in
theorem wX4_faultOf_38 {p : Program} {l : Launch} {e : Env} {s : State} {m : MethodId} {args : Array Value} {below : List Frame} {meth : Method} {c : Code} {Q : State → Prop} {D : va_G} {cyI cyJ cyO : ClassId} {A : Nat → Prop} {bs : Nat} {a : Nat → Nat} {Y : va_W} {th : Int32} {df : Int32} {la : Int32} {fo : Int32} {he : Int32} {wt : Int32} {br : Int32} {dr : Nat → Int32} {fm : Nat → Int32} {sz : Nat → Int32} {om : Nat → Int32} {os : Nat → Int32} {st : Nat → Int32} {wa : Nat → Int32} {va : Nat → Int64} {sk : Nat → Int64} {N : Nat} {res : Int32} (C0 : gC p m meth c cX4_faultOf 7 (some .int) s args wsX4_faultOf RX4) (hret : ∀ (r : Int32) (H : Heap) (locs : List Loc) (pc : Nat) (ls : Array Slot), some r = some res → gZ D (gT cyI cyJ cyO) (XM a cyI cyJ th df la fo he wt br dr fm sz om os st wa va sk ++ Y) A bs s H locs → decode cX4_faultOf pc = .ok (.ireturn, 1) → W p l e rmX4_faultOf s m args below meth c H locs 0 0 Q (F0 m pc ls [.int r])) {r6 : Int32 → Int32 → Int32 → Option (Int32)} (hr6 : ∀ (v1 : Int32) (v2 : Int32) (v3 : Int32) (H : Heap) (locs : List Loc) (ls : Array Slot), r6 v1 v2 v3 = some res → gZ D (gT cyI cyJ cyO) (XM a cyI cyJ th df la fo he wt br dr fm sz om os st wa va sk ++ Y) A bs s H locs → lv_has ls 7 [(0, .ref (a 0)), (1, .int v1), (2, .int v2), (3, .int v3)] → W p l e rmX4_faultOf s m args below meth c H locs 0 0 Q (F0 m 6 ls [])) : ∀ (v1 : Int32) (v2 : Int32) (v3 : Int32) (s0 : Int32) (H : Heap) (locs : List Loc) (ls : Array Slot), mX4_faultOf_38 N df dr r6 v1 v2 v3 s0 = some res → gZ D (gT cyI cyJ cyO) (XM a cyI cyJ th df la fo he wt br dr fm sz om os st wa va sk ++ Y) A bs s H locs → lv_has ls 7 [(0, .ref (a 0)), (1, .int v1), (2, .int v2), (3, .int v3)] → W p l e rmX4_faultOf s m args below meth c H locs 0 0 Q (F0 m 38 ls [.int s0]) := by
  intro v1 v2 v3 s0 H locs ls h Z hl
  unfold mX4_faultOf_38 at h
  refine lv_istore (lv' := [(4, .int s0), (0, .ref (a 0)), (1, .int v1), (2, .int v2), (3, .int v3)]) C0.1.1 C0.1.2.1 dX4_faultOf_38 hl (by decide) rfl (fun ls hl => ?_)
  refine lv_iload C0.1.1 C0.1.2.1 dX4_faultOf_40 (lv_at hl 0 rfl) ?_
  refine lv_iconst (v := -1) C0.1.1 C0.1.2.1 dX4_faultOf_42 (by decide) ?_
  refine lv_icmp_eq (tgt := 58) C0.1.1 C0.1.2.1 dX4_faultOf_43 (by decide) (fun hc => ?_) (fun hc => ?_)
  · replace h := (if_pos hc).symm.trans h
    exact wX4_faultOf_58 (N := N) C0 hret hr6 v1 v2 v3 s0 _ _ _ h Z (lv_sub hl [1, 2, 3, 4, 0] rfl)
  · replace h := (if_neg hc).symm.trans h
    refine lv_iload C0.1.1 C0.1.2.1 dX4_faultOf_46 (lv_at hl 0 rfl) ?_
    refine lv_iconst (v := 4) C0.1.1 C0.1.2.1 dX4_faultOf_48 (by decide) ?_
    refine lv_icmp_eq (tgt := 58) C0.1.1 C0.1.2.1 dX4_faultOf_49 (by decide) (fun hc => ?_) (fun hc => ?_)
    · replace h := (if_pos hc).symm.trans h
      exact wX4_faultOf_58 (N := N) C0 hret hr6 v1 v2 v3 s0 _ _ _ h Z (lv_sub hl [1, 2, 3, 4, 0] rfl)
    · replace h := (if_neg hc).symm.trans h
      refine lv_iload C0.1.1 C0.1.2.1 dX4_faultOf_52 (lv_at hl 0 rfl) ?_
      refine lv_iconst (v := 1) C0.1.1 C0.1.2.1 dX4_faultOf_54 (by decide) ?_
      refine lv_icmp_ne (tgt := 62) C0.1.1 C0.1.2.1 dX4_faultOf_55 (by decide) (fun hc => ?_) (fun hc => ?_)
      · replace h := (if_neg hc).symm.trans h
        refine lv_iconst (v := 0) C0.1.1 C0.1.2.1 dX4_faultOf_62 (by decide) ?_
        exact wX4_faultOf_63 (N := N) C0 hret hr6 v1 v2 v3 s0 (0 : Int32) _ _ _ h Z (lv_sub hl [1, 2, 3, 4, 0] rfl)
      · replace h := (if_pos hc).symm.trans h
        exact wX4_faultOf_58 (N := N) C0 hret hr6 v1 v2 v3 s0 _ _ _ h Z (lv_sub hl [1, 2, 3, 4, 0] rfl)
set_option maxRecDepth 20000 in
set_option maxHeartbeats 4000000 in
theorem wX4_faultOf_6_b {p : Program} {l : Launch} {e : Env} {s : State} {m : MethodId} {args : Array Value} {below : List Frame} {meth : Method} {c : Code} {Q : State → Prop} {D : va_G} {cyI cyJ cyO : ClassId} {A : Nat → Prop} {bs : Nat} {a : Nat → Nat} {Y : va_W} {th : Int32} {df : Int32} {la : Int32} {fo : Int32} {he : Int32} {wt : Int32} {br : Int32} {dr : Nat → Int32} {fm : Nat → Int32} {sz : Nat → Int32} {om : Nat → Int32} {os : Nat → Int32} {st : Nat → Int32} {wa : Nat → Int32} {va : Nat → Int64} {sk : Nat → Int64} {N : Nat} {res : Int32} (C0 : gC p m meth c cX4_faultOf 7 (some .int) s args wsX4_faultOf RX4) (hret : ∀ (r : Int32) (H : Heap) (locs : List Loc) (pc : Nat) (ls : Array Slot), some r = some res → gZ D (gT cyI cyJ cyO) (XM a cyI cyJ th df la fo he wt br dr fm sz om os st wa va sk ++ Y) A bs s H locs → decode cX4_faultOf pc = .ok (.ireturn, 1) → W p l e rmX4_faultOf s m args below meth c H locs 0 0 Q (F0 m pc ls [.int r])) {r6 : Int32 → Int32 → Int32 → Option (Int32)} (hr6 : ∀ (v1 : Int32) (v2 : Int32) (v3 : Int32) (H : Heap) (locs : List Loc) (ls : Array Slot), r6 v1 v2 v3 = some res → gZ D (gT cyI cyJ cyO) (XM a cyI cyJ th df la fo he wt br dr fm sz om os st wa va sk ++ Y) A bs s H locs → lv_has ls 7 [(0, .ref (a 0)), (1, .int v1), (2, .int v2), (3, .int v3)] → W p l e rmX4_faultOf s m args below meth c H locs 0 0 Q (F0 m 6 ls [])) : ∀ (v1 : Int32) (v2 : Int32) (v3 : Int32) (H : Heap) (locs : List Loc) (ls : Array Slot), mX4_faultOf_6_b N df dr r6 v1 v2 v3 = some res → gZ D (gT cyI cyJ cyO) (XM a cyI cyJ th df la fo he wt br dr fm sz om os st wa va sk ++ Y) A bs s H locs → lv_has ls 7 [(0, .ref (a 0)), (1, .int v1), (2, .int v2), (3, .int v3)] → W p l e rmX4_faultOf s m args below meth c H locs 0 0 Q (F0 m 6 ls []) := by
  intro v1 v2 v3 H locs ls h Z hl
  unfold mX4_faultOf_6_b at h
  refine lv_iload_n C0.1.1 C0.1.2.1 dX4_faultOf_6 rfl (lv_at hl 3 rfl) ?_
  refine lv_aload_n C0.1.1 C0.1.2.1 dX4_faultOf_7 rfl (lv_at hl 0 rfl) ?_
  refine g_get (ci := 6) (v := .int df) (T := TX4) (N := 16) C0.1 Z 0 rfl rfl 2 (by decide) kX4_faultOf_in kX4_faultOf_f46 rfl rfl dX4_faultOf_8 ?_
  refine lv_icmp_ge (tgt := 161) C0.1.1 C0.1.2.1 dX4_faultOf_11 (by decide) (fun hc => ?_) (fun hc => ?_)
  · replace h := (if_pos hc).symm.trans h
    refine lv_iload_n C0.1.1 C0.1.2.1 dX4_faultOf_161 rfl (lv_at hl 2 rfl) ?_
    refine lv_if_eq (tgt := 173) C0.1.1 C0.1.2.1 dX4_faultOf_162 (by decide) (fun hc => ?_) (fun hc => ?_)
    · replace h := (if_pos hc).symm.trans h
      exact wX4_faultOf_173 (N := N) C0 hret  _ _ _ h Z (lv_sub hl [0] rfl)
    · replace h := (if_neg hc).symm.trans h
      refine lv_iload_n C0.1.1 C0.1.2.1 dX4_faultOf_165 rfl (lv_at hl 1 rfl) ?_
      refine lv_if_ne (tgt := 173) C0.1.1 C0.1.2.1 dX4_faultOf_166 (by decide) (fun hc => ?_) (fun hc => ?_)
      · replace h := (if_neg hc).symm.trans h
        exact wX4_faultOf_173 (N := N) C0 hret  _ _ _ h Z (lv_sub hl [0] rfl)
      · replace h := (if_pos hc).symm.trans h
        refine lv_iconst (v := -1) C0.1.1 C0.1.2.1 dX4_faultOf_169 (by decide) ?_
        refine lv_goto (tgt := 177) C0.1.1 C0.1.2.1 dX4_faultOf_170 (by decide) ?_
        exact wX4_faultOf_177 (N := N) C0 hret (-1 : Int32) _ _ _ h Z (lv_sub hl [] rfl)
  · replace h := (if_neg hc).symm.trans h
    refine lv_aload_n C0.1.1 C0.1.2.1 dX4_faultOf_14 rfl (lv_at hl 0 rfl) ?_
    refine g_get (ci := 6) (v := .ref (a 1)) (T := TX4) (N := 16) C0.1 Z 0 rfl rfl 1 (by decide) kX4_faultOf_in kX4_faultOf_f7 rfl rfl dX4_faultOf_15 ?_
    refine lv_iload_n C0.1.1 C0.1.2.1 dX4_faultOf_18 rfl (lv_at hl 3 rfl) ?_
    obtain ⟨hi1, h⟩ := g_ni h
    refine g_iald (f := dr) (n := 15) C0.1 Z 1 0 rfl rfl hi1 dX4_faultOf_19 ?_
    refine lv_ldc C0.1.1 C0.1.2.1 C0.1.2.2.2.1 (C0.1.2.2.2.2 _ kX4_faultOf_c66) dX4_faultOf_20 ?_
    refine lv_icmp_ge (tgt := 29) C0.1.1 C0.1.2.1 dX4_faultOf_22 (by decide) (fun hc => ?_) (fun hc => ?_)
    · replace h := (if_pos hc).symm.trans h
      refine lv_aload_n C0.1.1 C0.1.2.1 dX4_faultOf_29 rfl (lv_at hl 0 rfl) ?_
      refine g_get (ci := 6) (v := .ref (a 1)) (T := TX4) (N := 16) C0.1 Z 0 rfl rfl 1 (by decide) kX4_faultOf_in kX4_faultOf_f7 rfl rfl dX4_faultOf_30 ?_
      refine lv_iload_n C0.1.1 C0.1.2.1 dX4_faultOf_33 rfl (lv_at hl 3 rfl) ?_
      obtain ⟨hi2, h⟩ := g_ni h
      refine g_iald (f := dr) (n := 15) C0.1 Z 1 0 rfl rfl hi2 dX4_faultOf_34 ?_
      refine lv_ldc C0.1.1 C0.1.2.1 C0.1.2.2.2.1 (C0.1.2.2.2.2 _ kX4_faultOf_c66) dX4_faultOf_35 ?_
      refine lv_isub C0.1.1 C0.1.2.1 dX4_faultOf_37 ?_
      exact wX4_faultOf_38 (N := N) C0 hret hr6 v1 v2 v3 ((dr v3.toNatClampNeg) - (2000000 : Int32)) _ _ _ h Z (lv_sub hl [0, 1, 2, 3] rfl)
    · replace h := (if_neg hc).symm.trans h
      refine lv_iconst (v := -1) C0.1.1 C0.1.2.1 dX4_faultOf_25 (by decide) ?_
      refine lv_goto (tgt := 38) C0.1.1 C0.1.2.1 dX4_faultOf_26 (by decide) ?_
      exact wX4_faultOf_38 (N := N) C0 hret hr6 v1 v2 v3 (-1 : Int32) _ _ _ h Z (lv_sub hl [0, 1, 2, 3] rfl)
theorem wX4_faultOf_6 {p : Program} {l : Launch} {e : Env} {s : State} {m : MethodId} {args : Array Value} {below : List Frame} {meth : Method} {c : Code} {Q : State → Prop} {D : va_G} {cyI cyJ cyO : ClassId} {A : Nat → Prop} {bs : Nat} {a : Nat → Nat} {Y : va_W} {th : Int32} {df : Int32} {la : Int32} {fo : Int32} {he : Int32} {wt : Int32} {br : Int32} {dr : Nat → Int32} {fm : Nat → Int32} {sz : Nat → Int32} {om : Nat → Int32} {os : Nat → Int32} {st : Nat → Int32} {wa : Nat → Int32} {va : Nat → Int64} {sk : Nat → Int64} {N : Nat} {res : Int32} (C0 : gC p m meth c cX4_faultOf 7 (some .int) s args wsX4_faultOf RX4) (hret : ∀ (r : Int32) (H : Heap) (locs : List Loc) (pc : Nat) (ls : Array Slot), some r = some res → gZ D (gT cyI cyJ cyO) (XM a cyI cyJ th df la fo he wt br dr fm sz om os st wa va sk ++ Y) A bs s H locs → decode cX4_faultOf pc = .ok (.ireturn, 1) → W p l e rmX4_faultOf s m args below meth c H locs 0 0 Q (F0 m pc ls [.int r]))  : ∀ (n : Nat), ∀ (v1 : Int32) (v2 : Int32) (v3 : Int32) (H : Heap) (locs : List Loc) (ls : Array Slot), mX4_faultOf_6 N df dr n v1 v2 v3 = some res → gZ D (gT cyI cyJ cyO) (XM a cyI cyJ th df la fo he wt br dr fm sz om os st wa va sk ++ Y) A bs s H locs → lv_has ls 7 [(0, .ref (a 0)), (1, .int v1), (2, .int v2), (3, .int v3)] → W p l e rmX4_faultOf s m args below meth c H locs 0 0 Q (F0 m 6 ls []) := by
  intro n
  induction n with
  | zero => intro _ _ _ _ _ _ h; cases h
  | succ n ih => exact wX4_faultOf_6_b (N := N) C0 hret ih
set_option maxRecDepth 20000 in
set_option maxHeartbeats 4000000 in
theorem zX4_faultOf (l : Launch) (D : va_G) (cyI cyJ cyO : ClassId) (A : Nat → Prop) (bs : Nat) (hA : ∀ q, bs ≤ q → A q) (a : Nat → Nat) (Y : va_W) (th : Int32) (df : Int32) (la : Int32) (fo : Int32) (he : Int32) (wt : Int32) (br : Int32) (dr : Nat → Int32) (fm : Nat → Int32) (sz : Nat → Int32) (om : Nat → Int32) (os : Nat → Int32) (st : Nat → Int32) (wa : Nat → Int32) (va : Nat → Int64) (sk : Nat → Int64) (N : Nat)  (res : Int32) (h : mX4_faultOf N df dr = some res) : Met l yX4_faultOf wsX4_faultOf rmX4_faultOf (va_Pc [.ref (a 0)] (gW D (gT cyI cyJ cyO) (XM a cyI cyJ th df la fo he wt br dr fm sz om os st wa va sk ++ Y) A bs)) (va_Qi (fun (r : Int32) (_ : Unit) => res = r) (fun (u : Unit) U => gW D (gT cyI cyJ cyO) (XM a cyI cyJ th df la fo he wt br dr fm sz om os st wa va sk ++ Y) A bs U) A) 0 0 A := by
  refine Met.ofW (cc := cX4_faultOf) (maxL := 7) (ret := (some .int)) (by decide) rfl ?_
  intro p e s m args below meth c s₁ B hml hv
  obtain ⟨hav, hv⟩ := hv
  have C0 : gC p m meth c cX4_faultOf 7 (some .int) s args wsX4_faultOf RX4 := ⟨⟨B.exec, B.bytes, hml, findClass_of_methodNamed B.named, atoms_spec (ws := wsX4_faultOf) B.pre⟩, B.returns, B.notSynchronized⟩
  have Z := g_start hA hv
  have hret : ∀ (r : Int32) (H : Heap) (locs : List Loc) (pc : Nat) (ls : Array Slot), some r = some res → gZ D (gT cyI cyJ cyO) (XM a cyI cyJ th df la fo he wt br dr fm sz om os st wa va sk ++ Y) A bs s H locs → decode cX4_faultOf pc = .ok (.ireturn, 1) → W p l e rmX4_faultOf s m args below meth c H locs 0 0 (MQ below (va_Qi (fun (r : Int32) (_ : Unit) => res = r) (fun (u : Unit) U => gW D (gT cyI cyJ cyO) (XM a cyI cyJ th df la fo he wt br dr fm sz om os st wa va sk ++ Y) A bs U) A) args s 0 0 A) (F0 m pc ls [.int r]) := by
    intro r H locs pc ls h Z hd
    replace h := Option.some.inj h
    exact W.iret C0.1.1 C0.1.2.1 C0.2.1 (fun t ht hW => ⟨⟨r, (()), rfl, h.symm, g_end Z ht hW⟩, Z.2.2.2.1.F ht⟩) Z.2.2.2.1.2.2 hd C0.2.2
  have hl := lv_entry ([.ref (a 0)]) (n := 7) (Nat.le_of_ble_eq_true rfl)
  rw [hav, lg_entry_eq]
  generalize (lg_sl ([.ref (a 0)]) ++ List.replicate (7 - (lg_sl ([.ref (a 0)])).length) Slot.unset).toArray = ls at hl ⊢
  have hl : lv_has ls 7 [(0, .ref (a 0))] := hl
  rw [← hav]
  unfold mX4_faultOf at h
  refine lv_iconst (v := 0) C0.1.1 C0.1.2.1 dX4_faultOf_0 (by decide) ?_
  refine lv_istore_n (lv' := [(1, .int (0 : Int32)), (0, .ref (a 0))]) C0.1.1 C0.1.2.1 dX4_faultOf_1 rfl hl (by decide) rfl (fun ls hl => ?_)
  refine lv_iconst (v := 0) C0.1.1 C0.1.2.1 dX4_faultOf_2 (by decide) ?_
  refine lv_istore_n (lv' := [(2, .int (0 : Int32)), (1, .int (0 : Int32)), (0, .ref (a 0))]) C0.1.1 C0.1.2.1 dX4_faultOf_3 rfl hl (by decide) rfl (fun ls hl => ?_)
  refine lv_iconst (v := 0) C0.1.1 C0.1.2.1 dX4_faultOf_4 (by decide) ?_
  refine lv_istore_n (lv' := [(3, .int (0 : Int32)), (2, .int (0 : Int32)), (1, .int (0 : Int32)), (0, .ref (a 0))]) C0.1.1 C0.1.2.1 dX4_faultOf_5 rfl hl (by decide) rfl (fun ls hl => ?_)
  exact wX4_faultOf_6 (N := N) C0 hret N (0 : Int32) (0 : Int32) (0 : Int32) _ _ _ h Z (lv_sub hl [3, 2, 1, 0] rfl)
/-! X4_fault -/
abbrev rmX4_fault : Room := { frames := 1, cells := 0, slots := 0, locals := 26 }
theorem kX4_fault_f38 : Cond.fieldLink RX4 38 "GoalseekOfficeModel" "thrown" "I" ∈ wsX4_fault := by decide +kernel
theorem kX4_fault_in : ∀ w ∈ wsX40, w ∈ wsX4_fault := by decide +kernel
def mX4_fault (N : Nat) (df : Int32) (dr : Nat → Int32) (th : Int32) : Option (Int32 × Int32) := ((mX4_faultOf N df dr).bind fun x1 => some (x1, (0 : Int32)))
set_option maxRecDepth 20000 in
set_option maxHeartbeats 4000000 in
theorem zX4_fault (l : Launch) (D : va_G) (cyI cyJ cyO : ClassId) (A : Nat → Prop) (bs : Nat) (hA : ∀ q, bs ≤ q → A q) (a : Nat → Nat) (Y : va_W) (th : Int32) (df : Int32) (la : Int32) (fo : Int32) (he : Int32) (wt : Int32) (br : Int32) (dr : Nat → Int32) (fm : Nat → Int32) (sz : Nat → Int32) (om : Nat → Int32) (os : Nat → Int32) (st : Nat → Int32) (wa : Nat → Int32) (va : Nat → Int64) (sk : Nat → Int64) (N : Nat)  (res : Int32 × Int32) (h : mX4_fault N df dr th = some res) : Met l yX4_fault wsX4_fault rmX4_fault (va_Pc [.ref (a 0)] (gW D (gT cyI cyJ cyO) (XM a cyI cyJ th df la fo he wt br dr fm sz om os st wa va sk ++ Y) A bs)) (va_Qi (fun (r : Int32) (u : Int32) => res.1 = r ∧ res.2 = u) (fun (u : Int32) U => gW D (gT cyI cyJ cyO) (XM a cyI cyJ u df la fo he wt br dr fm sz om os st wa va sk ++ Y) A bs U) A) 0 0 A := by
  refine Met.ofW (cc := cX4_fault) (maxL := 1) (ret := (some .int)) (by decide) rfl ?_
  intro p e s m args below meth c s₁ B hml hv
  obtain ⟨hav, hv⟩ := hv
  have C0 : gC p m meth c cX4_fault 1 (some .int) s args wsX4_fault RX4 := ⟨⟨B.exec, B.bytes, hml, findClass_of_methodNamed B.named, atoms_spec (ws := wsX4_fault) B.pre⟩, B.returns, B.notSynchronized⟩
  have Z := g_start hA hv
  have hret : ∀ (r : Int32) (th_r : Int32) (H : Heap) (locs : List Loc) (pc : Nat) (ls : Array Slot), some (r, th_r) = some res → gZ D (gT cyI cyJ cyO) (XM a cyI cyJ th_r df la fo he wt br dr fm sz om os st wa va sk ++ Y) A bs s H locs → decode cX4_fault pc = .ok (.ireturn, 1) → W p l e rmX4_fault s m args below meth c H locs 0 0 (MQ below (va_Qi (fun (r : Int32) (u : Int32) => res.1 = r ∧ res.2 = u) (fun (u : Int32) U => gW D (gT cyI cyJ cyO) (XM a cyI cyJ u df la fo he wt br dr fm sz om os st wa va sk ++ Y) A bs U) A) args s 0 0 A) (F0 m pc ls [.int r]) := by
    intro r th_r H locs pc ls h Z hd
    replace h := Option.some.inj h
    exact W.iret C0.1.1 C0.1.2.1 C0.2.1 (fun t ht hW => ⟨⟨r, (th_r), rfl, ⟨congrArg Prod.fst h.symm, congrArg Prod.snd h.symm⟩, g_end Z ht hW⟩, Z.2.2.2.1.F ht⟩) Z.2.2.2.1.2.2 hd C0.2.2
  have hl := lv_entry ([.ref (a 0)]) (n := 1) (Nat.le_of_ble_eq_true rfl)
  rw [hav, lg_entry_eq]
  generalize (lg_sl ([.ref (a 0)]) ++ List.replicate (1 - (lg_sl ([.ref (a 0)])).length) Slot.unset).toArray = ls at hl ⊢
  have hl : lv_has ls 1 [(0, .ref (a 0))] := hl
  rw [← hav]
  unfold mX4_fault at h
  refine lv_aload_n C0.1.1 C0.1.2.1 dX4_fault_0 rfl (lv_at hl 0 rfl) ?_
  refine lv_iconst (v := 0) C0.1.1 C0.1.2.1 dX4_fault_1 (by decide) ?_
  refine g_put (ci := 6) (v := .int (0 : Int32)) (T := TX4) (N := 16) (ws' := (XM a cyI cyJ (0 : Int32) df la fo he wt br dr fm sz om os st wa va sk ++ Y)) C0.1 Z 0 rfl rfl 0 (by decide) kX4_fault_in kX4_fault_f38 rfl tyX4 tyX4_ok nmX4 rfl rfl rfl (Nat.le_of_ble_eq_true rfl) dX4_fault_2 rfl (fun H locs Z => ?_)
  refine lv_aload_n C0.1.1 C0.1.2.1 dX4_fault_5 rfl (lv_at hl 0 rfl) ?_
  obtain ⟨x1, hx2, h⟩ := g_bd h
  refine g_callVi (b := a 0) (As := []) (rest := []) (ws' := (fun (u : Unit) => (XM a cyI cyJ (0 : Int32) df la fo he wt br dr fm sz om os st wa va sk ++ Y))) C0.1 Z (zX4_faultOf l D cyI cyJ cyO A bs Z.2.2.2.2.2 a Y (0 : Int32) df la fo he wt br dr fm sz om os st wa va sk N x1 hx2) (cwV 0 C0.1.2.2.2.2 gX4_fault_X4_faultOf rfl rfl rfl (by decide +kernel) ⟨Nat.le_of_ble_eq_true rfl, Nat.le_of_ble_eq_true rfl⟩) 0 (ci := 6) rfl rfl rfl rfl hl.1 rfl (Nat.le_of_ble_eq_true rfl) dX4_fault_6 ⟨Nat.zero_le _, Nat.zero_le _⟩ (fun r u H locs hw Z => ?_)
  subst hw
  exact hret x1 (0 : Int32) _ _ _ _ h Z dX4_fault_9
/-! X4_refers -/
abbrev rmX4_refers : Room := { frames := 1, cells := 0, slots := 0, locals := 22 }
theorem kX4_refers_c65 : Cond.constant RX4 65 (1000000) ∈ wsX4_refers := by decide +kernel
theorem kX4_refers_c71 : Cond.constant RX4 71 (1999999) ∈ wsX4_refers := by decide +kernel
def mX4_refers_41 (N : Nat) (n0 : Nat) (f0 : Nat → Int32) (r5 : Int32 → Int32 → Int32 → Int32 → Option (Int32)) (v1 : Int32) (v2 : Int32) (v4 : Int32) (s0 : Int32) (s1 : Int32) : Option (Int32) := r5 v1 v2 (s0 ||| s1) (v4 + (1 : Int32))
def mX4_refers_5_b (N : Nat) (n0 : Nat) (f0 : Nat → Int32) (r5 : Int32 → Int32 → Int32 → Int32 → Option (Int32)) (v1 : Int32) (v2 : Int32) (v3 : Int32) (v4 : Int32) : Option (Int32) := (if (v1 + v2) ≤ v4 then some (v3) else (if v4 < 0 ∨ n0 ≤ v4.toNatClampNeg then none else ((mX4_in N (f0 v4.toNatClampNeg) (1000000 : Int32) (1999999 : Int32)).bind fun x2 => (if x2 = 0 then mX4_refers_41 N n0 f0 r5 v1 v2 v4 v3 (0 : Int32) else (if v4 < 0 ∨ n0 ≤ v4.toNatClampNeg then none else mX4_refers_41 N n0 f0 r5 v1 v2 v4 v3 ((1 : Int32) <<< (((f0 v4.toNatClampNeg) - (1000000 : Int32)) &&& 31)))))))
def mX4_refers_5 (N : Nat) (n0 : Nat) (f0 : Nat → Int32) : Nat → Int32 → Int32 → Int32 → Int32 → Option (Int32)
  | 0 => fun _ _ _ _ => none
  | n + 1 => fun v1 v2 v3 v4 => mX4_refers_5_b N n0 f0 (mX4_refers_5 N n0 f0 n) v1 v2 v3 v4
def mX4_refers (N : Nat) (n0 : Nat) (f0 : Nat → Int32) (p1 : Int32) (p2 : Int32) : Option (Int32) := mX4_refers_5 N n0 f0 N p1 p2 (0 : Int32) p1
set_option maxRecDepth 20000 in
set_option maxHeartbeats 4000000 in
theorem wX4_refers_41 {p : Program} {l : Launch} {e : Env} {s : State} {m : MethodId} {args : Array Value} {below : List Frame} {meth : Method} {c : Code} {Q : State → Prop} {D : va_G} {cyI cyJ cyO : ClassId} {A : Nat → Prop} {bs : Nat} {ws : va_W} {N : Nat} {res : Int32} (C0 : gC p m meth c cX4_refers 5 (some .int) s args wsX4_refers RX4) {n0 : Nat} {f0 : Nat → Int32} {ra0 q0 : Nat} (hq0 : ws[q0]? = some (ra0, .inl (cyI, n0, .inl f0))) (hret : ∀ (r : Int32) (H : Heap) (locs : List Loc) (pc : Nat) (ls : Array Slot), some r = some res → gZ D (gT cyI cyJ cyO) ws A bs s H locs → decode cX4_refers pc = .ok (.ireturn, 1) → W p l e rmX4_refers s m args below meth c H locs 0 0 Q (F0 m pc ls [.int r])) {r5 : Int32 → Int32 → Int32 → Int32 → Option (Int32)} (hr5 : ∀ (v1 : Int32) (v2 : Int32) (v3 : Int32) (v4 : Int32) (H : Heap) (locs : List Loc) (ls : Array Slot), r5 v1 v2 v3 v4 = some res → gZ D (gT cyI cyJ cyO) ws A bs s H locs → lv_has ls 5 [(0, .ref ra0), (1, .int v1), (2, .int v2), (3, .int v3), (4, .int v4)] → W p l e rmX4_refers s m args below meth c H locs 0 0 Q (F0 m 5 ls [])) : ∀ (v1 : Int32) (v2 : Int32) (v4 : Int32) (s0 : Int32) (s1 : Int32) (H : Heap) (locs : List Loc) (ls : Array Slot), mX4_refers_41 N n0 f0 r5 v1 v2 v4 s0 s1 = some res → gZ D (gT cyI cyJ cyO) ws A bs s H locs → lv_has ls 5 [(0, .ref ra0), (1, .int v1), (2, .int v2), (4, .int v4)] → W p l e rmX4_refers s m args below meth c H locs 0 0 Q (F0 m 41 ls [.int s1, .int s0]) := by
  intro v1 v2 v4 s0 s1 H locs ls h Z hl
  unfold mX4_refers_41 at h
  refine lv_ior C0.1.1 C0.1.2.1 dX4_refers_41 ?_
  refine lv_istore_n (lv' := [(3, .int (s0 ||| s1)), (0, .ref ra0), (1, .int v1), (2, .int v2), (4, .int v4)]) C0.1.1 C0.1.2.1 dX4_refers_42 rfl hl (by decide) rfl (fun ls hl => ?_)
  refine lv_iinc (v := v4 + (1 : Int32)) (lv' := [(4, .int (v4 + (1 : Int32))), (3, .int (s0 ||| s1)), (0, .ref ra0), (1, .int v1), (2, .int v2)]) C0.1.1 C0.1.2.1 dX4_refers_43 hl (k := 4) rfl rfl (by decide) rfl (fun ls hl => ?_)
  refine lv_goto (tgt := 5) C0.1.1 C0.1.2.1 dX4_refers_46 (by decide) ?_
  exact hr5 v1 v2 (s0 ||| s1) (v4 + (1 : Int32)) _ _ _ h Z (lv_sub hl [2, 3, 4, 1, 0] rfl)
set_option maxRecDepth 20000 in
set_option maxHeartbeats 4000000 in
theorem wX4_refers_5_b {p : Program} {l : Launch} {e : Env} {s : State} {m : MethodId} {args : Array Value} {below : List Frame} {meth : Method} {c : Code} {Q : State → Prop} {D : va_G} {cyI cyJ cyO : ClassId} {A : Nat → Prop} {bs : Nat} {ws : va_W} {N : Nat} {res : Int32} (C0 : gC p m meth c cX4_refers 5 (some .int) s args wsX4_refers RX4) {n0 : Nat} {f0 : Nat → Int32} {ra0 q0 : Nat} (hq0 : ws[q0]? = some (ra0, .inl (cyI, n0, .inl f0))) (hret : ∀ (r : Int32) (H : Heap) (locs : List Loc) (pc : Nat) (ls : Array Slot), some r = some res → gZ D (gT cyI cyJ cyO) ws A bs s H locs → decode cX4_refers pc = .ok (.ireturn, 1) → W p l e rmX4_refers s m args below meth c H locs 0 0 Q (F0 m pc ls [.int r])) {r5 : Int32 → Int32 → Int32 → Int32 → Option (Int32)} (hr5 : ∀ (v1 : Int32) (v2 : Int32) (v3 : Int32) (v4 : Int32) (H : Heap) (locs : List Loc) (ls : Array Slot), r5 v1 v2 v3 v4 = some res → gZ D (gT cyI cyJ cyO) ws A bs s H locs → lv_has ls 5 [(0, .ref ra0), (1, .int v1), (2, .int v2), (3, .int v3), (4, .int v4)] → W p l e rmX4_refers s m args below meth c H locs 0 0 Q (F0 m 5 ls [])) : ∀ (v1 : Int32) (v2 : Int32) (v3 : Int32) (v4 : Int32) (H : Heap) (locs : List Loc) (ls : Array Slot), mX4_refers_5_b N n0 f0 r5 v1 v2 v3 v4 = some res → gZ D (gT cyI cyJ cyO) ws A bs s H locs → lv_has ls 5 [(0, .ref ra0), (1, .int v1), (2, .int v2), (3, .int v3), (4, .int v4)] → W p l e rmX4_refers s m args below meth c H locs 0 0 Q (F0 m 5 ls []) := by
  intro v1 v2 v3 v4 H locs ls h Z hl
  unfold mX4_refers_5_b at h
  refine lv_iload C0.1.1 C0.1.2.1 dX4_refers_5 (lv_at hl 4 rfl) ?_
  refine lv_iload_n C0.1.1 C0.1.2.1 dX4_refers_7 rfl (lv_at hl 1 rfl) ?_
  refine lv_iload_n C0.1.1 C0.1.2.1 dX4_refers_8 rfl (lv_at hl 2 rfl) ?_
  refine lv_iadd C0.1.1 C0.1.2.1 dX4_refers_9 ?_
  refine lv_icmp_ge (tgt := 49) C0.1.1 C0.1.2.1 dX4_refers_10 (by decide) (fun hc => ?_) (fun hc => ?_)
  · replace h := (if_pos hc).symm.trans h
    refine lv_iload_n C0.1.1 C0.1.2.1 dX4_refers_49 rfl (lv_at hl 3 rfl) ?_
    exact hret v3 _ _ _ _ h Z dX4_refers_50
  · replace h := (if_neg hc).symm.trans h
    refine lv_iload_n C0.1.1 C0.1.2.1 dX4_refers_13 rfl (lv_at hl 3 rfl) ?_
    refine lv_aload_n C0.1.1 C0.1.2.1 dX4_refers_14 rfl (lv_at hl 0 rfl) ?_
    refine lv_iload C0.1.1 C0.1.2.1 dX4_refers_15 (lv_at hl 4 rfl) ?_
    obtain ⟨hi1, h⟩ := g_ni h
    refine g_iald (f := f0) (n := n0) C0.1 Z q0 0 hq0 rfl hi1 dX4_refers_17 ?_
    refine lv_ldc C0.1.1 C0.1.2.1 C0.1.2.2.2.1 (C0.1.2.2.2.2 _ kX4_refers_c65) dX4_refers_18 ?_
    refine lv_ldc C0.1.1 C0.1.2.1 C0.1.2.2.2.1 (C0.1.2.2.2.2 _ kX4_refers_c71) dX4_refers_20 ?_
    obtain ⟨x2, hx3, h⟩ := g_bd h
    refine g_callSi (As := [.int (f0 v4.toNatClampNeg), .int (1000000 : Int32), .int (1999999 : Int32)]) (rest := [.int v3]) (ws' := (fun (u : Unit) => ws)) C0.1 Z (zX4_in l D cyI cyJ cyO A bs Z.2.2.2.2.2 ws N (f0 v4.toNatClampNeg) (1000000 : Int32) (1999999 : Int32) x2 hx3) (va_cwS 3 C0.1.2.2.2.2 gX4_refers_X4_in rfl rfl rfl (by decide +kernel) ⟨Nat.le_of_ble_eq_true rfl, Nat.le_of_ble_eq_true rfl⟩) rfl hl.1 rfl (Nat.le_of_ble_eq_true rfl) dX4_refers_22 ⟨Nat.zero_le _, Nat.zero_le _⟩ (fun r u H locs hw Z => ?_)
    subst hw
    refine lv_if_eq (tgt := 40) C0.1.1 C0.1.2.1 dX4_refers_25 (by decide) (fun hc => ?_) (fun hc => ?_)
    · replace h := (if_pos hc).symm.trans h
      refine lv_iconst (v := 0) C0.1.1 C0.1.2.1 dX4_refers_40 (by decide) ?_
      exact wX4_refers_41 (N := N) C0 hq0 hret hr5 v1 v2 v4 v3 (0 : Int32) _ _ _ h Z (lv_sub hl [0, 1, 2, 4] rfl)
    · replace h := (if_neg hc).symm.trans h
      refine lv_iconst (v := 1) C0.1.1 C0.1.2.1 dX4_refers_28 (by decide) ?_
      refine lv_aload_n C0.1.1 C0.1.2.1 dX4_refers_29 rfl (lv_at hl 0 rfl) ?_
      refine lv_iload C0.1.1 C0.1.2.1 dX4_refers_30 (lv_at hl 4 rfl) ?_
      obtain ⟨hi4, h⟩ := g_ni h
      refine g_iald (f := f0) (n := n0) C0.1 Z q0 0 hq0 rfl hi4 dX4_refers_32 ?_
      refine lv_ldc C0.1.1 C0.1.2.1 C0.1.2.2.2.1 (C0.1.2.2.2.2 _ kX4_refers_c65) dX4_refers_33 ?_
      refine lv_isub C0.1.1 C0.1.2.1 dX4_refers_35 ?_
      refine lv_ishl C0.1.1 C0.1.2.1 dX4_refers_36 ?_
      refine lv_goto (tgt := 41) C0.1.1 C0.1.2.1 dX4_refers_37 (by decide) ?_
      exact wX4_refers_41 (N := N) C0 hq0 hret hr5 v1 v2 v4 v3 ((1 : Int32) <<< (((f0 v4.toNatClampNeg) - (1000000 : Int32)) &&& 31)) _ _ _ h Z (lv_sub hl [0, 1, 2, 4] rfl)
theorem wX4_refers_5 {p : Program} {l : Launch} {e : Env} {s : State} {m : MethodId} {args : Array Value} {below : List Frame} {meth : Method} {c : Code} {Q : State → Prop} {D : va_G} {cyI cyJ cyO : ClassId} {A : Nat → Prop} {bs : Nat} {ws : va_W} {N : Nat} {res : Int32} (C0 : gC p m meth c cX4_refers 5 (some .int) s args wsX4_refers RX4) {n0 : Nat} {f0 : Nat → Int32} {ra0 q0 : Nat} (hq0 : ws[q0]? = some (ra0, .inl (cyI, n0, .inl f0))) (hret : ∀ (r : Int32) (H : Heap) (locs : List Loc) (pc : Nat) (ls : Array Slot), some r = some res → gZ D (gT cyI cyJ cyO) ws A bs s H locs → decode cX4_refers pc = .ok (.ireturn, 1) → W p l e rmX4_refers s m args below meth c H locs 0 0 Q (F0 m pc ls [.int r]))  : ∀ (n : Nat), ∀ (v1 : Int32) (v2 : Int32) (v3 : Int32) (v4 : Int32) (H : Heap) (locs : List Loc) (ls : Array Slot), mX4_refers_5 N n0 f0 n v1 v2 v3 v4 = some res → gZ D (gT cyI cyJ cyO) ws A bs s H locs → lv_has ls 5 [(0, .ref ra0), (1, .int v1), (2, .int v2), (3, .int v3), (4, .int v4)] → W p l e rmX4_refers s m args below meth c H locs 0 0 Q (F0 m 5 ls []) := by
  intro n
  induction n with
  | zero => intro _ _ _ _ _ _ _ h; cases h
  | succ n ih => exact wX4_refers_5_b (N := N) C0 hq0 hret ih
set_option maxRecDepth 20000 in
set_option maxHeartbeats 4000000 in
theorem zX4_refers (l : Launch) (D : va_G) (cyI cyJ cyO : ClassId) (A : Nat → Prop) (bs : Nat) (hA : ∀ q, bs ≤ q → A q) (ws : va_W) {n0 : Nat} {f0 : Nat → Int32} {ra0 q0 : Nat} (hq0 : ws[q0]? = some (ra0, .inl (cyI, n0, .inl f0))) (N : Nat) (p1 : Int32) (p2 : Int32) (res : Int32) (h : mX4_refers N n0 f0 p1 p2 = some res) : Met l yX4_refers wsX4_refers rmX4_refers (va_Pc [.ref ra0, .int p1, .int p2] (gW D (gT cyI cyJ cyO) ws A bs)) (va_Qi (fun (r : Int32) (_ : Unit) => res = r) (fun (u : Unit) U => gW D (gT cyI cyJ cyO) ws A bs U) A) 0 0 A := by
  refine Met.ofW (cc := cX4_refers) (maxL := 5) (ret := (some .int)) (by decide) rfl ?_
  intro p e s m args below meth c s₁ B hml hv
  obtain ⟨hav, hv⟩ := hv
  have C0 : gC p m meth c cX4_refers 5 (some .int) s args wsX4_refers RX4 := ⟨⟨B.exec, B.bytes, hml, findClass_of_methodNamed B.named, atoms_spec (ws := wsX4_refers) B.pre⟩, B.returns, B.notSynchronized⟩
  have Z := g_start hA hv
  have hret : ∀ (r : Int32) (H : Heap) (locs : List Loc) (pc : Nat) (ls : Array Slot), some r = some res → gZ D (gT cyI cyJ cyO) ws A bs s H locs → decode cX4_refers pc = .ok (.ireturn, 1) → W p l e rmX4_refers s m args below meth c H locs 0 0 (MQ below (va_Qi (fun (r : Int32) (_ : Unit) => res = r) (fun (u : Unit) U => gW D (gT cyI cyJ cyO) ws A bs U) A) args s 0 0 A) (F0 m pc ls [.int r]) := by
    intro r H locs pc ls h Z hd
    replace h := Option.some.inj h
    exact W.iret C0.1.1 C0.1.2.1 C0.2.1 (fun t ht hW => ⟨⟨r, (()), rfl, h.symm, g_end Z ht hW⟩, Z.2.2.2.1.F ht⟩) Z.2.2.2.1.2.2 hd C0.2.2
  have hl := lv_entry ([.ref ra0, .int p1, .int p2]) (n := 5) (Nat.le_of_ble_eq_true rfl)
  rw [hav, lg_entry_eq]
  generalize (lg_sl ([.ref ra0, .int p1, .int p2]) ++ List.replicate (5 - (lg_sl ([.ref ra0, .int p1, .int p2])).length) Slot.unset).toArray = ls at hl ⊢
  have hl : lv_has ls 5 [(0, .ref ra0), (1, .int p1), (2, .int p2)] := hl
  rw [← hav]
  unfold mX4_refers at h
  refine lv_iconst (v := 0) C0.1.1 C0.1.2.1 dX4_refers_0 (by decide) ?_
  refine lv_istore_n (lv' := [(3, .int (0 : Int32)), (0, .ref ra0), (1, .int p1), (2, .int p2)]) C0.1.1 C0.1.2.1 dX4_refers_1 rfl hl (by decide) rfl (fun ls hl => ?_)
  refine lv_iload_n C0.1.1 C0.1.2.1 dX4_refers_2 rfl (lv_at hl 2 rfl) ?_
  refine lv_istore (lv' := [(4, .int p1), (3, .int (0 : Int32)), (0, .ref ra0), (1, .int p1), (2, .int p2)]) C0.1.1 C0.1.2.1 dX4_refers_3 hl (by decide) rfl (fun ls hl => ?_)
  exact wX4_refers_5 (N := N) C0 hq0 hret N p1 p2 (0 : Int32) p1 _ _ _ h Z (lv_sub hl [2, 3, 4, 1, 0] rfl)
/-! X4_refersOf -/
abbrev rmX4_refersOf : Room := { frames := 2, cells := 0, slots := 0, locals := 46 }
theorem kX4_refersOf_f13 : Cond.fieldLink RX4 13 "GoalseekOfficeModel" "formulas" "[I" ∈ wsX4_refersOf := by decide +kernel
theorem kX4_refersOf_in : ∀ w ∈ wsX40, w ∈ wsX4_refersOf := by decide +kernel
theorem kX4_refersOf_f16 : Cond.fieldLink RX4 16 "GoalseekOfficeModel" "sizes" "[I" ∈ wsX4_refersOf := by decide +kernel
def mX4_refersOf (N : Nat) (fm : Nat → Int32) (sz : Nat → Int32) (p0 : Int32) : Option (Int32) := (if p0 < 0 ∨ 30 ≤ p0.toNatClampNeg then none else ((mX4_refers N 450 fm ((15 : Int32) * p0) (sz p0.toNatClampNeg)).bind fun x2 => some (x2)))
set_option maxRecDepth 20000 in
set_option maxHeartbeats 4000000 in
theorem zX4_refersOf (l : Launch) (D : va_G) (cyI cyJ cyO : ClassId) (A : Nat → Prop) (bs : Nat) (hA : ∀ q, bs ≤ q → A q) (a : Nat → Nat) (Y : va_W) (th : Int32) (df : Int32) (la : Int32) (fo : Int32) (he : Int32) (wt : Int32) (br : Int32) (dr : Nat → Int32) (fm : Nat → Int32) (sz : Nat → Int32) (om : Nat → Int32) (os : Nat → Int32) (st : Nat → Int32) (wa : Nat → Int32) (va : Nat → Int64) (sk : Nat → Int64) (N : Nat) (p0 : Int32) (res : Int32) (h : mX4_refersOf N fm sz p0 = some res) : Met l yX4_refersOf wsX4_refersOf rmX4_refersOf (va_Pc [.ref (a 0), .int p0] (gW D (gT cyI cyJ cyO) (XM a cyI cyJ th df la fo he wt br dr fm sz om os st wa va sk ++ Y) A bs)) (va_Qi (fun (r : Int32) (_ : Unit) => res = r) (fun (u : Unit) U => gW D (gT cyI cyJ cyO) (XM a cyI cyJ th df la fo he wt br dr fm sz om os st wa va sk ++ Y) A bs U) A) 0 0 A := by
  refine Met.ofW (cc := cX4_refersOf) (maxL := 2) (ret := (some .int)) (by decide) rfl ?_
  intro p e s m args below meth c s₁ B hml hv
  obtain ⟨hav, hv⟩ := hv
  have C0 : gC p m meth c cX4_refersOf 2 (some .int) s args wsX4_refersOf RX4 := ⟨⟨B.exec, B.bytes, hml, findClass_of_methodNamed B.named, atoms_spec (ws := wsX4_refersOf) B.pre⟩, B.returns, B.notSynchronized⟩
  have Z := g_start hA hv
  have hret : ∀ (r : Int32) (H : Heap) (locs : List Loc) (pc : Nat) (ls : Array Slot), some r = some res → gZ D (gT cyI cyJ cyO) (XM a cyI cyJ th df la fo he wt br dr fm sz om os st wa va sk ++ Y) A bs s H locs → decode cX4_refersOf pc = .ok (.ireturn, 1) → W p l e rmX4_refersOf s m args below meth c H locs 0 0 (MQ below (va_Qi (fun (r : Int32) (_ : Unit) => res = r) (fun (u : Unit) U => gW D (gT cyI cyJ cyO) (XM a cyI cyJ th df la fo he wt br dr fm sz om os st wa va sk ++ Y) A bs U) A) args s 0 0 A) (F0 m pc ls [.int r]) := by
    intro r H locs pc ls h Z hd
    replace h := Option.some.inj h
    exact W.iret C0.1.1 C0.1.2.1 C0.2.1 (fun t ht hW => ⟨⟨r, (()), rfl, h.symm, g_end Z ht hW⟩, Z.2.2.2.1.F ht⟩) Z.2.2.2.1.2.2 hd C0.2.2
  have hl := lv_entry ([.ref (a 0), .int p0]) (n := 2) (Nat.le_of_ble_eq_true rfl)
  rw [hav, lg_entry_eq]
  generalize (lg_sl ([.ref (a 0), .int p0]) ++ List.replicate (2 - (lg_sl ([.ref (a 0), .int p0])).length) Slot.unset).toArray = ls at hl ⊢
  have hl : lv_has ls 2 [(0, .ref (a 0)), (1, .int p0)] := hl
  rw [← hav]
  unfold mX4_refersOf at h
  refine lv_aload_n C0.1.1 C0.1.2.1 dX4_refersOf_0 rfl (lv_at hl 0 rfl) ?_
  refine g_get (ci := 6) (v := .ref (a 2)) (T := TX4) (N := 16) C0.1 Z 0 rfl rfl 3 (by decide) kX4_refersOf_in kX4_refersOf_f13 rfl rfl dX4_refersOf_1 ?_
  refine lv_bipush (v := 15) C0.1.1 C0.1.2.1 dX4_refersOf_4 (by decide +kernel) ?_
  refine lv_iload_n C0.1.1 C0.1.2.1 dX4_refersOf_6 rfl (lv_at hl 1 rfl) ?_
  refine lv_imul C0.1.1 C0.1.2.1 dX4_refersOf_7 ?_
  refine lv_aload_n C0.1.1 C0.1.2.1 dX4_refersOf_8 rfl (lv_at hl 0 rfl) ?_
  refine g_get (ci := 6) (v := .ref (a 3)) (T := TX4) (N := 16) C0.1 Z 0 rfl rfl 4 (by decide) kX4_refersOf_in kX4_refersOf_f16 rfl rfl dX4_refersOf_9 ?_
  refine lv_iload_n C0.1.1 C0.1.2.1 dX4_refersOf_12 rfl (lv_at hl 1 rfl) ?_
  obtain ⟨hi1, h⟩ := g_ni h
  refine g_iald (f := sz) (n := 30) C0.1 Z 3 0 rfl rfl hi1 dX4_refersOf_13 ?_
  obtain ⟨x2, hx3, h⟩ := g_bd h
  refine g_callSi (As := [.ref (a 2), .int ((15 : Int32) * p0), .int (sz p0.toNatClampNeg)]) (rest := []) (ws' := (fun (u : Unit) => (XM a cyI cyJ th df la fo he wt br dr fm sz om os st wa va sk ++ Y))) C0.1 Z (zX4_refers l D cyI cyJ cyO A bs Z.2.2.2.2.2 (XM a cyI cyJ th df la fo he wt br dr fm sz om os st wa va sk ++ Y) (ra0 := (a 2)) (q0 := 2) (n0 := 450) (f0 := fm) rfl N ((15 : Int32) * p0) (sz p0.toNatClampNeg) x2 hx3) (va_cwS 3 C0.1.2.2.2.2 gX4_refersOf_X4_refers rfl rfl rfl (by decide +kernel) ⟨Nat.le_of_ble_eq_true rfl, Nat.le_of_ble_eq_true rfl⟩) rfl hl.1 rfl (Nat.le_of_ble_eq_true rfl) dX4_refersOf_14 ⟨Nat.zero_le _, Nat.zero_le _⟩ (fun r u H locs hw Z => ?_)
  subst hw
  exact hret x2 _ _ _ _ h Z dX4_refersOf_17
/-! X4_below -/
abbrev rmX4_below : Room := { frames := 3, cells := 0, slots := 0, locals := 67 }
def mX4_below_42 (N : Nat) (fm : Nat → Int32) (sz : Nat → Int32) (r4 : Int32 → Int32 → Option (Int32)) (r14 : Int32 → Int32 → Int32 → Option (Int32)) (v3 : Int32) (v4 : Int32) (s0 : Int32) (s1 : Int32) : Option (Int32) := r14 (s0 ||| s1) v3 (v4 + (1 : Int32))
def mX4_below_14_b (N : Nat) (fm : Nat → Int32) (sz : Nat → Int32) (r4 : Int32 → Int32 → Option (Int32)) (r14 : Int32 → Int32 → Int32 → Option (Int32)) (v2 : Int32) (v3 : Int32) (v4 : Int32) : Option (Int32) := (if (30 : Int32) ≤ v4 then r4 v2 v3 else (if ((v2 >>> (v4 &&& 31)) &&& (1 : Int32)) = (1 : Int32) then ((mX4_refersOf N fm sz v4).bind fun x1 => mX4_below_42 N fm sz r4 r14 v3 v4 v2 x1) else mX4_below_42 N fm sz r4 r14 v3 v4 v2 (0 : Int32)))
def mX4_below_14 (N : Nat) (fm : Nat → Int32) (sz : Nat → Int32) (r4 : Int32 → Int32 → Option (Int32)) : Nat → Int32 → Int32 → Int32 → Option (Int32)
  | 0 => fun _ _ _ => none
  | n + 1 => fun v2 v3 v4 => mX4_below_14_b N fm sz r4 (mX4_below_14 N fm sz r4 n) v2 v3 v4
def mX4_below_4_b (N : Nat) (fm : Nat → Int32) (sz : Nat → Int32) (r4 : Int32 → Int32 → Option (Int32)) (v2 : Int32) (v3 : Int32) : Option (Int32) := (if v2 = v3 then some (v2) else mX4_below_14 N fm sz r4 N v2 v2 (0 : Int32))
def mX4_below_4 (N : Nat) (fm : Nat → Int32) (sz : Nat → Int32) : Nat → Int32 → Int32 → Option (Int32)
  | 0 => fun _ _ => none
  | n + 1 => fun v2 v3 => mX4_below_4_b N fm sz (mX4_below_4 N fm sz n) v2 v3
def mX4_below (N : Nat) (fm : Nat → Int32) (sz : Nat → Int32) (p0 : Int32) : Option (Int32) := mX4_below_4 N fm sz N p0 (0 : Int32)
set_option maxRecDepth 20000 in
set_option maxHeartbeats 4000000 in
theorem wX4_below_42 {p : Program} {l : Launch} {e : Env} {s : State} {m : MethodId} {args : Array Value} {below : List Frame} {meth : Method} {c : Code} {Q : State → Prop} {D : va_G} {cyI cyJ cyO : ClassId} {A : Nat → Prop} {bs : Nat} {a : Nat → Nat} {Y : va_W} {th : Int32} {df : Int32} {la : Int32} {fo : Int32} {he : Int32} {wt : Int32} {br : Int32} {dr : Nat → Int32} {fm : Nat → Int32} {sz : Nat → Int32} {om : Nat → Int32} {os : Nat → Int32} {st : Nat → Int32} {wa : Nat → Int32} {va : Nat → Int64} {sk : Nat → Int64} {N : Nat} {res : Int32} (C0 : gC p m meth c cX4_below 5 (some .int) s args wsX4_below RX4) (hret : ∀ (r : Int32) (H : Heap) (locs : List Loc) (pc : Nat) (ls : Array Slot), some r = some res → gZ D (gT cyI cyJ cyO) (XM a cyI cyJ th df la fo he wt br dr fm sz om os st wa va sk ++ Y) A bs s H locs → decode cX4_below pc = .ok (.ireturn, 1) → W p l e rmX4_below s m args below meth c H locs 0 0 Q (F0 m pc ls [.int r])) {r4 : Int32 → Int32 → Option (Int32)} (hr4 : ∀ (v2 : Int32) (v3 : Int32) (H : Heap) (locs : List Loc) (ls : Array Slot), r4 v2 v3 = some res → gZ D (gT cyI cyJ cyO) (XM a cyI cyJ th df la fo he wt br dr fm sz om os st wa va sk ++ Y) A bs s H locs → lv_has ls 5 [(0, .ref (a 0)), (2, .int v2), (3, .int v3)] → W p l e rmX4_below s m args below meth c H locs 0 0 Q (F0 m 4 ls [])) {r14 : Int32 → Int32 → Int32 → Option (Int32)} (hr14 : ∀ (v2 : Int32) (v3 : Int32) (v4 : Int32) (H : Heap) (locs : List Loc) (ls : Array Slot), r14 v2 v3 v4 = some res → gZ D (gT cyI cyJ cyO) (XM a cyI cyJ th df la fo he wt br dr fm sz om os st wa va sk ++ Y) A bs s H locs → lv_has ls 5 [(0, .ref (a 0)), (2, .int v2), (3, .int v3), (4, .int v4)] → W p l e rmX4_below s m args below meth c H locs 0 0 Q (F0 m 14 ls [])) : ∀ (v3 : Int32) (v4 : Int32) (s0 : Int32) (s1 : Int32) (H : Heap) (locs : List Loc) (ls : Array Slot), mX4_below_42 N fm sz r4 r14 v3 v4 s0 s1 = some res → gZ D (gT cyI cyJ cyO) (XM a cyI cyJ th df la fo he wt br dr fm sz om os st wa va sk ++ Y) A bs s H locs → lv_has ls 5 [(0, .ref (a 0)), (3, .int v3), (4, .int v4)] → W p l e rmX4_below s m args below meth c H locs 0 0 Q (F0 m 42 ls [.int s1, .int s0]) := by
  intro v3 v4 s0 s1 H locs ls h Z hl
  unfold mX4_below_42 at h
  refine lv_ior C0.1.1 C0.1.2.1 dX4_below_42 ?_
  refine lv_istore_n (lv' := [(2, .int (s0 ||| s1)), (0, .ref (a 0)), (3, .int v3), (4, .int v4)]) C0.1.1 C0.1.2.1 dX4_below_43 rfl hl (by decide) rfl (fun ls hl => ?_)
  refine lv_iinc (v := v4 + (1 : Int32)) (lv' := [(4, .int (v4 + (1 : Int32))), (2, .int (s0 ||| s1)), (0, .ref (a 0)), (3, .int v3)]) C0.1.1 C0.1.2.1 dX4_below_44 hl (k := 3) rfl rfl (by decide) rfl (fun ls hl => ?_)
  refine lv_goto (tgt := 14) C0.1.1 C0.1.2.1 dX4_below_47 (by decide) ?_
  exact hr14 (s0 ||| s1) v3 (v4 + (1 : Int32)) _ _ _ h Z (lv_sub hl [2, 1, 3, 0] rfl)
set_option maxRecDepth 20000 in
set_option maxHeartbeats 4000000 in
theorem wX4_below_14_b {p : Program} {l : Launch} {e : Env} {s : State} {m : MethodId} {args : Array Value} {below : List Frame} {meth : Method} {c : Code} {Q : State → Prop} {D : va_G} {cyI cyJ cyO : ClassId} {A : Nat → Prop} {bs : Nat} {a : Nat → Nat} {Y : va_W} {th : Int32} {df : Int32} {la : Int32} {fo : Int32} {he : Int32} {wt : Int32} {br : Int32} {dr : Nat → Int32} {fm : Nat → Int32} {sz : Nat → Int32} {om : Nat → Int32} {os : Nat → Int32} {st : Nat → Int32} {wa : Nat → Int32} {va : Nat → Int64} {sk : Nat → Int64} {N : Nat} {res : Int32} (C0 : gC p m meth c cX4_below 5 (some .int) s args wsX4_below RX4) (hret : ∀ (r : Int32) (H : Heap) (locs : List Loc) (pc : Nat) (ls : Array Slot), some r = some res → gZ D (gT cyI cyJ cyO) (XM a cyI cyJ th df la fo he wt br dr fm sz om os st wa va sk ++ Y) A bs s H locs → decode cX4_below pc = .ok (.ireturn, 1) → W p l e rmX4_below s m args below meth c H locs 0 0 Q (F0 m pc ls [.int r])) {r4 : Int32 → Int32 → Option (Int32)} (hr4 : ∀ (v2 : Int32) (v3 : Int32) (H : Heap) (locs : List Loc) (ls : Array Slot), r4 v2 v3 = some res → gZ D (gT cyI cyJ cyO) (XM a cyI cyJ th df la fo he wt br dr fm sz om os st wa va sk ++ Y) A bs s H locs → lv_has ls 5 [(0, .ref (a 0)), (2, .int v2), (3, .int v3)] → W p l e rmX4_below s m args below meth c H locs 0 0 Q (F0 m 4 ls [])) {r14 : Int32 → Int32 → Int32 → Option (Int32)} (hr14 : ∀ (v2 : Int32) (v3 : Int32) (v4 : Int32) (H : Heap) (locs : List Loc) (ls : Array Slot), r14 v2 v3 v4 = some res → gZ D (gT cyI cyJ cyO) (XM a cyI cyJ th df la fo he wt br dr fm sz om os st wa va sk ++ Y) A bs s H locs → lv_has ls 5 [(0, .ref (a 0)), (2, .int v2), (3, .int v3), (4, .int v4)] → W p l e rmX4_below s m args below meth c H locs 0 0 Q (F0 m 14 ls [])) : ∀ (v2 : Int32) (v3 : Int32) (v4 : Int32) (H : Heap) (locs : List Loc) (ls : Array Slot), mX4_below_14_b N fm sz r4 r14 v2 v3 v4 = some res → gZ D (gT cyI cyJ cyO) (XM a cyI cyJ th df la fo he wt br dr fm sz om os st wa va sk ++ Y) A bs s H locs → lv_has ls 5 [(0, .ref (a 0)), (2, .int v2), (3, .int v3), (4, .int v4)] → W p l e rmX4_below s m args below meth c H locs 0 0 Q (F0 m 14 ls []) := by
  intro v2 v3 v4 H locs ls h Z hl
  unfold mX4_below_14_b at h
  refine lv_iload C0.1.1 C0.1.2.1 dX4_below_14 (lv_at hl 3 rfl) ?_
  refine lv_bipush (v := 30) C0.1.1 C0.1.2.1 dX4_below_16 (by decide +kernel) ?_
  refine lv_icmp_ge (tgt := 50) C0.1.1 C0.1.2.1 dX4_below_18 (by decide) (fun hc => ?_) (fun hc => ?_)
  · replace h := (if_pos hc).symm.trans h
    refine lv_goto (tgt := 4) C0.1.1 C0.1.2.1 dX4_below_50 (by decide) ?_
    exact hr4 v2 v3 _ _ _ h Z (lv_sub hl [0, 1, 2] rfl)
  · replace h := (if_neg hc).symm.trans h
    refine lv_iload_n C0.1.1 C0.1.2.1 dX4_below_21 rfl (lv_at hl 1 rfl) ?_
    refine lv_iload_n C0.1.1 C0.1.2.1 dX4_below_22 rfl (lv_at hl 1 rfl) ?_
    refine lv_iload C0.1.1 C0.1.2.1 dX4_below_23 (lv_at hl 3 rfl) ?_
    refine lv_ishr C0.1.1 C0.1.2.1 dX4_below_25 ?_
    refine lv_iconst (v := 1) C0.1.1 C0.1.2.1 dX4_below_26 (by decide) ?_
    refine lv_iand C0.1.1 C0.1.2.1 dX4_below_27 ?_
    refine lv_iconst (v := 1) C0.1.1 C0.1.2.1 dX4_below_28 (by decide) ?_
    refine lv_icmp_ne (tgt := 41) C0.1.1 C0.1.2.1 dX4_below_29 (by decide) (fun hc => ?_) (fun hc => ?_)
    · replace h := (if_neg hc).symm.trans h
      refine lv_iconst (v := 0) C0.1.1 C0.1.2.1 dX4_below_41 (by decide) ?_
      exact wX4_below_42 (N := N) C0 hret hr4 hr14 v3 v4 v2 (0 : Int32) _ _ _ h Z (lv_sub hl [0, 2, 3] rfl)
    · replace h := (if_pos hc).symm.trans h
      refine lv_aload_n C0.1.1 C0.1.2.1 dX4_below_32 rfl (lv_at hl 0 rfl) ?_
      refine lv_iload C0.1.1 C0.1.2.1 dX4_below_33 (lv_at hl 3 rfl) ?_
      obtain ⟨x1, hx2, h⟩ := g_bd h
      refine g_callVi (b := a 0) (As := [.int v4]) (rest := [.int v2]) (ws' := (fun (u : Unit) => (XM a cyI cyJ th df la fo he wt br dr fm sz om os st wa va sk ++ Y))) C0.1 Z (zX4_refersOf l D cyI cyJ cyO A bs Z.2.2.2.2.2 a Y th df la fo he wt br dr fm sz om os st wa va sk N v4 x1 hx2) (cwV 1 C0.1.2.2.2.2 gX4_below_X4_refersOf rfl rfl rfl (by decide +kernel) ⟨Nat.le_of_ble_eq_true rfl, Nat.le_of_ble_eq_true rfl⟩) 0 (ci := 6) rfl rfl rfl rfl hl.1 rfl (Nat.le_of_ble_eq_true rfl) dX4_below_35 ⟨Nat.zero_le _, Nat.zero_le _⟩ (fun r u H locs hw Z => ?_)
      subst hw
      refine lv_goto (tgt := 42) C0.1.1 C0.1.2.1 dX4_below_38 (by decide) ?_
      exact wX4_below_42 (N := N) C0 hret hr4 hr14 v3 v4 v2 x1 _ _ _ h Z (lv_sub hl [0, 2, 3] rfl)
theorem wX4_below_14 {p : Program} {l : Launch} {e : Env} {s : State} {m : MethodId} {args : Array Value} {below : List Frame} {meth : Method} {c : Code} {Q : State → Prop} {D : va_G} {cyI cyJ cyO : ClassId} {A : Nat → Prop} {bs : Nat} {a : Nat → Nat} {Y : va_W} {th : Int32} {df : Int32} {la : Int32} {fo : Int32} {he : Int32} {wt : Int32} {br : Int32} {dr : Nat → Int32} {fm : Nat → Int32} {sz : Nat → Int32} {om : Nat → Int32} {os : Nat → Int32} {st : Nat → Int32} {wa : Nat → Int32} {va : Nat → Int64} {sk : Nat → Int64} {N : Nat} {res : Int32} (C0 : gC p m meth c cX4_below 5 (some .int) s args wsX4_below RX4) (hret : ∀ (r : Int32) (H : Heap) (locs : List Loc) (pc : Nat) (ls : Array Slot), some r = some res → gZ D (gT cyI cyJ cyO) (XM a cyI cyJ th df la fo he wt br dr fm sz om os st wa va sk ++ Y) A bs s H locs → decode cX4_below pc = .ok (.ireturn, 1) → W p l e rmX4_below s m args below meth c H locs 0 0 Q (F0 m pc ls [.int r])) {r4 : Int32 → Int32 → Option (Int32)} (hr4 : ∀ (v2 : Int32) (v3 : Int32) (H : Heap) (locs : List Loc) (ls : Array Slot), r4 v2 v3 = some res → gZ D (gT cyI cyJ cyO) (XM a cyI cyJ th df la fo he wt br dr fm sz om os st wa va sk ++ Y) A bs s H locs → lv_has ls 5 [(0, .ref (a 0)), (2, .int v2), (3, .int v3)] → W p l e rmX4_below s m args below meth c H locs 0 0 Q (F0 m 4 ls [])) : ∀ (n : Nat), ∀ (v2 : Int32) (v3 : Int32) (v4 : Int32) (H : Heap) (locs : List Loc) (ls : Array Slot), mX4_below_14 N fm sz r4 n v2 v3 v4 = some res → gZ D (gT cyI cyJ cyO) (XM a cyI cyJ th df la fo he wt br dr fm sz om os st wa va sk ++ Y) A bs s H locs → lv_has ls 5 [(0, .ref (a 0)), (2, .int v2), (3, .int v3), (4, .int v4)] → W p l e rmX4_below s m args below meth c H locs 0 0 Q (F0 m 14 ls []) := by
  intro n
  induction n with
  | zero => intro _ _ _ _ _ _ h; cases h
  | succ n ih => exact wX4_below_14_b (N := N) C0 hret hr4 ih
set_option maxRecDepth 20000 in
set_option maxHeartbeats 4000000 in
theorem wX4_below_4_b {p : Program} {l : Launch} {e : Env} {s : State} {m : MethodId} {args : Array Value} {below : List Frame} {meth : Method} {c : Code} {Q : State → Prop} {D : va_G} {cyI cyJ cyO : ClassId} {A : Nat → Prop} {bs : Nat} {a : Nat → Nat} {Y : va_W} {th : Int32} {df : Int32} {la : Int32} {fo : Int32} {he : Int32} {wt : Int32} {br : Int32} {dr : Nat → Int32} {fm : Nat → Int32} {sz : Nat → Int32} {om : Nat → Int32} {os : Nat → Int32} {st : Nat → Int32} {wa : Nat → Int32} {va : Nat → Int64} {sk : Nat → Int64} {N : Nat} {res : Int32} (C0 : gC p m meth c cX4_below 5 (some .int) s args wsX4_below RX4) (hret : ∀ (r : Int32) (H : Heap) (locs : List Loc) (pc : Nat) (ls : Array Slot), some r = some res → gZ D (gT cyI cyJ cyO) (XM a cyI cyJ th df la fo he wt br dr fm sz om os st wa va sk ++ Y) A bs s H locs → decode cX4_below pc = .ok (.ireturn, 1) → W p l e rmX4_below s m args below meth c H locs 0 0 Q (F0 m pc ls [.int r])) {r4 : Int32 → Int32 → Option (Int32)} (hr4 : ∀ (v2 : Int32) (v3 : Int32) (H : Heap) (locs : List Loc) (ls : Array Slot), r4 v2 v3 = some res → gZ D (gT cyI cyJ cyO) (XM a cyI cyJ th df la fo he wt br dr fm sz om os st wa va sk ++ Y) A bs s H locs → lv_has ls 5 [(0, .ref (a 0)), (2, .int v2), (3, .int v3)] → W p l e rmX4_below s m args below meth c H locs 0 0 Q (F0 m 4 ls [])) : ∀ (v2 : Int32) (v3 : Int32) (H : Heap) (locs : List Loc) (ls : Array Slot), mX4_below_4_b N fm sz r4 v2 v3 = some res → gZ D (gT cyI cyJ cyO) (XM a cyI cyJ th df la fo he wt br dr fm sz om os st wa va sk ++ Y) A bs s H locs → lv_has ls 5 [(0, .ref (a 0)), (2, .int v2), (3, .int v3)] → W p l e rmX4_below s m args below meth c H locs 0 0 Q (F0 m 4 ls []) := by
  intro v2 v3 H locs ls h Z hl
  unfold mX4_below_4_b at h
  refine lv_iload_n C0.1.1 C0.1.2.1 dX4_below_4 rfl (lv_at hl 1 rfl) ?_
  refine lv_iload_n C0.1.1 C0.1.2.1 dX4_below_5 rfl (lv_at hl 2 rfl) ?_
  refine lv_icmp_eq (tgt := 53) C0.1.1 C0.1.2.1 dX4_below_6 (by decide) (fun hc => ?_) (fun hc => ?_)
  · replace h := (if_pos hc).symm.trans h
    refine lv_iload_n C0.1.1 C0.1.2.1 dX4_below_53 rfl (lv_at hl 1 rfl) ?_
    exact hret v2 _ _ _ _ h Z dX4_below_54
  · replace h := (if_neg hc).symm.trans h
    refine lv_iload_n C0.1.1 C0.1.2.1 dX4_below_9 rfl (lv_at hl 1 rfl) ?_
    refine lv_istore_n (lv' := [(3, .int v2), (0, .ref (a 0)), (2, .int v2)]) C0.1.1 C0.1.2.1 dX4_below_10 rfl hl (by decide) rfl (fun ls hl => ?_)
    refine lv_iconst (v := 0) C0.1.1 C0.1.2.1 dX4_below_11 (by decide) ?_
    refine lv_istore (lv' := [(4, .int (0 : Int32)), (3, .int v2), (0, .ref (a 0)), (2, .int v2)]) C0.1.1 C0.1.2.1 dX4_below_12 hl (by decide) rfl (fun ls hl => ?_)
    exact wX4_below_14 (N := N) C0 hret hr4 N v2 v2 (0 : Int32) _ _ _ h Z (lv_sub hl [2, 3, 1, 0] rfl)
theorem wX4_below_4 {p : Program} {l : Launch} {e : Env} {s : State} {m : MethodId} {args : Array Value} {below : List Frame} {meth : Method} {c : Code} {Q : State → Prop} {D : va_G} {cyI cyJ cyO : ClassId} {A : Nat → Prop} {bs : Nat} {a : Nat → Nat} {Y : va_W} {th : Int32} {df : Int32} {la : Int32} {fo : Int32} {he : Int32} {wt : Int32} {br : Int32} {dr : Nat → Int32} {fm : Nat → Int32} {sz : Nat → Int32} {om : Nat → Int32} {os : Nat → Int32} {st : Nat → Int32} {wa : Nat → Int32} {va : Nat → Int64} {sk : Nat → Int64} {N : Nat} {res : Int32} (C0 : gC p m meth c cX4_below 5 (some .int) s args wsX4_below RX4) (hret : ∀ (r : Int32) (H : Heap) (locs : List Loc) (pc : Nat) (ls : Array Slot), some r = some res → gZ D (gT cyI cyJ cyO) (XM a cyI cyJ th df la fo he wt br dr fm sz om os st wa va sk ++ Y) A bs s H locs → decode cX4_below pc = .ok (.ireturn, 1) → W p l e rmX4_below s m args below meth c H locs 0 0 Q (F0 m pc ls [.int r]))  : ∀ (n : Nat), ∀ (v2 : Int32) (v3 : Int32) (H : Heap) (locs : List Loc) (ls : Array Slot), mX4_below_4 N fm sz n v2 v3 = some res → gZ D (gT cyI cyJ cyO) (XM a cyI cyJ th df la fo he wt br dr fm sz om os st wa va sk ++ Y) A bs s H locs → lv_has ls 5 [(0, .ref (a 0)), (2, .int v2), (3, .int v3)] → W p l e rmX4_below s m args below meth c H locs 0 0 Q (F0 m 4 ls []) := by
  intro n
  induction n with
  | zero => intro _ _ _ _ _ h; cases h
  | succ n ih => exact wX4_below_4_b (N := N) C0 hret ih
set_option maxRecDepth 20000 in
set_option maxHeartbeats 4000000 in
theorem zX4_below (l : Launch) (D : va_G) (cyI cyJ cyO : ClassId) (A : Nat → Prop) (bs : Nat) (hA : ∀ q, bs ≤ q → A q) (a : Nat → Nat) (Y : va_W) (th : Int32) (df : Int32) (la : Int32) (fo : Int32) (he : Int32) (wt : Int32) (br : Int32) (dr : Nat → Int32) (fm : Nat → Int32) (sz : Nat → Int32) (om : Nat → Int32) (os : Nat → Int32) (st : Nat → Int32) (wa : Nat → Int32) (va : Nat → Int64) (sk : Nat → Int64) (N : Nat) (p0 : Int32) (res : Int32) (h : mX4_below N fm sz p0 = some res) : Met l yX4_below wsX4_below rmX4_below (va_Pc [.ref (a 0), .int p0] (gW D (gT cyI cyJ cyO) (XM a cyI cyJ th df la fo he wt br dr fm sz om os st wa va sk ++ Y) A bs)) (va_Qi (fun (r : Int32) (_ : Unit) => res = r) (fun (u : Unit) U => gW D (gT cyI cyJ cyO) (XM a cyI cyJ th df la fo he wt br dr fm sz om os st wa va sk ++ Y) A bs U) A) 0 0 A := by
  refine Met.ofW (cc := cX4_below) (maxL := 5) (ret := (some .int)) (by decide) rfl ?_
  intro p e s m args below meth c s₁ B hml hv
  obtain ⟨hav, hv⟩ := hv
  have C0 : gC p m meth c cX4_below 5 (some .int) s args wsX4_below RX4 := ⟨⟨B.exec, B.bytes, hml, findClass_of_methodNamed B.named, atoms_spec (ws := wsX4_below) B.pre⟩, B.returns, B.notSynchronized⟩
  have Z := g_start hA hv
  have hret : ∀ (r : Int32) (H : Heap) (locs : List Loc) (pc : Nat) (ls : Array Slot), some r = some res → gZ D (gT cyI cyJ cyO) (XM a cyI cyJ th df la fo he wt br dr fm sz om os st wa va sk ++ Y) A bs s H locs → decode cX4_below pc = .ok (.ireturn, 1) → W p l e rmX4_below s m args below meth c H locs 0 0 (MQ below (va_Qi (fun (r : Int32) (_ : Unit) => res = r) (fun (u : Unit) U => gW D (gT cyI cyJ cyO) (XM a cyI cyJ th df la fo he wt br dr fm sz om os st wa va sk ++ Y) A bs U) A) args s 0 0 A) (F0 m pc ls [.int r]) := by
    intro r H locs pc ls h Z hd
    replace h := Option.some.inj h
    exact W.iret C0.1.1 C0.1.2.1 C0.2.1 (fun t ht hW => ⟨⟨r, (()), rfl, h.symm, g_end Z ht hW⟩, Z.2.2.2.1.F ht⟩) Z.2.2.2.1.2.2 hd C0.2.2
  have hl := lv_entry ([.ref (a 0), .int p0]) (n := 5) (Nat.le_of_ble_eq_true rfl)
  rw [hav, lg_entry_eq]
  generalize (lg_sl ([.ref (a 0), .int p0]) ++ List.replicate (5 - (lg_sl ([.ref (a 0), .int p0])).length) Slot.unset).toArray = ls at hl ⊢
  have hl : lv_has ls 5 [(0, .ref (a 0)), (1, .int p0)] := hl
  rw [← hav]
  unfold mX4_below at h
  refine lv_iload_n C0.1.1 C0.1.2.1 dX4_below_0 rfl (lv_at hl 1 rfl) ?_
  refine lv_istore_n (lv' := [(2, .int p0), (0, .ref (a 0)), (1, .int p0)]) C0.1.1 C0.1.2.1 dX4_below_1 rfl hl (by decide) rfl (fun ls hl => ?_)
  refine lv_iconst (v := 0) C0.1.1 C0.1.2.1 dX4_below_2 (by decide) ?_
  refine lv_istore_n (lv' := [(3, .int (0 : Int32)), (2, .int p0), (0, .ref (a 0)), (1, .int p0)]) C0.1.1 C0.1.2.1 dX4_below_3 rfl hl (by decide) rfl (fun ls hl => ?_)
  exact wX4_below_4 (N := N) C0 hret N p0 (0 : Int32) _ _ _ h Z (lv_sub hl [2, 1, 0] rfl)
/-! X4_doesDepend -/
abbrev rmX4_doesDepend : Room := { frames := 4, cells := 0, slots := 0, locals := 91 }
def mX4_doesDepend_22 (N : Nat) (fm : Nat → Int32) (sz : Nat → Int32) (s0 : Int32) : Option (Int32) := (if (s0 = 0 ∨ s0 = 1) then some (s0) else none)
def mX4_doesDepend (N : Nat) (fm : Nat → Int32) (sz : Nat → Int32) (p0 : Int32) (p1 : Int32) : Option (Int32) := ((mX4_refersOf N fm sz p0).bind fun x2 => ((mX4_below N fm sz x2).bind fun x4 => (if ((x4 >>> (p1 &&& 31)) &&& (1 : Int32)) = (1 : Int32) then mX4_doesDepend_22 N fm sz (1 : Int32) else mX4_doesDepend_22 N fm sz (0 : Int32))))
set_option maxRecDepth 20000 in
set_option maxHeartbeats 4000000 in
theorem wX4_doesDepend_22 {p : Program} {l : Launch} {e : Env} {s : State} {m : MethodId} {args : Array Value} {below : List Frame} {meth : Method} {c : Code} {Q : State → Prop} {D : va_G} {cyI cyJ cyO : ClassId} {A : Nat → Prop} {bs : Nat} {a : Nat → Nat} {Y : va_W} {th : Int32} {df : Int32} {la : Int32} {fo : Int32} {he : Int32} {wt : Int32} {br : Int32} {dr : Nat → Int32} {fm : Nat → Int32} {sz : Nat → Int32} {om : Nat → Int32} {os : Nat → Int32} {st : Nat → Int32} {wa : Nat → Int32} {va : Nat → Int64} {sk : Nat → Int64} {N : Nat} {res : Int32} (C0 : gC p m meth c cX4_doesDepend 3 (some .boolean) s args wsX4_doesDepend RX4) (hret : ∀ (r : Int32) (H : Heap) (locs : List Loc) (pc : Nat) (ls : Array Slot), (r = 0 ∨ r = 1) → some r = some res → gZ D (gT cyI cyJ cyO) (XM a cyI cyJ th df la fo he wt br dr fm sz om os st wa va sk ++ Y) A bs s H locs → decode cX4_doesDepend pc = .ok (.ireturn, 1) → W p l e rmX4_doesDepend s m args below meth c H locs 0 0 Q (F0 m pc ls [.int r]))  : ∀ (s0 : Int32) (H : Heap) (locs : List Loc) (ls : Array Slot), mX4_doesDepend_22 N fm sz s0 = some res → gZ D (gT cyI cyJ cyO) (XM a cyI cyJ th df la fo he wt br dr fm sz om os st wa va sk ++ Y) A bs s H locs → lv_has ls 3 [] → W p l e rmX4_doesDepend s m args below meth c H locs 0 0 Q (F0 m 22 ls [.int s0]) := by
  intro s0 H locs ls h Z hl
  unfold mX4_doesDepend_22 at h
  obtain ⟨hn1, h⟩ := g_yi h
  exact hret s0 _ _ _ _ hn1 h Z dX4_doesDepend_22
set_option maxRecDepth 20000 in
set_option maxHeartbeats 4000000 in
theorem zX4_doesDepend (l : Launch) (D : va_G) (cyI cyJ cyO : ClassId) (A : Nat → Prop) (bs : Nat) (hA : ∀ q, bs ≤ q → A q) (a : Nat → Nat) (Y : va_W) (th : Int32) (df : Int32) (la : Int32) (fo : Int32) (he : Int32) (wt : Int32) (br : Int32) (dr : Nat → Int32) (fm : Nat → Int32) (sz : Nat → Int32) (om : Nat → Int32) (os : Nat → Int32) (st : Nat → Int32) (wa : Nat → Int32) (va : Nat → Int64) (sk : Nat → Int64) (N : Nat) (p0 : Int32) (p1 : Int32) (res : Int32) (h : mX4_doesDepend N fm sz p0 p1 = some res) : Met l yX4_doesDepend wsX4_doesDepend rmX4_doesDepend (va_Pc [.ref (a 0), .int p0, .int p1] (gW D (gT cyI cyJ cyO) (XM a cyI cyJ th df la fo he wt br dr fm sz om os st wa va sk ++ Y) A bs)) (va_Qi (fun (r : Int32) (_ : Unit) => res = r) (fun (u : Unit) U => gW D (gT cyI cyJ cyO) (XM a cyI cyJ th df la fo he wt br dr fm sz om os st wa va sk ++ Y) A bs U) A) 0 0 A := by
  refine Met.ofW (cc := cX4_doesDepend) (maxL := 3) (ret := (some .boolean)) (by decide) rfl ?_
  intro p e s m args below meth c s₁ B hml hv
  obtain ⟨hav, hv⟩ := hv
  have C0 : gC p m meth c cX4_doesDepend 3 (some .boolean) s args wsX4_doesDepend RX4 := ⟨⟨B.exec, B.bytes, hml, findClass_of_methodNamed B.named, atoms_spec (ws := wsX4_doesDepend) B.pre⟩, B.returns, B.notSynchronized⟩
  have Z := g_start hA hv
  have hret : ∀ (r : Int32) (H : Heap) (locs : List Loc) (pc : Nat) (ls : Array Slot), (r = 0 ∨ r = 1) → some r = some res → gZ D (gT cyI cyJ cyO) (XM a cyI cyJ th df la fo he wt br dr fm sz om os st wa va sk ++ Y) A bs s H locs → decode cX4_doesDepend pc = .ok (.ireturn, 1) → W p l e rmX4_doesDepend s m args below meth c H locs 0 0 (MQ below (va_Qi (fun (r : Int32) (_ : Unit) => res = r) (fun (u : Unit) U => gW D (gT cyI cyJ cyO) (XM a cyI cyJ th df la fo he wt br dr fm sz om os st wa va sk ++ Y) A bs U) A) args s 0 0 A) (F0 m pc ls [.int r]) := by
    intro r H locs pc ls hb h Z hd
    replace h := Option.some.inj h
    exact W.zret C0.1.1 C0.1.2.1 C0.2.1 (g_nb hb) (fun t ht hW => ⟨⟨r, (()), rfl, h.symm, g_end Z ht hW⟩, Z.2.2.2.1.F ht⟩) Z.2.2.2.1.2.2 hd C0.2.2
  have hl := lv_entry ([.ref (a 0), .int p0, .int p1]) (n := 3) (Nat.le_of_ble_eq_true rfl)
  rw [hav, lg_entry_eq]
  generalize (lg_sl ([.ref (a 0), .int p0, .int p1]) ++ List.replicate (3 - (lg_sl ([.ref (a 0), .int p0, .int p1])).length) Slot.unset).toArray = ls at hl ⊢
  have hl : lv_has ls 3 [(0, .ref (a 0)), (1, .int p0), (2, .int p1)] := hl
  rw [← hav]
  unfold mX4_doesDepend at h
  refine lv_aload_n C0.1.1 C0.1.2.1 dX4_doesDepend_0 rfl (lv_at hl 0 rfl) ?_
  refine lv_aload_n C0.1.1 C0.1.2.1 dX4_doesDepend_1 rfl (lv_at hl 0 rfl) ?_
  refine lv_iload_n C0.1.1 C0.1.2.1 dX4_doesDepend_2 rfl (lv_at hl 1 rfl) ?_
  obtain ⟨x2, hx3, h⟩ := g_bd h
  refine g_callVi (b := a 0) (As := [.int p0]) (rest := [.ref (a 0)]) (ws' := (fun (u : Unit) => (XM a cyI cyJ th df la fo he wt br dr fm sz om os st wa va sk ++ Y))) C0.1 Z (zX4_refersOf l D cyI cyJ cyO A bs Z.2.2.2.2.2 a Y th df la fo he wt br dr fm sz om os st wa va sk N p0 x2 hx3) (cwV 1 C0.1.2.2.2.2 gX4_doesDepend_X4_refersOf rfl rfl rfl (by decide +kernel) ⟨Nat.le_of_ble_eq_true rfl, Nat.le_of_ble_eq_true rfl⟩) 0 (ci := 6) rfl rfl rfl rfl hl.1 rfl (Nat.le_of_ble_eq_true rfl) dX4_doesDepend_3 ⟨Nat.zero_le _, Nat.zero_le _⟩ (fun r u H locs hw Z => ?_)
  subst hw
  obtain ⟨x4, hx5, h⟩ := g_bd h
  refine g_callVi (b := a 0) (As := [.int x2]) (rest := []) (ws' := (fun (u : Unit) => (XM a cyI cyJ th df la fo he wt br dr fm sz om os st wa va sk ++ Y))) C0.1 Z (zX4_below l D cyI cyJ cyO A bs Z.2.2.2.2.2 a Y th df la fo he wt br dr fm sz om os st wa va sk N x2 x4 hx5) (cwV 1 C0.1.2.2.2.2 gX4_doesDepend_X4_below rfl rfl rfl (by decide +kernel) ⟨Nat.le_of_ble_eq_true rfl, Nat.le_of_ble_eq_true rfl⟩) 0 (ci := 6) rfl rfl rfl rfl hl.1 rfl (Nat.le_of_ble_eq_true rfl) dX4_doesDepend_6 ⟨Nat.zero_le _, Nat.zero_le _⟩ (fun r u H locs hw Z => ?_)
  subst hw
  refine lv_iload_n C0.1.1 C0.1.2.1 dX4_doesDepend_9 rfl (lv_at hl 2 rfl) ?_
  refine lv_ishr C0.1.1 C0.1.2.1 dX4_doesDepend_10 ?_
  refine lv_iconst (v := 1) C0.1.1 C0.1.2.1 dX4_doesDepend_11 (by decide) ?_
  refine lv_iand C0.1.1 C0.1.2.1 dX4_doesDepend_12 ?_
  refine lv_iconst (v := 1) C0.1.1 C0.1.2.1 dX4_doesDepend_13 (by decide) ?_
  refine lv_icmp_ne (tgt := 21) C0.1.1 C0.1.2.1 dX4_doesDepend_14 (by decide) (fun hc => ?_) (fun hc => ?_)
  · replace h := (if_neg hc).symm.trans h
    refine lv_iconst (v := 0) C0.1.1 C0.1.2.1 dX4_doesDepend_21 (by decide) ?_
    exact wX4_doesDepend_22 (N := N) C0 hret (0 : Int32) _ _ _ h Z (lv_sub hl [] rfl)
  · replace h := (if_pos hc).symm.trans h
    refine lv_iconst (v := 1) C0.1.1 C0.1.2.1 dX4_doesDepend_17 (by decide) ?_
    refine lv_goto (tgt := 22) C0.1.1 C0.1.2.1 dX4_doesDepend_18 (by decide) ?_
    exact wX4_doesDepend_22 (N := N) C0 hret (1 : Int32) _ _ _ h Z (lv_sub hl [] rfl)
/-! X4_anew -/
abbrev rmX4_anew : Room := { frames := 4, cells := 0, slots := 0, locals := 91 }
def mX4_anew_28 (N : Nat) (fm : Nat → Int32) (sz : Nat → Int32) (r4 : Int32 → Int32 → Int32 → Option (Int32)) (v1 : Int32) (v3 : Int32) (s0 : Int32) (s1 : Int32) : Option (Int32) := r4 v1 (s0 + s1) (v3 + (1 : Int32))
def mX4_anew_4_b (N : Nat) (fm : Nat → Int32) (sz : Nat → Int32) (r4 : Int32 → Int32 → Int32 → Option (Int32)) (v1 : Int32) (v2 : Int32) (v3 : Int32) : Option (Int32) := (if (30 : Int32) ≤ v3 then some (v2) else ((mX4_below N fm sz ((1 : Int32) <<< (v3 &&& 31))).bind fun x1 => (if (x1 &&& v1) = 0 then mX4_anew_28 N fm sz r4 v1 v3 v2 (0 : Int32) else mX4_anew_28 N fm sz r4 v1 v3 v2 (1 : Int32))))
def mX4_anew_4 (N : Nat) (fm : Nat → Int32) (sz : Nat → Int32) : Nat → Int32 → Int32 → Int32 → Option (Int32)
  | 0 => fun _ _ _ => none
  | n + 1 => fun v1 v2 v3 => mX4_anew_4_b N fm sz (mX4_anew_4 N fm sz n) v1 v2 v3
def mX4_anew (N : Nat) (fm : Nat → Int32) (sz : Nat → Int32) (p0 : Int32) : Option (Int32) := mX4_anew_4 N fm sz N p0 (0 : Int32) (0 : Int32)
set_option maxRecDepth 20000 in
set_option maxHeartbeats 4000000 in
theorem wX4_anew_28 {p : Program} {l : Launch} {e : Env} {s : State} {m : MethodId} {args : Array Value} {below : List Frame} {meth : Method} {c : Code} {Q : State → Prop} {D : va_G} {cyI cyJ cyO : ClassId} {A : Nat → Prop} {bs : Nat} {a : Nat → Nat} {Y : va_W} {th : Int32} {df : Int32} {la : Int32} {fo : Int32} {he : Int32} {wt : Int32} {br : Int32} {dr : Nat → Int32} {fm : Nat → Int32} {sz : Nat → Int32} {om : Nat → Int32} {os : Nat → Int32} {st : Nat → Int32} {wa : Nat → Int32} {va : Nat → Int64} {sk : Nat → Int64} {N : Nat} {res : Int32} (C0 : gC p m meth c cX4_anew 4 (some .int) s args wsX4_anew RX4) (hret : ∀ (r : Int32) (H : Heap) (locs : List Loc) (pc : Nat) (ls : Array Slot), some r = some res → gZ D (gT cyI cyJ cyO) (XM a cyI cyJ th df la fo he wt br dr fm sz om os st wa va sk ++ Y) A bs s H locs → decode cX4_anew pc = .ok (.ireturn, 1) → W p l e rmX4_anew s m args below meth c H locs 0 0 Q (F0 m pc ls [.int r])) {r4 : Int32 → Int32 → Int32 → Option (Int32)} (hr4 : ∀ (v1 : Int32) (v2 : Int32) (v3 : Int32) (H : Heap) (locs : List Loc) (ls : Array Slot), r4 v1 v2 v3 = some res → gZ D (gT cyI cyJ cyO) (XM a cyI cyJ th df la fo he wt br dr fm sz om os st wa va sk ++ Y) A bs s H locs → lv_has ls 4 [(0, .ref (a 0)), (1, .int v1), (2, .int v2), (3, .int v3)] → W p l e rmX4_anew s m args below meth c H locs 0 0 Q (F0 m 4 ls [])) : ∀ (v1 : Int32) (v3 : Int32) (s0 : Int32) (s1 : Int32) (H : Heap) (locs : List Loc) (ls : Array Slot), mX4_anew_28 N fm sz r4 v1 v3 s0 s1 = some res → gZ D (gT cyI cyJ cyO) (XM a cyI cyJ th df la fo he wt br dr fm sz om os st wa va sk ++ Y) A bs s H locs → lv_has ls 4 [(0, .ref (a 0)), (1, .int v1), (3, .int v3)] → W p l e rmX4_anew s m args below meth c H locs 0 0 Q (F0 m 28 ls [.int s1, .int s0]) := by
  intro v1 v3 s0 s1 H locs ls h Z hl
  unfold mX4_anew_28 at h
  refine lv_iadd C0.1.1 C0.1.2.1 dX4_anew_28 ?_
  refine lv_istore_n (lv' := [(2, .int (s0 + s1)), (0, .ref (a 0)), (1, .int v1), (3, .int v3)]) C0.1.1 C0.1.2.1 dX4_anew_29 rfl hl (by decide) rfl (fun ls hl => ?_)
  refine lv_iinc (v := v3 + (1 : Int32)) (lv' := [(3, .int (v3 + (1 : Int32))), (2, .int (s0 + s1)), (0, .ref (a 0)), (1, .int v1)]) C0.1.1 C0.1.2.1 dX4_anew_30 hl (k := 3) rfl rfl (by decide) rfl (fun ls hl => ?_)
  refine lv_goto (tgt := 4) C0.1.1 C0.1.2.1 dX4_anew_33 (by decide) ?_
  exact hr4 v1 (s0 + s1) (v3 + (1 : Int32)) _ _ _ h Z (lv_sub hl [2, 3, 1, 0] rfl)
set_option maxRecDepth 20000 in
set_option maxHeartbeats 4000000 in
theorem wX4_anew_4_b {p : Program} {l : Launch} {e : Env} {s : State} {m : MethodId} {args : Array Value} {below : List Frame} {meth : Method} {c : Code} {Q : State → Prop} {D : va_G} {cyI cyJ cyO : ClassId} {A : Nat → Prop} {bs : Nat} {a : Nat → Nat} {Y : va_W} {th : Int32} {df : Int32} {la : Int32} {fo : Int32} {he : Int32} {wt : Int32} {br : Int32} {dr : Nat → Int32} {fm : Nat → Int32} {sz : Nat → Int32} {om : Nat → Int32} {os : Nat → Int32} {st : Nat → Int32} {wa : Nat → Int32} {va : Nat → Int64} {sk : Nat → Int64} {N : Nat} {res : Int32} (C0 : gC p m meth c cX4_anew 4 (some .int) s args wsX4_anew RX4) (hret : ∀ (r : Int32) (H : Heap) (locs : List Loc) (pc : Nat) (ls : Array Slot), some r = some res → gZ D (gT cyI cyJ cyO) (XM a cyI cyJ th df la fo he wt br dr fm sz om os st wa va sk ++ Y) A bs s H locs → decode cX4_anew pc = .ok (.ireturn, 1) → W p l e rmX4_anew s m args below meth c H locs 0 0 Q (F0 m pc ls [.int r])) {r4 : Int32 → Int32 → Int32 → Option (Int32)} (hr4 : ∀ (v1 : Int32) (v2 : Int32) (v3 : Int32) (H : Heap) (locs : List Loc) (ls : Array Slot), r4 v1 v2 v3 = some res → gZ D (gT cyI cyJ cyO) (XM a cyI cyJ th df la fo he wt br dr fm sz om os st wa va sk ++ Y) A bs s H locs → lv_has ls 4 [(0, .ref (a 0)), (1, .int v1), (2, .int v2), (3, .int v3)] → W p l e rmX4_anew s m args below meth c H locs 0 0 Q (F0 m 4 ls [])) : ∀ (v1 : Int32) (v2 : Int32) (v3 : Int32) (H : Heap) (locs : List Loc) (ls : Array Slot), mX4_anew_4_b N fm sz r4 v1 v2 v3 = some res → gZ D (gT cyI cyJ cyO) (XM a cyI cyJ th df la fo he wt br dr fm sz om os st wa va sk ++ Y) A bs s H locs → lv_has ls 4 [(0, .ref (a 0)), (1, .int v1), (2, .int v2), (3, .int v3)] → W p l e rmX4_anew s m args below meth c H locs 0 0 Q (F0 m 4 ls []) := by
  intro v1 v2 v3 H locs ls h Z hl
  unfold mX4_anew_4_b at h
  refine lv_iload_n C0.1.1 C0.1.2.1 dX4_anew_4 rfl (lv_at hl 3 rfl) ?_
  refine lv_bipush (v := 30) C0.1.1 C0.1.2.1 dX4_anew_5 (by decide +kernel) ?_
  refine lv_icmp_ge (tgt := 36) C0.1.1 C0.1.2.1 dX4_anew_7 (by decide) (fun hc => ?_) (fun hc => ?_)
  · replace h := (if_pos hc).symm.trans h
    refine lv_iload_n C0.1.1 C0.1.2.1 dX4_anew_36 rfl (lv_at hl 2 rfl) ?_
    exact hret v2 _ _ _ _ h Z dX4_anew_37
  · replace h := (if_neg hc).symm.trans h
    refine lv_iload_n C0.1.1 C0.1.2.1 dX4_anew_10 rfl (lv_at hl 2 rfl) ?_
    refine lv_aload_n C0.1.1 C0.1.2.1 dX4_anew_11 rfl (lv_at hl 0 rfl) ?_
    refine lv_iconst (v := 1) C0.1.1 C0.1.2.1 dX4_anew_12 (by decide) ?_
    refine lv_iload_n C0.1.1 C0.1.2.1 dX4_anew_13 rfl (lv_at hl 3 rfl) ?_
    refine lv_ishl C0.1.1 C0.1.2.1 dX4_anew_14 ?_
    obtain ⟨x1, hx2, h⟩ := g_bd h
    refine g_callVi (b := a 0) (As := [.int ((1 : Int32) <<< (v3 &&& 31))]) (rest := [.int v2]) (ws' := (fun (u : Unit) => (XM a cyI cyJ th df la fo he wt br dr fm sz om os st wa va sk ++ Y))) C0.1 Z (zX4_below l D cyI cyJ cyO A bs Z.2.2.2.2.2 a Y th df la fo he wt br dr fm sz om os st wa va sk N ((1 : Int32) <<< (v3 &&& 31)) x1 hx2) (cwV 1 C0.1.2.2.2.2 gX4_anew_X4_below rfl rfl rfl (by decide +kernel) ⟨Nat.le_of_ble_eq_true rfl, Nat.le_of_ble_eq_true rfl⟩) 0 (ci := 6) rfl rfl rfl rfl hl.1 rfl (Nat.le_of_ble_eq_true rfl) dX4_anew_15 ⟨Nat.zero_le _, Nat.zero_le _⟩ (fun r u H locs hw Z => ?_)
    subst hw
    refine lv_iload_n C0.1.1 C0.1.2.1 dX4_anew_18 rfl (lv_at hl 1 rfl) ?_
    refine lv_iand C0.1.1 C0.1.2.1 dX4_anew_19 ?_
    refine lv_if_eq (tgt := 27) C0.1.1 C0.1.2.1 dX4_anew_20 (by decide) (fun hc => ?_) (fun hc => ?_)
    · replace h := (if_pos hc).symm.trans h
      refine lv_iconst (v := 0) C0.1.1 C0.1.2.1 dX4_anew_27 (by decide) ?_
      exact wX4_anew_28 (N := N) C0 hret hr4 v1 v3 v2 (0 : Int32) _ _ _ h Z (lv_sub hl [0, 1, 3] rfl)
    · replace h := (if_neg hc).symm.trans h
      refine lv_iconst (v := 1) C0.1.1 C0.1.2.1 dX4_anew_23 (by decide) ?_
      refine lv_goto (tgt := 28) C0.1.1 C0.1.2.1 dX4_anew_24 (by decide) ?_
      exact wX4_anew_28 (N := N) C0 hret hr4 v1 v3 v2 (1 : Int32) _ _ _ h Z (lv_sub hl [0, 1, 3] rfl)
theorem wX4_anew_4 {p : Program} {l : Launch} {e : Env} {s : State} {m : MethodId} {args : Array Value} {below : List Frame} {meth : Method} {c : Code} {Q : State → Prop} {D : va_G} {cyI cyJ cyO : ClassId} {A : Nat → Prop} {bs : Nat} {a : Nat → Nat} {Y : va_W} {th : Int32} {df : Int32} {la : Int32} {fo : Int32} {he : Int32} {wt : Int32} {br : Int32} {dr : Nat → Int32} {fm : Nat → Int32} {sz : Nat → Int32} {om : Nat → Int32} {os : Nat → Int32} {st : Nat → Int32} {wa : Nat → Int32} {va : Nat → Int64} {sk : Nat → Int64} {N : Nat} {res : Int32} (C0 : gC p m meth c cX4_anew 4 (some .int) s args wsX4_anew RX4) (hret : ∀ (r : Int32) (H : Heap) (locs : List Loc) (pc : Nat) (ls : Array Slot), some r = some res → gZ D (gT cyI cyJ cyO) (XM a cyI cyJ th df la fo he wt br dr fm sz om os st wa va sk ++ Y) A bs s H locs → decode cX4_anew pc = .ok (.ireturn, 1) → W p l e rmX4_anew s m args below meth c H locs 0 0 Q (F0 m pc ls [.int r]))  : ∀ (n : Nat), ∀ (v1 : Int32) (v2 : Int32) (v3 : Int32) (H : Heap) (locs : List Loc) (ls : Array Slot), mX4_anew_4 N fm sz n v1 v2 v3 = some res → gZ D (gT cyI cyJ cyO) (XM a cyI cyJ th df la fo he wt br dr fm sz om os st wa va sk ++ Y) A bs s H locs → lv_has ls 4 [(0, .ref (a 0)), (1, .int v1), (2, .int v2), (3, .int v3)] → W p l e rmX4_anew s m args below meth c H locs 0 0 Q (F0 m 4 ls []) := by
  intro n
  induction n with
  | zero => intro _ _ _ _ _ _ h; cases h
  | succ n ih => exact wX4_anew_4_b (N := N) C0 hret ih
set_option maxRecDepth 20000 in
set_option maxHeartbeats 4000000 in
theorem zX4_anew (l : Launch) (D : va_G) (cyI cyJ cyO : ClassId) (A : Nat → Prop) (bs : Nat) (hA : ∀ q, bs ≤ q → A q) (a : Nat → Nat) (Y : va_W) (th : Int32) (df : Int32) (la : Int32) (fo : Int32) (he : Int32) (wt : Int32) (br : Int32) (dr : Nat → Int32) (fm : Nat → Int32) (sz : Nat → Int32) (om : Nat → Int32) (os : Nat → Int32) (st : Nat → Int32) (wa : Nat → Int32) (va : Nat → Int64) (sk : Nat → Int64) (N : Nat) (p0 : Int32) (res : Int32) (h : mX4_anew N fm sz p0 = some res) : Met l yX4_anew wsX4_anew rmX4_anew (va_Pc [.ref (a 0), .int p0] (gW D (gT cyI cyJ cyO) (XM a cyI cyJ th df la fo he wt br dr fm sz om os st wa va sk ++ Y) A bs)) (va_Qi (fun (r : Int32) (_ : Unit) => res = r) (fun (u : Unit) U => gW D (gT cyI cyJ cyO) (XM a cyI cyJ th df la fo he wt br dr fm sz om os st wa va sk ++ Y) A bs U) A) 0 0 A := by
  refine Met.ofW (cc := cX4_anew) (maxL := 4) (ret := (some .int)) (by decide) rfl ?_
  intro p e s m args below meth c s₁ B hml hv
  obtain ⟨hav, hv⟩ := hv
  have C0 : gC p m meth c cX4_anew 4 (some .int) s args wsX4_anew RX4 := ⟨⟨B.exec, B.bytes, hml, findClass_of_methodNamed B.named, atoms_spec (ws := wsX4_anew) B.pre⟩, B.returns, B.notSynchronized⟩
  have Z := g_start hA hv
  have hret : ∀ (r : Int32) (H : Heap) (locs : List Loc) (pc : Nat) (ls : Array Slot), some r = some res → gZ D (gT cyI cyJ cyO) (XM a cyI cyJ th df la fo he wt br dr fm sz om os st wa va sk ++ Y) A bs s H locs → decode cX4_anew pc = .ok (.ireturn, 1) → W p l e rmX4_anew s m args below meth c H locs 0 0 (MQ below (va_Qi (fun (r : Int32) (_ : Unit) => res = r) (fun (u : Unit) U => gW D (gT cyI cyJ cyO) (XM a cyI cyJ th df la fo he wt br dr fm sz om os st wa va sk ++ Y) A bs U) A) args s 0 0 A) (F0 m pc ls [.int r]) := by
    intro r H locs pc ls h Z hd
    replace h := Option.some.inj h
    exact W.iret C0.1.1 C0.1.2.1 C0.2.1 (fun t ht hW => ⟨⟨r, (()), rfl, h.symm, g_end Z ht hW⟩, Z.2.2.2.1.F ht⟩) Z.2.2.2.1.2.2 hd C0.2.2
  have hl := lv_entry ([.ref (a 0), .int p0]) (n := 4) (Nat.le_of_ble_eq_true rfl)
  rw [hav, lg_entry_eq]
  generalize (lg_sl ([.ref (a 0), .int p0]) ++ List.replicate (4 - (lg_sl ([.ref (a 0), .int p0])).length) Slot.unset).toArray = ls at hl ⊢
  have hl : lv_has ls 4 [(0, .ref (a 0)), (1, .int p0)] := hl
  rw [← hav]
  unfold mX4_anew at h
  refine lv_iconst (v := 0) C0.1.1 C0.1.2.1 dX4_anew_0 (by decide) ?_
  refine lv_istore_n (lv' := [(2, .int (0 : Int32)), (0, .ref (a 0)), (1, .int p0)]) C0.1.1 C0.1.2.1 dX4_anew_1 rfl hl (by decide) rfl (fun ls hl => ?_)
  refine lv_iconst (v := 0) C0.1.1 C0.1.2.1 dX4_anew_2 (by decide) ?_
  refine lv_istore_n (lv' := [(3, .int (0 : Int32)), (2, .int (0 : Int32)), (0, .ref (a 0)), (1, .int p0)]) C0.1.1 C0.1.2.1 dX4_anew_3 rfl hl (by decide) rfl (fun ls hl => ?_)
  exact wX4_anew_4 (N := N) C0 hret N p0 (0 : Int32) (0 : Int32) _ _ _ h Z (lv_sub hl [2, 3, 1, 0] rfl)
