/-! X4_clear -/
abbrev rmX4_clear : Room := { frames := 5, cells := 0, slots := 0, locals := 114 }
theorem kX4_clear_f16 : Cond.fieldLink RX4 16 "GoalseekOfficeModel" "sizes" "[I" ∈ wsX4_clear := by decide +kernel
theorem kX4_clear_in : ∀ w ∈ wsX40, w ∈ wsX4_clear := by decide +kernel
theorem kX4_clear_f129 : Cond.fieldLink RX4 129 "GoalseekOfficeModel" "found" "I" ∈ wsX4_clear := by decide +kernel
def mX4_clear_28 (N : Nat) (fm : Nat → Int32) (th : Int32) (fo : Int32) (sz : Nat → Int32) : Option (Int32 × Int32 × Int32 × (Nat → Int32)) := some ((0 : Int32), th, fo, sz)
def mX4_clear_13 (N : Nat) (fm : Nat → Int32) (th : Int32) (fo : Int32) (sz : Nat → Int32) (v1 : Int32) (s1 : Int32) : Option (Int32 × Int32 × Int32 × (Nat → Int32)) := ((mX4_holds N th s1).bind fun x1 => (if x1.1 = 0 then mX4_clear_28 N fm x1.2 fo sz else (if v1 < 0 ∨ 30 ≤ v1.toNatClampNeg then none else (if (sz v1.toNatClampNeg) = 0 then mX4_clear_28 N fm x1.2 fo sz else (if v1 < 0 ∨ 30 ≤ v1.toNatClampNeg then none else ((mX4_anew N fm (upd sz v1.toNatClampNeg (0 : Int32)) ((1 : Int32) <<< (v1 &&& 31))).bind fun x5 => some (x5, x1.2, (fo + x5), (upd sz v1.toNatClampNeg (0 : Int32)))))))))
def mX4_clear (N : Nat) (fm : Nat → Int32) (th : Int32) (fo : Int32) (sz : Nat → Int32) (p0 : Int32) : Option (Int32 × Int32 × Int32 × (Nat → Int32)) := ((mX4_isCell N p0).bind fun x7 => (if x7 = 0 then mX4_clear_13 N fm th fo sz p0 (1 : Int32) else mX4_clear_13 N fm th fo sz p0 (0 : Int32)))
set_option maxRecDepth 20000 in
set_option maxHeartbeats 4000000 in
theorem wX4_clear_28 {p : Program} {l : Launch} {e : Env} {s : State} {m : MethodId} {args : Array Value} {below : List Frame} {meth : Method} {c : Code} {Q : State → Prop} {D : va_G} {cyI cyJ cyO : ClassId} {A : Nat → Prop} {bs : Nat} {a : Nat → Nat} {Y : va_W} {df : Int32} {la : Int32} {he : Int32} {wt : Int32} {br : Int32} {dr : Nat → Int32} {fm : Nat → Int32} {om : Nat → Int32} {os : Nat → Int32} {st : Nat → Int32} {wa : Nat → Int32} {va : Nat → Int64} {sk : Nat → Int64} {N : Nat} {res : Int32 × Int32 × Int32 × (Nat → Int32)} (C0 : gC p m meth c cX4_clear 3 (some .int) s args wsX4_clear RX4) (hret : ∀ (r : Int32) (th_r : Int32) (fo_r : Int32) (sz_r : Nat → Int32) (H : Heap) (locs : List Loc) (pc : Nat) (ls : Array Slot), some (r, th_r, fo_r, sz_r) = some res → gZ D (gT cyI cyJ cyO) (XM a cyI cyJ th_r df la fo_r he wt br dr fm sz_r om os st wa va sk ++ Y) A bs s H locs → decode cX4_clear pc = .ok (.ireturn, 1) → W p l e rmX4_clear s m args below meth c H locs 0 0 Q (F0 m pc ls [.int r]))  : ∀ (th : Int32) (fo : Int32) (sz : Nat → Int32) (H : Heap) (locs : List Loc) (ls : Array Slot), mX4_clear_28 N fm th fo sz = some res → gZ D (gT cyI cyJ cyO) (XM a cyI cyJ th df la fo he wt br dr fm sz om os st wa va sk ++ Y) A bs s H locs → lv_has ls 3 [] → W p l e rmX4_clear s m args below meth c H locs 0 0 Q (F0 m 28 ls []) := by
  intro th fo sz H locs ls h Z hl
  unfold mX4_clear_28 at h
  refine lv_iconst (v := 0) C0.1.1 C0.1.2.1 dX4_clear_28 (by decide) ?_
  exact hret (0 : Int32) th fo sz _ _ _ _ h Z dX4_clear_29
set_option maxRecDepth 20000 in
set_option maxHeartbeats 4000000 in
theorem wX4_clear_13 {p : Program} {l : Launch} {e : Env} {s : State} {m : MethodId} {args : Array Value} {below : List Frame} {meth : Method} {c : Code} {Q : State → Prop} {D : va_G} {cyI cyJ cyO : ClassId} {A : Nat → Prop} {bs : Nat} {a : Nat → Nat} {Y : va_W} {df : Int32} {la : Int32} {he : Int32} {wt : Int32} {br : Int32} {dr : Nat → Int32} {fm : Nat → Int32} {om : Nat → Int32} {os : Nat → Int32} {st : Nat → Int32} {wa : Nat → Int32} {va : Nat → Int64} {sk : Nat → Int64} {N : Nat} {res : Int32 × Int32 × Int32 × (Nat → Int32)} (C0 : gC p m meth c cX4_clear 3 (some .int) s args wsX4_clear RX4) (hret : ∀ (r : Int32) (th_r : Int32) (fo_r : Int32) (sz_r : Nat → Int32) (H : Heap) (locs : List Loc) (pc : Nat) (ls : Array Slot), some (r, th_r, fo_r, sz_r) = some res → gZ D (gT cyI cyJ cyO) (XM a cyI cyJ th_r df la fo_r he wt br dr fm sz_r om os st wa va sk ++ Y) A bs s H locs → decode cX4_clear pc = .ok (.ireturn, 1) → W p l e rmX4_clear s m args below meth c H locs 0 0 Q (F0 m pc ls [.int r]))  : ∀ (th : Int32) (fo : Int32) (sz : Nat → Int32) (v1 : Int32) (s1 : Int32) (H : Heap) (locs : List Loc) (ls : Array Slot), mX4_clear_13 N fm th fo sz v1 s1 = some res → gZ D (gT cyI cyJ cyO) (XM a cyI cyJ th df la fo he wt br dr fm sz om os st wa va sk ++ Y) A bs s H locs → lv_has ls 3 [(0, .ref (a 0)), (1, .int v1)] → W p l e rmX4_clear s m args below meth c H locs 0 0 Q (F0 m 13 ls [.int s1, .ref (a 0)]) := by
  intro th fo sz v1 s1 H locs ls h Z hl
  unfold mX4_clear_13 at h
  obtain ⟨x1, hx2, h⟩ := g_bd h
  refine g_callVi (b := a 0) (As := [.int s1]) (rest := []) (ws' := (fun (u : Int32) => (XM a cyI cyJ u df la fo he wt br dr fm sz om os st wa va sk ++ Y))) C0.1 Z (zX4_holds l D cyI cyJ cyO A bs Z.2.2.2.2.2 a Y th df la fo he wt br dr fm sz om os st wa va sk N s1 x1 hx2) (cwV 1 C0.1.2.2.2.2 gX4_clear_X4_holds rfl rfl rfl (by decide +kernel) ⟨Nat.le_of_ble_eq_true rfl, Nat.le_of_ble_eq_true rfl⟩) 0 (ci := 6) rfl rfl rfl rfl hl.1 rfl (Nat.le_of_ble_eq_true rfl) dX4_clear_13 ⟨Nat.zero_le _, Nat.zero_le _⟩ (fun r u H locs hw Z => ?_)
  obtain ⟨rfl, rfl⟩ := hw
  refine lv_if_eq (tgt := 28) C0.1.1 C0.1.2.1 dX4_clear_16 (by decide) (fun hc => ?_) (fun hc => ?_)
  · replace h := (if_pos hc).symm.trans h
    exact wX4_clear_28 (N := N) C0 hret x1.2 fo sz _ _ _ h Z (lv_sub hl [] rfl)
  · replace h := (if_neg hc).symm.trans h
    refine lv_aload_n C0.1.1 C0.1.2.1 dX4_clear_19 rfl (lv_at hl 0 rfl) ?_
    refine g_get (ci := 6) (v := .ref (a 3)) (T := TX4) (N := 16) C0.1 Z 0 rfl rfl 4 (by decide) kX4_clear_in kX4_clear_f16 rfl rfl dX4_clear_20 ?_
    refine lv_iload_n C0.1.1 C0.1.2.1 dX4_clear_23 rfl (lv_at hl 1 rfl) ?_
    obtain ⟨hi3, h⟩ := g_ni h
    refine g_iald (f := sz) (n := 30) C0.1 Z 3 0 rfl rfl hi3 dX4_clear_24 ?_
    refine lv_if_ne (tgt := 30) C0.1.1 C0.1.2.1 dX4_clear_25 (by decide) (fun hc => ?_) (fun hc => ?_)
    · replace h := (if_neg hc).symm.trans h
      refine lv_aload_n C0.1.1 C0.1.2.1 dX4_clear_30 rfl (lv_at hl 0 rfl) ?_
      refine g_get (ci := 6) (v := .ref (a 3)) (T := TX4) (N := 16) C0.1 Z 0 rfl rfl 4 (by decide) kX4_clear_in kX4_clear_f16 rfl rfl dX4_clear_31 ?_
      refine lv_iload_n C0.1.1 C0.1.2.1 dX4_clear_34 rfl (lv_at hl 1 rfl) ?_
      refine lv_iconst (v := 0) C0.1.1 C0.1.2.1 dX4_clear_35 (by decide) ?_
      obtain ⟨hi4, h⟩ := g_ni h
      refine g_iast (f := sz) (n := 30) (ws' := (XM a cyI cyJ x1.2 df la fo he wt br dr fm (upd sz v1.toNatClampNeg (0 : Int32)) om os st wa va sk ++ Y)) C0.1 Z 3 0 rfl rfl hi4 dX4_clear_36 rfl (fun H locs Z => ?_)
      refine lv_aload_n C0.1.1 C0.1.2.1 dX4_clear_37 rfl (lv_at hl 0 rfl) ?_
      refine lv_iconst (v := 1) C0.1.1 C0.1.2.1 dX4_clear_38 (by decide) ?_
      refine lv_iload_n C0.1.1 C0.1.2.1 dX4_clear_39 rfl (lv_at hl 1 rfl) ?_
      refine lv_ishl C0.1.1 C0.1.2.1 dX4_clear_40 ?_
      obtain ⟨x5, hx6, h⟩ := g_bd h
      refine g_callVi (b := a 0) (As := [.int ((1 : Int32) <<< (v1 &&& 31))]) (rest := []) (ws' := (fun (u : Unit) => (XM a cyI cyJ x1.2 df la fo he wt br dr fm (upd sz v1.toNatClampNeg (0 : Int32)) om os st wa va sk ++ Y))) C0.1 Z (zX4_anew l D cyI cyJ cyO A bs Z.2.2.2.2.2 a Y x1.2 df la fo he wt br dr fm (upd sz v1.toNatClampNeg (0 : Int32)) om os st wa va sk N ((1 : Int32) <<< (v1 &&& 31)) x5 hx6) (cwV 1 C0.1.2.2.2.2 gX4_clear_X4_anew rfl rfl rfl (by decide +kernel) ⟨Nat.le_of_ble_eq_true rfl, Nat.le_of_ble_eq_true rfl⟩) 0 (ci := 6) rfl rfl rfl rfl hl.1 rfl (Nat.le_of_ble_eq_true rfl) dX4_clear_41 ⟨Nat.zero_le _, Nat.zero_le _⟩ (fun r u H locs hw Z => ?_)
      subst hw
      refine lv_istore_n (lv' := [(2, .int x5), (0, .ref (a 0)), (1, .int v1)]) C0.1.1 C0.1.2.1 dX4_clear_44 rfl hl (by decide) rfl (fun ls hl => ?_)
      refine lv_aload_n C0.1.1 C0.1.2.1 dX4_clear_45 rfl (lv_at hl 1 rfl) ?_
      refine lv_dup C0.1.1 C0.1.2.1 dX4_clear_46 rfl ?_
      refine g_get (ci := 6) (v := .int fo) (T := TX4) (N := 16) C0.1 Z 0 rfl rfl 8 (by decide) kX4_clear_in kX4_clear_f129 rfl rfl dX4_clear_47 ?_
      refine lv_iload_n C0.1.1 C0.1.2.1 dX4_clear_50 rfl (lv_at hl 0 rfl) ?_
      refine lv_iadd C0.1.1 C0.1.2.1 dX4_clear_51 ?_
      refine g_put (ci := 6) (v := .int (fo + x5)) (T := TX4) (N := 16) (ws' := (XM a cyI cyJ x1.2 df la (fo + x5) he wt br dr fm (upd sz v1.toNatClampNeg (0 : Int32)) om os st wa va sk ++ Y)) C0.1 Z 0 rfl rfl 8 (by decide) kX4_clear_in kX4_clear_f129 rfl tyX4 tyX4_ok nmX4 rfl rfl rfl (Nat.le_of_ble_eq_true rfl) dX4_clear_52 rfl (fun H locs Z => ?_)
      refine lv_iload_n C0.1.1 C0.1.2.1 dX4_clear_55 rfl (lv_at hl 0 rfl) ?_
      exact hret x5 x1.2 (fo + x5) (upd sz v1.toNatClampNeg (0 : Int32)) _ _ _ _ h Z dX4_clear_56
    · replace h := (if_pos hc).symm.trans h
      exact wX4_clear_28 (N := N) C0 hret x1.2 fo sz _ _ _ h Z (lv_sub hl [] rfl)
set_option maxRecDepth 20000 in
set_option maxHeartbeats 4000000 in
theorem zX4_clear (l : Launch) (D : va_G) (cyI cyJ cyO : ClassId) (A : Nat → Prop) (bs : Nat) (hA : ∀ q, bs ≤ q → A q) (a : Nat → Nat) (Y : va_W) (th : Int32) (df : Int32) (la : Int32) (fo : Int32) (he : Int32) (wt : Int32) (br : Int32) (dr : Nat → Int32) (fm : Nat → Int32) (sz : Nat → Int32) (om : Nat → Int32) (os : Nat → Int32) (st : Nat → Int32) (wa : Nat → Int32) (va : Nat → Int64) (sk : Nat → Int64) (N : Nat) (p0 : Int32) (res : Int32 × Int32 × Int32 × (Nat → Int32)) (h : mX4_clear N fm th fo sz p0 = some res) : Met l yX4_clear wsX4_clear rmX4_clear (va_Pc [.ref (a 0), .int p0] (gW D (gT cyI cyJ cyO) (XM a cyI cyJ th df la fo he wt br dr fm sz om os st wa va sk ++ Y) A bs)) (va_Qi (fun (r : Int32) (u : Int32 × Int32 × (Nat → Int32)) => res.1 = r ∧ res.2 = u) (fun (u : Int32 × Int32 × (Nat → Int32)) U => gW D (gT cyI cyJ cyO) (XM a cyI cyJ u.1 df la u.2.1 he wt br dr fm u.2.2 om os st wa va sk ++ Y) A bs U) A) 0 0 A := by
  refine Met.ofW (cc := cX4_clear) (maxL := 3) (ret := (some .int)) (by decide) rfl ?_
  intro p e s m args below meth c s₁ B hml hv
  obtain ⟨hav, hv⟩ := hv
  have C0 : gC p m meth c cX4_clear 3 (some .int) s args wsX4_clear RX4 := ⟨⟨B.exec, B.bytes, hml, findClass_of_methodNamed B.named, atoms_spec (ws := wsX4_clear) B.pre⟩, B.returns, B.notSynchronized⟩
  have Z := g_start hA hv
  have hret : ∀ (r : Int32) (th_r : Int32) (fo_r : Int32) (sz_r : Nat → Int32) (H : Heap) (locs : List Loc) (pc : Nat) (ls : Array Slot), some (r, th_r, fo_r, sz_r) = some res → gZ D (gT cyI cyJ cyO) (XM a cyI cyJ th_r df la fo_r he wt br dr fm sz_r om os st wa va sk ++ Y) A bs s H locs → decode cX4_clear pc = .ok (.ireturn, 1) → W p l e rmX4_clear s m args below meth c H locs 0 0 (MQ below (va_Qi (fun (r : Int32) (u : Int32 × Int32 × (Nat → Int32)) => res.1 = r ∧ res.2 = u) (fun (u : Int32 × Int32 × (Nat → Int32)) U => gW D (gT cyI cyJ cyO) (XM a cyI cyJ u.1 df la u.2.1 he wt br dr fm u.2.2 om os st wa va sk ++ Y) A bs U) A) args s 0 0 A) (F0 m pc ls [.int r]) := by
    intro r th_r fo_r sz_r H locs pc ls h Z hd
    replace h := Option.some.inj h
    exact W.iret C0.1.1 C0.1.2.1 C0.2.1 (fun t ht hW => ⟨⟨r, (th_r, fo_r, sz_r), rfl, ⟨congrArg Prod.fst h.symm, congrArg Prod.snd h.symm⟩, g_end Z ht hW⟩, Z.2.2.2.1.F ht⟩) Z.2.2.2.1.2.2 hd C0.2.2
  have hl := lv_entry ([.ref (a 0), .int p0]) (n := 3) (Nat.le_of_ble_eq_true rfl)
  rw [hav, lg_entry_eq]
  generalize (lg_sl ([.ref (a 0), .int p0]) ++ List.replicate (3 - (lg_sl ([.ref (a 0), .int p0])).length) Slot.unset).toArray = ls at hl ⊢
  have hl : lv_has ls 3 [(0, .ref (a 0)), (1, .int p0)] := hl
  rw [← hav]
  unfold mX4_clear at h
  refine lv_aload_n C0.1.1 C0.1.2.1 dX4_clear_0 rfl (lv_at hl 0 rfl) ?_
  refine lv_iload_n C0.1.1 C0.1.2.1 dX4_clear_1 rfl (lv_at hl 1 rfl) ?_
  obtain ⟨x7, hx8, h⟩ := g_bd h
  refine g_callSi (As := [.int p0]) (rest := [.ref (a 0)]) (ws' := (fun (u : Unit) => (XM a cyI cyJ th df la fo he wt br dr fm sz om os st wa va sk ++ Y))) C0.1 Z (zX4_isCell l D cyI cyJ cyO A bs Z.2.2.2.2.2 (XM a cyI cyJ th df la fo he wt br dr fm sz om os st wa va sk ++ Y) N p0 x7 hx8) (va_cwS 1 C0.1.2.2.2.2 gX4_clear_X4_isCell rfl rfl rfl (by decide +kernel) ⟨Nat.le_of_ble_eq_true rfl, Nat.le_of_ble_eq_true rfl⟩) rfl hl.1 rfl (Nat.le_of_ble_eq_true rfl) dX4_clear_2 ⟨Nat.zero_le _, Nat.zero_le _⟩ (fun r u H locs hw Z => ?_)
  subst hw
  refine lv_if_eq (tgt := 12) C0.1.1 C0.1.2.1 dX4_clear_5 (by decide) (fun hc => ?_) (fun hc => ?_)
  · replace h := (if_pos hc).symm.trans h
    refine lv_iconst (v := 1) C0.1.1 C0.1.2.1 dX4_clear_12 (by decide) ?_
    exact wX4_clear_13 (N := N) C0 hret th fo sz p0 (1 : Int32) _ _ _ h Z (lv_sub hl [0, 1] rfl)
  · replace h := (if_neg hc).symm.trans h
    refine lv_iconst (v := 0) C0.1.1 C0.1.2.1 dX4_clear_8 (by decide) ?_
    refine lv_goto (tgt := 13) C0.1.1 C0.1.2.1 dX4_clear_9 (by decide) ?_
    exact wX4_clear_13 (N := N) C0 hret th fo sz p0 (0 : Int32) _ _ _ h Z (lv_sub hl [0, 1] rfl)
/-! X4_open -/
abbrev rmX4_open : Room := { frames := 1, cells := 0, slots := 0, locals := 21 }
theorem kX4_open_f136 : Cond.fieldLink RX4 136 "GoalseekOfficeModel" "layers" "I" ∈ wsX4_open := by decide +kernel
theorem kX4_open_in : ∀ w ∈ wsX40, w ∈ wsX4_open := by decide +kernel
theorem kX4_open_f22 : Cond.fieldLink RX4 22 "GoalseekOfficeModel" "oldSizes" "[I" ∈ wsX4_open := by decide +kernel
theorem kX4_open_f16 : Cond.fieldLink RX4 16 "GoalseekOfficeModel" "sizes" "[I" ∈ wsX4_open := by decide +kernel
theorem kX4_open_f19 : Cond.fieldLink RX4 19 "GoalseekOfficeModel" "oldFormulas" "[I" ∈ wsX4_open := by decide +kernel
theorem kX4_open_f13 : Cond.fieldLink RX4 13 "GoalseekOfficeModel" "formulas" "[I" ∈ wsX4_open := by decide +kernel
def mX4_open_60_b (N : Nat) (fm : Nat → Int32) (sz : Nat → Int32) (r60 : Int32 → Int32 → (Nat → Int32) → (Nat → Int32) → Int32 → Option (Int32 × Int32 × Int32 × (Nat → Int32) × (Nat → Int32))) (th : Int32) (la : Int32) (om : Nat → Int32) (os : Nat → Int32) (v1 : Int32) : Option (Int32 × Int32 × Int32 × (Nat → Int32) × (Nat → Int32)) := (if (30 : Int32) ≤ v1 then some ((la + (1 : Int32)), th, (la + (1 : Int32)), om, os) else (if v1 < 0 ∨ 30 ≤ v1.toNatClampNeg then none else (if (((30 : Int32) * la) + v1) < 0 ∨ 120 ≤ (((30 : Int32) * la) + v1).toNatClampNeg then none else r60 th la om (upd os (((30 : Int32) * la) + v1).toNatClampNeg (sz v1.toNatClampNeg)) (v1 + (1 : Int32)))))
def mX4_open_60 (N : Nat) (fm : Nat → Int32) (sz : Nat → Int32) : Nat → Int32 → Int32 → (Nat → Int32) → (Nat → Int32) → Int32 → Option (Int32 × Int32 × Int32 × (Nat → Int32) × (Nat → Int32))
  | 0 => fun _ _ _ _ _ => none
  | n + 1 => fun th la om os v1 => mX4_open_60_b N fm sz (mX4_open_60 N fm sz n) th la om os v1
def mX4_open_24_b (N : Nat) (fm : Nat → Int32) (sz : Nat → Int32) (r24 : Int32 → Int32 → (Nat → Int32) → (Nat → Int32) → Int32 → Option (Int32 × Int32 × Int32 × (Nat → Int32) × (Nat → Int32))) (th : Int32) (la : Int32) (om : Nat → Int32) (os : Nat → Int32) (v1 : Int32) : Option (Int32 × Int32 × Int32 × (Nat → Int32) × (Nat → Int32)) := (if (450 : Int32) ≤ v1 then mX4_open_60 N fm sz N th la om os (0 : Int32) else (if v1 < 0 ∨ 450 ≤ v1.toNatClampNeg then none else (if (((450 : Int32) * la) + v1) < 0 ∨ 1800 ≤ (((450 : Int32) * la) + v1).toNatClampNeg then none else r24 th la (upd om (((450 : Int32) * la) + v1).toNatClampNeg (fm v1.toNatClampNeg)) os (v1 + (1 : Int32)))))
def mX4_open_24 (N : Nat) (fm : Nat → Int32) (sz : Nat → Int32) : Nat → Int32 → Int32 → (Nat → Int32) → (Nat → Int32) → Int32 → Option (Int32 × Int32 × Int32 × (Nat → Int32) × (Nat → Int32))
  | 0 => fun _ _ _ _ _ => none
  | n + 1 => fun th la om os v1 => mX4_open_24_b N fm sz (mX4_open_24 N fm sz n) th la om os v1
def mX4_open_14 (N : Nat) (fm : Nat → Int32) (sz : Nat → Int32) (th : Int32) (la : Int32) (om : Nat → Int32) (os : Nat → Int32) (s1 : Int32) : Option (Int32 × Int32 × Int32 × (Nat → Int32) × (Nat → Int32)) := ((mX4_holds N th s1).bind fun x5 => (if x5.1 = 0 then some ((0 : Int32), x5.2, la, om, os) else mX4_open_24 N fm sz N x5.2 la om os (0 : Int32)))
def mX4_open (N : Nat) (fm : Nat → Int32) (sz : Nat → Int32) (th : Int32) (la : Int32) (om : Nat → Int32) (os : Nat → Int32) : Option (Int32 × Int32 × Int32 × (Nat → Int32) × (Nat → Int32)) := (if la = (4 : Int32) then mX4_open_14 N fm sz th la om os (1 : Int32) else mX4_open_14 N fm sz th la om os (0 : Int32))
set_option maxRecDepth 20000 in
set_option maxHeartbeats 4000000 in
theorem wX4_open_60_b {p : Program} {l : Launch} {e : Env} {s : State} {m : MethodId} {args : Array Value} {below : List Frame} {meth : Method} {c : Code} {Q : State → Prop} {D : va_G} {cyI cyJ cyO : ClassId} {A : Nat → Prop} {bs : Nat} {a : Nat → Nat} {Y : va_W} {df : Int32} {fo : Int32} {he : Int32} {wt : Int32} {br : Int32} {dr : Nat → Int32} {fm : Nat → Int32} {sz : Nat → Int32} {st : Nat → Int32} {wa : Nat → Int32} {va : Nat → Int64} {sk : Nat → Int64} {N : Nat} {res : Int32 × Int32 × Int32 × (Nat → Int32) × (Nat → Int32)} (C0 : gC p m meth c cX4_open 2 (some .int) s args wsX4_open RX4) (hret : ∀ (r : Int32) (th_r : Int32) (la_r : Int32) (om_r : Nat → Int32) (os_r : Nat → Int32) (H : Heap) (locs : List Loc) (pc : Nat) (ls : Array Slot), some (r, th_r, la_r, om_r, os_r) = some res → gZ D (gT cyI cyJ cyO) (XM a cyI cyJ th_r df la_r fo he wt br dr fm sz om_r os_r st wa va sk ++ Y) A bs s H locs → decode cX4_open pc = .ok (.ireturn, 1) → W p l e rmX4_open s m args below meth c H locs 0 0 Q (F0 m pc ls [.int r])) {r60 : Int32 → Int32 → (Nat → Int32) → (Nat → Int32) → Int32 → Option (Int32 × Int32 × Int32 × (Nat → Int32) × (Nat → Int32))} (hr60 : ∀ (th : Int32) (la : Int32) (om : Nat → Int32) (os : Nat → Int32) (v1 : Int32) (H : Heap) (locs : List Loc) (ls : Array Slot), r60 th la om os v1 = some res → gZ D (gT cyI cyJ cyO) (XM a cyI cyJ th df la fo he wt br dr fm sz om os st wa va sk ++ Y) A bs s H locs → lv_has ls 2 [(0, .ref (a 0)), (1, .int v1)] → W p l e rmX4_open s m args below meth c H locs 0 0 Q (F0 m 60 ls [])) : ∀ (th : Int32) (la : Int32) (om : Nat → Int32) (os : Nat → Int32) (v1 : Int32) (H : Heap) (locs : List Loc) (ls : Array Slot), mX4_open_60_b N fm sz r60 th la om os v1 = some res → gZ D (gT cyI cyJ cyO) (XM a cyI cyJ th df la fo he wt br dr fm sz om os st wa va sk ++ Y) A bs s H locs → lv_has ls 2 [(0, .ref (a 0)), (1, .int v1)] → W p l e rmX4_open s m args below meth c H locs 0 0 Q (F0 m 60 ls []) := by
  intro th la om os v1 H locs ls h Z hl
  unfold mX4_open_60_b at h
  refine lv_iload_n C0.1.1 C0.1.2.1 dX4_open_60 rfl (lv_at hl 1 rfl) ?_
  refine lv_bipush (v := 30) C0.1.1 C0.1.2.1 dX4_open_61 (by decide +kernel) ?_
  refine lv_icmp_ge (tgt := 92) C0.1.1 C0.1.2.1 dX4_open_63 (by decide) (fun hc => ?_) (fun hc => ?_)
  · replace h := (if_pos hc).symm.trans h
    refine lv_aload_n C0.1.1 C0.1.2.1 dX4_open_92 rfl (lv_at hl 0 rfl) ?_
    refine lv_dup C0.1.1 C0.1.2.1 dX4_open_93 rfl ?_
    refine g_get (ci := 6) (v := .int la) (T := TX4) (N := 16) C0.1 Z 0 rfl rfl 5 (by decide) kX4_open_in kX4_open_f136 rfl rfl dX4_open_94 ?_
    refine lv_iconst (v := 1) C0.1.1 C0.1.2.1 dX4_open_97 (by decide) ?_
    refine lv_iadd C0.1.1 C0.1.2.1 dX4_open_98 ?_
    refine g_put (ci := 6) (v := .int (la + (1 : Int32))) (T := TX4) (N := 16) (ws' := (XM a cyI cyJ th df (la + (1 : Int32)) fo he wt br dr fm sz om os st wa va sk ++ Y)) C0.1 Z 0 rfl rfl 5 (by decide) kX4_open_in kX4_open_f136 rfl tyX4 tyX4_ok nmX4 rfl rfl rfl (Nat.le_of_ble_eq_true rfl) dX4_open_99 rfl (fun H locs Z => ?_)
    refine lv_aload_n C0.1.1 C0.1.2.1 dX4_open_102 rfl (lv_at hl 0 rfl) ?_
    refine g_get (ci := 6) (v := .int (la + (1 : Int32))) (T := TX4) (N := 16) C0.1 Z 0 rfl rfl 5 (by decide) kX4_open_in kX4_open_f136 rfl rfl dX4_open_103 ?_
    exact hret (la + (1 : Int32)) th (la + (1 : Int32)) om os _ _ _ _ h Z dX4_open_106
  · replace h := (if_neg hc).symm.trans h
    refine lv_aload_n C0.1.1 C0.1.2.1 dX4_open_66 rfl (lv_at hl 0 rfl) ?_
    refine g_get (ci := 6) (v := .ref (a 5)) (T := TX4) (N := 16) C0.1 Z 0 rfl rfl 7 (by decide) kX4_open_in kX4_open_f22 rfl rfl dX4_open_67 ?_
    refine lv_bipush (v := 30) C0.1.1 C0.1.2.1 dX4_open_70 (by decide +kernel) ?_
    refine lv_aload_n C0.1.1 C0.1.2.1 dX4_open_72 rfl (lv_at hl 0 rfl) ?_
    refine g_get (ci := 6) (v := .int la) (T := TX4) (N := 16) C0.1 Z 0 rfl rfl 5 (by decide) kX4_open_in kX4_open_f136 rfl rfl dX4_open_73 ?_
    refine lv_imul C0.1.1 C0.1.2.1 dX4_open_76 ?_
    refine lv_iload_n C0.1.1 C0.1.2.1 dX4_open_77 rfl (lv_at hl 1 rfl) ?_
    refine lv_iadd C0.1.1 C0.1.2.1 dX4_open_78 ?_
    refine lv_aload_n C0.1.1 C0.1.2.1 dX4_open_79 rfl (lv_at hl 0 rfl) ?_
    refine g_get (ci := 6) (v := .ref (a 3)) (T := TX4) (N := 16) C0.1 Z 0 rfl rfl 4 (by decide) kX4_open_in kX4_open_f16 rfl rfl dX4_open_80 ?_
    refine lv_iload_n C0.1.1 C0.1.2.1 dX4_open_83 rfl (lv_at hl 1 rfl) ?_
    obtain ⟨hi1, h⟩ := g_ni h
    refine g_iald (f := sz) (n := 30) C0.1 Z 3 0 rfl rfl hi1 dX4_open_84 ?_
    obtain ⟨hi2, h⟩ := g_ni h
    refine g_iast (f := os) (n := 120) (ws' := (XM a cyI cyJ th df la fo he wt br dr fm sz om (upd os (((30 : Int32) * la) + v1).toNatClampNeg (sz v1.toNatClampNeg)) st wa va sk ++ Y)) C0.1 Z 5 0 rfl rfl hi2 dX4_open_85 rfl (fun H locs Z => ?_)
    refine lv_iinc (v := v1 + (1 : Int32)) (lv' := [(1, .int (v1 + (1 : Int32))), (0, .ref (a 0))]) C0.1.1 C0.1.2.1 dX4_open_86 hl (k := 1) rfl rfl (by decide) rfl (fun ls hl => ?_)
    refine lv_goto (tgt := 60) C0.1.1 C0.1.2.1 dX4_open_89 (by decide) ?_
    exact hr60 th la om (upd os (((30 : Int32) * la) + v1).toNatClampNeg (sz v1.toNatClampNeg)) (v1 + (1 : Int32)) _ _ _ h Z (lv_sub hl [1, 0] rfl)
theorem wX4_open_60 {p : Program} {l : Launch} {e : Env} {s : State} {m : MethodId} {args : Array Value} {below : List Frame} {meth : Method} {c : Code} {Q : State → Prop} {D : va_G} {cyI cyJ cyO : ClassId} {A : Nat → Prop} {bs : Nat} {a : Nat → Nat} {Y : va_W} {df : Int32} {fo : Int32} {he : Int32} {wt : Int32} {br : Int32} {dr : Nat → Int32} {fm : Nat → Int32} {sz : Nat → Int32} {st : Nat → Int32} {wa : Nat → Int32} {va : Nat → Int64} {sk : Nat → Int64} {N : Nat} {res : Int32 × Int32 × Int32 × (Nat → Int32) × (Nat → Int32)} (C0 : gC p m meth c cX4_open 2 (some .int) s args wsX4_open RX4) (hret : ∀ (r : Int32) (th_r : Int32) (la_r : Int32) (om_r : Nat → Int32) (os_r : Nat → Int32) (H : Heap) (locs : List Loc) (pc : Nat) (ls : Array Slot), some (r, th_r, la_r, om_r, os_r) = some res → gZ D (gT cyI cyJ cyO) (XM a cyI cyJ th_r df la_r fo he wt br dr fm sz om_r os_r st wa va sk ++ Y) A bs s H locs → decode cX4_open pc = .ok (.ireturn, 1) → W p l e rmX4_open s m args below meth c H locs 0 0 Q (F0 m pc ls [.int r]))  : ∀ (n : Nat), ∀ (th : Int32) (la : Int32) (om : Nat → Int32) (os : Nat → Int32) (v1 : Int32) (H : Heap) (locs : List Loc) (ls : Array Slot), mX4_open_60 N fm sz n th la om os v1 = some res → gZ D (gT cyI cyJ cyO) (XM a cyI cyJ th df la fo he wt br dr fm sz om os st wa va sk ++ Y) A bs s H locs → lv_has ls 2 [(0, .ref (a 0)), (1, .int v1)] → W p l e rmX4_open s m args below meth c H locs 0 0 Q (F0 m 60 ls []) := by
  intro n
  induction n with
  | zero => intro _ _ _ _ _ _ _ _ h; cases h
  | succ n ih => exact wX4_open_60_b (N := N) C0 hret ih
set_option maxRecDepth 20000 in
set_option maxHeartbeats 4000000 in
theorem wX4_open_24_b {p : Program} {l : Launch} {e : Env} {s : State} {m : MethodId} {args : Array Value} {below : List Frame} {meth : Method} {c : Code} {Q : State → Prop} {D : va_G} {cyI cyJ cyO : ClassId} {A : Nat → Prop} {bs : Nat} {a : Nat → Nat} {Y : va_W} {df : Int32} {fo : Int32} {he : Int32} {wt : Int32} {br : Int32} {dr : Nat → Int32} {fm : Nat → Int32} {sz : Nat → Int32} {st : Nat → Int32} {wa : Nat → Int32} {va : Nat → Int64} {sk : Nat → Int64} {N : Nat} {res : Int32 × Int32 × Int32 × (Nat → Int32) × (Nat → Int32)} (C0 : gC p m meth c cX4_open 2 (some .int) s args wsX4_open RX4) (hret : ∀ (r : Int32) (th_r : Int32) (la_r : Int32) (om_r : Nat → Int32) (os_r : Nat → Int32) (H : Heap) (locs : List Loc) (pc : Nat) (ls : Array Slot), some (r, th_r, la_r, om_r, os_r) = some res → gZ D (gT cyI cyJ cyO) (XM a cyI cyJ th_r df la_r fo he wt br dr fm sz om_r os_r st wa va sk ++ Y) A bs s H locs → decode cX4_open pc = .ok (.ireturn, 1) → W p l e rmX4_open s m args below meth c H locs 0 0 Q (F0 m pc ls [.int r])) {r24 : Int32 → Int32 → (Nat → Int32) → (Nat → Int32) → Int32 → Option (Int32 × Int32 × Int32 × (Nat → Int32) × (Nat → Int32))} (hr24 : ∀ (th : Int32) (la : Int32) (om : Nat → Int32) (os : Nat → Int32) (v1 : Int32) (H : Heap) (locs : List Loc) (ls : Array Slot), r24 th la om os v1 = some res → gZ D (gT cyI cyJ cyO) (XM a cyI cyJ th df la fo he wt br dr fm sz om os st wa va sk ++ Y) A bs s H locs → lv_has ls 2 [(0, .ref (a 0)), (1, .int v1)] → W p l e rmX4_open s m args below meth c H locs 0 0 Q (F0 m 24 ls [])) : ∀ (th : Int32) (la : Int32) (om : Nat → Int32) (os : Nat → Int32) (v1 : Int32) (H : Heap) (locs : List Loc) (ls : Array Slot), mX4_open_24_b N fm sz r24 th la om os v1 = some res → gZ D (gT cyI cyJ cyO) (XM a cyI cyJ th df la fo he wt br dr fm sz om os st wa va sk ++ Y) A bs s H locs → lv_has ls 2 [(0, .ref (a 0)), (1, .int v1)] → W p l e rmX4_open s m args below meth c H locs 0 0 Q (F0 m 24 ls []) := by
  intro th la om os v1 H locs ls h Z hl
  unfold mX4_open_24_b at h
  refine lv_iload_n C0.1.1 C0.1.2.1 dX4_open_24 rfl (lv_at hl 1 rfl) ?_
  refine lv_sipush (v := 450) C0.1.1 C0.1.2.1 dX4_open_25 (by decide +kernel) ?_
  refine lv_icmp_ge (tgt := 58) C0.1.1 C0.1.2.1 dX4_open_28 (by decide) (fun hc => ?_) (fun hc => ?_)
  · replace h := (if_pos hc).symm.trans h
    refine lv_iconst (v := 0) C0.1.1 C0.1.2.1 dX4_open_58 (by decide) ?_
    refine lv_istore_n (lv' := [(1, .int (0 : Int32)), (0, .ref (a 0))]) C0.1.1 C0.1.2.1 dX4_open_59 rfl hl (by decide) rfl (fun ls hl => ?_)
    exact wX4_open_60 (N := N) C0 hret N th la om os (0 : Int32) _ _ _ h Z (lv_sub hl [1, 0] rfl)
  · replace h := (if_neg hc).symm.trans h
    refine lv_aload_n C0.1.1 C0.1.2.1 dX4_open_31 rfl (lv_at hl 0 rfl) ?_
    refine g_get (ci := 6) (v := .ref (a 4)) (T := TX4) (N := 16) C0.1 Z 0 rfl rfl 6 (by decide) kX4_open_in kX4_open_f19 rfl rfl dX4_open_32 ?_
    refine lv_sipush (v := 450) C0.1.1 C0.1.2.1 dX4_open_35 (by decide +kernel) ?_
    refine lv_aload_n C0.1.1 C0.1.2.1 dX4_open_38 rfl (lv_at hl 0 rfl) ?_
    refine g_get (ci := 6) (v := .int la) (T := TX4) (N := 16) C0.1 Z 0 rfl rfl 5 (by decide) kX4_open_in kX4_open_f136 rfl rfl dX4_open_39 ?_
    refine lv_imul C0.1.1 C0.1.2.1 dX4_open_42 ?_
    refine lv_iload_n C0.1.1 C0.1.2.1 dX4_open_43 rfl (lv_at hl 1 rfl) ?_
    refine lv_iadd C0.1.1 C0.1.2.1 dX4_open_44 ?_
    refine lv_aload_n C0.1.1 C0.1.2.1 dX4_open_45 rfl (lv_at hl 0 rfl) ?_
    refine g_get (ci := 6) (v := .ref (a 2)) (T := TX4) (N := 16) C0.1 Z 0 rfl rfl 3 (by decide) kX4_open_in kX4_open_f13 rfl rfl dX4_open_46 ?_
    refine lv_iload_n C0.1.1 C0.1.2.1 dX4_open_49 rfl (lv_at hl 1 rfl) ?_
    obtain ⟨hi3, h⟩ := g_ni h
    refine g_iald (f := fm) (n := 450) C0.1 Z 2 0 rfl rfl hi3 dX4_open_50 ?_
    obtain ⟨hi4, h⟩ := g_ni h
    refine g_iast (f := om) (n := 1800) (ws' := (XM a cyI cyJ th df la fo he wt br dr fm sz (upd om (((450 : Int32) * la) + v1).toNatClampNeg (fm v1.toNatClampNeg)) os st wa va sk ++ Y)) C0.1 Z 4 0 rfl rfl hi4 dX4_open_51 rfl (fun H locs Z => ?_)
    refine lv_iinc (v := v1 + (1 : Int32)) (lv' := [(1, .int (v1 + (1 : Int32))), (0, .ref (a 0))]) C0.1.1 C0.1.2.1 dX4_open_52 hl (k := 1) rfl rfl (by decide) rfl (fun ls hl => ?_)
    refine lv_goto (tgt := 24) C0.1.1 C0.1.2.1 dX4_open_55 (by decide) ?_
    exact hr24 th la (upd om (((450 : Int32) * la) + v1).toNatClampNeg (fm v1.toNatClampNeg)) os (v1 + (1 : Int32)) _ _ _ h Z (lv_sub hl [1, 0] rfl)
theorem wX4_open_24 {p : Program} {l : Launch} {e : Env} {s : State} {m : MethodId} {args : Array Value} {below : List Frame} {meth : Method} {c : Code} {Q : State → Prop} {D : va_G} {cyI cyJ cyO : ClassId} {A : Nat → Prop} {bs : Nat} {a : Nat → Nat} {Y : va_W} {df : Int32} {fo : Int32} {he : Int32} {wt : Int32} {br : Int32} {dr : Nat → Int32} {fm : Nat → Int32} {sz : Nat → Int32} {st : Nat → Int32} {wa : Nat → Int32} {va : Nat → Int64} {sk : Nat → Int64} {N : Nat} {res : Int32 × Int32 × Int32 × (Nat → Int32) × (Nat → Int32)} (C0 : gC p m meth c cX4_open 2 (some .int) s args wsX4_open RX4) (hret : ∀ (r : Int32) (th_r : Int32) (la_r : Int32) (om_r : Nat → Int32) (os_r : Nat → Int32) (H : Heap) (locs : List Loc) (pc : Nat) (ls : Array Slot), some (r, th_r, la_r, om_r, os_r) = some res → gZ D (gT cyI cyJ cyO) (XM a cyI cyJ th_r df la_r fo he wt br dr fm sz om_r os_r st wa va sk ++ Y) A bs s H locs → decode cX4_open pc = .ok (.ireturn, 1) → W p l e rmX4_open s m args below meth c H locs 0 0 Q (F0 m pc ls [.int r]))  : ∀ (n : Nat), ∀ (th : Int32) (la : Int32) (om : Nat → Int32) (os : Nat → Int32) (v1 : Int32) (H : Heap) (locs : List Loc) (ls : Array Slot), mX4_open_24 N fm sz n th la om os v1 = some res → gZ D (gT cyI cyJ cyO) (XM a cyI cyJ th df la fo he wt br dr fm sz om os st wa va sk ++ Y) A bs s H locs → lv_has ls 2 [(0, .ref (a 0)), (1, .int v1)] → W p l e rmX4_open s m args below meth c H locs 0 0 Q (F0 m 24 ls []) := by
  intro n
  induction n with
  | zero => intro _ _ _ _ _ _ _ _ h; cases h
  | succ n ih => exact wX4_open_24_b (N := N) C0 hret ih
set_option maxRecDepth 20000 in
set_option maxHeartbeats 4000000 in
theorem wX4_open_14 {p : Program} {l : Launch} {e : Env} {s : State} {m : MethodId} {args : Array Value} {below : List Frame} {meth : Method} {c : Code} {Q : State → Prop} {D : va_G} {cyI cyJ cyO : ClassId} {A : Nat → Prop} {bs : Nat} {a : Nat → Nat} {Y : va_W} {df : Int32} {fo : Int32} {he : Int32} {wt : Int32} {br : Int32} {dr : Nat → Int32} {fm : Nat → Int32} {sz : Nat → Int32} {st : Nat → Int32} {wa : Nat → Int32} {va : Nat → Int64} {sk : Nat → Int64} {N : Nat} {res : Int32 × Int32 × Int32 × (Nat → Int32) × (Nat → Int32)} (C0 : gC p m meth c cX4_open 2 (some .int) s args wsX4_open RX4) (hret : ∀ (r : Int32) (th_r : Int32) (la_r : Int32) (om_r : Nat → Int32) (os_r : Nat → Int32) (H : Heap) (locs : List Loc) (pc : Nat) (ls : Array Slot), some (r, th_r, la_r, om_r, os_r) = some res → gZ D (gT cyI cyJ cyO) (XM a cyI cyJ th_r df la_r fo he wt br dr fm sz om_r os_r st wa va sk ++ Y) A bs s H locs → decode cX4_open pc = .ok (.ireturn, 1) → W p l e rmX4_open s m args below meth c H locs 0 0 Q (F0 m pc ls [.int r]))  : ∀ (th : Int32) (la : Int32) (om : Nat → Int32) (os : Nat → Int32) (s1 : Int32) (H : Heap) (locs : List Loc) (ls : Array Slot), mX4_open_14 N fm sz th la om os s1 = some res → gZ D (gT cyI cyJ cyO) (XM a cyI cyJ th df la fo he wt br dr fm sz om os st wa va sk ++ Y) A bs s H locs → lv_has ls 2 [(0, .ref (a 0))] → W p l e rmX4_open s m args below meth c H locs 0 0 Q (F0 m 14 ls [.int s1, .ref (a 0)]) := by
  intro th la om os s1 H locs ls h Z hl
  unfold mX4_open_14 at h
  obtain ⟨x5, hx6, h⟩ := g_bd h
  refine g_callVi (b := a 0) (As := [.int s1]) (rest := []) (ws' := (fun (u : Int32) => (XM a cyI cyJ u df la fo he wt br dr fm sz om os st wa va sk ++ Y))) C0.1 Z (zX4_holds l D cyI cyJ cyO A bs Z.2.2.2.2.2 a Y th df la fo he wt br dr fm sz om os st wa va sk N s1 x5 hx6) (cwV 1 C0.1.2.2.2.2 gX4_open_X4_holds rfl rfl rfl (by decide +kernel) ⟨Nat.le_of_ble_eq_true rfl, Nat.le_of_ble_eq_true rfl⟩) 0 (ci := 6) rfl rfl rfl rfl hl.1 rfl (Nat.le_of_ble_eq_true rfl) dX4_open_14 ⟨Nat.zero_le _, Nat.zero_le _⟩ (fun r u H locs hw Z => ?_)
  obtain ⟨rfl, rfl⟩ := hw
  refine lv_if_ne (tgt := 22) C0.1.1 C0.1.2.1 dX4_open_17 (by decide) (fun hc => ?_) (fun hc => ?_)
  · replace h := (if_neg hc).symm.trans h
    refine lv_iconst (v := 0) C0.1.1 C0.1.2.1 dX4_open_22 (by decide) ?_
    refine lv_istore_n (lv' := [(1, .int (0 : Int32)), (0, .ref (a 0))]) C0.1.1 C0.1.2.1 dX4_open_23 rfl hl (by decide) rfl (fun ls hl => ?_)
    exact wX4_open_24 (N := N) C0 hret N x5.2 la om os (0 : Int32) _ _ _ h Z (lv_sub hl [1, 0] rfl)
  · replace h := (if_pos hc).symm.trans h
    refine lv_iconst (v := 0) C0.1.1 C0.1.2.1 dX4_open_20 (by decide) ?_
    exact hret (0 : Int32) x5.2 la om os _ _ _ _ h Z dX4_open_21
set_option maxRecDepth 20000 in
set_option maxHeartbeats 4000000 in
theorem zX4_open (l : Launch) (D : va_G) (cyI cyJ cyO : ClassId) (A : Nat → Prop) (bs : Nat) (hA : ∀ q, bs ≤ q → A q) (a : Nat → Nat) (Y : va_W) (th : Int32) (df : Int32) (la : Int32) (fo : Int32) (he : Int32) (wt : Int32) (br : Int32) (dr : Nat → Int32) (fm : Nat → Int32) (sz : Nat → Int32) (om : Nat → Int32) (os : Nat → Int32) (st : Nat → Int32) (wa : Nat → Int32) (va : Nat → Int64) (sk : Nat → Int64) (N : Nat)  (res : Int32 × Int32 × Int32 × (Nat → Int32) × (Nat → Int32)) (h : mX4_open N fm sz th la om os = some res) : Met l yX4_open wsX4_open rmX4_open (va_Pc [.ref (a 0)] (gW D (gT cyI cyJ cyO) (XM a cyI cyJ th df la fo he wt br dr fm sz om os st wa va sk ++ Y) A bs)) (va_Qi (fun (r : Int32) (u : Int32 × Int32 × (Nat → Int32) × (Nat → Int32)) => res.1 = r ∧ res.2 = u) (fun (u : Int32 × Int32 × (Nat → Int32) × (Nat → Int32)) U => gW D (gT cyI cyJ cyO) (XM a cyI cyJ u.1 df u.2.1 fo he wt br dr fm sz u.2.2.1 u.2.2.2 st wa va sk ++ Y) A bs U) A) 0 0 A := by
  refine Met.ofW (cc := cX4_open) (maxL := 2) (ret := (some .int)) (by decide) rfl ?_
  intro p e s m args below meth c s₁ B hml hv
  obtain ⟨hav, hv⟩ := hv
  have C0 : gC p m meth c cX4_open 2 (some .int) s args wsX4_open RX4 := ⟨⟨B.exec, B.bytes, hml, findClass_of_methodNamed B.named, atoms_spec (ws := wsX4_open) B.pre⟩, B.returns, B.notSynchronized⟩
  have Z := g_start hA hv
  have hret : ∀ (r : Int32) (th_r : Int32) (la_r : Int32) (om_r : Nat → Int32) (os_r : Nat → Int32) (H : Heap) (locs : List Loc) (pc : Nat) (ls : Array Slot), some (r, th_r, la_r, om_r, os_r) = some res → gZ D (gT cyI cyJ cyO) (XM a cyI cyJ th_r df la_r fo he wt br dr fm sz om_r os_r st wa va sk ++ Y) A bs s H locs → decode cX4_open pc = .ok (.ireturn, 1) → W p l e rmX4_open s m args below meth c H locs 0 0 (MQ below (va_Qi (fun (r : Int32) (u : Int32 × Int32 × (Nat → Int32) × (Nat → Int32)) => res.1 = r ∧ res.2 = u) (fun (u : Int32 × Int32 × (Nat → Int32) × (Nat → Int32)) U => gW D (gT cyI cyJ cyO) (XM a cyI cyJ u.1 df u.2.1 fo he wt br dr fm sz u.2.2.1 u.2.2.2 st wa va sk ++ Y) A bs U) A) args s 0 0 A) (F0 m pc ls [.int r]) := by
    intro r th_r la_r om_r os_r H locs pc ls h Z hd
    replace h := Option.some.inj h
    exact W.iret C0.1.1 C0.1.2.1 C0.2.1 (fun t ht hW => ⟨⟨r, (th_r, la_r, om_r, os_r), rfl, ⟨congrArg Prod.fst h.symm, congrArg Prod.snd h.symm⟩, g_end Z ht hW⟩, Z.2.2.2.1.F ht⟩) Z.2.2.2.1.2.2 hd C0.2.2
  have hl := lv_entry ([.ref (a 0)]) (n := 2) (Nat.le_of_ble_eq_true rfl)
  rw [hav, lg_entry_eq]
  generalize (lg_sl ([.ref (a 0)]) ++ List.replicate (2 - (lg_sl ([.ref (a 0)])).length) Slot.unset).toArray = ls at hl ⊢
  have hl : lv_has ls 2 [(0, .ref (a 0))] := hl
  rw [← hav]
  unfold mX4_open at h
  refine lv_aload_n C0.1.1 C0.1.2.1 dX4_open_0 rfl (lv_at hl 0 rfl) ?_
  refine lv_aload_n C0.1.1 C0.1.2.1 dX4_open_1 rfl (lv_at hl 0 rfl) ?_
  refine g_get (ci := 6) (v := .int la) (T := TX4) (N := 16) C0.1 Z 0 rfl rfl 5 (by decide) kX4_open_in kX4_open_f136 rfl rfl dX4_open_2 ?_
  refine lv_iconst (v := 4) C0.1.1 C0.1.2.1 dX4_open_5 (by decide) ?_
  refine lv_icmp_ne (tgt := 13) C0.1.1 C0.1.2.1 dX4_open_6 (by decide) (fun hc => ?_) (fun hc => ?_)
  · replace h := (if_neg hc).symm.trans h
    refine lv_iconst (v := 0) C0.1.1 C0.1.2.1 dX4_open_13 (by decide) ?_
    exact wX4_open_14 (N := N) C0 hret th la om os (0 : Int32) _ _ _ h Z (lv_sub hl [0] rfl)
  · replace h := (if_pos hc).symm.trans h
    refine lv_iconst (v := 1) C0.1.1 C0.1.2.1 dX4_open_9 (by decide) ?_
    refine lv_goto (tgt := 14) C0.1.1 C0.1.2.1 dX4_open_10 (by decide) ?_
    exact wX4_open_14 (N := N) C0 hret th la om os (1 : Int32) _ _ _ h Z (lv_sub hl [0] rfl)
/-! X4_isOther -/
abbrev rmX4_isOther : Room := { frames := 0, cells := 0, slots := 0, locals := 0 }
theorem kX4_isOther_f16 : Cond.fieldLink RX4 16 "GoalseekOfficeModel" "sizes" "[I" ∈ wsX4_isOther := by decide +kernel
theorem kX4_isOther_in : ∀ w ∈ wsX40, w ∈ wsX4_isOther := by decide +kernel
theorem kX4_isOther_f13 : Cond.fieldLink RX4 13 "GoalseekOfficeModel" "formulas" "[I" ∈ wsX4_isOther := by decide +kernel
theorem kX4_isOther_f19 : Cond.fieldLink RX4 19 "GoalseekOfficeModel" "oldFormulas" "[I" ∈ wsX4_isOther := by decide +kernel
theorem kX4_isOther_f136 : Cond.fieldLink RX4 136 "GoalseekOfficeModel" "layers" "I" ∈ wsX4_isOther := by decide +kernel
theorem kX4_isOther_f22 : Cond.fieldLink RX4 22 "GoalseekOfficeModel" "oldSizes" "[I" ∈ wsX4_isOther := by decide +kernel
def mX4_isOther_84 (N : Nat) (la : Int32) (fm : Nat → Int32) (sz : Nat → Int32) (om : Nat → Int32) (os : Nat → Int32) (r31 : Int32 → Int32 → Int32 → Option (Int32)) (v1 : Int32) (v3 : Int32) (s0 : Int32) : Option (Int32) := r31 v1 s0 (v3 + (1 : Int32))
def mX4_isOther_79 (N : Nat) (la : Int32) (fm : Nat → Int32) (sz : Nat → Int32) (om : Nat → Int32) (os : Nat → Int32) (r31 : Int32 → Int32 → Int32 → Option (Int32)) (v1 : Int32) (v3 : Int32) : Option (Int32) := mX4_isOther_84 N la fm sz om os r31 v1 v3 (1 : Int32)
def mX4_isOther_31_b (N : Nat) (la : Int32) (fm : Nat → Int32) (sz : Nat → Int32) (om : Nat → Int32) (os : Nat → Int32) (r31 : Int32 → Int32 → Int32 → Option (Int32)) (v1 : Int32) (v2 : Int32) (v3 : Int32) : Option (Int32) := (if v1 < 0 ∨ 30 ≤ v1.toNatClampNeg then none else (if (sz v1.toNatClampNeg) ≤ v3 then (if (v2 = 0 ∨ v2 = 1) then some (v2) else none) else (if v2 = 0 then (if (((15 : Int32) * v1) + v3) < 0 ∨ 450 ≤ (((15 : Int32) * v1) + v3).toNatClampNeg then none else (if ((((450 : Int32) * la) + ((15 : Int32) * v1)) + v3) < 0 ∨ 1800 ≤ ((((450 : Int32) * la) + ((15 : Int32) * v1)) + v3).toNatClampNeg then none else (if (fm (((15 : Int32) * v1) + v3).toNatClampNeg) = (om ((((450 : Int32) * la) + ((15 : Int32) * v1)) + v3).toNatClampNeg) then mX4_isOther_84 N la fm sz om os r31 v1 v3 (0 : Int32) else mX4_isOther_79 N la fm sz om os r31 v1 v3))) else mX4_isOther_79 N la fm sz om os r31 v1 v3)))
def mX4_isOther_31 (N : Nat) (la : Int32) (fm : Nat → Int32) (sz : Nat → Int32) (om : Nat → Int32) (os : Nat → Int32) : Nat → Int32 → Int32 → Int32 → Option (Int32)
  | 0 => fun _ _ _ => none
  | n + 1 => fun v1 v2 v3 => mX4_isOther_31_b N la fm sz om os (mX4_isOther_31 N la fm sz om os n) v1 v2 v3
def mX4_isOther_28 (N : Nat) (la : Int32) (fm : Nat → Int32) (sz : Nat → Int32) (om : Nat → Int32) (os : Nat → Int32) (v1 : Int32) (s0 : Int32) : Option (Int32) := mX4_isOther_31 N la fm sz om os N v1 s0 (0 : Int32)
def mX4_isOther (N : Nat) (la : Int32) (fm : Nat → Int32) (sz : Nat → Int32) (om : Nat → Int32) (os : Nat → Int32) (p0 : Int32) : Option (Int32) := (if p0 < 0 ∨ 30 ≤ p0.toNatClampNeg then none else (if (((30 : Int32) * la) + p0) < 0 ∨ 120 ≤ (((30 : Int32) * la) + p0).toNatClampNeg then none else (if (sz p0.toNatClampNeg) = (os (((30 : Int32) * la) + p0).toNatClampNeg) then mX4_isOther_28 N la fm sz om os p0 (0 : Int32) else mX4_isOther_28 N la fm sz om os p0 (1 : Int32))))
set_option maxRecDepth 20000 in
set_option maxHeartbeats 4000000 in
theorem wX4_isOther_84 {p : Program} {l : Launch} {e : Env} {s : State} {m : MethodId} {args : Array Value} {below : List Frame} {meth : Method} {c : Code} {Q : State → Prop} {D : va_G} {cyI cyJ cyO : ClassId} {A : Nat → Prop} {bs : Nat} {a : Nat → Nat} {Y : va_W} {th : Int32} {df : Int32} {la : Int32} {fo : Int32} {he : Int32} {wt : Int32} {br : Int32} {dr : Nat → Int32} {fm : Nat → Int32} {sz : Nat → Int32} {om : Nat → Int32} {os : Nat → Int32} {st : Nat → Int32} {wa : Nat → Int32} {va : Nat → Int64} {sk : Nat → Int64} {N : Nat} {res : Int32} (C0 : gC p m meth c cX4_isOther 4 (some .boolean) s args wsX4_isOther RX4) (hret : ∀ (r : Int32) (H : Heap) (locs : List Loc) (pc : Nat) (ls : Array Slot), (r = 0 ∨ r = 1) → some r = some res → gZ D (gT cyI cyJ cyO) (XM a cyI cyJ th df la fo he wt br dr fm sz om os st wa va sk ++ Y) A bs s H locs → decode cX4_isOther pc = .ok (.ireturn, 1) → W p l e rmX4_isOther s m args below meth c H locs 0 0 Q (F0 m pc ls [.int r])) {r31 : Int32 → Int32 → Int32 → Option (Int32)} (hr31 : ∀ (v1 : Int32) (v2 : Int32) (v3 : Int32) (H : Heap) (locs : List Loc) (ls : Array Slot), r31 v1 v2 v3 = some res → gZ D (gT cyI cyJ cyO) (XM a cyI cyJ th df la fo he wt br dr fm sz om os st wa va sk ++ Y) A bs s H locs → lv_has ls 4 [(0, .ref (a 0)), (1, .int v1), (2, .int v2), (3, .int v3)] → W p l e rmX4_isOther s m args below meth c H locs 0 0 Q (F0 m 31 ls [])) : ∀ (v1 : Int32) (v3 : Int32) (s0 : Int32) (H : Heap) (locs : List Loc) (ls : Array Slot), mX4_isOther_84 N la fm sz om os r31 v1 v3 s0 = some res → gZ D (gT cyI cyJ cyO) (XM a cyI cyJ th df la fo he wt br dr fm sz om os st wa va sk ++ Y) A bs s H locs → lv_has ls 4 [(0, .ref (a 0)), (1, .int v1), (3, .int v3)] → W p l e rmX4_isOther s m args below meth c H locs 0 0 Q (F0 m 84 ls [.int s0]) := by
  intro v1 v3 s0 H locs ls h Z hl
  unfold mX4_isOther_84 at h
  refine lv_istore_n (lv' := [(2, .int s0), (0, .ref (a 0)), (1, .int v1), (3, .int v3)]) C0.1.1 C0.1.2.1 dX4_isOther_84 rfl hl (by decide) rfl (fun ls hl => ?_)
  refine lv_iinc (v := v3 + (1 : Int32)) (lv' := [(3, .int (v3 + (1 : Int32))), (2, .int s0), (0, .ref (a 0)), (1, .int v1)]) C0.1.1 C0.1.2.1 dX4_isOther_85 hl (k := 3) rfl rfl (by decide) rfl (fun ls hl => ?_)
  refine lv_goto (tgt := 31) C0.1.1 C0.1.2.1 dX4_isOther_88 (by decide) ?_
  exact hr31 v1 s0 (v3 + (1 : Int32)) _ _ _ h Z (lv_sub hl [2, 3, 1, 0] rfl)
set_option maxRecDepth 20000 in
set_option maxHeartbeats 4000000 in
theorem wX4_isOther_79 {p : Program} {l : Launch} {e : Env} {s : State} {m : MethodId} {args : Array Value} {below : List Frame} {meth : Method} {c : Code} {Q : State → Prop} {D : va_G} {cyI cyJ cyO : ClassId} {A : Nat → Prop} {bs : Nat} {a : Nat → Nat} {Y : va_W} {th : Int32} {df : Int32} {la : Int32} {fo : Int32} {he : Int32} {wt : Int32} {br : Int32} {dr : Nat → Int32} {fm : Nat → Int32} {sz : Nat → Int32} {om : Nat → Int32} {os : Nat → Int32} {st : Nat → Int32} {wa : Nat → Int32} {va : Nat → Int64} {sk : Nat → Int64} {N : Nat} {res : Int32} (C0 : gC p m meth c cX4_isOther 4 (some .boolean) s args wsX4_isOther RX4) (hret : ∀ (r : Int32) (H : Heap) (locs : List Loc) (pc : Nat) (ls : Array Slot), (r = 0 ∨ r = 1) → some r = some res → gZ D (gT cyI cyJ cyO) (XM a cyI cyJ th df la fo he wt br dr fm sz om os st wa va sk ++ Y) A bs s H locs → decode cX4_isOther pc = .ok (.ireturn, 1) → W p l e rmX4_isOther s m args below meth c H locs 0 0 Q (F0 m pc ls [.int r])) {r31 : Int32 → Int32 → Int32 → Option (Int32)} (hr31 : ∀ (v1 : Int32) (v2 : Int32) (v3 : Int32) (H : Heap) (locs : List Loc) (ls : Array Slot), r31 v1 v2 v3 = some res → gZ D (gT cyI cyJ cyO) (XM a cyI cyJ th df la fo he wt br dr fm sz om os st wa va sk ++ Y) A bs s H locs → lv_has ls 4 [(0, .ref (a 0)), (1, .int v1), (2, .int v2), (3, .int v3)] → W p l e rmX4_isOther s m args below meth c H locs 0 0 Q (F0 m 31 ls [])) : ∀ (v1 : Int32) (v3 : Int32) (H : Heap) (locs : List Loc) (ls : Array Slot), mX4_isOther_79 N la fm sz om os r31 v1 v3 = some res → gZ D (gT cyI cyJ cyO) (XM a cyI cyJ th df la fo he wt br dr fm sz om os st wa va sk ++ Y) A bs s H locs → lv_has ls 4 [(0, .ref (a 0)), (1, .int v1), (3, .int v3)] → W p l e rmX4_isOther s m args below meth c H locs 0 0 Q (F0 m 79 ls []) := by
  intro v1 v3 H locs ls h Z hl
  unfold mX4_isOther_79 at h
  refine lv_iconst (v := 1) C0.1.1 C0.1.2.1 dX4_isOther_79 (by decide) ?_
  refine lv_goto (tgt := 84) C0.1.1 C0.1.2.1 dX4_isOther_80 (by decide) ?_
  exact wX4_isOther_84 (N := N) C0 hret hr31 v1 v3 (1 : Int32) _ _ _ h Z (lv_sub hl [0, 1, 2] rfl)
set_option maxRecDepth 20000 in
set_option maxHeartbeats 4000000 in
theorem wX4_isOther_31_b {p : Program} {l : Launch} {e : Env} {s : State} {m : MethodId} {args : Array Value} {below : List Frame} {meth : Method} {c : Code} {Q : State → Prop} {D : va_G} {cyI cyJ cyO : ClassId} {A : Nat → Prop} {bs : Nat} {a : Nat → Nat} {Y : va_W} {th : Int32} {df : Int32} {la : Int32} {fo : Int32} {he : Int32} {wt : Int32} {br : Int32} {dr : Nat → Int32} {fm : Nat → Int32} {sz : Nat → Int32} {om : Nat → Int32} {os : Nat → Int32} {st : Nat → Int32} {wa : Nat → Int32} {va : Nat → Int64} {sk : Nat → Int64} {N : Nat} {res : Int32} (C0 : gC p m meth c cX4_isOther 4 (some .boolean) s args wsX4_isOther RX4) (hret : ∀ (r : Int32) (H : Heap) (locs : List Loc) (pc : Nat) (ls : Array Slot), (r = 0 ∨ r = 1) → some r = some res → gZ D (gT cyI cyJ cyO) (XM a cyI cyJ th df la fo he wt br dr fm sz om os st wa va sk ++ Y) A bs s H locs → decode cX4_isOther pc = .ok (.ireturn, 1) → W p l e rmX4_isOther s m args below meth c H locs 0 0 Q (F0 m pc ls [.int r])) {r31 : Int32 → Int32 → Int32 → Option (Int32)} (hr31 : ∀ (v1 : Int32) (v2 : Int32) (v3 : Int32) (H : Heap) (locs : List Loc) (ls : Array Slot), r31 v1 v2 v3 = some res → gZ D (gT cyI cyJ cyO) (XM a cyI cyJ th df la fo he wt br dr fm sz om os st wa va sk ++ Y) A bs s H locs → lv_has ls 4 [(0, .ref (a 0)), (1, .int v1), (2, .int v2), (3, .int v3)] → W p l e rmX4_isOther s m args below meth c H locs 0 0 Q (F0 m 31 ls [])) : ∀ (v1 : Int32) (v2 : Int32) (v3 : Int32) (H : Heap) (locs : List Loc) (ls : Array Slot), mX4_isOther_31_b N la fm sz om os r31 v1 v2 v3 = some res → gZ D (gT cyI cyJ cyO) (XM a cyI cyJ th df la fo he wt br dr fm sz om os st wa va sk ++ Y) A bs s H locs → lv_has ls 4 [(0, .ref (a 0)), (1, .int v1), (2, .int v2), (3, .int v3)] → W p l e rmX4_isOther s m args below meth c H locs 0 0 Q (F0 m 31 ls []) := by
  intro v1 v2 v3 H locs ls h Z hl
  unfold mX4_isOther_31_b at h
  refine lv_iload_n C0.1.1 C0.1.2.1 dX4_isOther_31 rfl (lv_at hl 3 rfl) ?_
  refine lv_aload_n C0.1.1 C0.1.2.1 dX4_isOther_32 rfl (lv_at hl 0 rfl) ?_
  refine g_get (ci := 6) (v := .ref (a 3)) (T := TX4) (N := 16) C0.1 Z 0 rfl rfl 4 (by decide) kX4_isOther_in kX4_isOther_f16 rfl rfl dX4_isOther_33 ?_
  refine lv_iload_n C0.1.1 C0.1.2.1 dX4_isOther_36 rfl (lv_at hl 1 rfl) ?_
  obtain ⟨hi1, h⟩ := g_ni h
  refine g_iald (f := sz) (n := 30) C0.1 Z 3 0 rfl rfl hi1 dX4_isOther_37 ?_
  refine lv_icmp_ge (tgt := 91) C0.1.1 C0.1.2.1 dX4_isOther_38 (by decide) (fun hc => ?_) (fun hc => ?_)
  · replace h := (if_pos hc).symm.trans h
    refine lv_iload_n C0.1.1 C0.1.2.1 dX4_isOther_91 rfl (lv_at hl 2 rfl) ?_
    obtain ⟨hn2, h⟩ := g_yi h
    exact hret v2 _ _ _ _ hn2 h Z dX4_isOther_92
  · replace h := (if_neg hc).symm.trans h
    refine lv_iload_n C0.1.1 C0.1.2.1 dX4_isOther_41 rfl (lv_at hl 2 rfl) ?_
    refine lv_if_ne (tgt := 79) C0.1.1 C0.1.2.1 dX4_isOther_42 (by decide) (fun hc => ?_) (fun hc => ?_)
    · replace h := (if_neg hc).symm.trans h
      exact wX4_isOther_79 (N := N) C0 hret hr31 v1 v3 _ _ _ h Z (lv_sub hl [0, 1, 3] rfl)
    · replace h := (if_pos hc).symm.trans h
      refine lv_aload_n C0.1.1 C0.1.2.1 dX4_isOther_45 rfl (lv_at hl 0 rfl) ?_
      refine g_get (ci := 6) (v := .ref (a 2)) (T := TX4) (N := 16) C0.1 Z 0 rfl rfl 3 (by decide) kX4_isOther_in kX4_isOther_f13 rfl rfl dX4_isOther_46 ?_
      refine lv_bipush (v := 15) C0.1.1 C0.1.2.1 dX4_isOther_49 (by decide +kernel) ?_
      refine lv_iload_n C0.1.1 C0.1.2.1 dX4_isOther_51 rfl (lv_at hl 1 rfl) ?_
      refine lv_imul C0.1.1 C0.1.2.1 dX4_isOther_52 ?_
      refine lv_iload_n C0.1.1 C0.1.2.1 dX4_isOther_53 rfl (lv_at hl 3 rfl) ?_
      refine lv_iadd C0.1.1 C0.1.2.1 dX4_isOther_54 ?_
      obtain ⟨hi3, h⟩ := g_ni h
      refine g_iald (f := fm) (n := 450) C0.1 Z 2 0 rfl rfl hi3 dX4_isOther_55 ?_
      refine lv_aload_n C0.1.1 C0.1.2.1 dX4_isOther_56 rfl (lv_at hl 0 rfl) ?_
      refine g_get (ci := 6) (v := .ref (a 4)) (T := TX4) (N := 16) C0.1 Z 0 rfl rfl 6 (by decide) kX4_isOther_in kX4_isOther_f19 rfl rfl dX4_isOther_57 ?_
      refine lv_sipush (v := 450) C0.1.1 C0.1.2.1 dX4_isOther_60 (by decide +kernel) ?_
      refine lv_aload_n C0.1.1 C0.1.2.1 dX4_isOther_63 rfl (lv_at hl 0 rfl) ?_
      refine g_get (ci := 6) (v := .int la) (T := TX4) (N := 16) C0.1 Z 0 rfl rfl 5 (by decide) kX4_isOther_in kX4_isOther_f136 rfl rfl dX4_isOther_64 ?_
      refine lv_imul C0.1.1 C0.1.2.1 dX4_isOther_67 ?_
      refine lv_bipush (v := 15) C0.1.1 C0.1.2.1 dX4_isOther_68 (by decide +kernel) ?_
      refine lv_iload_n C0.1.1 C0.1.2.1 dX4_isOther_70 rfl (lv_at hl 1 rfl) ?_
      refine lv_imul C0.1.1 C0.1.2.1 dX4_isOther_71 ?_
      refine lv_iadd C0.1.1 C0.1.2.1 dX4_isOther_72 ?_
      refine lv_iload_n C0.1.1 C0.1.2.1 dX4_isOther_73 rfl (lv_at hl 3 rfl) ?_
      refine lv_iadd C0.1.1 C0.1.2.1 dX4_isOther_74 ?_
      obtain ⟨hi4, h⟩ := g_ni h
      refine g_iald (f := om) (n := 1800) C0.1 Z 4 0 rfl rfl hi4 dX4_isOther_75 ?_
      refine lv_icmp_eq (tgt := 83) C0.1.1 C0.1.2.1 dX4_isOther_76 (by decide) (fun hc => ?_) (fun hc => ?_)
      · replace h := (if_pos hc).symm.trans h
        refine lv_iconst (v := 0) C0.1.1 C0.1.2.1 dX4_isOther_83 (by decide) ?_
        exact wX4_isOther_84 (N := N) C0 hret hr31 v1 v3 (0 : Int32) _ _ _ h Z (lv_sub hl [0, 1, 3] rfl)
      · replace h := (if_neg hc).symm.trans h
        exact wX4_isOther_79 (N := N) C0 hret hr31 v1 v3 _ _ _ h Z (lv_sub hl [0, 1, 3] rfl)
theorem wX4_isOther_31 {p : Program} {l : Launch} {e : Env} {s : State} {m : MethodId} {args : Array Value} {below : List Frame} {meth : Method} {c : Code} {Q : State → Prop} {D : va_G} {cyI cyJ cyO : ClassId} {A : Nat → Prop} {bs : Nat} {a : Nat → Nat} {Y : va_W} {th : Int32} {df : Int32} {la : Int32} {fo : Int32} {he : Int32} {wt : Int32} {br : Int32} {dr : Nat → Int32} {fm : Nat → Int32} {sz : Nat → Int32} {om : Nat → Int32} {os : Nat → Int32} {st : Nat → Int32} {wa : Nat → Int32} {va : Nat → Int64} {sk : Nat → Int64} {N : Nat} {res : Int32} (C0 : gC p m meth c cX4_isOther 4 (some .boolean) s args wsX4_isOther RX4) (hret : ∀ (r : Int32) (H : Heap) (locs : List Loc) (pc : Nat) (ls : Array Slot), (r = 0 ∨ r = 1) → some r = some res → gZ D (gT cyI cyJ cyO) (XM a cyI cyJ th df la fo he wt br dr fm sz om os st wa va sk ++ Y) A bs s H locs → decode cX4_isOther pc = .ok (.ireturn, 1) → W p l e rmX4_isOther s m args below meth c H locs 0 0 Q (F0 m pc ls [.int r]))  : ∀ (n : Nat), ∀ (v1 : Int32) (v2 : Int32) (v3 : Int32) (H : Heap) (locs : List Loc) (ls : Array Slot), mX4_isOther_31 N la fm sz om os n v1 v2 v3 = some res → gZ D (gT cyI cyJ cyO) (XM a cyI cyJ th df la fo he wt br dr fm sz om os st wa va sk ++ Y) A bs s H locs → lv_has ls 4 [(0, .ref (a 0)), (1, .int v1), (2, .int v2), (3, .int v3)] → W p l e rmX4_isOther s m args below meth c H locs 0 0 Q (F0 m 31 ls []) := by
  intro n
  induction n with
  | zero => intro _ _ _ _ _ _ h; cases h
  | succ n ih => exact wX4_isOther_31_b (N := N) C0 hret ih
set_option maxRecDepth 20000 in
set_option maxHeartbeats 4000000 in
theorem wX4_isOther_28 {p : Program} {l : Launch} {e : Env} {s : State} {m : MethodId} {args : Array Value} {below : List Frame} {meth : Method} {c : Code} {Q : State → Prop} {D : va_G} {cyI cyJ cyO : ClassId} {A : Nat → Prop} {bs : Nat} {a : Nat → Nat} {Y : va_W} {th : Int32} {df : Int32} {la : Int32} {fo : Int32} {he : Int32} {wt : Int32} {br : Int32} {dr : Nat → Int32} {fm : Nat → Int32} {sz : Nat → Int32} {om : Nat → Int32} {os : Nat → Int32} {st : Nat → Int32} {wa : Nat → Int32} {va : Nat → Int64} {sk : Nat → Int64} {N : Nat} {res : Int32} (C0 : gC p m meth c cX4_isOther 4 (some .boolean) s args wsX4_isOther RX4) (hret : ∀ (r : Int32) (H : Heap) (locs : List Loc) (pc : Nat) (ls : Array Slot), (r = 0 ∨ r = 1) → some r = some res → gZ D (gT cyI cyJ cyO) (XM a cyI cyJ th df la fo he wt br dr fm sz om os st wa va sk ++ Y) A bs s H locs → decode cX4_isOther pc = .ok (.ireturn, 1) → W p l e rmX4_isOther s m args below meth c H locs 0 0 Q (F0 m pc ls [.int r]))  : ∀ (v1 : Int32) (s0 : Int32) (H : Heap) (locs : List Loc) (ls : Array Slot), mX4_isOther_28 N la fm sz om os v1 s0 = some res → gZ D (gT cyI cyJ cyO) (XM a cyI cyJ th df la fo he wt br dr fm sz om os st wa va sk ++ Y) A bs s H locs → lv_has ls 4 [(0, .ref (a 0)), (1, .int v1)] → W p l e rmX4_isOther s m args below meth c H locs 0 0 Q (F0 m 28 ls [.int s0]) := by
  intro v1 s0 H locs ls h Z hl
  unfold mX4_isOther_28 at h
  refine lv_istore_n (lv' := [(2, .int s0), (0, .ref (a 0)), (1, .int v1)]) C0.1.1 C0.1.2.1 dX4_isOther_28 rfl hl (by decide) rfl (fun ls hl => ?_)
  refine lv_iconst (v := 0) C0.1.1 C0.1.2.1 dX4_isOther_29 (by decide) ?_
  refine lv_istore_n (lv' := [(3, .int (0 : Int32)), (2, .int s0), (0, .ref (a 0)), (1, .int v1)]) C0.1.1 C0.1.2.1 dX4_isOther_30 rfl hl (by decide) rfl (fun ls hl => ?_)
  exact wX4_isOther_31 (N := N) C0 hret N v1 s0 (0 : Int32) _ _ _ h Z (lv_sub hl [2, 3, 1, 0] rfl)
set_option maxRecDepth 20000 in
set_option maxHeartbeats 4000000 in
theorem zX4_isOther (l : Launch) (D : va_G) (cyI cyJ cyO : ClassId) (A : Nat → Prop) (bs : Nat) (hA : ∀ q, bs ≤ q → A q) (a : Nat → Nat) (Y : va_W) (th : Int32) (df : Int32) (la : Int32) (fo : Int32) (he : Int32) (wt : Int32) (br : Int32) (dr : Nat → Int32) (fm : Nat → Int32) (sz : Nat → Int32) (om : Nat → Int32) (os : Nat → Int32) (st : Nat → Int32) (wa : Nat → Int32) (va : Nat → Int64) (sk : Nat → Int64) (N : Nat) (p0 : Int32) (res : Int32) (h : mX4_isOther N la fm sz om os p0 = some res) : Met l yX4_isOther wsX4_isOther rmX4_isOther (va_Pc [.ref (a 0), .int p0] (gW D (gT cyI cyJ cyO) (XM a cyI cyJ th df la fo he wt br dr fm sz om os st wa va sk ++ Y) A bs)) (va_Qi (fun (r : Int32) (_ : Unit) => res = r) (fun (u : Unit) U => gW D (gT cyI cyJ cyO) (XM a cyI cyJ th df la fo he wt br dr fm sz om os st wa va sk ++ Y) A bs U) A) 0 0 A := by
  refine Met.ofW (cc := cX4_isOther) (maxL := 4) (ret := (some .boolean)) (by decide) rfl ?_
  intro p e s m args below meth c s₁ B hml hv
  obtain ⟨hav, hv⟩ := hv
  have C0 : gC p m meth c cX4_isOther 4 (some .boolean) s args wsX4_isOther RX4 := ⟨⟨B.exec, B.bytes, hml, findClass_of_methodNamed B.named, atoms_spec (ws := wsX4_isOther) B.pre⟩, B.returns, B.notSynchronized⟩
  have Z := g_start hA hv
  have hret : ∀ (r : Int32) (H : Heap) (locs : List Loc) (pc : Nat) (ls : Array Slot), (r = 0 ∨ r = 1) → some r = some res → gZ D (gT cyI cyJ cyO) (XM a cyI cyJ th df la fo he wt br dr fm sz om os st wa va sk ++ Y) A bs s H locs → decode cX4_isOther pc = .ok (.ireturn, 1) → W p l e rmX4_isOther s m args below meth c H locs 0 0 (MQ below (va_Qi (fun (r : Int32) (_ : Unit) => res = r) (fun (u : Unit) U => gW D (gT cyI cyJ cyO) (XM a cyI cyJ th df la fo he wt br dr fm sz om os st wa va sk ++ Y) A bs U) A) args s 0 0 A) (F0 m pc ls [.int r]) := by
    intro r H locs pc ls hb h Z hd
    replace h := Option.some.inj h
    exact W.zret C0.1.1 C0.1.2.1 C0.2.1 (g_nb hb) (fun t ht hW => ⟨⟨r, (()), rfl, h.symm, g_end Z ht hW⟩, Z.2.2.2.1.F ht⟩) Z.2.2.2.1.2.2 hd C0.2.2
  have hl := lv_entry ([.ref (a 0), .int p0]) (n := 4) (Nat.le_of_ble_eq_true rfl)
  rw [hav, lg_entry_eq]
  generalize (lg_sl ([.ref (a 0), .int p0]) ++ List.replicate (4 - (lg_sl ([.ref (a 0), .int p0])).length) Slot.unset).toArray = ls at hl ⊢
  have hl : lv_has ls 4 [(0, .ref (a 0)), (1, .int p0)] := hl
  rw [← hav]
  unfold mX4_isOther at h
  refine lv_aload_n C0.1.1 C0.1.2.1 dX4_isOther_0 rfl (lv_at hl 0 rfl) ?_
  refine g_get (ci := 6) (v := .ref (a 3)) (T := TX4) (N := 16) C0.1 Z 0 rfl rfl 4 (by decide) kX4_isOther_in kX4_isOther_f16 rfl rfl dX4_isOther_1 ?_
  refine lv_iload_n C0.1.1 C0.1.2.1 dX4_isOther_4 rfl (lv_at hl 1 rfl) ?_
  obtain ⟨hi5, h⟩ := g_ni h
  refine g_iald (f := sz) (n := 30) C0.1 Z 3 0 rfl rfl hi5 dX4_isOther_5 ?_
  refine lv_aload_n C0.1.1 C0.1.2.1 dX4_isOther_6 rfl (lv_at hl 0 rfl) ?_
  refine g_get (ci := 6) (v := .ref (a 5)) (T := TX4) (N := 16) C0.1 Z 0 rfl rfl 7 (by decide) kX4_isOther_in kX4_isOther_f22 rfl rfl dX4_isOther_7 ?_
  refine lv_bipush (v := 30) C0.1.1 C0.1.2.1 dX4_isOther_10 (by decide +kernel) ?_
  refine lv_aload_n C0.1.1 C0.1.2.1 dX4_isOther_12 rfl (lv_at hl 0 rfl) ?_
  refine g_get (ci := 6) (v := .int la) (T := TX4) (N := 16) C0.1 Z 0 rfl rfl 5 (by decide) kX4_isOther_in kX4_isOther_f136 rfl rfl dX4_isOther_13 ?_
  refine lv_imul C0.1.1 C0.1.2.1 dX4_isOther_16 ?_
  refine lv_iload_n C0.1.1 C0.1.2.1 dX4_isOther_17 rfl (lv_at hl 1 rfl) ?_
  refine lv_iadd C0.1.1 C0.1.2.1 dX4_isOther_18 ?_
  obtain ⟨hi6, h⟩ := g_ni h
  refine g_iald (f := os) (n := 120) C0.1 Z 5 0 rfl rfl hi6 dX4_isOther_19 ?_
  refine lv_icmp_eq (tgt := 27) C0.1.1 C0.1.2.1 dX4_isOther_20 (by decide) (fun hc => ?_) (fun hc => ?_)
  · replace h := (if_pos hc).symm.trans h
    refine lv_iconst (v := 0) C0.1.1 C0.1.2.1 dX4_isOther_27 (by decide) ?_
    exact wX4_isOther_28 (N := N) C0 hret p0 (0 : Int32) _ _ _ h Z (lv_sub hl [0, 1] rfl)
  · replace h := (if_neg hc).symm.trans h
    refine lv_iconst (v := 1) C0.1.1 C0.1.2.1 dX4_isOther_23 (by decide) ?_
    refine lv_goto (tgt := 28) C0.1.1 C0.1.2.1 dX4_isOther_24 (by decide) ?_
    exact wX4_isOther_28 (N := N) C0 hret p0 (1 : Int32) _ _ _ h Z (lv_sub hl [0, 1] rfl)
/-! X4_drop -/
abbrev rmX4_drop : Room := { frames := 5, cells := 0, slots := 0, locals := 114 }
theorem kX4_drop_f129 : Cond.fieldLink RX4 129 "GoalseekOfficeModel" "found" "I" ∈ wsX4_drop := by decide +kernel
theorem kX4_drop_in : ∀ w ∈ wsX40, w ∈ wsX4_drop := by decide +kernel
theorem kX4_drop_f16 : Cond.fieldLink RX4 16 "GoalseekOfficeModel" "sizes" "[I" ∈ wsX4_drop := by decide +kernel
theorem kX4_drop_f22 : Cond.fieldLink RX4 22 "GoalseekOfficeModel" "oldSizes" "[I" ∈ wsX4_drop := by decide +kernel
theorem kX4_drop_f136 : Cond.fieldLink RX4 136 "GoalseekOfficeModel" "layers" "I" ∈ wsX4_drop := by decide +kernel
theorem kX4_drop_f13 : Cond.fieldLink RX4 13 "GoalseekOfficeModel" "formulas" "[I" ∈ wsX4_drop := by decide +kernel
theorem kX4_drop_f19 : Cond.fieldLink RX4 19 "GoalseekOfficeModel" "oldFormulas" "[I" ∈ wsX4_drop := by decide +kernel
def mX4_drop_104_b (N : Nat) (om : Nat → Int32) (os : Nat → Int32) (r104 : Int32 → Int32 → Int32 → (Nat → Int32) → (Nat → Int32) → Int32 → Int32 → Int32 → Option (Int32 × Int32 × Int32 × Int32 × (Nat → Int32) × (Nat → Int32))) (th : Int32) (la : Int32) (fo : Int32) (fm : Nat → Int32) (sz : Nat → Int32) (v1 : Int32) (v2 : Int32) (v3 : Int32) : Option (Int32 × Int32 × Int32 × Int32 × (Nat → Int32) × (Nat → Int32)) := (if (30 : Int32) ≤ v3 then ((mX4_anew N fm sz v1).bind fun x1 => some (v2, th, la, (fo + x1), fm, sz)) else (if (((30 : Int32) * la) + v3) < 0 ∨ 120 ≤ (((30 : Int32) * la) + v3).toNatClampNeg then none else (if v3 < 0 ∨ 30 ≤ v3.toNatClampNeg then none else r104 th la fo fm (upd sz v3.toNatClampNeg (os (((30 : Int32) * la) + v3).toNatClampNeg)) v1 v2 (v3 + (1 : Int32)))))
def mX4_drop_104 (N : Nat) (om : Nat → Int32) (os : Nat → Int32) : Nat → Int32 → Int32 → Int32 → (Nat → Int32) → (Nat → Int32) → Int32 → Int32 → Int32 → Option (Int32 × Int32 × Int32 × Int32 × (Nat → Int32) × (Nat → Int32))
  | 0 => fun _ _ _ _ _ _ _ _ => none
  | n + 1 => fun th la fo fm sz v1 v2 v3 => mX4_drop_104_b N om os (mX4_drop_104 N om os n) th la fo fm sz v1 v2 v3
def mX4_drop_68_b (N : Nat) (om : Nat → Int32) (os : Nat → Int32) (r68 : Int32 → Int32 → Int32 → (Nat → Int32) → (Nat → Int32) → Int32 → Int32 → Int32 → Option (Int32 × Int32 × Int32 × Int32 × (Nat → Int32) × (Nat → Int32))) (th : Int32) (la : Int32) (fo : Int32) (fm : Nat → Int32) (sz : Nat → Int32) (v1 : Int32) (v2 : Int32) (v3 : Int32) : Option (Int32 × Int32 × Int32 × Int32 × (Nat → Int32) × (Nat → Int32)) := (if (450 : Int32) ≤ v3 then mX4_drop_104 N om os N th la fo fm sz v1 v2 (0 : Int32) else (if (((450 : Int32) * la) + v3) < 0 ∨ 1800 ≤ (((450 : Int32) * la) + v3).toNatClampNeg then none else (if v3 < 0 ∨ 450 ≤ v3.toNatClampNeg then none else r68 th la fo (upd fm v3.toNatClampNeg (om (((450 : Int32) * la) + v3).toNatClampNeg)) sz v1 v2 (v3 + (1 : Int32)))))
def mX4_drop_68 (N : Nat) (om : Nat → Int32) (os : Nat → Int32) : Nat → Int32 → Int32 → Int32 → (Nat → Int32) → (Nat → Int32) → Int32 → Int32 → Int32 → Option (Int32 × Int32 × Int32 × Int32 × (Nat → Int32) × (Nat → Int32))
  | 0 => fun _ _ _ _ _ _ _ _ => none
  | n + 1 => fun th la fo fm sz v1 v2 v3 => mX4_drop_68_b N om os (mX4_drop_68 N om os n) th la fo fm sz v1 v2 v3
def mX4_drop_60 (N : Nat) (om : Nat → Int32) (os : Nat → Int32) (r37 : Int32 → Int32 → Int32 → (Nat → Int32) → (Nat → Int32) → Int32 → Int32 → Int32 → Option (Int32 × Int32 × Int32 × Int32 × (Nat → Int32) × (Nat → Int32))) (th : Int32) (la : Int32) (fo : Int32) (fm : Nat → Int32) (sz : Nat → Int32) (v1 : Int32) (v2 : Int32) (v3 : Int32) : Option (Int32 × Int32 × Int32 × Int32 × (Nat → Int32) × (Nat → Int32)) := r37 th la fo fm sz v1 v2 (v3 + (1 : Int32))
def mX4_drop_37_b (N : Nat) (om : Nat → Int32) (os : Nat → Int32) (r37 : Int32 → Int32 → Int32 → (Nat → Int32) → (Nat → Int32) → Int32 → Int32 → Int32 → Option (Int32 × Int32 × Int32 × Int32 × (Nat → Int32) × (Nat → Int32))) (th : Int32) (la : Int32) (fo : Int32) (fm : Nat → Int32) (sz : Nat → Int32) (v1 : Int32) (v2 : Int32) (v3 : Int32) : Option (Int32 × Int32 × Int32 × Int32 × (Nat → Int32) × (Nat → Int32)) := (if (30 : Int32) ≤ v3 then mX4_drop_68 N om os N th la fo fm sz v1 v2 (0 : Int32) else ((mX4_isOther N la fm sz om os v3).bind fun x7 => (if x7 = 0 then mX4_drop_60 N om os r37 th la fo fm sz v1 v2 v3 else mX4_drop_60 N om os r37 th la fo fm sz (v1 ||| ((1 : Int32) <<< (v3 &&& 31))) (v2 + (1 : Int32)) v3)))
def mX4_drop_37 (N : Nat) (om : Nat → Int32) (os : Nat → Int32) : Nat → Int32 → Int32 → Int32 → (Nat → Int32) → (Nat → Int32) → Int32 → Int32 → Int32 → Option (Int32 × Int32 × Int32 × Int32 × (Nat → Int32) × (Nat → Int32))
  | 0 => fun _ _ _ _ _ _ _ _ => none
  | n + 1 => fun th la fo fm sz v1 v2 v3 => mX4_drop_37_b N om os (mX4_drop_37 N om os n) th la fo fm sz v1 v2 v3
def mX4_drop_13 (N : Nat) (om : Nat → Int32) (os : Nat → Int32) (th : Int32) (la : Int32) (fo : Int32) (fm : Nat → Int32) (sz : Nat → Int32) (s1 : Int32) : Option (Int32 × Int32 × Int32 × Int32 × (Nat → Int32) × (Nat → Int32)) := ((mX4_holds N th s1).bind fun x9 => (if x9.1 = 0 then some ((0 : Int32), x9.2, la, fo, fm, sz) else mX4_drop_37 N om os N x9.2 (la - (1 : Int32)) fo fm sz (0 : Int32) (0 : Int32) (0 : Int32)))
def mX4_drop (N : Nat) (om : Nat → Int32) (os : Nat → Int32) (th : Int32) (la : Int32) (fo : Int32) (fm : Nat → Int32) (sz : Nat → Int32) : Option (Int32 × Int32 × Int32 × Int32 × (Nat → Int32) × (Nat → Int32)) := (if la = 0 then mX4_drop_13 N om os th la fo fm sz (1 : Int32) else mX4_drop_13 N om os th la fo fm sz (0 : Int32))
set_option maxRecDepth 20000 in
set_option maxHeartbeats 4000000 in
theorem wX4_drop_104_b {p : Program} {l : Launch} {e : Env} {s : State} {m : MethodId} {args : Array Value} {below : List Frame} {meth : Method} {c : Code} {Q : State → Prop} {D : va_G} {cyI cyJ cyO : ClassId} {A : Nat → Prop} {bs : Nat} {a : Nat → Nat} {Y : va_W} {df : Int32} {he : Int32} {wt : Int32} {br : Int32} {dr : Nat → Int32} {om : Nat → Int32} {os : Nat → Int32} {st : Nat → Int32} {wa : Nat → Int32} {va : Nat → Int64} {sk : Nat → Int64} {N : Nat} {res : Int32 × Int32 × Int32 × Int32 × (Nat → Int32) × (Nat → Int32)} (C0 : gC p m meth c cX4_drop 4 (some .int) s args wsX4_drop RX4) (hret : ∀ (r : Int32) (th_r : Int32) (la_r : Int32) (fo_r : Int32) (fm_r : Nat → Int32) (sz_r : Nat → Int32) (H : Heap) (locs : List Loc) (pc : Nat) (ls : Array Slot), some (r, th_r, la_r, fo_r, fm_r, sz_r) = some res → gZ D (gT cyI cyJ cyO) (XM a cyI cyJ th_r df la_r fo_r he wt br dr fm_r sz_r om os st wa va sk ++ Y) A bs s H locs → decode cX4_drop pc = .ok (.ireturn, 1) → W p l e rmX4_drop s m args below meth c H locs 0 0 Q (F0 m pc ls [.int r])) {r104 : Int32 → Int32 → Int32 → (Nat → Int32) → (Nat → Int32) → Int32 → Int32 → Int32 → Option (Int32 × Int32 × Int32 × Int32 × (Nat → Int32) × (Nat → Int32))} (hr104 : ∀ (th : Int32) (la : Int32) (fo : Int32) (fm : Nat → Int32) (sz : Nat → Int32) (v1 : Int32) (v2 : Int32) (v3 : Int32) (H : Heap) (locs : List Loc) (ls : Array Slot), r104 th la fo fm sz v1 v2 v3 = some res → gZ D (gT cyI cyJ cyO) (XM a cyI cyJ th df la fo he wt br dr fm sz om os st wa va sk ++ Y) A bs s H locs → lv_has ls 4 [(0, .ref (a 0)), (1, .int v1), (2, .int v2), (3, .int v3)] → W p l e rmX4_drop s m args below meth c H locs 0 0 Q (F0 m 104 ls [])) : ∀ (th : Int32) (la : Int32) (fo : Int32) (fm : Nat → Int32) (sz : Nat → Int32) (v1 : Int32) (v2 : Int32) (v3 : Int32) (H : Heap) (locs : List Loc) (ls : Array Slot), mX4_drop_104_b N om os r104 th la fo fm sz v1 v2 v3 = some res → gZ D (gT cyI cyJ cyO) (XM a cyI cyJ th df la fo he wt br dr fm sz om os st wa va sk ++ Y) A bs s H locs → lv_has ls 4 [(0, .ref (a 0)), (1, .int v1), (2, .int v2), (3, .int v3)] → W p l e rmX4_drop s m args below meth c H locs 0 0 Q (F0 m 104 ls []) := by
  intro th la fo fm sz v1 v2 v3 H locs ls h Z hl
  unfold mX4_drop_104_b at h
  refine lv_iload_n C0.1.1 C0.1.2.1 dX4_drop_104 rfl (lv_at hl 3 rfl) ?_
  refine lv_bipush (v := 30) C0.1.1 C0.1.2.1 dX4_drop_105 (by decide +kernel) ?_
  refine lv_icmp_ge (tgt := 136) C0.1.1 C0.1.2.1 dX4_drop_107 (by decide) (fun hc => ?_) (fun hc => ?_)
  · replace h := (if_pos hc).symm.trans h
    refine lv_aload_n C0.1.1 C0.1.2.1 dX4_drop_136 rfl (lv_at hl 0 rfl) ?_
    refine lv_dup C0.1.1 C0.1.2.1 dX4_drop_137 rfl ?_
    refine g_get (ci := 6) (v := .int fo) (T := TX4) (N := 16) C0.1 Z 0 rfl rfl 8 (by decide) kX4_drop_in kX4_drop_f129 rfl rfl dX4_drop_138 ?_
    refine lv_aload_n C0.1.1 C0.1.2.1 dX4_drop_141 rfl (lv_at hl 0 rfl) ?_
    refine lv_iload_n C0.1.1 C0.1.2.1 dX4_drop_142 rfl (lv_at hl 1 rfl) ?_
    obtain ⟨x1, hx2, h⟩ := g_bd h
    refine g_callVi (b := a 0) (As := [.int v1]) (rest := [.int fo, .ref (a 0)]) (ws' := (fun (u : Unit) => (XM a cyI cyJ th df la fo he wt br dr fm sz om os st wa va sk ++ Y))) C0.1 Z (zX4_anew l D cyI cyJ cyO A bs Z.2.2.2.2.2 a Y th df la fo he wt br dr fm sz om os st wa va sk N v1 x1 hx2) (cwV 1 C0.1.2.2.2.2 gX4_drop_X4_anew rfl rfl rfl (by decide +kernel) ⟨Nat.le_of_ble_eq_true rfl, Nat.le_of_ble_eq_true rfl⟩) 0 (ci := 6) rfl rfl rfl rfl hl.1 rfl (Nat.le_of_ble_eq_true rfl) dX4_drop_143 ⟨Nat.zero_le _, Nat.zero_le _⟩ (fun r u H locs hw Z => ?_)
    subst hw
    refine lv_iadd C0.1.1 C0.1.2.1 dX4_drop_146 ?_
    refine g_put (ci := 6) (v := .int (fo + x1)) (T := TX4) (N := 16) (ws' := (XM a cyI cyJ th df la (fo + x1) he wt br dr fm sz om os st wa va sk ++ Y)) C0.1 Z 0 rfl rfl 8 (by decide) kX4_drop_in kX4_drop_f129 rfl tyX4 tyX4_ok nmX4 rfl rfl rfl (Nat.le_of_ble_eq_true rfl) dX4_drop_147 rfl (fun H locs Z => ?_)
    refine lv_iload_n C0.1.1 C0.1.2.1 dX4_drop_150 rfl (lv_at hl 2 rfl) ?_
    exact hret v2 th la (fo + x1) fm sz _ _ _ _ h Z dX4_drop_151
  · replace h := (if_neg hc).symm.trans h
    refine lv_aload_n C0.1.1 C0.1.2.1 dX4_drop_110 rfl (lv_at hl 0 rfl) ?_
    refine g_get (ci := 6) (v := .ref (a 3)) (T := TX4) (N := 16) C0.1 Z 0 rfl rfl 4 (by decide) kX4_drop_in kX4_drop_f16 rfl rfl dX4_drop_111 ?_
    refine lv_iload_n C0.1.1 C0.1.2.1 dX4_drop_114 rfl (lv_at hl 3 rfl) ?_
    refine lv_aload_n C0.1.1 C0.1.2.1 dX4_drop_115 rfl (lv_at hl 0 rfl) ?_
    refine g_get (ci := 6) (v := .ref (a 5)) (T := TX4) (N := 16) C0.1 Z 0 rfl rfl 7 (by decide) kX4_drop_in kX4_drop_f22 rfl rfl dX4_drop_116 ?_
    refine lv_bipush (v := 30) C0.1.1 C0.1.2.1 dX4_drop_119 (by decide +kernel) ?_
    refine lv_aload_n C0.1.1 C0.1.2.1 dX4_drop_121 rfl (lv_at hl 0 rfl) ?_
    refine g_get (ci := 6) (v := .int la) (T := TX4) (N := 16) C0.1 Z 0 rfl rfl 5 (by decide) kX4_drop_in kX4_drop_f136 rfl rfl dX4_drop_122 ?_
    refine lv_imul C0.1.1 C0.1.2.1 dX4_drop_125 ?_
    refine lv_iload_n C0.1.1 C0.1.2.1 dX4_drop_126 rfl (lv_at hl 3 rfl) ?_
    refine lv_iadd C0.1.1 C0.1.2.1 dX4_drop_127 ?_
    obtain ⟨hi3, h⟩ := g_ni h
    refine g_iald (f := os) (n := 120) C0.1 Z 5 0 rfl rfl hi3 dX4_drop_128 ?_
    obtain ⟨hi4, h⟩ := g_ni h
    refine g_iast (f := sz) (n := 30) (ws' := (XM a cyI cyJ th df la fo he wt br dr fm (upd sz v3.toNatClampNeg (os (((30 : Int32) * la) + v3).toNatClampNeg)) om os st wa va sk ++ Y)) C0.1 Z 3 0 rfl rfl hi4 dX4_drop_129 rfl (fun H locs Z => ?_)
    refine lv_iinc (v := v3 + (1 : Int32)) (lv' := [(3, .int (v3 + (1 : Int32))), (0, .ref (a 0)), (1, .int v1), (2, .int v2)]) C0.1.1 C0.1.2.1 dX4_drop_130 hl (k := 3) rfl rfl (by decide) rfl (fun ls hl => ?_)
    refine lv_goto (tgt := 104) C0.1.1 C0.1.2.1 dX4_drop_133 (by decide) ?_
    exact hr104 th la fo fm (upd sz v3.toNatClampNeg (os (((30 : Int32) * la) + v3).toNatClampNeg)) v1 v2 (v3 + (1 : Int32)) _ _ _ h Z (lv_sub hl [1, 2, 3, 0] rfl)
theorem wX4_drop_104 {p : Program} {l : Launch} {e : Env} {s : State} {m : MethodId} {args : Array Value} {below : List Frame} {meth : Method} {c : Code} {Q : State → Prop} {D : va_G} {cyI cyJ cyO : ClassId} {A : Nat → Prop} {bs : Nat} {a : Nat → Nat} {Y : va_W} {df : Int32} {he : Int32} {wt : Int32} {br : Int32} {dr : Nat → Int32} {om : Nat → Int32} {os : Nat → Int32} {st : Nat → Int32} {wa : Nat → Int32} {va : Nat → Int64} {sk : Nat → Int64} {N : Nat} {res : Int32 × Int32 × Int32 × Int32 × (Nat → Int32) × (Nat → Int32)} (C0 : gC p m meth c cX4_drop 4 (some .int) s args wsX4_drop RX4) (hret : ∀ (r : Int32) (th_r : Int32) (la_r : Int32) (fo_r : Int32) (fm_r : Nat → Int32) (sz_r : Nat → Int32) (H : Heap) (locs : List Loc) (pc : Nat) (ls : Array Slot), some (r, th_r, la_r, fo_r, fm_r, sz_r) = some res → gZ D (gT cyI cyJ cyO) (XM a cyI cyJ th_r df la_r fo_r he wt br dr fm_r sz_r om os st wa va sk ++ Y) A bs s H locs → decode cX4_drop pc = .ok (.ireturn, 1) → W p l e rmX4_drop s m args below meth c H locs 0 0 Q (F0 m pc ls [.int r]))  : ∀ (n : Nat), ∀ (th : Int32) (la : Int32) (fo : Int32) (fm : Nat → Int32) (sz : Nat → Int32) (v1 : Int32) (v2 : Int32) (v3 : Int32) (H : Heap) (locs : List Loc) (ls : Array Slot), mX4_drop_104 N om os n th la fo fm sz v1 v2 v3 = some res → gZ D (gT cyI cyJ cyO) (XM a cyI cyJ th df la fo he wt br dr fm sz om os st wa va sk ++ Y) A bs s H locs → lv_has ls 4 [(0, .ref (a 0)), (1, .int v1), (2, .int v2), (3, .int v3)] → W p l e rmX4_drop s m args below meth c H locs 0 0 Q (F0 m 104 ls []) := by
  intro n
  induction n with
  | zero => intro _ _ _ _ _ _ _ _ _ _ _ h; cases h
  | succ n ih => exact wX4_drop_104_b (N := N) C0 hret ih
set_option maxRecDepth 20000 in
set_option maxHeartbeats 4000000 in
theorem wX4_drop_68_b {p : Program} {l : Launch} {e : Env} {s : State} {m : MethodId} {args : Array Value} {below : List Frame} {meth : Method} {c : Code} {Q : State → Prop} {D : va_G} {cyI cyJ cyO : ClassId} {A : Nat → Prop} {bs : Nat} {a : Nat → Nat} {Y : va_W} {df : Int32} {he : Int32} {wt : Int32} {br : Int32} {dr : Nat → Int32} {om : Nat → Int32} {os : Nat → Int32} {st : Nat → Int32} {wa : Nat → Int32} {va : Nat → Int64} {sk : Nat → Int64} {N : Nat} {res : Int32 × Int32 × Int32 × Int32 × (Nat → Int32) × (Nat → Int32)} (C0 : gC p m meth c cX4_drop 4 (some .int) s args wsX4_drop RX4) (hret : ∀ (r : Int32) (th_r : Int32) (la_r : Int32) (fo_r : Int32) (fm_r : Nat → Int32) (sz_r : Nat → Int32) (H : Heap) (locs : List Loc) (pc : Nat) (ls : Array Slot), some (r, th_r, la_r, fo_r, fm_r, sz_r) = some res → gZ D (gT cyI cyJ cyO) (XM a cyI cyJ th_r df la_r fo_r he wt br dr fm_r sz_r om os st wa va sk ++ Y) A bs s H locs → decode cX4_drop pc = .ok (.ireturn, 1) → W p l e rmX4_drop s m args below meth c H locs 0 0 Q (F0 m pc ls [.int r])) {r68 : Int32 → Int32 → Int32 → (Nat → Int32) → (Nat → Int32) → Int32 → Int32 → Int32 → Option (Int32 × Int32 × Int32 × Int32 × (Nat → Int32) × (Nat → Int32))} (hr68 : ∀ (th : Int32) (la : Int32) (fo : Int32) (fm : Nat → Int32) (sz : Nat → Int32) (v1 : Int32) (v2 : Int32) (v3 : Int32) (H : Heap) (locs : List Loc) (ls : Array Slot), r68 th la fo fm sz v1 v2 v3 = some res → gZ D (gT cyI cyJ cyO) (XM a cyI cyJ th df la fo he wt br dr fm sz om os st wa va sk ++ Y) A bs s H locs → lv_has ls 4 [(0, .ref (a 0)), (1, .int v1), (2, .int v2), (3, .int v3)] → W p l e rmX4_drop s m args below meth c H locs 0 0 Q (F0 m 68 ls [])) : ∀ (th : Int32) (la : Int32) (fo : Int32) (fm : Nat → Int32) (sz : Nat → Int32) (v1 : Int32) (v2 : Int32) (v3 : Int32) (H : Heap) (locs : List Loc) (ls : Array Slot), mX4_drop_68_b N om os r68 th la fo fm sz v1 v2 v3 = some res → gZ D (gT cyI cyJ cyO) (XM a cyI cyJ th df la fo he wt br dr fm sz om os st wa va sk ++ Y) A bs s H locs → lv_has ls 4 [(0, .ref (a 0)), (1, .int v1), (2, .int v2), (3, .int v3)] → W p l e rmX4_drop s m args below meth c H locs 0 0 Q (F0 m 68 ls []) := by
  intro th la fo fm sz v1 v2 v3 H locs ls h Z hl
  unfold mX4_drop_68_b at h
  refine lv_iload_n C0.1.1 C0.1.2.1 dX4_drop_68 rfl (lv_at hl 3 rfl) ?_
  refine lv_sipush (v := 450) C0.1.1 C0.1.2.1 dX4_drop_69 (by decide +kernel) ?_
  refine lv_icmp_ge (tgt := 102) C0.1.1 C0.1.2.1 dX4_drop_72 (by decide) (fun hc => ?_) (fun hc => ?_)
  · replace h := (if_pos hc).symm.trans h
    refine lv_iconst (v := 0) C0.1.1 C0.1.2.1 dX4_drop_102 (by decide) ?_
    refine lv_istore_n (lv' := [(3, .int (0 : Int32)), (0, .ref (a 0)), (1, .int v1), (2, .int v2)]) C0.1.1 C0.1.2.1 dX4_drop_103 rfl hl (by decide) rfl (fun ls hl => ?_)
    exact wX4_drop_104 (N := N) C0 hret N th la fo fm sz v1 v2 (0 : Int32) _ _ _ h Z (lv_sub hl [1, 2, 3, 0] rfl)
  · replace h := (if_neg hc).symm.trans h
    refine lv_aload_n C0.1.1 C0.1.2.1 dX4_drop_75 rfl (lv_at hl 0 rfl) ?_
    refine g_get (ci := 6) (v := .ref (a 2)) (T := TX4) (N := 16) C0.1 Z 0 rfl rfl 3 (by decide) kX4_drop_in kX4_drop_f13 rfl rfl dX4_drop_76 ?_
    refine lv_iload_n C0.1.1 C0.1.2.1 dX4_drop_79 rfl (lv_at hl 3 rfl) ?_
    refine lv_aload_n C0.1.1 C0.1.2.1 dX4_drop_80 rfl (lv_at hl 0 rfl) ?_
    refine g_get (ci := 6) (v := .ref (a 4)) (T := TX4) (N := 16) C0.1 Z 0 rfl rfl 6 (by decide) kX4_drop_in kX4_drop_f19 rfl rfl dX4_drop_81 ?_
    refine lv_sipush (v := 450) C0.1.1 C0.1.2.1 dX4_drop_84 (by decide +kernel) ?_
    refine lv_aload_n C0.1.1 C0.1.2.1 dX4_drop_87 rfl (lv_at hl 0 rfl) ?_
    refine g_get (ci := 6) (v := .int la) (T := TX4) (N := 16) C0.1 Z 0 rfl rfl 5 (by decide) kX4_drop_in kX4_drop_f136 rfl rfl dX4_drop_88 ?_
    refine lv_imul C0.1.1 C0.1.2.1 dX4_drop_91 ?_
    refine lv_iload_n C0.1.1 C0.1.2.1 dX4_drop_92 rfl (lv_at hl 3 rfl) ?_
    refine lv_iadd C0.1.1 C0.1.2.1 dX4_drop_93 ?_
    obtain ⟨hi5, h⟩ := g_ni h
    refine g_iald (f := om) (n := 1800) C0.1 Z 4 0 rfl rfl hi5 dX4_drop_94 ?_
    obtain ⟨hi6, h⟩ := g_ni h
    refine g_iast (f := fm) (n := 450) (ws' := (XM a cyI cyJ th df la fo he wt br dr (upd fm v3.toNatClampNeg (om (((450 : Int32) * la) + v3).toNatClampNeg)) sz om os st wa va sk ++ Y)) C0.1 Z 2 0 rfl rfl hi6 dX4_drop_95 rfl (fun H locs Z => ?_)
    refine lv_iinc (v := v3 + (1 : Int32)) (lv' := [(3, .int (v3 + (1 : Int32))), (0, .ref (a 0)), (1, .int v1), (2, .int v2)]) C0.1.1 C0.1.2.1 dX4_drop_96 hl (k := 3) rfl rfl (by decide) rfl (fun ls hl => ?_)
    refine lv_goto (tgt := 68) C0.1.1 C0.1.2.1 dX4_drop_99 (by decide) ?_
    exact hr68 th la fo (upd fm v3.toNatClampNeg (om (((450 : Int32) * la) + v3).toNatClampNeg)) sz v1 v2 (v3 + (1 : Int32)) _ _ _ h Z (lv_sub hl [1, 2, 3, 0] rfl)
theorem wX4_drop_68 {p : Program} {l : Launch} {e : Env} {s : State} {m : MethodId} {args : Array Value} {below : List Frame} {meth : Method} {c : Code} {Q : State → Prop} {D : va_G} {cyI cyJ cyO : ClassId} {A : Nat → Prop} {bs : Nat} {a : Nat → Nat} {Y : va_W} {df : Int32} {he : Int32} {wt : Int32} {br : Int32} {dr : Nat → Int32} {om : Nat → Int32} {os : Nat → Int32} {st : Nat → Int32} {wa : Nat → Int32} {va : Nat → Int64} {sk : Nat → Int64} {N : Nat} {res : Int32 × Int32 × Int32 × Int32 × (Nat → Int32) × (Nat → Int32)} (C0 : gC p m meth c cX4_drop 4 (some .int) s args wsX4_drop RX4) (hret : ∀ (r : Int32) (th_r : Int32) (la_r : Int32) (fo_r : Int32) (fm_r : Nat → Int32) (sz_r : Nat → Int32) (H : Heap) (locs : List Loc) (pc : Nat) (ls : Array Slot), some (r, th_r, la_r, fo_r, fm_r, sz_r) = some res → gZ D (gT cyI cyJ cyO) (XM a cyI cyJ th_r df la_r fo_r he wt br dr fm_r sz_r om os st wa va sk ++ Y) A bs s H locs → decode cX4_drop pc = .ok (.ireturn, 1) → W p l e rmX4_drop s m args below meth c H locs 0 0 Q (F0 m pc ls [.int r]))  : ∀ (n : Nat), ∀ (th : Int32) (la : Int32) (fo : Int32) (fm : Nat → Int32) (sz : Nat → Int32) (v1 : Int32) (v2 : Int32) (v3 : Int32) (H : Heap) (locs : List Loc) (ls : Array Slot), mX4_drop_68 N om os n th la fo fm sz v1 v2 v3 = some res → gZ D (gT cyI cyJ cyO) (XM a cyI cyJ th df la fo he wt br dr fm sz om os st wa va sk ++ Y) A bs s H locs → lv_has ls 4 [(0, .ref (a 0)), (1, .int v1), (2, .int v2), (3, .int v3)] → W p l e rmX4_drop s m args below meth c H locs 0 0 Q (F0 m 68 ls []) := by
  intro n
  induction n with
  | zero => intro _ _ _ _ _ _ _ _ _ _ _ h; cases h
  | succ n ih => exact wX4_drop_68_b (N := N) C0 hret ih
set_option maxRecDepth 20000 in
set_option maxHeartbeats 4000000 in
theorem wX4_drop_60 {p : Program} {l : Launch} {e : Env} {s : State} {m : MethodId} {args : Array Value} {below : List Frame} {meth : Method} {c : Code} {Q : State → Prop} {D : va_G} {cyI cyJ cyO : ClassId} {A : Nat → Prop} {bs : Nat} {a : Nat → Nat} {Y : va_W} {df : Int32} {he : Int32} {wt : Int32} {br : Int32} {dr : Nat → Int32} {om : Nat → Int32} {os : Nat → Int32} {st : Nat → Int32} {wa : Nat → Int32} {va : Nat → Int64} {sk : Nat → Int64} {N : Nat} {res : Int32 × Int32 × Int32 × Int32 × (Nat → Int32) × (Nat → Int32)} (C0 : gC p m meth c cX4_drop 4 (some .int) s args wsX4_drop RX4) (hret : ∀ (r : Int32) (th_r : Int32) (la_r : Int32) (fo_r : Int32) (fm_r : Nat → Int32) (sz_r : Nat → Int32) (H : Heap) (locs : List Loc) (pc : Nat) (ls : Array Slot), some (r, th_r, la_r, fo_r, fm_r, sz_r) = some res → gZ D (gT cyI cyJ cyO) (XM a cyI cyJ th_r df la_r fo_r he wt br dr fm_r sz_r om os st wa va sk ++ Y) A bs s H locs → decode cX4_drop pc = .ok (.ireturn, 1) → W p l e rmX4_drop s m args below meth c H locs 0 0 Q (F0 m pc ls [.int r])) {r37 : Int32 → Int32 → Int32 → (Nat → Int32) → (Nat → Int32) → Int32 → Int32 → Int32 → Option (Int32 × Int32 × Int32 × Int32 × (Nat → Int32) × (Nat → Int32))} (hr37 : ∀ (th : Int32) (la : Int32) (fo : Int32) (fm : Nat → Int32) (sz : Nat → Int32) (v1 : Int32) (v2 : Int32) (v3 : Int32) (H : Heap) (locs : List Loc) (ls : Array Slot), r37 th la fo fm sz v1 v2 v3 = some res → gZ D (gT cyI cyJ cyO) (XM a cyI cyJ th df la fo he wt br dr fm sz om os st wa va sk ++ Y) A bs s H locs → lv_has ls 4 [(0, .ref (a 0)), (1, .int v1), (2, .int v2), (3, .int v3)] → W p l e rmX4_drop s m args below meth c H locs 0 0 Q (F0 m 37 ls [])) : ∀ (th : Int32) (la : Int32) (fo : Int32) (fm : Nat → Int32) (sz : Nat → Int32) (v1 : Int32) (v2 : Int32) (v3 : Int32) (H : Heap) (locs : List Loc) (ls : Array Slot), mX4_drop_60 N om os r37 th la fo fm sz v1 v2 v3 = some res → gZ D (gT cyI cyJ cyO) (XM a cyI cyJ th df la fo he wt br dr fm sz om os st wa va sk ++ Y) A bs s H locs → lv_has ls 4 [(0, .ref (a 0)), (1, .int v1), (2, .int v2), (3, .int v3)] → W p l e rmX4_drop s m args below meth c H locs 0 0 Q (F0 m 60 ls []) := by
  intro th la fo fm sz v1 v2 v3 H locs ls h Z hl
  unfold mX4_drop_60 at h
  refine lv_iinc (v := v3 + (1 : Int32)) (lv' := [(3, .int (v3 + (1 : Int32))), (0, .ref (a 0)), (1, .int v1), (2, .int v2)]) C0.1.1 C0.1.2.1 dX4_drop_60 hl (k := 3) rfl rfl (by decide) rfl (fun ls hl => ?_)
  refine lv_goto (tgt := 37) C0.1.1 C0.1.2.1 dX4_drop_63 (by decide) ?_
  exact hr37 th la fo fm sz v1 v2 (v3 + (1 : Int32)) _ _ _ h Z (lv_sub hl [1, 2, 3, 0] rfl)
set_option maxRecDepth 20000 in
set_option maxHeartbeats 4000000 in
theorem wX4_drop_37_b {p : Program} {l : Launch} {e : Env} {s : State} {m : MethodId} {args : Array Value} {below : List Frame} {meth : Method} {c : Code} {Q : State → Prop} {D : va_G} {cyI cyJ cyO : ClassId} {A : Nat → Prop} {bs : Nat} {a : Nat → Nat} {Y : va_W} {df : Int32} {he : Int32} {wt : Int32} {br : Int32} {dr : Nat → Int32} {om : Nat → Int32} {os : Nat → Int32} {st : Nat → Int32} {wa : Nat → Int32} {va : Nat → Int64} {sk : Nat → Int64} {N : Nat} {res : Int32 × Int32 × Int32 × Int32 × (Nat → Int32) × (Nat → Int32)} (C0 : gC p m meth c cX4_drop 4 (some .int) s args wsX4_drop RX4) (hret : ∀ (r : Int32) (th_r : Int32) (la_r : Int32) (fo_r : Int32) (fm_r : Nat → Int32) (sz_r : Nat → Int32) (H : Heap) (locs : List Loc) (pc : Nat) (ls : Array Slot), some (r, th_r, la_r, fo_r, fm_r, sz_r) = some res → gZ D (gT cyI cyJ cyO) (XM a cyI cyJ th_r df la_r fo_r he wt br dr fm_r sz_r om os st wa va sk ++ Y) A bs s H locs → decode cX4_drop pc = .ok (.ireturn, 1) → W p l e rmX4_drop s m args below meth c H locs 0 0 Q (F0 m pc ls [.int r])) {r37 : Int32 → Int32 → Int32 → (Nat → Int32) → (Nat → Int32) → Int32 → Int32 → Int32 → Option (Int32 × Int32 × Int32 × Int32 × (Nat → Int32) × (Nat → Int32))} (hr37 : ∀ (th : Int32) (la : Int32) (fo : Int32) (fm : Nat → Int32) (sz : Nat → Int32) (v1 : Int32) (v2 : Int32) (v3 : Int32) (H : Heap) (locs : List Loc) (ls : Array Slot), r37 th la fo fm sz v1 v2 v3 = some res → gZ D (gT cyI cyJ cyO) (XM a cyI cyJ th df la fo he wt br dr fm sz om os st wa va sk ++ Y) A bs s H locs → lv_has ls 4 [(0, .ref (a 0)), (1, .int v1), (2, .int v2), (3, .int v3)] → W p l e rmX4_drop s m args below meth c H locs 0 0 Q (F0 m 37 ls [])) : ∀ (th : Int32) (la : Int32) (fo : Int32) (fm : Nat → Int32) (sz : Nat → Int32) (v1 : Int32) (v2 : Int32) (v3 : Int32) (H : Heap) (locs : List Loc) (ls : Array Slot), mX4_drop_37_b N om os r37 th la fo fm sz v1 v2 v3 = some res → gZ D (gT cyI cyJ cyO) (XM a cyI cyJ th df la fo he wt br dr fm sz om os st wa va sk ++ Y) A bs s H locs → lv_has ls 4 [(0, .ref (a 0)), (1, .int v1), (2, .int v2), (3, .int v3)] → W p l e rmX4_drop s m args below meth c H locs 0 0 Q (F0 m 37 ls []) := by
  intro th la fo fm sz v1 v2 v3 H locs ls h Z hl
  unfold mX4_drop_37_b at h
  refine lv_iload_n C0.1.1 C0.1.2.1 dX4_drop_37 rfl (lv_at hl 3 rfl) ?_
  refine lv_bipush (v := 30) C0.1.1 C0.1.2.1 dX4_drop_38 (by decide +kernel) ?_
  refine lv_icmp_ge (tgt := 66) C0.1.1 C0.1.2.1 dX4_drop_40 (by decide) (fun hc => ?_) (fun hc => ?_)
  · replace h := (if_pos hc).symm.trans h
    refine lv_iconst (v := 0) C0.1.1 C0.1.2.1 dX4_drop_66 (by decide) ?_
    refine lv_istore_n (lv' := [(3, .int (0 : Int32)), (0, .ref (a 0)), (1, .int v1), (2, .int v2)]) C0.1.1 C0.1.2.1 dX4_drop_67 rfl hl (by decide) rfl (fun ls hl => ?_)
    exact wX4_drop_68 (N := N) C0 hret N th la fo fm sz v1 v2 (0 : Int32) _ _ _ h Z (lv_sub hl [1, 2, 3, 0] rfl)
  · replace h := (if_neg hc).symm.trans h
    refine lv_aload_n C0.1.1 C0.1.2.1 dX4_drop_43 rfl (lv_at hl 0 rfl) ?_
    refine lv_iload_n C0.1.1 C0.1.2.1 dX4_drop_44 rfl (lv_at hl 3 rfl) ?_
    obtain ⟨x7, hx8, h⟩ := g_bd h
    refine g_callVi (b := a 0) (As := [.int v3]) (rest := []) (ws' := (fun (u : Unit) => (XM a cyI cyJ th df la fo he wt br dr fm sz om os st wa va sk ++ Y))) C0.1 Z (zX4_isOther l D cyI cyJ cyO A bs Z.2.2.2.2.2 a Y th df la fo he wt br dr fm sz om os st wa va sk N v3 x7 hx8) (cwV 1 C0.1.2.2.2.2 gX4_drop_X4_isOther rfl rfl rfl (by decide +kernel) ⟨Nat.le_of_ble_eq_true rfl, Nat.le_of_ble_eq_true rfl⟩) 0 (ci := 6) rfl rfl rfl rfl hl.1 rfl (Nat.le_of_ble_eq_true rfl) dX4_drop_45 ⟨Nat.zero_le _, Nat.zero_le _⟩ (fun r u H locs hw Z => ?_)
    subst hw
    refine lv_if_eq (tgt := 60) C0.1.1 C0.1.2.1 dX4_drop_48 (by decide) (fun hc => ?_) (fun hc => ?_)
    · replace h := (if_pos hc).symm.trans h
      exact wX4_drop_60 (N := N) C0 hret hr37 th la fo fm sz v1 v2 v3 _ _ _ h Z (lv_sub hl [0, 1, 2, 3] rfl)
    · replace h := (if_neg hc).symm.trans h
      refine lv_iload_n C0.1.1 C0.1.2.1 dX4_drop_51 rfl (lv_at hl 1 rfl) ?_
      refine lv_iconst (v := 1) C0.1.1 C0.1.2.1 dX4_drop_52 (by decide) ?_
      refine lv_iload_n C0.1.1 C0.1.2.1 dX4_drop_53 rfl (lv_at hl 3 rfl) ?_
      refine lv_ishl C0.1.1 C0.1.2.1 dX4_drop_54 ?_
      refine lv_ior C0.1.1 C0.1.2.1 dX4_drop_55 ?_
      refine lv_istore_n (lv' := [(1, .int (v1 ||| ((1 : Int32) <<< (v3 &&& 31)))), (0, .ref (a 0)), (2, .int v2), (3, .int v3)]) C0.1.1 C0.1.2.1 dX4_drop_56 rfl hl (by decide) rfl (fun ls hl => ?_)
      refine lv_iinc (v := v2 + (1 : Int32)) (lv' := [(2, .int (v2 + (1 : Int32))), (1, .int (v1 ||| ((1 : Int32) <<< (v3 &&& 31)))), (0, .ref (a 0)), (3, .int v3)]) C0.1.1 C0.1.2.1 dX4_drop_57 hl (k := 2) rfl rfl (by decide) rfl (fun ls hl => ?_)
      exact wX4_drop_60 (N := N) C0 hret hr37 th la fo fm sz (v1 ||| ((1 : Int32) <<< (v3 &&& 31))) (v2 + (1 : Int32)) v3 _ _ _ h Z (lv_sub hl [2, 1, 0, 3] rfl)
theorem wX4_drop_37 {p : Program} {l : Launch} {e : Env} {s : State} {m : MethodId} {args : Array Value} {below : List Frame} {meth : Method} {c : Code} {Q : State → Prop} {D : va_G} {cyI cyJ cyO : ClassId} {A : Nat → Prop} {bs : Nat} {a : Nat → Nat} {Y : va_W} {df : Int32} {he : Int32} {wt : Int32} {br : Int32} {dr : Nat → Int32} {om : Nat → Int32} {os : Nat → Int32} {st : Nat → Int32} {wa : Nat → Int32} {va : Nat → Int64} {sk : Nat → Int64} {N : Nat} {res : Int32 × Int32 × Int32 × Int32 × (Nat → Int32) × (Nat → Int32)} (C0 : gC p m meth c cX4_drop 4 (some .int) s args wsX4_drop RX4) (hret : ∀ (r : Int32) (th_r : Int32) (la_r : Int32) (fo_r : Int32) (fm_r : Nat → Int32) (sz_r : Nat → Int32) (H : Heap) (locs : List Loc) (pc : Nat) (ls : Array Slot), some (r, th_r, la_r, fo_r, fm_r, sz_r) = some res → gZ D (gT cyI cyJ cyO) (XM a cyI cyJ th_r df la_r fo_r he wt br dr fm_r sz_r om os st wa va sk ++ Y) A bs s H locs → decode cX4_drop pc = .ok (.ireturn, 1) → W p l e rmX4_drop s m args below meth c H locs 0 0 Q (F0 m pc ls [.int r]))  : ∀ (n : Nat), ∀ (th : Int32) (la : Int32) (fo : Int32) (fm : Nat → Int32) (sz : Nat → Int32) (v1 : Int32) (v2 : Int32) (v3 : Int32) (H : Heap) (locs : List Loc) (ls : Array Slot), mX4_drop_37 N om os n th la fo fm sz v1 v2 v3 = some res → gZ D (gT cyI cyJ cyO) (XM a cyI cyJ th df la fo he wt br dr fm sz om os st wa va sk ++ Y) A bs s H locs → lv_has ls 4 [(0, .ref (a 0)), (1, .int v1), (2, .int v2), (3, .int v3)] → W p l e rmX4_drop s m args below meth c H locs 0 0 Q (F0 m 37 ls []) := by
  intro n
  induction n with
  | zero => intro _ _ _ _ _ _ _ _ _ _ _ h; cases h
  | succ n ih => exact wX4_drop_37_b (N := N) C0 hret ih
set_option maxRecDepth 20000 in
set_option maxHeartbeats 4000000 in
theorem wX4_drop_13 {p : Program} {l : Launch} {e : Env} {s : State} {m : MethodId} {args : Array Value} {below : List Frame} {meth : Method} {c : Code} {Q : State → Prop} {D : va_G} {cyI cyJ cyO : ClassId} {A : Nat → Prop} {bs : Nat} {a : Nat → Nat} {Y : va_W} {df : Int32} {he : Int32} {wt : Int32} {br : Int32} {dr : Nat → Int32} {om : Nat → Int32} {os : Nat → Int32} {st : Nat → Int32} {wa : Nat → Int32} {va : Nat → Int64} {sk : Nat → Int64} {N : Nat} {res : Int32 × Int32 × Int32 × Int32 × (Nat → Int32) × (Nat → Int32)} (C0 : gC p m meth c cX4_drop 4 (some .int) s args wsX4_drop RX4) (hret : ∀ (r : Int32) (th_r : Int32) (la_r : Int32) (fo_r : Int32) (fm_r : Nat → Int32) (sz_r : Nat → Int32) (H : Heap) (locs : List Loc) (pc : Nat) (ls : Array Slot), some (r, th_r, la_r, fo_r, fm_r, sz_r) = some res → gZ D (gT cyI cyJ cyO) (XM a cyI cyJ th_r df la_r fo_r he wt br dr fm_r sz_r om os st wa va sk ++ Y) A bs s H locs → decode cX4_drop pc = .ok (.ireturn, 1) → W p l e rmX4_drop s m args below meth c H locs 0 0 Q (F0 m pc ls [.int r]))  : ∀ (th : Int32) (la : Int32) (fo : Int32) (fm : Nat → Int32) (sz : Nat → Int32) (s1 : Int32) (H : Heap) (locs : List Loc) (ls : Array Slot), mX4_drop_13 N om os th la fo fm sz s1 = some res → gZ D (gT cyI cyJ cyO) (XM a cyI cyJ th df la fo he wt br dr fm sz om os st wa va sk ++ Y) A bs s H locs → lv_has ls 4 [(0, .ref (a 0))] → W p l e rmX4_drop s m args below meth c H locs 0 0 Q (F0 m 13 ls [.int s1, .ref (a 0)]) := by
  intro th la fo fm sz s1 H locs ls h Z hl
  unfold mX4_drop_13 at h
  obtain ⟨x9, hx10, h⟩ := g_bd h
  refine g_callVi (b := a 0) (As := [.int s1]) (rest := []) (ws' := (fun (u : Int32) => (XM a cyI cyJ u df la fo he wt br dr fm sz om os st wa va sk ++ Y))) C0.1 Z (zX4_holds l D cyI cyJ cyO A bs Z.2.2.2.2.2 a Y th df la fo he wt br dr fm sz om os st wa va sk N s1 x9 hx10) (cwV 1 C0.1.2.2.2.2 gX4_drop_X4_holds rfl rfl rfl (by decide +kernel) ⟨Nat.le_of_ble_eq_true rfl, Nat.le_of_ble_eq_true rfl⟩) 0 (ci := 6) rfl rfl rfl rfl hl.1 rfl (Nat.le_of_ble_eq_true rfl) dX4_drop_13 ⟨Nat.zero_le _, Nat.zero_le _⟩ (fun r u H locs hw Z => ?_)
  obtain ⟨rfl, rfl⟩ := hw
  refine lv_if_ne (tgt := 21) C0.1.1 C0.1.2.1 dX4_drop_16 (by decide) (fun hc => ?_) (fun hc => ?_)
  · replace h := (if_neg hc).symm.trans h
    refine lv_aload_n C0.1.1 C0.1.2.1 dX4_drop_21 rfl (lv_at hl 0 rfl) ?_
    refine lv_dup C0.1.1 C0.1.2.1 dX4_drop_22 rfl ?_
    refine g_get (ci := 6) (v := .int la) (T := TX4) (N := 16) C0.1 Z 0 rfl rfl 5 (by decide) kX4_drop_in kX4_drop_f136 rfl rfl dX4_drop_23 ?_
    refine lv_iconst (v := 1) C0.1.1 C0.1.2.1 dX4_drop_26 (by decide) ?_
    refine lv_isub C0.1.1 C0.1.2.1 dX4_drop_27 ?_
    refine g_put (ci := 6) (v := .int (la - (1 : Int32))) (T := TX4) (N := 16) (ws' := (XM a cyI cyJ x9.2 df (la - (1 : Int32)) fo he wt br dr fm sz om os st wa va sk ++ Y)) C0.1 Z 0 rfl rfl 5 (by decide) kX4_drop_in kX4_drop_f136 rfl tyX4 tyX4_ok nmX4 rfl rfl rfl (Nat.le_of_ble_eq_true rfl) dX4_drop_28 rfl (fun H locs Z => ?_)
    refine lv_iconst (v := 0) C0.1.1 C0.1.2.1 dX4_drop_31 (by decide) ?_
    refine lv_istore_n (lv' := [(1, .int (0 : Int32)), (0, .ref (a 0))]) C0.1.1 C0.1.2.1 dX4_drop_32 rfl hl (by decide) rfl (fun ls hl => ?_)
    refine lv_iconst (v := 0) C0.1.1 C0.1.2.1 dX4_drop_33 (by decide) ?_
    refine lv_istore_n (lv' := [(2, .int (0 : Int32)), (1, .int (0 : Int32)), (0, .ref (a 0))]) C0.1.1 C0.1.2.1 dX4_drop_34 rfl hl (by decide) rfl (fun ls hl => ?_)
    refine lv_iconst (v := 0) C0.1.1 C0.1.2.1 dX4_drop_35 (by decide) ?_
    refine lv_istore_n (lv' := [(3, .int (0 : Int32)), (2, .int (0 : Int32)), (1, .int (0 : Int32)), (0, .ref (a 0))]) C0.1.1 C0.1.2.1 dX4_drop_36 rfl hl (by decide) rfl (fun ls hl => ?_)
    exact wX4_drop_37 (N := N) C0 hret N x9.2 (la - (1 : Int32)) fo fm sz (0 : Int32) (0 : Int32) (0 : Int32) _ _ _ h Z (lv_sub hl [3, 2, 1, 0] rfl)
  · replace h := (if_pos hc).symm.trans h
    refine lv_iconst (v := 0) C0.1.1 C0.1.2.1 dX4_drop_19 (by decide) ?_
    exact hret (0 : Int32) x9.2 la fo fm sz _ _ _ _ h Z dX4_drop_20
set_option maxRecDepth 20000 in
set_option maxHeartbeats 4000000 in
theorem zX4_drop (l : Launch) (D : va_G) (cyI cyJ cyO : ClassId) (A : Nat → Prop) (bs : Nat) (hA : ∀ q, bs ≤ q → A q) (a : Nat → Nat) (Y : va_W) (th : Int32) (df : Int32) (la : Int32) (fo : Int32) (he : Int32) (wt : Int32) (br : Int32) (dr : Nat → Int32) (fm : Nat → Int32) (sz : Nat → Int32) (om : Nat → Int32) (os : Nat → Int32) (st : Nat → Int32) (wa : Nat → Int32) (va : Nat → Int64) (sk : Nat → Int64) (N : Nat)  (res : Int32 × Int32 × Int32 × Int32 × (Nat → Int32) × (Nat → Int32)) (h : mX4_drop N om os th la fo fm sz = some res) : Met l yX4_drop wsX4_drop rmX4_drop (va_Pc [.ref (a 0)] (gW D (gT cyI cyJ cyO) (XM a cyI cyJ th df la fo he wt br dr fm sz om os st wa va sk ++ Y) A bs)) (va_Qi (fun (r : Int32) (u : Int32 × Int32 × Int32 × (Nat → Int32) × (Nat → Int32)) => res.1 = r ∧ res.2 = u) (fun (u : Int32 × Int32 × Int32 × (Nat → Int32) × (Nat → Int32)) U => gW D (gT cyI cyJ cyO) (XM a cyI cyJ u.1 df u.2.1 u.2.2.1 he wt br dr u.2.2.2.1 u.2.2.2.2 om os st wa va sk ++ Y) A bs U) A) 0 0 A := by
  refine Met.ofW (cc := cX4_drop) (maxL := 4) (ret := (some .int)) (by decide) rfl ?_
  intro p e s m args below meth c s₁ B hml hv
  obtain ⟨hav, hv⟩ := hv
  have C0 : gC p m meth c cX4_drop 4 (some .int) s args wsX4_drop RX4 := ⟨⟨B.exec, B.bytes, hml, findClass_of_methodNamed B.named, atoms_spec (ws := wsX4_drop) B.pre⟩, B.returns, B.notSynchronized⟩
  have Z := g_start hA hv
  have hret : ∀ (r : Int32) (th_r : Int32) (la_r : Int32) (fo_r : Int32) (fm_r : Nat → Int32) (sz_r : Nat → Int32) (H : Heap) (locs : List Loc) (pc : Nat) (ls : Array Slot), some (r, th_r, la_r, fo_r, fm_r, sz_r) = some res → gZ D (gT cyI cyJ cyO) (XM a cyI cyJ th_r df la_r fo_r he wt br dr fm_r sz_r om os st wa va sk ++ Y) A bs s H locs → decode cX4_drop pc = .ok (.ireturn, 1) → W p l e rmX4_drop s m args below meth c H locs 0 0 (MQ below (va_Qi (fun (r : Int32) (u : Int32 × Int32 × Int32 × (Nat → Int32) × (Nat → Int32)) => res.1 = r ∧ res.2 = u) (fun (u : Int32 × Int32 × Int32 × (Nat → Int32) × (Nat → Int32)) U => gW D (gT cyI cyJ cyO) (XM a cyI cyJ u.1 df u.2.1 u.2.2.1 he wt br dr u.2.2.2.1 u.2.2.2.2 om os st wa va sk ++ Y) A bs U) A) args s 0 0 A) (F0 m pc ls [.int r]) := by
    intro r th_r la_r fo_r fm_r sz_r H locs pc ls h Z hd
    replace h := Option.some.inj h
    exact W.iret C0.1.1 C0.1.2.1 C0.2.1 (fun t ht hW => ⟨⟨r, (th_r, la_r, fo_r, fm_r, sz_r), rfl, ⟨congrArg Prod.fst h.symm, congrArg Prod.snd h.symm⟩, g_end Z ht hW⟩, Z.2.2.2.1.F ht⟩) Z.2.2.2.1.2.2 hd C0.2.2
  have hl := lv_entry ([.ref (a 0)]) (n := 4) (Nat.le_of_ble_eq_true rfl)
  rw [hav, lg_entry_eq]
  generalize (lg_sl ([.ref (a 0)]) ++ List.replicate (4 - (lg_sl ([.ref (a 0)])).length) Slot.unset).toArray = ls at hl ⊢
  have hl : lv_has ls 4 [(0, .ref (a 0))] := hl
  rw [← hav]
  unfold mX4_drop at h
  refine lv_aload_n C0.1.1 C0.1.2.1 dX4_drop_0 rfl (lv_at hl 0 rfl) ?_
  refine lv_aload_n C0.1.1 C0.1.2.1 dX4_drop_1 rfl (lv_at hl 0 rfl) ?_
  refine g_get (ci := 6) (v := .int la) (T := TX4) (N := 16) C0.1 Z 0 rfl rfl 5 (by decide) kX4_drop_in kX4_drop_f136 rfl rfl dX4_drop_2 ?_
  refine lv_if_ne (tgt := 12) C0.1.1 C0.1.2.1 dX4_drop_5 (by decide) (fun hc => ?_) (fun hc => ?_)
  · replace h := (if_neg hc).symm.trans h
    refine lv_iconst (v := 0) C0.1.1 C0.1.2.1 dX4_drop_12 (by decide) ?_
    exact wX4_drop_13 (N := N) C0 hret th la fo fm sz (0 : Int32) _ _ _ h Z (lv_sub hl [0] rfl)
  · replace h := (if_pos hc).symm.trans h
    refine lv_iconst (v := 1) C0.1.1 C0.1.2.1 dX4_drop_8 (by decide) ?_
    refine lv_goto (tgt := 13) C0.1.1 C0.1.2.1 dX4_drop_9 (by decide) ?_
    exact wX4_drop_13 (N := N) C0 hret th la fo fm sz (1 : Int32) _ _ _ h Z (lv_sub hl [0] rfl)
/-! X4_keep -/
abbrev rmX4_keep : Room := { frames := 1, cells := 0, slots := 0, locals := 21 }
theorem kX4_keep_f136 : Cond.fieldLink RX4 136 "GoalseekOfficeModel" "layers" "I" ∈ wsX4_keep := by decide +kernel
theorem kX4_keep_in : ∀ w ∈ wsX40, w ∈ wsX4_keep := by decide +kernel
def mX4_keep_13 (N : Nat) (th : Int32) (la : Int32) (s1 : Int32) : Option (Int32 × Int32 × Int32) := ((mX4_holds N th s1).bind fun x1 => (if x1.1 = 0 then some ((0 : Int32), x1.2, la) else some ((la - (1 : Int32)), x1.2, (la - (1 : Int32)))))
def mX4_keep (N : Nat) (th : Int32) (la : Int32) : Option (Int32 × Int32 × Int32) := (if la = 0 then mX4_keep_13 N th la (1 : Int32) else mX4_keep_13 N th la (0 : Int32))
set_option maxRecDepth 20000 in
set_option maxHeartbeats 4000000 in
theorem wX4_keep_13 {p : Program} {l : Launch} {e : Env} {s : State} {m : MethodId} {args : Array Value} {below : List Frame} {meth : Method} {c : Code} {Q : State → Prop} {D : va_G} {cyI cyJ cyO : ClassId} {A : Nat → Prop} {bs : Nat} {a : Nat → Nat} {Y : va_W} {df : Int32} {fo : Int32} {he : Int32} {wt : Int32} {br : Int32} {dr : Nat → Int32} {fm : Nat → Int32} {sz : Nat → Int32} {om : Nat → Int32} {os : Nat → Int32} {st : Nat → Int32} {wa : Nat → Int32} {va : Nat → Int64} {sk : Nat → Int64} {N : Nat} {res : Int32 × Int32 × Int32} (C0 : gC p m meth c cX4_keep 1 (some .int) s args wsX4_keep RX4) (hret : ∀ (r : Int32) (th_r : Int32) (la_r : Int32) (H : Heap) (locs : List Loc) (pc : Nat) (ls : Array Slot), some (r, th_r, la_r) = some res → gZ D (gT cyI cyJ cyO) (XM a cyI cyJ th_r df la_r fo he wt br dr fm sz om os st wa va sk ++ Y) A bs s H locs → decode cX4_keep pc = .ok (.ireturn, 1) → W p l e rmX4_keep s m args below meth c H locs 0 0 Q (F0 m pc ls [.int r]))  : ∀ (th : Int32) (la : Int32) (s1 : Int32) (H : Heap) (locs : List Loc) (ls : Array Slot), mX4_keep_13 N th la s1 = some res → gZ D (gT cyI cyJ cyO) (XM a cyI cyJ th df la fo he wt br dr fm sz om os st wa va sk ++ Y) A bs s H locs → lv_has ls 1 [(0, .ref (a 0))] → W p l e rmX4_keep s m args below meth c H locs 0 0 Q (F0 m 13 ls [.int s1, .ref (a 0)]) := by
  intro th la s1 H locs ls h Z hl
  unfold mX4_keep_13 at h
  obtain ⟨x1, hx2, h⟩ := g_bd h
  refine g_callVi (b := a 0) (As := [.int s1]) (rest := []) (ws' := (fun (u : Int32) => (XM a cyI cyJ u df la fo he wt br dr fm sz om os st wa va sk ++ Y))) C0.1 Z (zX4_holds l D cyI cyJ cyO A bs Z.2.2.2.2.2 a Y th df la fo he wt br dr fm sz om os st wa va sk N s1 x1 hx2) (cwV 1 C0.1.2.2.2.2 gX4_keep_X4_holds rfl rfl rfl (by decide +kernel) ⟨Nat.le_of_ble_eq_true rfl, Nat.le_of_ble_eq_true rfl⟩) 0 (ci := 6) rfl rfl rfl rfl hl.1 rfl (Nat.le_of_ble_eq_true rfl) dX4_keep_13 ⟨Nat.zero_le _, Nat.zero_le _⟩ (fun r u H locs hw Z => ?_)
  obtain ⟨rfl, rfl⟩ := hw
  refine lv_if_ne (tgt := 21) C0.1.1 C0.1.2.1 dX4_keep_16 (by decide) (fun hc => ?_) (fun hc => ?_)
  · replace h := (if_neg hc).symm.trans h
    refine lv_aload_n C0.1.1 C0.1.2.1 dX4_keep_21 rfl (lv_at hl 0 rfl) ?_
    refine lv_dup C0.1.1 C0.1.2.1 dX4_keep_22 rfl ?_
    refine g_get (ci := 6) (v := .int la) (T := TX4) (N := 16) C0.1 Z 0 rfl rfl 5 (by decide) kX4_keep_in kX4_keep_f136 rfl rfl dX4_keep_23 ?_
    refine lv_iconst (v := 1) C0.1.1 C0.1.2.1 dX4_keep_26 (by decide) ?_
    refine lv_isub C0.1.1 C0.1.2.1 dX4_keep_27 ?_
    refine g_put (ci := 6) (v := .int (la - (1 : Int32))) (T := TX4) (N := 16) (ws' := (XM a cyI cyJ x1.2 df (la - (1 : Int32)) fo he wt br dr fm sz om os st wa va sk ++ Y)) C0.1 Z 0 rfl rfl 5 (by decide) kX4_keep_in kX4_keep_f136 rfl tyX4 tyX4_ok nmX4 rfl rfl rfl (Nat.le_of_ble_eq_true rfl) dX4_keep_28 rfl (fun H locs Z => ?_)
    refine lv_aload_n C0.1.1 C0.1.2.1 dX4_keep_31 rfl (lv_at hl 0 rfl) ?_
    refine g_get (ci := 6) (v := .int (la - (1 : Int32))) (T := TX4) (N := 16) C0.1 Z 0 rfl rfl 5 (by decide) kX4_keep_in kX4_keep_f136 rfl rfl dX4_keep_32 ?_
    exact hret (la - (1 : Int32)) x1.2 (la - (1 : Int32)) _ _ _ _ h Z dX4_keep_35
  · replace h := (if_pos hc).symm.trans h
    refine lv_iconst (v := 0) C0.1.1 C0.1.2.1 dX4_keep_19 (by decide) ?_
    exact hret (0 : Int32) x1.2 la _ _ _ _ h Z dX4_keep_20
set_option maxRecDepth 20000 in
set_option maxHeartbeats 4000000 in
theorem zX4_keep (l : Launch) (D : va_G) (cyI cyJ cyO : ClassId) (A : Nat → Prop) (bs : Nat) (hA : ∀ q, bs ≤ q → A q) (a : Nat → Nat) (Y : va_W) (th : Int32) (df : Int32) (la : Int32) (fo : Int32) (he : Int32) (wt : Int32) (br : Int32) (dr : Nat → Int32) (fm : Nat → Int32) (sz : Nat → Int32) (om : Nat → Int32) (os : Nat → Int32) (st : Nat → Int32) (wa : Nat → Int32) (va : Nat → Int64) (sk : Nat → Int64) (N : Nat)  (res : Int32 × Int32 × Int32) (h : mX4_keep N th la = some res) : Met l yX4_keep wsX4_keep rmX4_keep (va_Pc [.ref (a 0)] (gW D (gT cyI cyJ cyO) (XM a cyI cyJ th df la fo he wt br dr fm sz om os st wa va sk ++ Y) A bs)) (va_Qi (fun (r : Int32) (u : Int32 × Int32) => res.1 = r ∧ res.2 = u) (fun (u : Int32 × Int32) U => gW D (gT cyI cyJ cyO) (XM a cyI cyJ u.1 df u.2 fo he wt br dr fm sz om os st wa va sk ++ Y) A bs U) A) 0 0 A := by
  refine Met.ofW (cc := cX4_keep) (maxL := 1) (ret := (some .int)) (by decide) rfl ?_
  intro p e s m args below meth c s₁ B hml hv
  obtain ⟨hav, hv⟩ := hv
  have C0 : gC p m meth c cX4_keep 1 (some .int) s args wsX4_keep RX4 := ⟨⟨B.exec, B.bytes, hml, findClass_of_methodNamed B.named, atoms_spec (ws := wsX4_keep) B.pre⟩, B.returns, B.notSynchronized⟩
  have Z := g_start hA hv
  have hret : ∀ (r : Int32) (th_r : Int32) (la_r : Int32) (H : Heap) (locs : List Loc) (pc : Nat) (ls : Array Slot), some (r, th_r, la_r) = some res → gZ D (gT cyI cyJ cyO) (XM a cyI cyJ th_r df la_r fo he wt br dr fm sz om os st wa va sk ++ Y) A bs s H locs → decode cX4_keep pc = .ok (.ireturn, 1) → W p l e rmX4_keep s m args below meth c H locs 0 0 (MQ below (va_Qi (fun (r : Int32) (u : Int32 × Int32) => res.1 = r ∧ res.2 = u) (fun (u : Int32 × Int32) U => gW D (gT cyI cyJ cyO) (XM a cyI cyJ u.1 df u.2 fo he wt br dr fm sz om os st wa va sk ++ Y) A bs U) A) args s 0 0 A) (F0 m pc ls [.int r]) := by
    intro r th_r la_r H locs pc ls h Z hd
    replace h := Option.some.inj h
    exact W.iret C0.1.1 C0.1.2.1 C0.2.1 (fun t ht hW => ⟨⟨r, (th_r, la_r), rfl, ⟨congrArg Prod.fst h.symm, congrArg Prod.snd h.symm⟩, g_end Z ht hW⟩, Z.2.2.2.1.F ht⟩) Z.2.2.2.1.2.2 hd C0.2.2
  have hl := lv_entry ([.ref (a 0)]) (n := 1) (Nat.le_of_ble_eq_true rfl)
  rw [hav, lg_entry_eq]
  generalize (lg_sl ([.ref (a 0)]) ++ List.replicate (1 - (lg_sl ([.ref (a 0)])).length) Slot.unset).toArray = ls at hl ⊢
  have hl : lv_has ls 1 [(0, .ref (a 0))] := hl
  rw [← hav]
  unfold mX4_keep at h
  refine lv_aload_n C0.1.1 C0.1.2.1 dX4_keep_0 rfl (lv_at hl 0 rfl) ?_
  refine lv_aload_n C0.1.1 C0.1.2.1 dX4_keep_1 rfl (lv_at hl 0 rfl) ?_
  refine g_get (ci := 6) (v := .int la) (T := TX4) (N := 16) C0.1 Z 0 rfl rfl 5 (by decide) kX4_keep_in kX4_keep_f136 rfl rfl dX4_keep_2 ?_
  refine lv_if_ne (tgt := 12) C0.1.1 C0.1.2.1 dX4_keep_5 (by decide) (fun hc => ?_) (fun hc => ?_)
  · replace h := (if_neg hc).symm.trans h
    refine lv_iconst (v := 0) C0.1.1 C0.1.2.1 dX4_keep_12 (by decide) ?_
    exact wX4_keep_13 (N := N) C0 hret th la (0 : Int32) _ _ _ h Z (lv_sub hl [0] rfl)
  · replace h := (if_pos hc).symm.trans h
    refine lv_iconst (v := 1) C0.1.1 C0.1.2.1 dX4_keep_8 (by decide) ?_
    refine lv_goto (tgt := 13) C0.1.1 C0.1.2.1 dX4_keep_9 (by decide) ?_
    exact wX4_keep_13 (N := N) C0 hret th la (1 : Int32) _ _ _ h Z (lv_sub hl [0] rfl)
/-! X4_layers -/
abbrev rmX4_layers : Room := { frames := 0, cells := 0, slots := 0, locals := 0 }
theorem kX4_layers_f38 : Cond.fieldLink RX4 38 "GoalseekOfficeModel" "thrown" "I" ∈ wsX4_layers := by decide +kernel
theorem kX4_layers_in : ∀ w ∈ wsX40, w ∈ wsX4_layers := by decide +kernel
theorem kX4_layers_f136 : Cond.fieldLink RX4 136 "GoalseekOfficeModel" "layers" "I" ∈ wsX4_layers := by decide +kernel
def mX4_layers (N : Nat) (la : Int32) (th : Int32) : Option (Int32 × Int32) := some (la, (0 : Int32))
set_option maxRecDepth 20000 in
set_option maxHeartbeats 4000000 in
theorem zX4_layers (l : Launch) (D : va_G) (cyI cyJ cyO : ClassId) (A : Nat → Prop) (bs : Nat) (hA : ∀ q, bs ≤ q → A q) (a : Nat → Nat) (Y : va_W) (th : Int32) (df : Int32) (la : Int32) (fo : Int32) (he : Int32) (wt : Int32) (br : Int32) (dr : Nat → Int32) (fm : Nat → Int32) (sz : Nat → Int32) (om : Nat → Int32) (os : Nat → Int32) (st : Nat → Int32) (wa : Nat → Int32) (va : Nat → Int64) (sk : Nat → Int64) (N : Nat)  (res : Int32 × Int32) (h : mX4_layers N la th = some res) : Met l yX4_layers wsX4_layers rmX4_layers (va_Pc [.ref (a 0)] (gW D (gT cyI cyJ cyO) (XM a cyI cyJ th df la fo he wt br dr fm sz om os st wa va sk ++ Y) A bs)) (va_Qi (fun (r : Int32) (u : Int32) => res.1 = r ∧ res.2 = u) (fun (u : Int32) U => gW D (gT cyI cyJ cyO) (XM a cyI cyJ u df la fo he wt br dr fm sz om os st wa va sk ++ Y) A bs U) A) 0 0 A := by
  refine Met.ofW (cc := cX4_layers) (maxL := 1) (ret := (some .int)) (by decide) rfl ?_
  intro p e s m args below meth c s₁ B hml hv
  obtain ⟨hav, hv⟩ := hv
  have C0 : gC p m meth c cX4_layers 1 (some .int) s args wsX4_layers RX4 := ⟨⟨B.exec, B.bytes, hml, findClass_of_methodNamed B.named, atoms_spec (ws := wsX4_layers) B.pre⟩, B.returns, B.notSynchronized⟩
  have Z := g_start hA hv
  have hret : ∀ (r : Int32) (th_r : Int32) (H : Heap) (locs : List Loc) (pc : Nat) (ls : Array Slot), some (r, th_r) = some res → gZ D (gT cyI cyJ cyO) (XM a cyI cyJ th_r df la fo he wt br dr fm sz om os st wa va sk ++ Y) A bs s H locs → decode cX4_layers pc = .ok (.ireturn, 1) → W p l e rmX4_layers s m args below meth c H locs 0 0 (MQ below (va_Qi (fun (r : Int32) (u : Int32) => res.1 = r ∧ res.2 = u) (fun (u : Int32) U => gW D (gT cyI cyJ cyO) (XM a cyI cyJ u df la fo he wt br dr fm sz om os st wa va sk ++ Y) A bs U) A) args s 0 0 A) (F0 m pc ls [.int r]) := by
    intro r th_r H locs pc ls h Z hd
    replace h := Option.some.inj h
    exact W.iret C0.1.1 C0.1.2.1 C0.2.1 (fun t ht hW => ⟨⟨r, (th_r), rfl, ⟨congrArg Prod.fst h.symm, congrArg Prod.snd h.symm⟩, g_end Z ht hW⟩, Z.2.2.2.1.F ht⟩) Z.2.2.2.1.2.2 hd C0.2.2
  have hl := lv_entry ([.ref (a 0)]) (n := 1) (Nat.le_of_ble_eq_true rfl)
  rw [hav, lg_entry_eq]
  generalize (lg_sl ([.ref (a 0)]) ++ List.replicate (1 - (lg_sl ([.ref (a 0)])).length) Slot.unset).toArray = ls at hl ⊢
  have hl : lv_has ls 1 [(0, .ref (a 0))] := hl
  rw [← hav]
  unfold mX4_layers at h
  refine lv_aload_n C0.1.1 C0.1.2.1 dX4_layers_0 rfl (lv_at hl 0 rfl) ?_
  refine lv_iconst (v := 0) C0.1.1 C0.1.2.1 dX4_layers_1 (by decide) ?_
  refine g_put (ci := 6) (v := .int (0 : Int32)) (T := TX4) (N := 16) (ws' := (XM a cyI cyJ (0 : Int32) df la fo he wt br dr fm sz om os st wa va sk ++ Y)) C0.1 Z 0 rfl rfl 0 (by decide) kX4_layers_in kX4_layers_f38 rfl tyX4 tyX4_ok nmX4 rfl rfl rfl (Nat.le_of_ble_eq_true rfl) dX4_layers_2 rfl (fun H locs Z => ?_)
  refine lv_aload_n C0.1.1 C0.1.2.1 dX4_layers_5 rfl (lv_at hl 0 rfl) ?_
  refine g_get (ci := 6) (v := .int la) (T := TX4) (N := 16) C0.1 Z 0 rfl rfl 5 (by decide) kX4_layers_in kX4_layers_f136 rfl rfl dX4_layers_6 ?_
  exact hret la (0 : Int32) _ _ _ _ h Z dX4_layers_9
/-! X4_drafted -/
abbrev rmX4_drafted : Room := { frames := 0, cells := 0, slots := 0, locals := 0 }
theorem kX4_drafted_f38 : Cond.fieldLink RX4 38 "GoalseekOfficeModel" "thrown" "I" ∈ wsX4_drafted := by decide +kernel
theorem kX4_drafted_in : ∀ w ∈ wsX40, w ∈ wsX4_drafted := by decide +kernel
theorem kX4_drafted_f46 : Cond.fieldLink RX4 46 "GoalseekOfficeModel" "drafted" "I" ∈ wsX4_drafted := by decide +kernel
def mX4_drafted (N : Nat) (df : Int32) (th : Int32) : Option (Int32 × Int32) := some (df, (0 : Int32))
set_option maxRecDepth 20000 in
set_option maxHeartbeats 4000000 in
theorem zX4_drafted (l : Launch) (D : va_G) (cyI cyJ cyO : ClassId) (A : Nat → Prop) (bs : Nat) (hA : ∀ q, bs ≤ q → A q) (a : Nat → Nat) (Y : va_W) (th : Int32) (df : Int32) (la : Int32) (fo : Int32) (he : Int32) (wt : Int32) (br : Int32) (dr : Nat → Int32) (fm : Nat → Int32) (sz : Nat → Int32) (om : Nat → Int32) (os : Nat → Int32) (st : Nat → Int32) (wa : Nat → Int32) (va : Nat → Int64) (sk : Nat → Int64) (N : Nat)  (res : Int32 × Int32) (h : mX4_drafted N df th = some res) : Met l yX4_drafted wsX4_drafted rmX4_drafted (va_Pc [.ref (a 0)] (gW D (gT cyI cyJ cyO) (XM a cyI cyJ th df la fo he wt br dr fm sz om os st wa va sk ++ Y) A bs)) (va_Qi (fun (r : Int32) (u : Int32) => res.1 = r ∧ res.2 = u) (fun (u : Int32) U => gW D (gT cyI cyJ cyO) (XM a cyI cyJ u df la fo he wt br dr fm sz om os st wa va sk ++ Y) A bs U) A) 0 0 A := by
  refine Met.ofW (cc := cX4_drafted) (maxL := 1) (ret := (some .int)) (by decide) rfl ?_
  intro p e s m args below meth c s₁ B hml hv
  obtain ⟨hav, hv⟩ := hv
  have C0 : gC p m meth c cX4_drafted 1 (some .int) s args wsX4_drafted RX4 := ⟨⟨B.exec, B.bytes, hml, findClass_of_methodNamed B.named, atoms_spec (ws := wsX4_drafted) B.pre⟩, B.returns, B.notSynchronized⟩
  have Z := g_start hA hv
  have hret : ∀ (r : Int32) (th_r : Int32) (H : Heap) (locs : List Loc) (pc : Nat) (ls : Array Slot), some (r, th_r) = some res → gZ D (gT cyI cyJ cyO) (XM a cyI cyJ th_r df la fo he wt br dr fm sz om os st wa va sk ++ Y) A bs s H locs → decode cX4_drafted pc = .ok (.ireturn, 1) → W p l e rmX4_drafted s m args below meth c H locs 0 0 (MQ below (va_Qi (fun (r : Int32) (u : Int32) => res.1 = r ∧ res.2 = u) (fun (u : Int32) U => gW D (gT cyI cyJ cyO) (XM a cyI cyJ u df la fo he wt br dr fm sz om os st wa va sk ++ Y) A bs U) A) args s 0 0 A) (F0 m pc ls [.int r]) := by
    intro r th_r H locs pc ls h Z hd
    replace h := Option.some.inj h
    exact W.iret C0.1.1 C0.1.2.1 C0.2.1 (fun t ht hW => ⟨⟨r, (th_r), rfl, ⟨congrArg Prod.fst h.symm, congrArg Prod.snd h.symm⟩, g_end Z ht hW⟩, Z.2.2.2.1.F ht⟩) Z.2.2.2.1.2.2 hd C0.2.2
  have hl := lv_entry ([.ref (a 0)]) (n := 1) (Nat.le_of_ble_eq_true rfl)
  rw [hav, lg_entry_eq]
  generalize (lg_sl ([.ref (a 0)]) ++ List.replicate (1 - (lg_sl ([.ref (a 0)])).length) Slot.unset).toArray = ls at hl ⊢
  have hl : lv_has ls 1 [(0, .ref (a 0))] := hl
  rw [← hav]
  unfold mX4_drafted at h
  refine lv_aload_n C0.1.1 C0.1.2.1 dX4_drafted_0 rfl (lv_at hl 0 rfl) ?_
  refine lv_iconst (v := 0) C0.1.1 C0.1.2.1 dX4_drafted_1 (by decide) ?_
  refine g_put (ci := 6) (v := .int (0 : Int32)) (T := TX4) (N := 16) (ws' := (XM a cyI cyJ (0 : Int32) df la fo he wt br dr fm sz om os st wa va sk ++ Y)) C0.1 Z 0 rfl rfl 0 (by decide) kX4_drafted_in kX4_drafted_f38 rfl tyX4 tyX4_ok nmX4 rfl rfl rfl (Nat.le_of_ble_eq_true rfl) dX4_drafted_2 rfl (fun H locs Z => ?_)
  refine lv_aload_n C0.1.1 C0.1.2.1 dX4_drafted_5 rfl (lv_at hl 0 rfl) ?_
  refine g_get (ci := 6) (v := .int df) (T := TX4) (N := 16) C0.1 Z 0 rfl rfl 2 (by decide) kX4_drafted_in kX4_drafted_f46 rfl rfl dX4_drafted_6 ?_
  exact hret df (0 : Int32) _ _ _ _ h Z dX4_drafted_9
/-! X4_errorOfValue -/
abbrev rmX4_errorOfValue : Room := { frames := 6, cells := 0, slots := 0, locals := 144 }
theorem kX4_errorOfValue_f29 : Cond.fieldLink RX4 29 "GoalseekOfficeModel" "states" "[I" ∈ wsX4_errorOfValue := by decide +kernel
theorem kX4_errorOfValue_in : ∀ w ∈ wsX40, w ∈ wsX4_errorOfValue := by decide +kernel
def mX4_errorOfValue_30 (N : Nat) (fm : Nat → Int32) (sz : Nat → Int32) (he : Int32) (wt : Int32) (br : Int32) (st : Nat → Int32) (wa : Nat → Int32) (va : Nat → Int64) (sk : Nat → Int64) (s0 : Int32) : Option (Int32 × Int32 × Int32 × Int32 × (Nat → Int32) × (Nat → Int32) × (Nat → Int64) × (Nat → Int64)) := some (s0, he, wt, br, st, wa, va, sk)
def mX4_errorOfValue (N : Nat) (fm : Nat → Int32) (sz : Nat → Int32) (he : Int32) (wt : Int32) (br : Int32) (st : Nat → Int32) (wa : Nat → Int32) (va : Nat → Int64) (sk : Nat → Int64) (p0 : Int32) : Option (Int32 × Int32 × Int32 × Int32 × (Nat → Int32) × (Nat → Int32) × (Nat → Int64) × (Nat → Int64)) := ((mX4_worksAll N fm sz he wt br st wa va sk).bind fun x1 => ((mX4_isCell N p0).bind fun x3 => (if x3 = 0 then mX4_errorOfValue_30 N fm sz x1.1 x1.2.1 x1.2.2.1 x1.2.2.2.1 x1.2.2.2.2.1 x1.2.2.2.2.2.1 x1.2.2.2.2.2.2 (1 : Int32) else (if p0 < 0 ∨ 30 ≤ p0.toNatClampNeg then none else (if (x1.2.2.2.1 p0.toNatClampNeg) = (2 : Int32) then mX4_errorOfValue_30 N fm sz x1.1 x1.2.1 x1.2.2.1 x1.2.2.2.1 x1.2.2.2.2.1 x1.2.2.2.2.2.1 x1.2.2.2.2.2.2 (2 : Int32) else mX4_errorOfValue_30 N fm sz x1.1 x1.2.1 x1.2.2.1 x1.2.2.2.1 x1.2.2.2.2.1 x1.2.2.2.2.2.1 x1.2.2.2.2.2.2 (0 : Int32))))))
set_option maxRecDepth 20000 in
set_option maxHeartbeats 4000000 in
theorem wX4_errorOfValue_30 {p : Program} {l : Launch} {e : Env} {s : State} {m : MethodId} {args : Array Value} {below : List Frame} {meth : Method} {c : Code} {Q : State → Prop} {D : va_G} {cyI cyJ cyO : ClassId} {A : Nat → Prop} {bs : Nat} {a : Nat → Nat} {Y : va_W} {th : Int32} {df : Int32} {la : Int32} {fo : Int32} {dr : Nat → Int32} {fm : Nat → Int32} {sz : Nat → Int32} {om : Nat → Int32} {os : Nat → Int32} {N : Nat} {res : Int32 × Int32 × Int32 × Int32 × (Nat → Int32) × (Nat → Int32) × (Nat → Int64) × (Nat → Int64)} (C0 : gC p m meth c cX4_errorOfValue 2 (some .int) s args wsX4_errorOfValue RX4) (hret : ∀ (r : Int32) (he_r : Int32) (wt_r : Int32) (br_r : Int32) (st_r : Nat → Int32) (wa_r : Nat → Int32) (va_r : Nat → Int64) (sk_r : Nat → Int64) (H : Heap) (locs : List Loc) (pc : Nat) (ls : Array Slot), some (r, he_r, wt_r, br_r, st_r, wa_r, va_r, sk_r) = some res → gZ D (gT cyI cyJ cyO) (XM a cyI cyJ th df la fo he_r wt_r br_r dr fm sz om os st_r wa_r va_r sk_r ++ Y) A bs s H locs → decode cX4_errorOfValue pc = .ok (.ireturn, 1) → W p l e rmX4_errorOfValue s m args below meth c H locs 0 0 Q (F0 m pc ls [.int r]))  : ∀ (he : Int32) (wt : Int32) (br : Int32) (st : Nat → Int32) (wa : Nat → Int32) (va : Nat → Int64) (sk : Nat → Int64) (s0 : Int32) (H : Heap) (locs : List Loc) (ls : Array Slot), mX4_errorOfValue_30 N fm sz he wt br st wa va sk s0 = some res → gZ D (gT cyI cyJ cyO) (XM a cyI cyJ th df la fo he wt br dr fm sz om os st wa va sk ++ Y) A bs s H locs → lv_has ls 2 [] → W p l e rmX4_errorOfValue s m args below meth c H locs 0 0 Q (F0 m 30 ls [.int s0]) := by
  intro he wt br st wa va sk s0 H locs ls h Z hl
  unfold mX4_errorOfValue_30 at h
  exact hret s0 he wt br st wa va sk _ _ _ _ h Z dX4_errorOfValue_30
set_option maxRecDepth 20000 in
set_option maxHeartbeats 4000000 in
theorem zX4_errorOfValue (l : Launch) (D : va_G) (cyI cyJ cyO : ClassId) (A : Nat → Prop) (bs : Nat) (hA : ∀ q, bs ≤ q → A q) (a : Nat → Nat) (Y : va_W) (th : Int32) (df : Int32) (la : Int32) (fo : Int32) (he : Int32) (wt : Int32) (br : Int32) (dr : Nat → Int32) (fm : Nat → Int32) (sz : Nat → Int32) (om : Nat → Int32) (os : Nat → Int32) (st : Nat → Int32) (wa : Nat → Int32) (va : Nat → Int64) (sk : Nat → Int64) (N : Nat) (p0 : Int32) (res : Int32 × Int32 × Int32 × Int32 × (Nat → Int32) × (Nat → Int32) × (Nat → Int64) × (Nat → Int64)) (h : mX4_errorOfValue N fm sz he wt br st wa va sk p0 = some res) : Met l yX4_errorOfValue wsX4_errorOfValue rmX4_errorOfValue (va_Pc [.ref (a 0), .int p0] (gW D (gT cyI cyJ cyO) (XM a cyI cyJ th df la fo he wt br dr fm sz om os st wa va sk ++ Y) A bs)) (va_Qi (fun (r : Int32) (u : Int32 × Int32 × Int32 × (Nat → Int32) × (Nat → Int32) × (Nat → Int64) × (Nat → Int64)) => res.1 = r ∧ res.2 = u) (fun (u : Int32 × Int32 × Int32 × (Nat → Int32) × (Nat → Int32) × (Nat → Int64) × (Nat → Int64)) U => gW D (gT cyI cyJ cyO) (XM a cyI cyJ th df la fo u.1 u.2.1 u.2.2.1 dr fm sz om os u.2.2.2.1 u.2.2.2.2.1 u.2.2.2.2.2.1 u.2.2.2.2.2.2 ++ Y) A bs U) A) 0 0 A := by
  refine Met.ofW (cc := cX4_errorOfValue) (maxL := 2) (ret := (some .int)) (by decide) rfl ?_
  intro p e s m args below meth c s₁ B hml hv
  obtain ⟨hav, hv⟩ := hv
  have C0 : gC p m meth c cX4_errorOfValue 2 (some .int) s args wsX4_errorOfValue RX4 := ⟨⟨B.exec, B.bytes, hml, findClass_of_methodNamed B.named, atoms_spec (ws := wsX4_errorOfValue) B.pre⟩, B.returns, B.notSynchronized⟩
  have Z := g_start hA hv
  have hret : ∀ (r : Int32) (he_r : Int32) (wt_r : Int32) (br_r : Int32) (st_r : Nat → Int32) (wa_r : Nat → Int32) (va_r : Nat → Int64) (sk_r : Nat → Int64) (H : Heap) (locs : List Loc) (pc : Nat) (ls : Array Slot), some (r, he_r, wt_r, br_r, st_r, wa_r, va_r, sk_r) = some res → gZ D (gT cyI cyJ cyO) (XM a cyI cyJ th df la fo he_r wt_r br_r dr fm sz om os st_r wa_r va_r sk_r ++ Y) A bs s H locs → decode cX4_errorOfValue pc = .ok (.ireturn, 1) → W p l e rmX4_errorOfValue s m args below meth c H locs 0 0 (MQ below (va_Qi (fun (r : Int32) (u : Int32 × Int32 × Int32 × (Nat → Int32) × (Nat → Int32) × (Nat → Int64) × (Nat → Int64)) => res.1 = r ∧ res.2 = u) (fun (u : Int32 × Int32 × Int32 × (Nat → Int32) × (Nat → Int32) × (Nat → Int64) × (Nat → Int64)) U => gW D (gT cyI cyJ cyO) (XM a cyI cyJ th df la fo u.1 u.2.1 u.2.2.1 dr fm sz om os u.2.2.2.1 u.2.2.2.2.1 u.2.2.2.2.2.1 u.2.2.2.2.2.2 ++ Y) A bs U) A) args s 0 0 A) (F0 m pc ls [.int r]) := by
    intro r he_r wt_r br_r st_r wa_r va_r sk_r H locs pc ls h Z hd
    replace h := Option.some.inj h
    exact W.iret C0.1.1 C0.1.2.1 C0.2.1 (fun t ht hW => ⟨⟨r, (he_r, wt_r, br_r, st_r, wa_r, va_r, sk_r), rfl, ⟨congrArg Prod.fst h.symm, congrArg Prod.snd h.symm⟩, g_end Z ht hW⟩, Z.2.2.2.1.F ht⟩) Z.2.2.2.1.2.2 hd C0.2.2
  have hl := lv_entry ([.ref (a 0), .int p0]) (n := 2) (Nat.le_of_ble_eq_true rfl)
  rw [hav, lg_entry_eq]
  generalize (lg_sl ([.ref (a 0), .int p0]) ++ List.replicate (2 - (lg_sl ([.ref (a 0), .int p0])).length) Slot.unset).toArray = ls at hl ⊢
  have hl : lv_has ls 2 [(0, .ref (a 0)), (1, .int p0)] := hl
  rw [← hav]
  unfold mX4_errorOfValue at h
  refine lv_aload_n C0.1.1 C0.1.2.1 dX4_errorOfValue_0 rfl (lv_at hl 0 rfl) ?_
  obtain ⟨x1, hx2, h⟩ := g_bd h
  refine g_callVv (b := a 0) (As := []) (rest := []) (ws' := (fun (u : Int32 × Int32 × Int32 × (Nat → Int32) × (Nat → Int32) × (Nat → Int64) × (Nat → Int64)) => (XM a cyI cyJ th df la fo u.1 u.2.1 u.2.2.1 dr fm sz om os u.2.2.2.1 u.2.2.2.2.1 u.2.2.2.2.2.1 u.2.2.2.2.2.2 ++ Y))) C0.1 Z (zX4_worksAll l D cyI cyJ cyO A bs Z.2.2.2.2.2 a Y th df la fo he wt br dr fm sz om os st wa va sk N x1 hx2) (cwV 0 C0.1.2.2.2.2 gX4_errorOfValue_X4_worksAll rfl rfl rfl (by decide +kernel) ⟨Nat.le_of_ble_eq_true rfl, Nat.le_of_ble_eq_true rfl⟩) 0 (ci := 6) rfl rfl rfl rfl hl.1 rfl (Nat.le_of_ble_eq_true rfl) dX4_errorOfValue_1 ⟨Nat.zero_le _, Nat.zero_le _⟩ (fun u H locs hw Z => ?_)
  subst hw
  refine lv_iload_n C0.1.1 C0.1.2.1 dX4_errorOfValue_4 rfl (lv_at hl 1 rfl) ?_
  obtain ⟨x3, hx4, h⟩ := g_bd h
  refine g_callSi (As := [.int p0]) (rest := []) (ws' := (fun (u : Unit) => (XM a cyI cyJ th df la fo x1.1 x1.2.1 x1.2.2.1 dr fm sz om os x1.2.2.2.1 x1.2.2.2.2.1 x1.2.2.2.2.2.1 x1.2.2.2.2.2.2 ++ Y))) C0.1 Z (zX4_isCell l D cyI cyJ cyO A bs Z.2.2.2.2.2 (XM a cyI cyJ th df la fo x1.1 x1.2.1 x1.2.2.1 dr fm sz om os x1.2.2.2.1 x1.2.2.2.2.1 x1.2.2.2.2.2.1 x1.2.2.2.2.2.2 ++ Y) N p0 x3 hx4) (va_cwS 1 C0.1.2.2.2.2 gX4_errorOfValue_X4_isCell rfl rfl rfl (by decide +kernel) ⟨Nat.le_of_ble_eq_true rfl, Nat.le_of_ble_eq_true rfl⟩) rfl hl.1 rfl (Nat.le_of_ble_eq_true rfl) dX4_errorOfValue_5 ⟨Nat.zero_le _, Nat.zero_le _⟩ (fun r u H locs hw Z => ?_)
  subst hw
  refine lv_if_ne (tgt := 15) C0.1.1 C0.1.2.1 dX4_errorOfValue_8 (by decide) (fun hc => ?_) (fun hc => ?_)
  · replace h := (if_neg hc).symm.trans h
    refine lv_aload_n C0.1.1 C0.1.2.1 dX4_errorOfValue_15 rfl (lv_at hl 0 rfl) ?_
    refine g_get (ci := 6) (v := .ref (a 7)) (T := TX4) (N := 16) C0.1 Z 0 rfl rfl 10 (by decide) kX4_errorOfValue_in kX4_errorOfValue_f29 rfl rfl dX4_errorOfValue_16 ?_
    refine lv_iload_n C0.1.1 C0.1.2.1 dX4_errorOfValue_19 rfl (lv_at hl 1 rfl) ?_
    obtain ⟨hi5, h⟩ := g_ni h
    refine g_iald (f := x1.2.2.2.1) (n := 30) C0.1 Z 7 0 rfl rfl hi5 dX4_errorOfValue_20 ?_
    refine lv_iconst (v := 2) C0.1.1 C0.1.2.1 dX4_errorOfValue_21 (by decide) ?_
    refine lv_icmp_ne (tgt := 29) C0.1.1 C0.1.2.1 dX4_errorOfValue_22 (by decide) (fun hc => ?_) (fun hc => ?_)
    · replace h := (if_neg hc).symm.trans h
      refine lv_iconst (v := 0) C0.1.1 C0.1.2.1 dX4_errorOfValue_29 (by decide) ?_
      exact wX4_errorOfValue_30 (N := N) C0 hret x1.1 x1.2.1 x1.2.2.1 x1.2.2.2.1 x1.2.2.2.2.1 x1.2.2.2.2.2.1 x1.2.2.2.2.2.2 (0 : Int32) _ _ _ h Z (lv_sub hl [] rfl)
    · replace h := (if_pos hc).symm.trans h
      refine lv_iconst (v := 2) C0.1.1 C0.1.2.1 dX4_errorOfValue_25 (by decide) ?_
      refine lv_goto (tgt := 30) C0.1.1 C0.1.2.1 dX4_errorOfValue_26 (by decide) ?_
      exact wX4_errorOfValue_30 (N := N) C0 hret x1.1 x1.2.1 x1.2.2.1 x1.2.2.2.1 x1.2.2.2.2.1 x1.2.2.2.2.2.1 x1.2.2.2.2.2.2 (2 : Int32) _ _ _ h Z (lv_sub hl [] rfl)
  · replace h := (if_pos hc).symm.trans h
    refine lv_iconst (v := 1) C0.1.1 C0.1.2.1 dX4_errorOfValue_11 (by decide) ?_
    refine lv_goto (tgt := 30) C0.1.1 C0.1.2.1 dX4_errorOfValue_12 (by decide) ?_
    exact wX4_errorOfValue_30 (N := N) C0 hret x1.1 x1.2.1 x1.2.2.1 x1.2.2.2.1 x1.2.2.2.2.1 x1.2.2.2.2.2.1 x1.2.2.2.2.2.2 (1 : Int32) _ _ _ h Z (lv_sub hl [] rfl)
/-! X4_value -/
abbrev rmX4_value : Room := { frames := 7, cells := 0, slots := 0, locals := 165 }
theorem kX4_value_f25 : Cond.fieldLink RX4 25 "GoalseekOfficeModel" "values" "[J" ∈ wsX4_value := by decide +kernel
theorem kX4_value_in : ∀ w ∈ wsX40, w ∈ wsX4_value := by decide +kernel
def mX4_value_22 (N : Nat) (fm : Nat → Int32) (sz : Nat → Int32) (th : Int32) (he : Int32) (wt : Int32) (br : Int32) (st : Nat → Int32) (wa : Nat → Int32) (va : Nat → Int64) (sk : Nat → Int64) (s0 : Int64) : Option (Int64 × Int32 × Int32 × Int32 × Int32 × (Nat → Int32) × (Nat → Int32) × (Nat → Int64) × (Nat → Int64)) := some (s0, th, he, wt, br, st, wa, va, sk)
def mX4_value (N : Nat) (fm : Nat → Int32) (sz : Nat → Int32) (th : Int32) (he : Int32) (wt : Int32) (br : Int32) (st : Nat → Int32) (wa : Nat → Int32) (va : Nat → Int64) (sk : Nat → Int64) (p0 : Int32) : Option (Int64 × Int32 × Int32 × Int32 × Int32 × (Nat → Int32) × (Nat → Int32) × (Nat → Int64) × (Nat → Int64)) := ((mX4_errorOfValue N fm sz he wt br st wa va sk p0).bind fun x1 => ((mX4_holds N th x1.1).bind fun x3 => (if x3.1 = 0 then mX4_value_22 N fm sz x3.2 x1.2.1 x1.2.2.1 x1.2.2.2.1 x1.2.2.2.2.1 x1.2.2.2.2.2.1 x1.2.2.2.2.2.2.1 x1.2.2.2.2.2.2.2 (0 : Int64) else (if p0 < 0 ∨ 30 ≤ p0.toNatClampNeg then none else mX4_value_22 N fm sz x3.2 x1.2.1 x1.2.2.1 x1.2.2.2.1 x1.2.2.2.2.1 x1.2.2.2.2.2.1 x1.2.2.2.2.2.2.1 x1.2.2.2.2.2.2.2 (x1.2.2.2.2.2.2.1 p0.toNatClampNeg)))))
set_option maxRecDepth 20000 in
set_option maxHeartbeats 4000000 in
theorem wX4_value_22 {p : Program} {l : Launch} {e : Env} {s : State} {m : MethodId} {args : Array Value} {below : List Frame} {meth : Method} {c : Code} {Q : State → Prop} {D : va_G} {cyI cyJ cyO : ClassId} {A : Nat → Prop} {bs : Nat} {a : Nat → Nat} {Y : va_W} {df : Int32} {la : Int32} {fo : Int32} {dr : Nat → Int32} {fm : Nat → Int32} {sz : Nat → Int32} {om : Nat → Int32} {os : Nat → Int32} {N : Nat} {res : Int64 × Int32 × Int32 × Int32 × Int32 × (Nat → Int32) × (Nat → Int32) × (Nat → Int64) × (Nat → Int64)} (C0 : gC p m meth c cX4_value 2 (some .long) s args wsX4_value RX4) (hret : ∀ (r : Int64) (th_r : Int32) (he_r : Int32) (wt_r : Int32) (br_r : Int32) (st_r : Nat → Int32) (wa_r : Nat → Int32) (va_r : Nat → Int64) (sk_r : Nat → Int64) (H : Heap) (locs : List Loc) (pc : Nat) (ls : Array Slot), some (r, th_r, he_r, wt_r, br_r, st_r, wa_r, va_r, sk_r) = some res → gZ D (gT cyI cyJ cyO) (XM a cyI cyJ th_r df la fo he_r wt_r br_r dr fm sz om os st_r wa_r va_r sk_r ++ Y) A bs s H locs → decode cX4_value pc = .ok (.lreturn, 1) → W p l e rmX4_value s m args below meth c H locs 0 0 Q (F0 m pc ls [.long r]))  : ∀ (th : Int32) (he : Int32) (wt : Int32) (br : Int32) (st : Nat → Int32) (wa : Nat → Int32) (va : Nat → Int64) (sk : Nat → Int64) (s0 : Int64) (H : Heap) (locs : List Loc) (ls : Array Slot), mX4_value_22 N fm sz th he wt br st wa va sk s0 = some res → gZ D (gT cyI cyJ cyO) (XM a cyI cyJ th df la fo he wt br dr fm sz om os st wa va sk ++ Y) A bs s H locs → lv_has ls 2 [] → W p l e rmX4_value s m args below meth c H locs 0 0 Q (F0 m 22 ls [.long s0]) := by
  intro th he wt br st wa va sk s0 H locs ls h Z hl
  unfold mX4_value_22 at h
  exact hret s0 th he wt br st wa va sk _ _ _ _ h Z dX4_value_22
set_option maxRecDepth 20000 in
set_option maxHeartbeats 4000000 in
theorem zX4_value (l : Launch) (D : va_G) (cyI cyJ cyO : ClassId) (A : Nat → Prop) (bs : Nat) (hA : ∀ q, bs ≤ q → A q) (a : Nat → Nat) (Y : va_W) (th : Int32) (df : Int32) (la : Int32) (fo : Int32) (he : Int32) (wt : Int32) (br : Int32) (dr : Nat → Int32) (fm : Nat → Int32) (sz : Nat → Int32) (om : Nat → Int32) (os : Nat → Int32) (st : Nat → Int32) (wa : Nat → Int32) (va : Nat → Int64) (sk : Nat → Int64) (N : Nat) (p0 : Int32) (res : Int64 × Int32 × Int32 × Int32 × Int32 × (Nat → Int32) × (Nat → Int32) × (Nat → Int64) × (Nat → Int64)) (h : mX4_value N fm sz th he wt br st wa va sk p0 = some res) : Met l yX4_value wsX4_value rmX4_value (va_Pc [.ref (a 0), .int p0] (gW D (gT cyI cyJ cyO) (XM a cyI cyJ th df la fo he wt br dr fm sz om os st wa va sk ++ Y) A bs)) (va_Ql (fun (r : Int64) (u : Int32 × Int32 × Int32 × Int32 × (Nat → Int32) × (Nat → Int32) × (Nat → Int64) × (Nat → Int64)) => res.1 = r ∧ res.2 = u) (fun (u : Int32 × Int32 × Int32 × Int32 × (Nat → Int32) × (Nat → Int32) × (Nat → Int64) × (Nat → Int64)) U => gW D (gT cyI cyJ cyO) (XM a cyI cyJ u.1 df la fo u.2.1 u.2.2.1 u.2.2.2.1 dr fm sz om os u.2.2.2.2.1 u.2.2.2.2.2.1 u.2.2.2.2.2.2.1 u.2.2.2.2.2.2.2 ++ Y) A bs U) A) 0 0 A := by
  refine Met.ofW (cc := cX4_value) (maxL := 2) (ret := (some .long)) (by decide) rfl ?_
  intro p e s m args below meth c s₁ B hml hv
  obtain ⟨hav, hv⟩ := hv
  have C0 : gC p m meth c cX4_value 2 (some .long) s args wsX4_value RX4 := ⟨⟨B.exec, B.bytes, hml, findClass_of_methodNamed B.named, atoms_spec (ws := wsX4_value) B.pre⟩, B.returns, B.notSynchronized⟩
  have Z := g_start hA hv
  have hret : ∀ (r : Int64) (th_r : Int32) (he_r : Int32) (wt_r : Int32) (br_r : Int32) (st_r : Nat → Int32) (wa_r : Nat → Int32) (va_r : Nat → Int64) (sk_r : Nat → Int64) (H : Heap) (locs : List Loc) (pc : Nat) (ls : Array Slot), some (r, th_r, he_r, wt_r, br_r, st_r, wa_r, va_r, sk_r) = some res → gZ D (gT cyI cyJ cyO) (XM a cyI cyJ th_r df la fo he_r wt_r br_r dr fm sz om os st_r wa_r va_r sk_r ++ Y) A bs s H locs → decode cX4_value pc = .ok (.lreturn, 1) → W p l e rmX4_value s m args below meth c H locs 0 0 (MQ below (va_Ql (fun (r : Int64) (u : Int32 × Int32 × Int32 × Int32 × (Nat → Int32) × (Nat → Int32) × (Nat → Int64) × (Nat → Int64)) => res.1 = r ∧ res.2 = u) (fun (u : Int32 × Int32 × Int32 × Int32 × (Nat → Int32) × (Nat → Int32) × (Nat → Int64) × (Nat → Int64)) U => gW D (gT cyI cyJ cyO) (XM a cyI cyJ u.1 df la fo u.2.1 u.2.2.1 u.2.2.2.1 dr fm sz om os u.2.2.2.2.1 u.2.2.2.2.2.1 u.2.2.2.2.2.2.1 u.2.2.2.2.2.2.2 ++ Y) A bs U) A) args s 0 0 A) (F0 m pc ls [.long r]) := by
    intro r th_r he_r wt_r br_r st_r wa_r va_r sk_r H locs pc ls h Z hd
    replace h := Option.some.inj h
    exact W.lret C0.1.1 C0.1.2.1 C0.2.1 (fun t ht hW => ⟨⟨r, (th_r, he_r, wt_r, br_r, st_r, wa_r, va_r, sk_r), rfl, ⟨congrArg Prod.fst h.symm, congrArg Prod.snd h.symm⟩, g_end Z ht hW⟩, Z.2.2.2.1.F ht⟩) Z.2.2.2.1.2.2 hd C0.2.2
  have hl := lv_entry ([.ref (a 0), .int p0]) (n := 2) (Nat.le_of_ble_eq_true rfl)
  rw [hav, lg_entry_eq]
  generalize (lg_sl ([.ref (a 0), .int p0]) ++ List.replicate (2 - (lg_sl ([.ref (a 0), .int p0])).length) Slot.unset).toArray = ls at hl ⊢
  have hl : lv_has ls 2 [(0, .ref (a 0)), (1, .int p0)] := hl
  rw [← hav]
  unfold mX4_value at h
  refine lv_aload_n C0.1.1 C0.1.2.1 dX4_value_0 rfl (lv_at hl 0 rfl) ?_
  refine lv_aload_n C0.1.1 C0.1.2.1 dX4_value_1 rfl (lv_at hl 0 rfl) ?_
  refine lv_iload_n C0.1.1 C0.1.2.1 dX4_value_2 rfl (lv_at hl 1 rfl) ?_
  obtain ⟨x1, hx2, h⟩ := g_bd h
  refine g_callVi (b := a 0) (As := [.int p0]) (rest := [.ref (a 0)]) (ws' := (fun (u : Int32 × Int32 × Int32 × (Nat → Int32) × (Nat → Int32) × (Nat → Int64) × (Nat → Int64)) => (XM a cyI cyJ th df la fo u.1 u.2.1 u.2.2.1 dr fm sz om os u.2.2.2.1 u.2.2.2.2.1 u.2.2.2.2.2.1 u.2.2.2.2.2.2 ++ Y))) C0.1 Z (zX4_errorOfValue l D cyI cyJ cyO A bs Z.2.2.2.2.2 a Y th df la fo he wt br dr fm sz om os st wa va sk N p0 x1 hx2) (cwV 1 C0.1.2.2.2.2 gX4_value_X4_errorOfValue rfl rfl rfl (by decide +kernel) ⟨Nat.le_of_ble_eq_true rfl, Nat.le_of_ble_eq_true rfl⟩) 0 (ci := 6) rfl rfl rfl rfl hl.1 rfl (Nat.le_of_ble_eq_true rfl) dX4_value_3 ⟨Nat.zero_le _, Nat.zero_le _⟩ (fun r u H locs hw Z => ?_)
  obtain ⟨rfl, rfl⟩ := hw
  obtain ⟨x3, hx4, h⟩ := g_bd h
  refine g_callVi (b := a 0) (As := [.int x1.1]) (rest := []) (ws' := (fun (u : Int32) => (XM a cyI cyJ u df la fo x1.2.1 x1.2.2.1 x1.2.2.2.1 dr fm sz om os x1.2.2.2.2.1 x1.2.2.2.2.2.1 x1.2.2.2.2.2.2.1 x1.2.2.2.2.2.2.2 ++ Y))) C0.1 Z (zX4_holds l D cyI cyJ cyO A bs Z.2.2.2.2.2 a Y th df la fo x1.2.1 x1.2.2.1 x1.2.2.2.1 dr fm sz om os x1.2.2.2.2.1 x1.2.2.2.2.2.1 x1.2.2.2.2.2.2.1 x1.2.2.2.2.2.2.2 N x1.1 x3 hx4) (cwV 1 C0.1.2.2.2.2 gX4_value_X4_holds rfl rfl rfl (by decide +kernel) ⟨Nat.le_of_ble_eq_true rfl, Nat.le_of_ble_eq_true rfl⟩) 0 (ci := 6) rfl rfl rfl rfl hl.1 rfl (Nat.le_of_ble_eq_true rfl) dX4_value_6 ⟨Nat.zero_le _, Nat.zero_le _⟩ (fun r u H locs hw Z => ?_)
  obtain ⟨rfl, rfl⟩ := hw
  refine lv_if_eq (tgt := 21) C0.1.1 C0.1.2.1 dX4_value_9 (by decide) (fun hc => ?_) (fun hc => ?_)
  · replace h := (if_pos hc).symm.trans h
    refine lv_lconst (v := 0) C0.1.1 C0.1.2.1 dX4_value_21 (by decide) ?_
    exact wX4_value_22 (N := N) C0 hret x3.2 x1.2.1 x1.2.2.1 x1.2.2.2.1 x1.2.2.2.2.1 x1.2.2.2.2.2.1 x1.2.2.2.2.2.2.1 x1.2.2.2.2.2.2.2 (0 : Int64) _ _ _ h Z (lv_sub hl [] rfl)
  · replace h := (if_neg hc).symm.trans h
    refine lv_aload_n C0.1.1 C0.1.2.1 dX4_value_12 rfl (lv_at hl 0 rfl) ?_
    refine g_get (ci := 6) (v := .ref (a 6)) (T := TX4) (N := 16) C0.1 Z 0 rfl rfl 9 (by decide) kX4_value_in kX4_value_f25 rfl rfl dX4_value_13 ?_
    refine lv_iload_n C0.1.1 C0.1.2.1 dX4_value_16 rfl (lv_at hl 1 rfl) ?_
    obtain ⟨hi5, h⟩ := g_ni h
    refine g_lald (f := x1.2.2.2.2.2.2.1) (n := 30) C0.1 Z 6 1 rfl rfl hi5 dX4_value_17 ?_
    refine lv_goto (tgt := 22) C0.1.1 C0.1.2.1 dX4_value_18 (by decide) ?_
    exact wX4_value_22 (N := N) C0 hret x3.2 x1.2.1 x1.2.2.1 x1.2.2.2.1 x1.2.2.2.2.1 x1.2.2.2.2.2.1 x1.2.2.2.2.2.2.1 x1.2.2.2.2.2.2.2 (x1.2.2.2.2.2.2.1 p0.toNatClampNeg) _ _ _ h Z (lv_sub hl [] rfl)
/-! X4_valueAnew -/
abbrev rmX4_valueAnew : Room := { frames := 7, cells := 0, slots := 0, locals := 165 }
theorem kX4_valueAnew_f25 : Cond.fieldLink RX4 25 "GoalseekOfficeModel" "values" "[J" ∈ wsX4_valueAnew := by decide +kernel
theorem kX4_valueAnew_in : ∀ w ∈ wsX40, w ∈ wsX4_valueAnew := by decide +kernel
def mX4_valueAnew_22 (N : Nat) (fm : Nat → Int32) (sz : Nat → Int32) (th : Int32) (he : Int32) (wt : Int32) (br : Int32) (st : Nat → Int32) (wa : Nat → Int32) (va : Nat → Int64) (sk : Nat → Int64) (s0 : Int64) : Option (Int64 × Int32 × Int32 × Int32 × Int32 × (Nat → Int32) × (Nat → Int32) × (Nat → Int64) × (Nat → Int64)) := some (s0, th, he, wt, br, st, wa, va, sk)
def mX4_valueAnew (N : Nat) (fm : Nat → Int32) (sz : Nat → Int32) (th : Int32) (he : Int32) (wt : Int32) (br : Int32) (st : Nat → Int32) (wa : Nat → Int32) (va : Nat → Int64) (sk : Nat → Int64) (p0 : Int32) : Option (Int64 × Int32 × Int32 × Int32 × Int32 × (Nat → Int32) × (Nat → Int32) × (Nat → Int64) × (Nat → Int64)) := ((mX4_errorOfValue N fm sz he wt br st wa va sk p0).bind fun x1 => ((mX4_holds N th x1.1).bind fun x3 => (if x3.1 = 0 then mX4_valueAnew_22 N fm sz x3.2 x1.2.1 x1.2.2.1 x1.2.2.2.1 x1.2.2.2.2.1 x1.2.2.2.2.2.1 x1.2.2.2.2.2.2.1 x1.2.2.2.2.2.2.2 (0 : Int64) else (if p0 < 0 ∨ 30 ≤ p0.toNatClampNeg then none else mX4_valueAnew_22 N fm sz x3.2 x1.2.1 x1.2.2.1 x1.2.2.2.1 x1.2.2.2.2.1 x1.2.2.2.2.2.1 x1.2.2.2.2.2.2.1 x1.2.2.2.2.2.2.2 (x1.2.2.2.2.2.2.1 p0.toNatClampNeg)))))
set_option maxRecDepth 20000 in
set_option maxHeartbeats 4000000 in
theorem wX4_valueAnew_22 {p : Program} {l : Launch} {e : Env} {s : State} {m : MethodId} {args : Array Value} {below : List Frame} {meth : Method} {c : Code} {Q : State → Prop} {D : va_G} {cyI cyJ cyO : ClassId} {A : Nat → Prop} {bs : Nat} {a : Nat → Nat} {Y : va_W} {df : Int32} {la : Int32} {fo : Int32} {dr : Nat → Int32} {fm : Nat → Int32} {sz : Nat → Int32} {om : Nat → Int32} {os : Nat → Int32} {N : Nat} {res : Int64 × Int32 × Int32 × Int32 × Int32 × (Nat → Int32) × (Nat → Int32) × (Nat → Int64) × (Nat → Int64)} (C0 : gC p m meth c cX4_valueAnew 2 (some .long) s args wsX4_valueAnew RX4) (hret : ∀ (r : Int64) (th_r : Int32) (he_r : Int32) (wt_r : Int32) (br_r : Int32) (st_r : Nat → Int32) (wa_r : Nat → Int32) (va_r : Nat → Int64) (sk_r : Nat → Int64) (H : Heap) (locs : List Loc) (pc : Nat) (ls : Array Slot), some (r, th_r, he_r, wt_r, br_r, st_r, wa_r, va_r, sk_r) = some res → gZ D (gT cyI cyJ cyO) (XM a cyI cyJ th_r df la fo he_r wt_r br_r dr fm sz om os st_r wa_r va_r sk_r ++ Y) A bs s H locs → decode cX4_valueAnew pc = .ok (.lreturn, 1) → W p l e rmX4_valueAnew s m args below meth c H locs 0 0 Q (F0 m pc ls [.long r]))  : ∀ (th : Int32) (he : Int32) (wt : Int32) (br : Int32) (st : Nat → Int32) (wa : Nat → Int32) (va : Nat → Int64) (sk : Nat → Int64) (s0 : Int64) (H : Heap) (locs : List Loc) (ls : Array Slot), mX4_valueAnew_22 N fm sz th he wt br st wa va sk s0 = some res → gZ D (gT cyI cyJ cyO) (XM a cyI cyJ th df la fo he wt br dr fm sz om os st wa va sk ++ Y) A bs s H locs → lv_has ls 2 [] → W p l e rmX4_valueAnew s m args below meth c H locs 0 0 Q (F0 m 22 ls [.long s0]) := by
  intro th he wt br st wa va sk s0 H locs ls h Z hl
  unfold mX4_valueAnew_22 at h
  exact hret s0 th he wt br st wa va sk _ _ _ _ h Z dX4_valueAnew_22
set_option maxRecDepth 20000 in
set_option maxHeartbeats 4000000 in
theorem zX4_valueAnew (l : Launch) (D : va_G) (cyI cyJ cyO : ClassId) (A : Nat → Prop) (bs : Nat) (hA : ∀ q, bs ≤ q → A q) (a : Nat → Nat) (Y : va_W) (th : Int32) (df : Int32) (la : Int32) (fo : Int32) (he : Int32) (wt : Int32) (br : Int32) (dr : Nat → Int32) (fm : Nat → Int32) (sz : Nat → Int32) (om : Nat → Int32) (os : Nat → Int32) (st : Nat → Int32) (wa : Nat → Int32) (va : Nat → Int64) (sk : Nat → Int64) (N : Nat) (p0 : Int32) (res : Int64 × Int32 × Int32 × Int32 × Int32 × (Nat → Int32) × (Nat → Int32) × (Nat → Int64) × (Nat → Int64)) (h : mX4_valueAnew N fm sz th he wt br st wa va sk p0 = some res) : Met l yX4_valueAnew wsX4_valueAnew rmX4_valueAnew (va_Pc [.ref (a 0), .int p0] (gW D (gT cyI cyJ cyO) (XM a cyI cyJ th df la fo he wt br dr fm sz om os st wa va sk ++ Y) A bs)) (va_Ql (fun (r : Int64) (u : Int32 × Int32 × Int32 × Int32 × (Nat → Int32) × (Nat → Int32) × (Nat → Int64) × (Nat → Int64)) => res.1 = r ∧ res.2 = u) (fun (u : Int32 × Int32 × Int32 × Int32 × (Nat → Int32) × (Nat → Int32) × (Nat → Int64) × (Nat → Int64)) U => gW D (gT cyI cyJ cyO) (XM a cyI cyJ u.1 df la fo u.2.1 u.2.2.1 u.2.2.2.1 dr fm sz om os u.2.2.2.2.1 u.2.2.2.2.2.1 u.2.2.2.2.2.2.1 u.2.2.2.2.2.2.2 ++ Y) A bs U) A) 0 0 A := by
  refine Met.ofW (cc := cX4_valueAnew) (maxL := 2) (ret := (some .long)) (by decide) rfl ?_
  intro p e s m args below meth c s₁ B hml hv
  obtain ⟨hav, hv⟩ := hv
  have C0 : gC p m meth c cX4_valueAnew 2 (some .long) s args wsX4_valueAnew RX4 := ⟨⟨B.exec, B.bytes, hml, findClass_of_methodNamed B.named, atoms_spec (ws := wsX4_valueAnew) B.pre⟩, B.returns, B.notSynchronized⟩
  have Z := g_start hA hv
  have hret : ∀ (r : Int64) (th_r : Int32) (he_r : Int32) (wt_r : Int32) (br_r : Int32) (st_r : Nat → Int32) (wa_r : Nat → Int32) (va_r : Nat → Int64) (sk_r : Nat → Int64) (H : Heap) (locs : List Loc) (pc : Nat) (ls : Array Slot), some (r, th_r, he_r, wt_r, br_r, st_r, wa_r, va_r, sk_r) = some res → gZ D (gT cyI cyJ cyO) (XM a cyI cyJ th_r df la fo he_r wt_r br_r dr fm sz om os st_r wa_r va_r sk_r ++ Y) A bs s H locs → decode cX4_valueAnew pc = .ok (.lreturn, 1) → W p l e rmX4_valueAnew s m args below meth c H locs 0 0 (MQ below (va_Ql (fun (r : Int64) (u : Int32 × Int32 × Int32 × Int32 × (Nat → Int32) × (Nat → Int32) × (Nat → Int64) × (Nat → Int64)) => res.1 = r ∧ res.2 = u) (fun (u : Int32 × Int32 × Int32 × Int32 × (Nat → Int32) × (Nat → Int32) × (Nat → Int64) × (Nat → Int64)) U => gW D (gT cyI cyJ cyO) (XM a cyI cyJ u.1 df la fo u.2.1 u.2.2.1 u.2.2.2.1 dr fm sz om os u.2.2.2.2.1 u.2.2.2.2.2.1 u.2.2.2.2.2.2.1 u.2.2.2.2.2.2.2 ++ Y) A bs U) A) args s 0 0 A) (F0 m pc ls [.long r]) := by
    intro r th_r he_r wt_r br_r st_r wa_r va_r sk_r H locs pc ls h Z hd
    replace h := Option.some.inj h
    exact W.lret C0.1.1 C0.1.2.1 C0.2.1 (fun t ht hW => ⟨⟨r, (th_r, he_r, wt_r, br_r, st_r, wa_r, va_r, sk_r), rfl, ⟨congrArg Prod.fst h.symm, congrArg Prod.snd h.symm⟩, g_end Z ht hW⟩, Z.2.2.2.1.F ht⟩) Z.2.2.2.1.2.2 hd C0.2.2
  have hl := lv_entry ([.ref (a 0), .int p0]) (n := 2) (Nat.le_of_ble_eq_true rfl)
  rw [hav, lg_entry_eq]
  generalize (lg_sl ([.ref (a 0), .int p0]) ++ List.replicate (2 - (lg_sl ([.ref (a 0), .int p0])).length) Slot.unset).toArray = ls at hl ⊢
  have hl : lv_has ls 2 [(0, .ref (a 0)), (1, .int p0)] := hl
  rw [← hav]
  unfold mX4_valueAnew at h
  refine lv_aload_n C0.1.1 C0.1.2.1 dX4_valueAnew_0 rfl (lv_at hl 0 rfl) ?_
  refine lv_aload_n C0.1.1 C0.1.2.1 dX4_valueAnew_1 rfl (lv_at hl 0 rfl) ?_
  refine lv_iload_n C0.1.1 C0.1.2.1 dX4_valueAnew_2 rfl (lv_at hl 1 rfl) ?_
  obtain ⟨x1, hx2, h⟩ := g_bd h
  refine g_callVi (b := a 0) (As := [.int p0]) (rest := [.ref (a 0)]) (ws' := (fun (u : Int32 × Int32 × Int32 × (Nat → Int32) × (Nat → Int32) × (Nat → Int64) × (Nat → Int64)) => (XM a cyI cyJ th df la fo u.1 u.2.1 u.2.2.1 dr fm sz om os u.2.2.2.1 u.2.2.2.2.1 u.2.2.2.2.2.1 u.2.2.2.2.2.2 ++ Y))) C0.1 Z (zX4_errorOfValue l D cyI cyJ cyO A bs Z.2.2.2.2.2 a Y th df la fo he wt br dr fm sz om os st wa va sk N p0 x1 hx2) (cwV 1 C0.1.2.2.2.2 gX4_valueAnew_X4_errorOfValue rfl rfl rfl (by decide +kernel) ⟨Nat.le_of_ble_eq_true rfl, Nat.le_of_ble_eq_true rfl⟩) 0 (ci := 6) rfl rfl rfl rfl hl.1 rfl (Nat.le_of_ble_eq_true rfl) dX4_valueAnew_3 ⟨Nat.zero_le _, Nat.zero_le _⟩ (fun r u H locs hw Z => ?_)
  obtain ⟨rfl, rfl⟩ := hw
  obtain ⟨x3, hx4, h⟩ := g_bd h
  refine g_callVi (b := a 0) (As := [.int x1.1]) (rest := []) (ws' := (fun (u : Int32) => (XM a cyI cyJ u df la fo x1.2.1 x1.2.2.1 x1.2.2.2.1 dr fm sz om os x1.2.2.2.2.1 x1.2.2.2.2.2.1 x1.2.2.2.2.2.2.1 x1.2.2.2.2.2.2.2 ++ Y))) C0.1 Z (zX4_holds l D cyI cyJ cyO A bs Z.2.2.2.2.2 a Y th df la fo x1.2.1 x1.2.2.1 x1.2.2.2.1 dr fm sz om os x1.2.2.2.2.1 x1.2.2.2.2.2.1 x1.2.2.2.2.2.2.1 x1.2.2.2.2.2.2.2 N x1.1 x3 hx4) (cwV 1 C0.1.2.2.2.2 gX4_valueAnew_X4_holds rfl rfl rfl (by decide +kernel) ⟨Nat.le_of_ble_eq_true rfl, Nat.le_of_ble_eq_true rfl⟩) 0 (ci := 6) rfl rfl rfl rfl hl.1 rfl (Nat.le_of_ble_eq_true rfl) dX4_valueAnew_6 ⟨Nat.zero_le _, Nat.zero_le _⟩ (fun r u H locs hw Z => ?_)
  obtain ⟨rfl, rfl⟩ := hw
  refine lv_if_eq (tgt := 21) C0.1.1 C0.1.2.1 dX4_valueAnew_9 (by decide) (fun hc => ?_) (fun hc => ?_)
  · replace h := (if_pos hc).symm.trans h
    refine lv_lconst (v := 0) C0.1.1 C0.1.2.1 dX4_valueAnew_21 (by decide) ?_
    exact wX4_valueAnew_22 (N := N) C0 hret x3.2 x1.2.1 x1.2.2.1 x1.2.2.2.1 x1.2.2.2.2.1 x1.2.2.2.2.2.1 x1.2.2.2.2.2.2.1 x1.2.2.2.2.2.2.2 (0 : Int64) _ _ _ h Z (lv_sub hl [] rfl)
  · replace h := (if_neg hc).symm.trans h
    refine lv_aload_n C0.1.1 C0.1.2.1 dX4_valueAnew_12 rfl (lv_at hl 0 rfl) ?_
    refine g_get (ci := 6) (v := .ref (a 6)) (T := TX4) (N := 16) C0.1 Z 0 rfl rfl 9 (by decide) kX4_valueAnew_in kX4_valueAnew_f25 rfl rfl dX4_valueAnew_13 ?_
    refine lv_iload_n C0.1.1 C0.1.2.1 dX4_valueAnew_16 rfl (lv_at hl 1 rfl) ?_
    obtain ⟨hi5, h⟩ := g_ni h
    refine g_lald (f := x1.2.2.2.2.2.2.1) (n := 30) C0.1 Z 6 1 rfl rfl hi5 dX4_valueAnew_17 ?_
    refine lv_goto (tgt := 22) C0.1.1 C0.1.2.1 dX4_valueAnew_18 (by decide) ?_
    exact wX4_valueAnew_22 (N := N) C0 hret x3.2 x1.2.1 x1.2.2.1 x1.2.2.2.1 x1.2.2.2.2.1 x1.2.2.2.2.2.1 x1.2.2.2.2.2.2.1 x1.2.2.2.2.2.2.2 (x1.2.2.2.2.2.2.1 p0.toNatClampNeg) _ _ _ h Z (lv_sub hl [] rfl)
/-! X4_signs -/
abbrev rmX4_signs : Room := { frames := 2, cells := 0, slots := 0, locals := 42 }
theorem kX4_signs_f16 : Cond.fieldLink RX4 16 "GoalseekOfficeModel" "sizes" "[I" ∈ wsX4_signs := by decide +kernel
theorem kX4_signs_in : ∀ w ∈ wsX40, w ∈ wsX4_signs := by decide +kernel
def mX4_signs_29 (N : Nat) (sz : Nat → Int32) (th : Int32) (s0 : Int32) : Option (Int32 × Int32) := some (s0, th)
def mX4_signs_13 (N : Nat) (sz : Nat → Int32) (th : Int32) (v1 : Int32) (s1 : Int32) : Option (Int32 × Int32) := ((mX4_holds N th s1).bind fun x1 => (if x1.1 = 0 then mX4_signs_29 N sz x1.2 (0 : Int32) else (if v1 < 0 ∨ 30 ≤ v1.toNatClampNeg then none else mX4_signs_29 N sz x1.2 (sz v1.toNatClampNeg))))
def mX4_signs (N : Nat) (sz : Nat → Int32) (th : Int32) (p0 : Int32) : Option (Int32 × Int32) := ((mX4_isCell N p0).bind fun x4 => (if x4 = 0 then mX4_signs_13 N sz th p0 (1 : Int32) else mX4_signs_13 N sz th p0 (0 : Int32)))
set_option maxRecDepth 20000 in
set_option maxHeartbeats 4000000 in
theorem wX4_signs_29 {p : Program} {l : Launch} {e : Env} {s : State} {m : MethodId} {args : Array Value} {below : List Frame} {meth : Method} {c : Code} {Q : State → Prop} {D : va_G} {cyI cyJ cyO : ClassId} {A : Nat → Prop} {bs : Nat} {a : Nat → Nat} {Y : va_W} {df : Int32} {la : Int32} {fo : Int32} {he : Int32} {wt : Int32} {br : Int32} {dr : Nat → Int32} {fm : Nat → Int32} {sz : Nat → Int32} {om : Nat → Int32} {os : Nat → Int32} {st : Nat → Int32} {wa : Nat → Int32} {va : Nat → Int64} {sk : Nat → Int64} {N : Nat} {res : Int32 × Int32} (C0 : gC p m meth c cX4_signs 2 (some .int) s args wsX4_signs RX4) (hret : ∀ (r : Int32) (th_r : Int32) (H : Heap) (locs : List Loc) (pc : Nat) (ls : Array Slot), some (r, th_r) = some res → gZ D (gT cyI cyJ cyO) (XM a cyI cyJ th_r df la fo he wt br dr fm sz om os st wa va sk ++ Y) A bs s H locs → decode cX4_signs pc = .ok (.ireturn, 1) → W p l e rmX4_signs s m args below meth c H locs 0 0 Q (F0 m pc ls [.int r]))  : ∀ (th : Int32) (s0 : Int32) (H : Heap) (locs : List Loc) (ls : Array Slot), mX4_signs_29 N sz th s0 = some res → gZ D (gT cyI cyJ cyO) (XM a cyI cyJ th df la fo he wt br dr fm sz om os st wa va sk ++ Y) A bs s H locs → lv_has ls 2 [] → W p l e rmX4_signs s m args below meth c H locs 0 0 Q (F0 m 29 ls [.int s0]) := by
  intro th s0 H locs ls h Z hl
  unfold mX4_signs_29 at h
  exact hret s0 th _ _ _ _ h Z dX4_signs_29
set_option maxRecDepth 20000 in
set_option maxHeartbeats 4000000 in
theorem wX4_signs_13 {p : Program} {l : Launch} {e : Env} {s : State} {m : MethodId} {args : Array Value} {below : List Frame} {meth : Method} {c : Code} {Q : State → Prop} {D : va_G} {cyI cyJ cyO : ClassId} {A : Nat → Prop} {bs : Nat} {a : Nat → Nat} {Y : va_W} {df : Int32} {la : Int32} {fo : Int32} {he : Int32} {wt : Int32} {br : Int32} {dr : Nat → Int32} {fm : Nat → Int32} {sz : Nat → Int32} {om : Nat → Int32} {os : Nat → Int32} {st : Nat → Int32} {wa : Nat → Int32} {va : Nat → Int64} {sk : Nat → Int64} {N : Nat} {res : Int32 × Int32} (C0 : gC p m meth c cX4_signs 2 (some .int) s args wsX4_signs RX4) (hret : ∀ (r : Int32) (th_r : Int32) (H : Heap) (locs : List Loc) (pc : Nat) (ls : Array Slot), some (r, th_r) = some res → gZ D (gT cyI cyJ cyO) (XM a cyI cyJ th_r df la fo he wt br dr fm sz om os st wa va sk ++ Y) A bs s H locs → decode cX4_signs pc = .ok (.ireturn, 1) → W p l e rmX4_signs s m args below meth c H locs 0 0 Q (F0 m pc ls [.int r]))  : ∀ (th : Int32) (v1 : Int32) (s1 : Int32) (H : Heap) (locs : List Loc) (ls : Array Slot), mX4_signs_13 N sz th v1 s1 = some res → gZ D (gT cyI cyJ cyO) (XM a cyI cyJ th df la fo he wt br dr fm sz om os st wa va sk ++ Y) A bs s H locs → lv_has ls 2 [(0, .ref (a 0)), (1, .int v1)] → W p l e rmX4_signs s m args below meth c H locs 0 0 Q (F0 m 13 ls [.int s1, .ref (a 0)]) := by
  intro th v1 s1 H locs ls h Z hl
  unfold mX4_signs_13 at h
  obtain ⟨x1, hx2, h⟩ := g_bd h
  refine g_callVi (b := a 0) (As := [.int s1]) (rest := []) (ws' := (fun (u : Int32) => (XM a cyI cyJ u df la fo he wt br dr fm sz om os st wa va sk ++ Y))) C0.1 Z (zX4_holds l D cyI cyJ cyO A bs Z.2.2.2.2.2 a Y th df la fo he wt br dr fm sz om os st wa va sk N s1 x1 hx2) (cwV 1 C0.1.2.2.2.2 gX4_signs_X4_holds rfl rfl rfl (by decide +kernel) ⟨Nat.le_of_ble_eq_true rfl, Nat.le_of_ble_eq_true rfl⟩) 0 (ci := 6) rfl rfl rfl rfl hl.1 rfl (Nat.le_of_ble_eq_true rfl) dX4_signs_13 ⟨Nat.zero_le _, Nat.zero_le _⟩ (fun r u H locs hw Z => ?_)
  obtain ⟨rfl, rfl⟩ := hw
  refine lv_if_eq (tgt := 28) C0.1.1 C0.1.2.1 dX4_signs_16 (by decide) (fun hc => ?_) (fun hc => ?_)
  · replace h := (if_pos hc).symm.trans h
    refine lv_iconst (v := 0) C0.1.1 C0.1.2.1 dX4_signs_28 (by decide) ?_
    exact wX4_signs_29 (N := N) C0 hret x1.2 (0 : Int32) _ _ _ h Z (lv_sub hl [] rfl)
  · replace h := (if_neg hc).symm.trans h
    refine lv_aload_n C0.1.1 C0.1.2.1 dX4_signs_19 rfl (lv_at hl 0 rfl) ?_
    refine g_get (ci := 6) (v := .ref (a 3)) (T := TX4) (N := 16) C0.1 Z 0 rfl rfl 4 (by decide) kX4_signs_in kX4_signs_f16 rfl rfl dX4_signs_20 ?_
    refine lv_iload_n C0.1.1 C0.1.2.1 dX4_signs_23 rfl (lv_at hl 1 rfl) ?_
    obtain ⟨hi3, h⟩ := g_ni h
    refine g_iald (f := sz) (n := 30) C0.1 Z 3 0 rfl rfl hi3 dX4_signs_24 ?_
    refine lv_goto (tgt := 29) C0.1.1 C0.1.2.1 dX4_signs_25 (by decide) ?_
    exact wX4_signs_29 (N := N) C0 hret x1.2 (sz v1.toNatClampNeg) _ _ _ h Z (lv_sub hl [] rfl)
set_option maxRecDepth 20000 in
set_option maxHeartbeats 4000000 in
theorem zX4_signs (l : Launch) (D : va_G) (cyI cyJ cyO : ClassId) (A : Nat → Prop) (bs : Nat) (hA : ∀ q, bs ≤ q → A q) (a : Nat → Nat) (Y : va_W) (th : Int32) (df : Int32) (la : Int32) (fo : Int32) (he : Int32) (wt : Int32) (br : Int32) (dr : Nat → Int32) (fm : Nat → Int32) (sz : Nat → Int32) (om : Nat → Int32) (os : Nat → Int32) (st : Nat → Int32) (wa : Nat → Int32) (va : Nat → Int64) (sk : Nat → Int64) (N : Nat) (p0 : Int32) (res : Int32 × Int32) (h : mX4_signs N sz th p0 = some res) : Met l yX4_signs wsX4_signs rmX4_signs (va_Pc [.ref (a 0), .int p0] (gW D (gT cyI cyJ cyO) (XM a cyI cyJ th df la fo he wt br dr fm sz om os st wa va sk ++ Y) A bs)) (va_Qi (fun (r : Int32) (u : Int32) => res.1 = r ∧ res.2 = u) (fun (u : Int32) U => gW D (gT cyI cyJ cyO) (XM a cyI cyJ u df la fo he wt br dr fm sz om os st wa va sk ++ Y) A bs U) A) 0 0 A := by
  refine Met.ofW (cc := cX4_signs) (maxL := 2) (ret := (some .int)) (by decide) rfl ?_
  intro p e s m args below meth c s₁ B hml hv
  obtain ⟨hav, hv⟩ := hv
  have C0 : gC p m meth c cX4_signs 2 (some .int) s args wsX4_signs RX4 := ⟨⟨B.exec, B.bytes, hml, findClass_of_methodNamed B.named, atoms_spec (ws := wsX4_signs) B.pre⟩, B.returns, B.notSynchronized⟩
  have Z := g_start hA hv
  have hret : ∀ (r : Int32) (th_r : Int32) (H : Heap) (locs : List Loc) (pc : Nat) (ls : Array Slot), some (r, th_r) = some res → gZ D (gT cyI cyJ cyO) (XM a cyI cyJ th_r df la fo he wt br dr fm sz om os st wa va sk ++ Y) A bs s H locs → decode cX4_signs pc = .ok (.ireturn, 1) → W p l e rmX4_signs s m args below meth c H locs 0 0 (MQ below (va_Qi (fun (r : Int32) (u : Int32) => res.1 = r ∧ res.2 = u) (fun (u : Int32) U => gW D (gT cyI cyJ cyO) (XM a cyI cyJ u df la fo he wt br dr fm sz om os st wa va sk ++ Y) A bs U) A) args s 0 0 A) (F0 m pc ls [.int r]) := by
    intro r th_r H locs pc ls h Z hd
    replace h := Option.some.inj h
    exact W.iret C0.1.1 C0.1.2.1 C0.2.1 (fun t ht hW => ⟨⟨r, (th_r), rfl, ⟨congrArg Prod.fst h.symm, congrArg Prod.snd h.symm⟩, g_end Z ht hW⟩, Z.2.2.2.1.F ht⟩) Z.2.2.2.1.2.2 hd C0.2.2
  have hl := lv_entry ([.ref (a 0), .int p0]) (n := 2) (Nat.le_of_ble_eq_true rfl)
  rw [hav, lg_entry_eq]
  generalize (lg_sl ([.ref (a 0), .int p0]) ++ List.replicate (2 - (lg_sl ([.ref (a 0), .int p0])).length) Slot.unset).toArray = ls at hl ⊢
  have hl : lv_has ls 2 [(0, .ref (a 0)), (1, .int p0)] := hl
  rw [← hav]
  unfold mX4_signs at h
  refine lv_aload_n C0.1.1 C0.1.2.1 dX4_signs_0 rfl (lv_at hl 0 rfl) ?_
  refine lv_iload_n C0.1.1 C0.1.2.1 dX4_signs_1 rfl (lv_at hl 1 rfl) ?_
  obtain ⟨x4, hx5, h⟩ := g_bd h
  refine g_callSi (As := [.int p0]) (rest := [.ref (a 0)]) (ws' := (fun (u : Unit) => (XM a cyI cyJ th df la fo he wt br dr fm sz om os st wa va sk ++ Y))) C0.1 Z (zX4_isCell l D cyI cyJ cyO A bs Z.2.2.2.2.2 (XM a cyI cyJ th df la fo he wt br dr fm sz om os st wa va sk ++ Y) N p0 x4 hx5) (va_cwS 1 C0.1.2.2.2.2 gX4_signs_X4_isCell rfl rfl rfl (by decide +kernel) ⟨Nat.le_of_ble_eq_true rfl, Nat.le_of_ble_eq_true rfl⟩) rfl hl.1 rfl (Nat.le_of_ble_eq_true rfl) dX4_signs_2 ⟨Nat.zero_le _, Nat.zero_le _⟩ (fun r u H locs hw Z => ?_)
  subst hw
  refine lv_if_eq (tgt := 12) C0.1.1 C0.1.2.1 dX4_signs_5 (by decide) (fun hc => ?_) (fun hc => ?_)
  · replace h := (if_pos hc).symm.trans h
    refine lv_iconst (v := 1) C0.1.1 C0.1.2.1 dX4_signs_12 (by decide) ?_
    exact wX4_signs_13 (N := N) C0 hret th p0 (1 : Int32) _ _ _ h Z (lv_sub hl [0, 1] rfl)
  · replace h := (if_neg hc).symm.trans h
    refine lv_iconst (v := 0) C0.1.1 C0.1.2.1 dX4_signs_8 (by decide) ?_
    refine lv_goto (tgt := 13) C0.1.1 C0.1.2.1 dX4_signs_9 (by decide) ?_
    exact wX4_signs_13 (N := N) C0 hret th p0 (0 : Int32) _ _ _ h Z (lv_sub hl [0, 1] rfl)
/-! X4_level -/
abbrev rmX4_level : Room := { frames := 3, cells := 0, slots := 0, locals := 67 }
def mX4_level_71 (N : Nat) (fm : Nat → Int32) (sz : Nat → Int32) (r29 : Int32 → Int32 → Int32 → Option (Int32 × Int32)) (r42 : Int32 → Int32 → Int32 → Int32 → Int32 → Option (Int32 × Int32)) (th : Int32) (v2 : Int32) (v3 : Int32) (v5 : Int32) (s0 : Int32) (s1 : Int32) : Option (Int32 × Int32) := r42 th v2 v3 (s0 ||| s1) (v5 + (1 : Int32))
def mX4_level_42_b (N : Nat) (fm : Nat → Int32) (sz : Nat → Int32) (r29 : Int32 → Int32 → Int32 → Option (Int32 × Int32)) (r42 : Int32 → Int32 → Int32 → Int32 → Int32 → Option (Int32 × Int32)) (th : Int32) (v2 : Int32) (v3 : Int32) (v4 : Int32) (v5 : Int32) : Option (Int32 × Int32) := (if (30 : Int32) ≤ v5 then r29 th v2 v4 else (if ((v3 >>> (v5 &&& 31)) &&& (1 : Int32)) = (1 : Int32) then ((mX4_refersOf N fm sz v5).bind fun x1 => mX4_level_71 N fm sz r29 r42 th v2 v3 v5 v4 x1) else mX4_level_71 N fm sz r29 r42 th v2 v3 v5 v4 (0 : Int32)))
def mX4_level_42 (N : Nat) (fm : Nat → Int32) (sz : Nat → Int32) (r29 : Int32 → Int32 → Int32 → Option (Int32 × Int32)) : Nat → Int32 → Int32 → Int32 → Int32 → Int32 → Option (Int32 × Int32)
  | 0 => fun _ _ _ _ _ => none
  | n + 1 => fun th v2 v3 v4 v5 => mX4_level_42_b N fm sz r29 (mX4_level_42 N fm sz r29 n) th v2 v3 v4 v5
def mX4_level_29_b (N : Nat) (fm : Nat → Int32) (sz : Nat → Int32) (r29 : Int32 → Int32 → Int32 → Option (Int32 × Int32)) (th : Int32) (v2 : Int32) (v3 : Int32) : Option (Int32 × Int32) := (if v3 = 0 then some (v2, th) else mX4_level_42 N fm sz r29 N th (v2 + (1 : Int32)) v3 (0 : Int32) (0 : Int32))
def mX4_level_29 (N : Nat) (fm : Nat → Int32) (sz : Nat → Int32) : Nat → Int32 → Int32 → Int32 → Option (Int32 × Int32)
  | 0 => fun _ _ _ => none
  | n + 1 => fun th v2 v3 => mX4_level_29_b N fm sz (mX4_level_29 N fm sz n) th v2 v3
def mX4_level_13 (N : Nat) (fm : Nat → Int32) (sz : Nat → Int32) (th : Int32) (v1 : Int32) (s1 : Int32) : Option (Int32 × Int32) := ((mX4_holds N th s1).bind fun x3 => (if x3.1 = 0 then some ((0 : Int32), x3.2) else ((mX4_refersOf N fm sz v1).bind fun x5 => mX4_level_29 N fm sz N x3.2 (0 : Int32) x5)))
def mX4_level (N : Nat) (fm : Nat → Int32) (sz : Nat → Int32) (th : Int32) (p0 : Int32) : Option (Int32 × Int32) := ((mX4_isCell N p0).bind fun x7 => (if x7 = 0 then mX4_level_13 N fm sz th p0 (1 : Int32) else mX4_level_13 N fm sz th p0 (0 : Int32)))
set_option maxRecDepth 20000 in
set_option maxHeartbeats 4000000 in
theorem wX4_level_71 {p : Program} {l : Launch} {e : Env} {s : State} {m : MethodId} {args : Array Value} {below : List Frame} {meth : Method} {c : Code} {Q : State → Prop} {D : va_G} {cyI cyJ cyO : ClassId} {A : Nat → Prop} {bs : Nat} {a : Nat → Nat} {Y : va_W} {df : Int32} {la : Int32} {fo : Int32} {he : Int32} {wt : Int32} {br : Int32} {dr : Nat → Int32} {fm : Nat → Int32} {sz : Nat → Int32} {om : Nat → Int32} {os : Nat → Int32} {st : Nat → Int32} {wa : Nat → Int32} {va : Nat → Int64} {sk : Nat → Int64} {N : Nat} {res : Int32 × Int32} (C0 : gC p m meth c cX4_level 6 (some .int) s args wsX4_level RX4) (hret : ∀ (r : Int32) (th_r : Int32) (H : Heap) (locs : List Loc) (pc : Nat) (ls : Array Slot), some (r, th_r) = some res → gZ D (gT cyI cyJ cyO) (XM a cyI cyJ th_r df la fo he wt br dr fm sz om os st wa va sk ++ Y) A bs s H locs → decode cX4_level pc = .ok (.ireturn, 1) → W p l e rmX4_level s m args below meth c H locs 0 0 Q (F0 m pc ls [.int r])) {r29 : Int32 → Int32 → Int32 → Option (Int32 × Int32)} (hr29 : ∀ (th : Int32) (v2 : Int32) (v3 : Int32) (H : Heap) (locs : List Loc) (ls : Array Slot), r29 th v2 v3 = some res → gZ D (gT cyI cyJ cyO) (XM a cyI cyJ th df la fo he wt br dr fm sz om os st wa va sk ++ Y) A bs s H locs → lv_has ls 6 [(0, .ref (a 0)), (2, .int v2), (3, .int v3)] → W p l e rmX4_level s m args below meth c H locs 0 0 Q (F0 m 29 ls [])) {r42 : Int32 → Int32 → Int32 → Int32 → Int32 → Option (Int32 × Int32)} (hr42 : ∀ (th : Int32) (v2 : Int32) (v3 : Int32) (v4 : Int32) (v5 : Int32) (H : Heap) (locs : List Loc) (ls : Array Slot), r42 th v2 v3 v4 v5 = some res → gZ D (gT cyI cyJ cyO) (XM a cyI cyJ th df la fo he wt br dr fm sz om os st wa va sk ++ Y) A bs s H locs → lv_has ls 6 [(0, .ref (a 0)), (2, .int v2), (3, .int v3), (4, .int v4), (5, .int v5)] → W p l e rmX4_level s m args below meth c H locs 0 0 Q (F0 m 42 ls [])) : ∀ (th : Int32) (v2 : Int32) (v3 : Int32) (v5 : Int32) (s0 : Int32) (s1 : Int32) (H : Heap) (locs : List Loc) (ls : Array Slot), mX4_level_71 N fm sz r29 r42 th v2 v3 v5 s0 s1 = some res → gZ D (gT cyI cyJ cyO) (XM a cyI cyJ th df la fo he wt br dr fm sz om os st wa va sk ++ Y) A bs s H locs → lv_has ls 6 [(0, .ref (a 0)), (2, .int v2), (3, .int v3), (5, .int v5)] → W p l e rmX4_level s m args below meth c H locs 0 0 Q (F0 m 71 ls [.int s1, .int s0]) := by
  intro th v2 v3 v5 s0 s1 H locs ls h Z hl
  unfold mX4_level_71 at h
  refine lv_ior C0.1.1 C0.1.2.1 dX4_level_71 ?_
  refine lv_istore (lv' := [(4, .int (s0 ||| s1)), (0, .ref (a 0)), (2, .int v2), (3, .int v3), (5, .int v5)]) C0.1.1 C0.1.2.1 dX4_level_72 hl (by decide) rfl (fun ls hl => ?_)
  refine lv_iinc (v := v5 + (1 : Int32)) (lv' := [(5, .int (v5 + (1 : Int32))), (4, .int (s0 ||| s1)), (0, .ref (a 0)), (2, .int v2), (3, .int v3)]) C0.1.1 C0.1.2.1 dX4_level_74 hl (k := 4) rfl rfl (by decide) rfl (fun ls hl => ?_)
  refine lv_goto (tgt := 42) C0.1.1 C0.1.2.1 dX4_level_77 (by decide) ?_
  exact hr42 th v2 v3 (s0 ||| s1) (v5 + (1 : Int32)) _ _ _ h Z (lv_sub hl [2, 3, 4, 1, 0] rfl)
set_option maxRecDepth 20000 in
set_option maxHeartbeats 4000000 in
theorem wX4_level_42_b {p : Program} {l : Launch} {e : Env} {s : State} {m : MethodId} {args : Array Value} {below : List Frame} {meth : Method} {c : Code} {Q : State → Prop} {D : va_G} {cyI cyJ cyO : ClassId} {A : Nat → Prop} {bs : Nat} {a : Nat → Nat} {Y : va_W} {df : Int32} {la : Int32} {fo : Int32} {he : Int32} {wt : Int32} {br : Int32} {dr : Nat → Int32} {fm : Nat → Int32} {sz : Nat → Int32} {om : Nat → Int32} {os : Nat → Int32} {st : Nat → Int32} {wa : Nat → Int32} {va : Nat → Int64} {sk : Nat → Int64} {N : Nat} {res : Int32 × Int32} (C0 : gC p m meth c cX4_level 6 (some .int) s args wsX4_level RX4) (hret : ∀ (r : Int32) (th_r : Int32) (H : Heap) (locs : List Loc) (pc : Nat) (ls : Array Slot), some (r, th_r) = some res → gZ D (gT cyI cyJ cyO) (XM a cyI cyJ th_r df la fo he wt br dr fm sz om os st wa va sk ++ Y) A bs s H locs → decode cX4_level pc = .ok (.ireturn, 1) → W p l e rmX4_level s m args below meth c H locs 0 0 Q (F0 m pc ls [.int r])) {r29 : Int32 → Int32 → Int32 → Option (Int32 × Int32)} (hr29 : ∀ (th : Int32) (v2 : Int32) (v3 : Int32) (H : Heap) (locs : List Loc) (ls : Array Slot), r29 th v2 v3 = some res → gZ D (gT cyI cyJ cyO) (XM a cyI cyJ th df la fo he wt br dr fm sz om os st wa va sk ++ Y) A bs s H locs → lv_has ls 6 [(0, .ref (a 0)), (2, .int v2), (3, .int v3)] → W p l e rmX4_level s m args below meth c H locs 0 0 Q (F0 m 29 ls [])) {r42 : Int32 → Int32 → Int32 → Int32 → Int32 → Option (Int32 × Int32)} (hr42 : ∀ (th : Int32) (v2 : Int32) (v3 : Int32) (v4 : Int32) (v5 : Int32) (H : Heap) (locs : List Loc) (ls : Array Slot), r42 th v2 v3 v4 v5 = some res → gZ D (gT cyI cyJ cyO) (XM a cyI cyJ th df la fo he wt br dr fm sz om os st wa va sk ++ Y) A bs s H locs → lv_has ls 6 [(0, .ref (a 0)), (2, .int v2), (3, .int v3), (4, .int v4), (5, .int v5)] → W p l e rmX4_level s m args below meth c H locs 0 0 Q (F0 m 42 ls [])) : ∀ (th : Int32) (v2 : Int32) (v3 : Int32) (v4 : Int32) (v5 : Int32) (H : Heap) (locs : List Loc) (ls : Array Slot), mX4_level_42_b N fm sz r29 r42 th v2 v3 v4 v5 = some res → gZ D (gT cyI cyJ cyO) (XM a cyI cyJ th df la fo he wt br dr fm sz om os st wa va sk ++ Y) A bs s H locs → lv_has ls 6 [(0, .ref (a 0)), (2, .int v2), (3, .int v3), (4, .int v4), (5, .int v5)] → W p l e rmX4_level s m args below meth c H locs 0 0 Q (F0 m 42 ls []) := by
  intro th v2 v3 v4 v5 H locs ls h Z hl
  unfold mX4_level_42_b at h
  refine lv_iload C0.1.1 C0.1.2.1 dX4_level_42 (lv_at hl 4 rfl) ?_
  refine lv_bipush (v := 30) C0.1.1 C0.1.2.1 dX4_level_44 (by decide +kernel) ?_
  refine lv_icmp_ge (tgt := 80) C0.1.1 C0.1.2.1 dX4_level_46 (by decide) (fun hc => ?_) (fun hc => ?_)
  · replace h := (if_pos hc).symm.trans h
    refine lv_iload C0.1.1 C0.1.2.1 dX4_level_80 (lv_at hl 3 rfl) ?_
    refine lv_istore_n (lv' := [(3, .int v4), (0, .ref (a 0)), (2, .int v2), (4, .int v4), (5, .int v5)]) C0.1.1 C0.1.2.1 dX4_level_82 rfl hl (by decide) rfl (fun ls hl => ?_)
    refine lv_goto (tgt := 29) C0.1.1 C0.1.2.1 dX4_level_83 (by decide) ?_
    exact hr29 th v2 v4 _ _ _ h Z (lv_sub hl [1, 2, 0] rfl)
  · replace h := (if_neg hc).symm.trans h
    refine lv_iload C0.1.1 C0.1.2.1 dX4_level_49 (lv_at hl 3 rfl) ?_
    refine lv_iload_n C0.1.1 C0.1.2.1 dX4_level_51 rfl (lv_at hl 2 rfl) ?_
    refine lv_iload C0.1.1 C0.1.2.1 dX4_level_52 (lv_at hl 4 rfl) ?_
    refine lv_ishr C0.1.1 C0.1.2.1 dX4_level_54 ?_
    refine lv_iconst (v := 1) C0.1.1 C0.1.2.1 dX4_level_55 (by decide) ?_
    refine lv_iand C0.1.1 C0.1.2.1 dX4_level_56 ?_
    refine lv_iconst (v := 1) C0.1.1 C0.1.2.1 dX4_level_57 (by decide) ?_
    refine lv_icmp_ne (tgt := 70) C0.1.1 C0.1.2.1 dX4_level_58 (by decide) (fun hc => ?_) (fun hc => ?_)
    · replace h := (if_neg hc).symm.trans h
      refine lv_iconst (v := 0) C0.1.1 C0.1.2.1 dX4_level_70 (by decide) ?_
      exact wX4_level_71 (N := N) C0 hret hr29 hr42 th v2 v3 v5 v4 (0 : Int32) _ _ _ h Z (lv_sub hl [0, 1, 2, 4] rfl)
    · replace h := (if_pos hc).symm.trans h
      refine lv_aload_n C0.1.1 C0.1.2.1 dX4_level_61 rfl (lv_at hl 0 rfl) ?_
      refine lv_iload C0.1.1 C0.1.2.1 dX4_level_62 (lv_at hl 4 rfl) ?_
      obtain ⟨x1, hx2, h⟩ := g_bd h
      refine g_callVi (b := a 0) (As := [.int v5]) (rest := [.int v4]) (ws' := (fun (u : Unit) => (XM a cyI cyJ th df la fo he wt br dr fm sz om os st wa va sk ++ Y))) C0.1 Z (zX4_refersOf l D cyI cyJ cyO A bs Z.2.2.2.2.2 a Y th df la fo he wt br dr fm sz om os st wa va sk N v5 x1 hx2) (cwV 1 C0.1.2.2.2.2 gX4_level_X4_refersOf rfl rfl rfl (by decide +kernel) ⟨Nat.le_of_ble_eq_true rfl, Nat.le_of_ble_eq_true rfl⟩) 0 (ci := 6) rfl rfl rfl rfl hl.1 rfl (Nat.le_of_ble_eq_true rfl) dX4_level_64 ⟨Nat.zero_le _, Nat.zero_le _⟩ (fun r u H locs hw Z => ?_)
      subst hw
      refine lv_goto (tgt := 71) C0.1.1 C0.1.2.1 dX4_level_67 (by decide) ?_
      exact wX4_level_71 (N := N) C0 hret hr29 hr42 th v2 v3 v5 v4 x1 _ _ _ h Z (lv_sub hl [0, 1, 2, 4] rfl)
theorem wX4_level_42 {p : Program} {l : Launch} {e : Env} {s : State} {m : MethodId} {args : Array Value} {below : List Frame} {meth : Method} {c : Code} {Q : State → Prop} {D : va_G} {cyI cyJ cyO : ClassId} {A : Nat → Prop} {bs : Nat} {a : Nat → Nat} {Y : va_W} {df : Int32} {la : Int32} {fo : Int32} {he : Int32} {wt : Int32} {br : Int32} {dr : Nat → Int32} {fm : Nat → Int32} {sz : Nat → Int32} {om : Nat → Int32} {os : Nat → Int32} {st : Nat → Int32} {wa : Nat → Int32} {va : Nat → Int64} {sk : Nat → Int64} {N : Nat} {res : Int32 × Int32} (C0 : gC p m meth c cX4_level 6 (some .int) s args wsX4_level RX4) (hret : ∀ (r : Int32) (th_r : Int32) (H : Heap) (locs : List Loc) (pc : Nat) (ls : Array Slot), some (r, th_r) = some res → gZ D (gT cyI cyJ cyO) (XM a cyI cyJ th_r df la fo he wt br dr fm sz om os st wa va sk ++ Y) A bs s H locs → decode cX4_level pc = .ok (.ireturn, 1) → W p l e rmX4_level s m args below meth c H locs 0 0 Q (F0 m pc ls [.int r])) {r29 : Int32 → Int32 → Int32 → Option (Int32 × Int32)} (hr29 : ∀ (th : Int32) (v2 : Int32) (v3 : Int32) (H : Heap) (locs : List Loc) (ls : Array Slot), r29 th v2 v3 = some res → gZ D (gT cyI cyJ cyO) (XM a cyI cyJ th df la fo he wt br dr fm sz om os st wa va sk ++ Y) A bs s H locs → lv_has ls 6 [(0, .ref (a 0)), (2, .int v2), (3, .int v3)] → W p l e rmX4_level s m args below meth c H locs 0 0 Q (F0 m 29 ls [])) : ∀ (n : Nat), ∀ (th : Int32) (v2 : Int32) (v3 : Int32) (v4 : Int32) (v5 : Int32) (H : Heap) (locs : List Loc) (ls : Array Slot), mX4_level_42 N fm sz r29 n th v2 v3 v4 v5 = some res → gZ D (gT cyI cyJ cyO) (XM a cyI cyJ th df la fo he wt br dr fm sz om os st wa va sk ++ Y) A bs s H locs → lv_has ls 6 [(0, .ref (a 0)), (2, .int v2), (3, .int v3), (4, .int v4), (5, .int v5)] → W p l e rmX4_level s m args below meth c H locs 0 0 Q (F0 m 42 ls []) := by
  intro n
  induction n with
  | zero => intro _ _ _ _ _ _ _ _ h; cases h
  | succ n ih => exact wX4_level_42_b (N := N) C0 hret hr29 ih
set_option maxRecDepth 20000 in
set_option maxHeartbeats 4000000 in
theorem wX4_level_29_b {p : Program} {l : Launch} {e : Env} {s : State} {m : MethodId} {args : Array Value} {below : List Frame} {meth : Method} {c : Code} {Q : State → Prop} {D : va_G} {cyI cyJ cyO : ClassId} {A : Nat → Prop} {bs : Nat} {a : Nat → Nat} {Y : va_W} {df : Int32} {la : Int32} {fo : Int32} {he : Int32} {wt : Int32} {br : Int32} {dr : Nat → Int32} {fm : Nat → Int32} {sz : Nat → Int32} {om : Nat → Int32} {os : Nat → Int32} {st : Nat → Int32} {wa : Nat → Int32} {va : Nat → Int64} {sk : Nat → Int64} {N : Nat} {res : Int32 × Int32} (C0 : gC p m meth c cX4_level 6 (some .int) s args wsX4_level RX4) (hret : ∀ (r : Int32) (th_r : Int32) (H : Heap) (locs : List Loc) (pc : Nat) (ls : Array Slot), some (r, th_r) = some res → gZ D (gT cyI cyJ cyO) (XM a cyI cyJ th_r df la fo he wt br dr fm sz om os st wa va sk ++ Y) A bs s H locs → decode cX4_level pc = .ok (.ireturn, 1) → W p l e rmX4_level s m args below meth c H locs 0 0 Q (F0 m pc ls [.int r])) {r29 : Int32 → Int32 → Int32 → Option (Int32 × Int32)} (hr29 : ∀ (th : Int32) (v2 : Int32) (v3 : Int32) (H : Heap) (locs : List Loc) (ls : Array Slot), r29 th v2 v3 = some res → gZ D (gT cyI cyJ cyO) (XM a cyI cyJ th df la fo he wt br dr fm sz om os st wa va sk ++ Y) A bs s H locs → lv_has ls 6 [(0, .ref (a 0)), (2, .int v2), (3, .int v3)] → W p l e rmX4_level s m args below meth c H locs 0 0 Q (F0 m 29 ls [])) : ∀ (th : Int32) (v2 : Int32) (v3 : Int32) (H : Heap) (locs : List Loc) (ls : Array Slot), mX4_level_29_b N fm sz r29 th v2 v3 = some res → gZ D (gT cyI cyJ cyO) (XM a cyI cyJ th df la fo he wt br dr fm sz om os st wa va sk ++ Y) A bs s H locs → lv_has ls 6 [(0, .ref (a 0)), (2, .int v2), (3, .int v3)] → W p l e rmX4_level s m args below meth c H locs 0 0 Q (F0 m 29 ls []) := by
  intro th v2 v3 H locs ls h Z hl
  unfold mX4_level_29_b at h
  refine lv_iload_n C0.1.1 C0.1.2.1 dX4_level_29 rfl (lv_at hl 2 rfl) ?_
  refine lv_if_eq (tgt := 86) C0.1.1 C0.1.2.1 dX4_level_30 (by decide) (fun hc => ?_) (fun hc => ?_)
  · replace h := (if_pos hc).symm.trans h
    refine lv_iload_n C0.1.1 C0.1.2.1 dX4_level_86 rfl (lv_at hl 1 rfl) ?_
    exact hret v2 th _ _ _ _ h Z dX4_level_87
  · replace h := (if_neg hc).symm.trans h
    refine lv_iinc (v := v2 + (1 : Int32)) (lv' := [(2, .int (v2 + (1 : Int32))), (0, .ref (a 0)), (3, .int v3)]) C0.1.1 C0.1.2.1 dX4_level_33 hl (k := 1) rfl rfl (by decide) rfl (fun ls hl => ?_)
    refine lv_iconst (v := 0) C0.1.1 C0.1.2.1 dX4_level_36 (by decide) ?_
    refine lv_istore (lv' := [(4, .int (0 : Int32)), (2, .int (v2 + (1 : Int32))), (0, .ref (a 0)), (3, .int v3)]) C0.1.1 C0.1.2.1 dX4_level_37 hl (by decide) rfl (fun ls hl => ?_)
    refine lv_iconst (v := 0) C0.1.1 C0.1.2.1 dX4_level_39 (by decide) ?_
    refine lv_istore (lv' := [(5, .int (0 : Int32)), (4, .int (0 : Int32)), (2, .int (v2 + (1 : Int32))), (0, .ref (a 0)), (3, .int v3)]) C0.1.1 C0.1.2.1 dX4_level_40 hl (by decide) rfl (fun ls hl => ?_)
    exact wX4_level_42 (N := N) C0 hret hr29 N th (v2 + (1 : Int32)) v3 (0 : Int32) (0 : Int32) _ _ _ h Z (lv_sub hl [3, 2, 4, 1, 0] rfl)
theorem wX4_level_29 {p : Program} {l : Launch} {e : Env} {s : State} {m : MethodId} {args : Array Value} {below : List Frame} {meth : Method} {c : Code} {Q : State → Prop} {D : va_G} {cyI cyJ cyO : ClassId} {A : Nat → Prop} {bs : Nat} {a : Nat → Nat} {Y : va_W} {df : Int32} {la : Int32} {fo : Int32} {he : Int32} {wt : Int32} {br : Int32} {dr : Nat → Int32} {fm : Nat → Int32} {sz : Nat → Int32} {om : Nat → Int32} {os : Nat → Int32} {st : Nat → Int32} {wa : Nat → Int32} {va : Nat → Int64} {sk : Nat → Int64} {N : Nat} {res : Int32 × Int32} (C0 : gC p m meth c cX4_level 6 (some .int) s args wsX4_level RX4) (hret : ∀ (r : Int32) (th_r : Int32) (H : Heap) (locs : List Loc) (pc : Nat) (ls : Array Slot), some (r, th_r) = some res → gZ D (gT cyI cyJ cyO) (XM a cyI cyJ th_r df la fo he wt br dr fm sz om os st wa va sk ++ Y) A bs s H locs → decode cX4_level pc = .ok (.ireturn, 1) → W p l e rmX4_level s m args below meth c H locs 0 0 Q (F0 m pc ls [.int r]))  : ∀ (n : Nat), ∀ (th : Int32) (v2 : Int32) (v3 : Int32) (H : Heap) (locs : List Loc) (ls : Array Slot), mX4_level_29 N fm sz n th v2 v3 = some res → gZ D (gT cyI cyJ cyO) (XM a cyI cyJ th df la fo he wt br dr fm sz om os st wa va sk ++ Y) A bs s H locs → lv_has ls 6 [(0, .ref (a 0)), (2, .int v2), (3, .int v3)] → W p l e rmX4_level s m args below meth c H locs 0 0 Q (F0 m 29 ls []) := by
  intro n
  induction n with
  | zero => intro _ _ _ _ _ _ h; cases h
  | succ n ih => exact wX4_level_29_b (N := N) C0 hret ih
set_option maxRecDepth 20000 in
set_option maxHeartbeats 4000000 in
theorem wX4_level_13 {p : Program} {l : Launch} {e : Env} {s : State} {m : MethodId} {args : Array Value} {below : List Frame} {meth : Method} {c : Code} {Q : State → Prop} {D : va_G} {cyI cyJ cyO : ClassId} {A : Nat → Prop} {bs : Nat} {a : Nat → Nat} {Y : va_W} {df : Int32} {la : Int32} {fo : Int32} {he : Int32} {wt : Int32} {br : Int32} {dr : Nat → Int32} {fm : Nat → Int32} {sz : Nat → Int32} {om : Nat → Int32} {os : Nat → Int32} {st : Nat → Int32} {wa : Nat → Int32} {va : Nat → Int64} {sk : Nat → Int64} {N : Nat} {res : Int32 × Int32} (C0 : gC p m meth c cX4_level 6 (some .int) s args wsX4_level RX4) (hret : ∀ (r : Int32) (th_r : Int32) (H : Heap) (locs : List Loc) (pc : Nat) (ls : Array Slot), some (r, th_r) = some res → gZ D (gT cyI cyJ cyO) (XM a cyI cyJ th_r df la fo he wt br dr fm sz om os st wa va sk ++ Y) A bs s H locs → decode cX4_level pc = .ok (.ireturn, 1) → W p l e rmX4_level s m args below meth c H locs 0 0 Q (F0 m pc ls [.int r]))  : ∀ (th : Int32) (v1 : Int32) (s1 : Int32) (H : Heap) (locs : List Loc) (ls : Array Slot), mX4_level_13 N fm sz th v1 s1 = some res → gZ D (gT cyI cyJ cyO) (XM a cyI cyJ th df la fo he wt br dr fm sz om os st wa va sk ++ Y) A bs s H locs → lv_has ls 6 [(0, .ref (a 0)), (1, .int v1)] → W p l e rmX4_level s m args below meth c H locs 0 0 Q (F0 m 13 ls [.int s1, .ref (a 0)]) := by
  intro th v1 s1 H locs ls h Z hl
  unfold mX4_level_13 at h
  obtain ⟨x3, hx4, h⟩ := g_bd h
  refine g_callVi (b := a 0) (As := [.int s1]) (rest := []) (ws' := (fun (u : Int32) => (XM a cyI cyJ u df la fo he wt br dr fm sz om os st wa va sk ++ Y))) C0.1 Z (zX4_holds l D cyI cyJ cyO A bs Z.2.2.2.2.2 a Y th df la fo he wt br dr fm sz om os st wa va sk N s1 x3 hx4) (cwV 1 C0.1.2.2.2.2 gX4_level_X4_holds rfl rfl rfl (by decide +kernel) ⟨Nat.le_of_ble_eq_true rfl, Nat.le_of_ble_eq_true rfl⟩) 0 (ci := 6) rfl rfl rfl rfl hl.1 rfl (Nat.le_of_ble_eq_true rfl) dX4_level_13 ⟨Nat.zero_le _, Nat.zero_le _⟩ (fun r u H locs hw Z => ?_)
  obtain ⟨rfl, rfl⟩ := hw
  refine lv_if_ne (tgt := 21) C0.1.1 C0.1.2.1 dX4_level_16 (by decide) (fun hc => ?_) (fun hc => ?_)
  · replace h := (if_neg hc).symm.trans h
    refine lv_iconst (v := 0) C0.1.1 C0.1.2.1 dX4_level_21 (by decide) ?_
    refine lv_istore_n (lv' := [(2, .int (0 : Int32)), (0, .ref (a 0)), (1, .int v1)]) C0.1.1 C0.1.2.1 dX4_level_22 rfl hl (by decide) rfl (fun ls hl => ?_)
    refine lv_aload_n C0.1.1 C0.1.2.1 dX4_level_23 rfl (lv_at hl 1 rfl) ?_
    refine lv_iload_n C0.1.1 C0.1.2.1 dX4_level_24 rfl (lv_at hl 2 rfl) ?_
    obtain ⟨x5, hx6, h⟩ := g_bd h
    refine g_callVi (b := a 0) (As := [.int v1]) (rest := []) (ws' := (fun (u : Unit) => (XM a cyI cyJ x3.2 df la fo he wt br dr fm sz om os st wa va sk ++ Y))) C0.1 Z (zX4_refersOf l D cyI cyJ cyO A bs Z.2.2.2.2.2 a Y x3.2 df la fo he wt br dr fm sz om os st wa va sk N v1 x5 hx6) (cwV 1 C0.1.2.2.2.2 gX4_level_X4_refersOf rfl rfl rfl (by decide +kernel) ⟨Nat.le_of_ble_eq_true rfl, Nat.le_of_ble_eq_true rfl⟩) 0 (ci := 6) rfl rfl rfl rfl hl.1 rfl (Nat.le_of_ble_eq_true rfl) dX4_level_25 ⟨Nat.zero_le _, Nat.zero_le _⟩ (fun r u H locs hw Z => ?_)
    subst hw
    refine lv_istore_n (lv' := [(3, .int x5), (2, .int (0 : Int32)), (0, .ref (a 0)), (1, .int v1)]) C0.1.1 C0.1.2.1 dX4_level_28 rfl hl (by decide) rfl (fun ls hl => ?_)
    exact wX4_level_29 (N := N) C0 hret N x3.2 (0 : Int32) x5 _ _ _ h Z (lv_sub hl [2, 1, 0] rfl)
  · replace h := (if_pos hc).symm.trans h
    refine lv_iconst (v := 0) C0.1.1 C0.1.2.1 dX4_level_19 (by decide) ?_
    exact hret (0 : Int32) x3.2 _ _ _ _ h Z dX4_level_20
set_option maxRecDepth 20000 in
set_option maxHeartbeats 4000000 in
theorem zX4_level (l : Launch) (D : va_G) (cyI cyJ cyO : ClassId) (A : Nat → Prop) (bs : Nat) (hA : ∀ q, bs ≤ q → A q) (a : Nat → Nat) (Y : va_W) (th : Int32) (df : Int32) (la : Int32) (fo : Int32) (he : Int32) (wt : Int32) (br : Int32) (dr : Nat → Int32) (fm : Nat → Int32) (sz : Nat → Int32) (om : Nat → Int32) (os : Nat → Int32) (st : Nat → Int32) (wa : Nat → Int32) (va : Nat → Int64) (sk : Nat → Int64) (N : Nat) (p0 : Int32) (res : Int32 × Int32) (h : mX4_level N fm sz th p0 = some res) : Met l yX4_level wsX4_level rmX4_level (va_Pc [.ref (a 0), .int p0] (gW D (gT cyI cyJ cyO) (XM a cyI cyJ th df la fo he wt br dr fm sz om os st wa va sk ++ Y) A bs)) (va_Qi (fun (r : Int32) (u : Int32) => res.1 = r ∧ res.2 = u) (fun (u : Int32) U => gW D (gT cyI cyJ cyO) (XM a cyI cyJ u df la fo he wt br dr fm sz om os st wa va sk ++ Y) A bs U) A) 0 0 A := by
  refine Met.ofW (cc := cX4_level) (maxL := 6) (ret := (some .int)) (by decide) rfl ?_
  intro p e s m args below meth c s₁ B hml hv
  obtain ⟨hav, hv⟩ := hv
  have C0 : gC p m meth c cX4_level 6 (some .int) s args wsX4_level RX4 := ⟨⟨B.exec, B.bytes, hml, findClass_of_methodNamed B.named, atoms_spec (ws := wsX4_level) B.pre⟩, B.returns, B.notSynchronized⟩
  have Z := g_start hA hv
  have hret : ∀ (r : Int32) (th_r : Int32) (H : Heap) (locs : List Loc) (pc : Nat) (ls : Array Slot), some (r, th_r) = some res → gZ D (gT cyI cyJ cyO) (XM a cyI cyJ th_r df la fo he wt br dr fm sz om os st wa va sk ++ Y) A bs s H locs → decode cX4_level pc = .ok (.ireturn, 1) → W p l e rmX4_level s m args below meth c H locs 0 0 (MQ below (va_Qi (fun (r : Int32) (u : Int32) => res.1 = r ∧ res.2 = u) (fun (u : Int32) U => gW D (gT cyI cyJ cyO) (XM a cyI cyJ u df la fo he wt br dr fm sz om os st wa va sk ++ Y) A bs U) A) args s 0 0 A) (F0 m pc ls [.int r]) := by
    intro r th_r H locs pc ls h Z hd
    replace h := Option.some.inj h
    exact W.iret C0.1.1 C0.1.2.1 C0.2.1 (fun t ht hW => ⟨⟨r, (th_r), rfl, ⟨congrArg Prod.fst h.symm, congrArg Prod.snd h.symm⟩, g_end Z ht hW⟩, Z.2.2.2.1.F ht⟩) Z.2.2.2.1.2.2 hd C0.2.2
  have hl := lv_entry ([.ref (a 0), .int p0]) (n := 6) (Nat.le_of_ble_eq_true rfl)
  rw [hav, lg_entry_eq]
  generalize (lg_sl ([.ref (a 0), .int p0]) ++ List.replicate (6 - (lg_sl ([.ref (a 0), .int p0])).length) Slot.unset).toArray = ls at hl ⊢
  have hl : lv_has ls 6 [(0, .ref (a 0)), (1, .int p0)] := hl
  rw [← hav]
  unfold mX4_level at h
  refine lv_aload_n C0.1.1 C0.1.2.1 dX4_level_0 rfl (lv_at hl 0 rfl) ?_
  refine lv_iload_n C0.1.1 C0.1.2.1 dX4_level_1 rfl (lv_at hl 1 rfl) ?_
  obtain ⟨x7, hx8, h⟩ := g_bd h
  refine g_callSi (As := [.int p0]) (rest := [.ref (a 0)]) (ws' := (fun (u : Unit) => (XM a cyI cyJ th df la fo he wt br dr fm sz om os st wa va sk ++ Y))) C0.1 Z (zX4_isCell l D cyI cyJ cyO A bs Z.2.2.2.2.2 (XM a cyI cyJ th df la fo he wt br dr fm sz om os st wa va sk ++ Y) N p0 x7 hx8) (va_cwS 1 C0.1.2.2.2.2 gX4_level_X4_isCell rfl rfl rfl (by decide +kernel) ⟨Nat.le_of_ble_eq_true rfl, Nat.le_of_ble_eq_true rfl⟩) rfl hl.1 rfl (Nat.le_of_ble_eq_true rfl) dX4_level_2 ⟨Nat.zero_le _, Nat.zero_le _⟩ (fun r u H locs hw Z => ?_)
  subst hw
  refine lv_if_eq (tgt := 12) C0.1.1 C0.1.2.1 dX4_level_5 (by decide) (fun hc => ?_) (fun hc => ?_)
  · replace h := (if_pos hc).symm.trans h
    refine lv_iconst (v := 1) C0.1.1 C0.1.2.1 dX4_level_12 (by decide) ?_
    exact wX4_level_13 (N := N) C0 hret th p0 (1 : Int32) _ _ _ h Z (lv_sub hl [0, 1] rfl)
  · replace h := (if_neg hc).symm.trans h
    refine lv_iconst (v := 0) C0.1.1 C0.1.2.1 dX4_level_8 (by decide) ?_
    refine lv_goto (tgt := 13) C0.1.1 C0.1.2.1 dX4_level_9 (by decide) ?_
    exact wX4_level_13 (N := N) C0 hret th p0 (0 : Int32) _ _ _ h Z (lv_sub hl [0, 1] rfl)
/-! X4_depends -/
abbrev rmX4_depends : Room := { frames := 5, cells := 0, slots := 0, locals := 113 }
def mX4_depends_40 (N : Nat) (fm : Nat → Int32) (sz : Nat → Int32) (th : Int32) (s0 : Int32) : Option (Int32 × Int32) := (if (s0 = 0 ∨ s0 = 1) then some (s0, th) else none)
def mX4_depends_39 (N : Nat) (fm : Nat → Int32) (sz : Nat → Int32) (th : Int32) : Option (Int32 × Int32) := mX4_depends_40 N fm sz th (0 : Int32)
def mX4_depends_20 (N : Nat) (fm : Nat → Int32) (sz : Nat → Int32) (th : Int32) (v1 : Int32) (v2 : Int32) (s1 : Int32) : Option (Int32 × Int32) := ((mX4_holds N th s1).bind fun x2 => (if x2.1 = 0 then mX4_depends_39 N fm sz x2.2 else ((mX4_doesDepend N fm sz v1 v2).bind fun x4 => (if x4 = 0 then mX4_depends_39 N fm sz x2.2 else mX4_depends_40 N fm sz x2.2 (1 : Int32)))))
def mX4_depends_19 (N : Nat) (fm : Nat → Int32) (sz : Nat → Int32) (th : Int32) (v1 : Int32) (v2 : Int32) : Option (Int32 × Int32) := mX4_depends_20 N fm sz th v1 v2 (1 : Int32)
def mX4_depends (N : Nat) (fm : Nat → Int32) (sz : Nat → Int32) (th : Int32) (p0 : Int32) (p1 : Int32) : Option (Int32 × Int32) := ((mX4_isCell N p0).bind fun x6 => (if x6 = 0 then mX4_depends_19 N fm sz th p0 p1 else ((mX4_isCell N p1).bind fun x8 => (if x8 = 0 then mX4_depends_19 N fm sz th p0 p1 else mX4_depends_20 N fm sz th p0 p1 (0 : Int32)))))
set_option maxRecDepth 20000 in
set_option maxHeartbeats 4000000 in
theorem wX4_depends_40 {p : Program} {l : Launch} {e : Env} {s : State} {m : MethodId} {args : Array Value} {below : List Frame} {meth : Method} {c : Code} {Q : State → Prop} {D : va_G} {cyI cyJ cyO : ClassId} {A : Nat → Prop} {bs : Nat} {a : Nat → Nat} {Y : va_W} {df : Int32} {la : Int32} {fo : Int32} {he : Int32} {wt : Int32} {br : Int32} {dr : Nat → Int32} {fm : Nat → Int32} {sz : Nat → Int32} {om : Nat → Int32} {os : Nat → Int32} {st : Nat → Int32} {wa : Nat → Int32} {va : Nat → Int64} {sk : Nat → Int64} {N : Nat} {res : Int32 × Int32} (C0 : gC p m meth c cX4_depends 3 (some .boolean) s args wsX4_depends RX4) (hret : ∀ (r : Int32) (th_r : Int32) (H : Heap) (locs : List Loc) (pc : Nat) (ls : Array Slot), (r = 0 ∨ r = 1) → some (r, th_r) = some res → gZ D (gT cyI cyJ cyO) (XM a cyI cyJ th_r df la fo he wt br dr fm sz om os st wa va sk ++ Y) A bs s H locs → decode cX4_depends pc = .ok (.ireturn, 1) → W p l e rmX4_depends s m args below meth c H locs 0 0 Q (F0 m pc ls [.int r]))  : ∀ (th : Int32) (s0 : Int32) (H : Heap) (locs : List Loc) (ls : Array Slot), mX4_depends_40 N fm sz th s0 = some res → gZ D (gT cyI cyJ cyO) (XM a cyI cyJ th df la fo he wt br dr fm sz om os st wa va sk ++ Y) A bs s H locs → lv_has ls 3 [] → W p l e rmX4_depends s m args below meth c H locs 0 0 Q (F0 m 40 ls [.int s0]) := by
  intro th s0 H locs ls h Z hl
  unfold mX4_depends_40 at h
  obtain ⟨hn1, h⟩ := g_yi h
  exact hret s0 th _ _ _ _ hn1 h Z dX4_depends_40
set_option maxRecDepth 20000 in
set_option maxHeartbeats 4000000 in
theorem wX4_depends_39 {p : Program} {l : Launch} {e : Env} {s : State} {m : MethodId} {args : Array Value} {below : List Frame} {meth : Method} {c : Code} {Q : State → Prop} {D : va_G} {cyI cyJ cyO : ClassId} {A : Nat → Prop} {bs : Nat} {a : Nat → Nat} {Y : va_W} {df : Int32} {la : Int32} {fo : Int32} {he : Int32} {wt : Int32} {br : Int32} {dr : Nat → Int32} {fm : Nat → Int32} {sz : Nat → Int32} {om : Nat → Int32} {os : Nat → Int32} {st : Nat → Int32} {wa : Nat → Int32} {va : Nat → Int64} {sk : Nat → Int64} {N : Nat} {res : Int32 × Int32} (C0 : gC p m meth c cX4_depends 3 (some .boolean) s args wsX4_depends RX4) (hret : ∀ (r : Int32) (th_r : Int32) (H : Heap) (locs : List Loc) (pc : Nat) (ls : Array Slot), (r = 0 ∨ r = 1) → some (r, th_r) = some res → gZ D (gT cyI cyJ cyO) (XM a cyI cyJ th_r df la fo he wt br dr fm sz om os st wa va sk ++ Y) A bs s H locs → decode cX4_depends pc = .ok (.ireturn, 1) → W p l e rmX4_depends s m args below meth c H locs 0 0 Q (F0 m pc ls [.int r]))  : ∀ (th : Int32) (H : Heap) (locs : List Loc) (ls : Array Slot), mX4_depends_39 N fm sz th = some res → gZ D (gT cyI cyJ cyO) (XM a cyI cyJ th df la fo he wt br dr fm sz om os st wa va sk ++ Y) A bs s H locs → lv_has ls 3 [] → W p l e rmX4_depends s m args below meth c H locs 0 0 Q (F0 m 39 ls []) := by
  intro th H locs ls h Z hl
  unfold mX4_depends_39 at h
  refine lv_iconst (v := 0) C0.1.1 C0.1.2.1 dX4_depends_39 (by decide) ?_
  exact wX4_depends_40 (N := N) C0 hret th (0 : Int32) _ _ _ h Z (lv_sub hl [] rfl)
set_option maxRecDepth 20000 in
set_option maxHeartbeats 4000000 in
theorem wX4_depends_20 {p : Program} {l : Launch} {e : Env} {s : State} {m : MethodId} {args : Array Value} {below : List Frame} {meth : Method} {c : Code} {Q : State → Prop} {D : va_G} {cyI cyJ cyO : ClassId} {A : Nat → Prop} {bs : Nat} {a : Nat → Nat} {Y : va_W} {df : Int32} {la : Int32} {fo : Int32} {he : Int32} {wt : Int32} {br : Int32} {dr : Nat → Int32} {fm : Nat → Int32} {sz : Nat → Int32} {om : Nat → Int32} {os : Nat → Int32} {st : Nat → Int32} {wa : Nat → Int32} {va : Nat → Int64} {sk : Nat → Int64} {N : Nat} {res : Int32 × Int32} (C0 : gC p m meth c cX4_depends 3 (some .boolean) s args wsX4_depends RX4) (hret : ∀ (r : Int32) (th_r : Int32) (H : Heap) (locs : List Loc) (pc : Nat) (ls : Array Slot), (r = 0 ∨ r = 1) → some (r, th_r) = some res → gZ D (gT cyI cyJ cyO) (XM a cyI cyJ th_r df la fo he wt br dr fm sz om os st wa va sk ++ Y) A bs s H locs → decode cX4_depends pc = .ok (.ireturn, 1) → W p l e rmX4_depends s m args below meth c H locs 0 0 Q (F0 m pc ls [.int r]))  : ∀ (th : Int32) (v1 : Int32) (v2 : Int32) (s1 : Int32) (H : Heap) (locs : List Loc) (ls : Array Slot), mX4_depends_20 N fm sz th v1 v2 s1 = some res → gZ D (gT cyI cyJ cyO) (XM a cyI cyJ th df la fo he wt br dr fm sz om os st wa va sk ++ Y) A bs s H locs → lv_has ls 3 [(0, .ref (a 0)), (1, .int v1), (2, .int v2)] → W p l e rmX4_depends s m args below meth c H locs 0 0 Q (F0 m 20 ls [.int s1, .ref (a 0)]) := by
  intro th v1 v2 s1 H locs ls h Z hl
  unfold mX4_depends_20 at h
  obtain ⟨x2, hx3, h⟩ := g_bd h
  refine g_callVi (b := a 0) (As := [.int s1]) (rest := []) (ws' := (fun (u : Int32) => (XM a cyI cyJ u df la fo he wt br dr fm sz om os st wa va sk ++ Y))) C0.1 Z (zX4_holds l D cyI cyJ cyO A bs Z.2.2.2.2.2 a Y th df la fo he wt br dr fm sz om os st wa va sk N s1 x2 hx3) (cwV 1 C0.1.2.2.2.2 gX4_depends_X4_holds rfl rfl rfl (by decide +kernel) ⟨Nat.le_of_ble_eq_true rfl, Nat.le_of_ble_eq_true rfl⟩) 0 (ci := 6) rfl rfl rfl rfl hl.1 rfl (Nat.le_of_ble_eq_true rfl) dX4_depends_20 ⟨Nat.zero_le _, Nat.zero_le _⟩ (fun r u H locs hw Z => ?_)
  obtain ⟨rfl, rfl⟩ := hw
  refine lv_if_eq (tgt := 39) C0.1.1 C0.1.2.1 dX4_depends_23 (by decide) (fun hc => ?_) (fun hc => ?_)
  · replace h := (if_pos hc).symm.trans h
    exact wX4_depends_39 (N := N) C0 hret x2.2 _ _ _ h Z (lv_sub hl [] rfl)
  · replace h := (if_neg hc).symm.trans h
    refine lv_aload_n C0.1.1 C0.1.2.1 dX4_depends_26 rfl (lv_at hl 0 rfl) ?_
    refine lv_iload_n C0.1.1 C0.1.2.1 dX4_depends_27 rfl (lv_at hl 1 rfl) ?_
    refine lv_iload_n C0.1.1 C0.1.2.1 dX4_depends_28 rfl (lv_at hl 2 rfl) ?_
    obtain ⟨x4, hx5, h⟩ := g_bd h
    refine g_callVi (b := a 0) (As := [.int v1, .int v2]) (rest := []) (ws' := (fun (u : Unit) => (XM a cyI cyJ x2.2 df la fo he wt br dr fm sz om os st wa va sk ++ Y))) C0.1 Z (zX4_doesDepend l D cyI cyJ cyO A bs Z.2.2.2.2.2 a Y x2.2 df la fo he wt br dr fm sz om os st wa va sk N v1 v2 x4 hx5) (cwV 2 C0.1.2.2.2.2 gX4_depends_X4_doesDepend rfl rfl rfl (by decide +kernel) ⟨Nat.le_of_ble_eq_true rfl, Nat.le_of_ble_eq_true rfl⟩) 0 (ci := 6) rfl rfl rfl rfl hl.1 rfl (Nat.le_of_ble_eq_true rfl) dX4_depends_29 ⟨Nat.zero_le _, Nat.zero_le _⟩ (fun r u H locs hw Z => ?_)
    subst hw
    refine lv_if_eq (tgt := 39) C0.1.1 C0.1.2.1 dX4_depends_32 (by decide) (fun hc => ?_) (fun hc => ?_)
    · replace h := (if_pos hc).symm.trans h
      exact wX4_depends_39 (N := N) C0 hret x2.2 _ _ _ h Z (lv_sub hl [] rfl)
    · replace h := (if_neg hc).symm.trans h
      refine lv_iconst (v := 1) C0.1.1 C0.1.2.1 dX4_depends_35 (by decide) ?_
      refine lv_goto (tgt := 40) C0.1.1 C0.1.2.1 dX4_depends_36 (by decide) ?_
      exact wX4_depends_40 (N := N) C0 hret x2.2 (1 : Int32) _ _ _ h Z (lv_sub hl [] rfl)
set_option maxRecDepth 20000 in
set_option maxHeartbeats 4000000 in
theorem wX4_depends_19 {p : Program} {l : Launch} {e : Env} {s : State} {m : MethodId} {args : Array Value} {below : List Frame} {meth : Method} {c : Code} {Q : State → Prop} {D : va_G} {cyI cyJ cyO : ClassId} {A : Nat → Prop} {bs : Nat} {a : Nat → Nat} {Y : va_W} {df : Int32} {la : Int32} {fo : Int32} {he : Int32} {wt : Int32} {br : Int32} {dr : Nat → Int32} {fm : Nat → Int32} {sz : Nat → Int32} {om : Nat → Int32} {os : Nat → Int32} {st : Nat → Int32} {wa : Nat → Int32} {va : Nat → Int64} {sk : Nat → Int64} {N : Nat} {res : Int32 × Int32} (C0 : gC p m meth c cX4_depends 3 (some .boolean) s args wsX4_depends RX4) (hret : ∀ (r : Int32) (th_r : Int32) (H : Heap) (locs : List Loc) (pc : Nat) (ls : Array Slot), (r = 0 ∨ r = 1) → some (r, th_r) = some res → gZ D (gT cyI cyJ cyO) (XM a cyI cyJ th_r df la fo he wt br dr fm sz om os st wa va sk ++ Y) A bs s H locs → decode cX4_depends pc = .ok (.ireturn, 1) → W p l e rmX4_depends s m args below meth c H locs 0 0 Q (F0 m pc ls [.int r]))  : ∀ (th : Int32) (v1 : Int32) (v2 : Int32) (H : Heap) (locs : List Loc) (ls : Array Slot), mX4_depends_19 N fm sz th v1 v2 = some res → gZ D (gT cyI cyJ cyO) (XM a cyI cyJ th df la fo he wt br dr fm sz om os st wa va sk ++ Y) A bs s H locs → lv_has ls 3 [(0, .ref (a 0)), (1, .int v1), (2, .int v2)] → W p l e rmX4_depends s m args below meth c H locs 0 0 Q (F0 m 19 ls [.ref (a 0)]) := by
  intro th v1 v2 H locs ls h Z hl
  unfold mX4_depends_19 at h
  refine lv_iconst (v := 1) C0.1.1 C0.1.2.1 dX4_depends_19 (by decide) ?_
  exact wX4_depends_20 (N := N) C0 hret th v1 v2 (1 : Int32) _ _ _ h Z (lv_sub hl [0, 1, 2] rfl)
set_option maxRecDepth 20000 in
set_option maxHeartbeats 4000000 in
theorem zX4_depends (l : Launch) (D : va_G) (cyI cyJ cyO : ClassId) (A : Nat → Prop) (bs : Nat) (hA : ∀ q, bs ≤ q → A q) (a : Nat → Nat) (Y : va_W) (th : Int32) (df : Int32) (la : Int32) (fo : Int32) (he : Int32) (wt : Int32) (br : Int32) (dr : Nat → Int32) (fm : Nat → Int32) (sz : Nat → Int32) (om : Nat → Int32) (os : Nat → Int32) (st : Nat → Int32) (wa : Nat → Int32) (va : Nat → Int64) (sk : Nat → Int64) (N : Nat) (p0 : Int32) (p1 : Int32) (res : Int32 × Int32) (h : mX4_depends N fm sz th p0 p1 = some res) : Met l yX4_depends wsX4_depends rmX4_depends (va_Pc [.ref (a 0), .int p0, .int p1] (gW D (gT cyI cyJ cyO) (XM a cyI cyJ th df la fo he wt br dr fm sz om os st wa va sk ++ Y) A bs)) (va_Qi (fun (r : Int32) (u : Int32) => res.1 = r ∧ res.2 = u) (fun (u : Int32) U => gW D (gT cyI cyJ cyO) (XM a cyI cyJ u df la fo he wt br dr fm sz om os st wa va sk ++ Y) A bs U) A) 0 0 A := by
  refine Met.ofW (cc := cX4_depends) (maxL := 3) (ret := (some .boolean)) (by decide) rfl ?_
  intro p e s m args below meth c s₁ B hml hv
  obtain ⟨hav, hv⟩ := hv
  have C0 : gC p m meth c cX4_depends 3 (some .boolean) s args wsX4_depends RX4 := ⟨⟨B.exec, B.bytes, hml, findClass_of_methodNamed B.named, atoms_spec (ws := wsX4_depends) B.pre⟩, B.returns, B.notSynchronized⟩
  have Z := g_start hA hv
  have hret : ∀ (r : Int32) (th_r : Int32) (H : Heap) (locs : List Loc) (pc : Nat) (ls : Array Slot), (r = 0 ∨ r = 1) → some (r, th_r) = some res → gZ D (gT cyI cyJ cyO) (XM a cyI cyJ th_r df la fo he wt br dr fm sz om os st wa va sk ++ Y) A bs s H locs → decode cX4_depends pc = .ok (.ireturn, 1) → W p l e rmX4_depends s m args below meth c H locs 0 0 (MQ below (va_Qi (fun (r : Int32) (u : Int32) => res.1 = r ∧ res.2 = u) (fun (u : Int32) U => gW D (gT cyI cyJ cyO) (XM a cyI cyJ u df la fo he wt br dr fm sz om os st wa va sk ++ Y) A bs U) A) args s 0 0 A) (F0 m pc ls [.int r]) := by
    intro r th_r H locs pc ls hb h Z hd
    replace h := Option.some.inj h
    exact W.zret C0.1.1 C0.1.2.1 C0.2.1 (g_nb hb) (fun t ht hW => ⟨⟨r, (th_r), rfl, ⟨congrArg Prod.fst h.symm, congrArg Prod.snd h.symm⟩, g_end Z ht hW⟩, Z.2.2.2.1.F ht⟩) Z.2.2.2.1.2.2 hd C0.2.2
  have hl := lv_entry ([.ref (a 0), .int p0, .int p1]) (n := 3) (Nat.le_of_ble_eq_true rfl)
  rw [hav, lg_entry_eq]
  generalize (lg_sl ([.ref (a 0), .int p0, .int p1]) ++ List.replicate (3 - (lg_sl ([.ref (a 0), .int p0, .int p1])).length) Slot.unset).toArray = ls at hl ⊢
  have hl : lv_has ls 3 [(0, .ref (a 0)), (1, .int p0), (2, .int p1)] := hl
  rw [← hav]
  unfold mX4_depends at h
  refine lv_aload_n C0.1.1 C0.1.2.1 dX4_depends_0 rfl (lv_at hl 0 rfl) ?_
  refine lv_iload_n C0.1.1 C0.1.2.1 dX4_depends_1 rfl (lv_at hl 1 rfl) ?_
  obtain ⟨x6, hx7, h⟩ := g_bd h
  refine g_callSi (As := [.int p0]) (rest := [.ref (a 0)]) (ws' := (fun (u : Unit) => (XM a cyI cyJ th df la fo he wt br dr fm sz om os st wa va sk ++ Y))) C0.1 Z (zX4_isCell l D cyI cyJ cyO A bs Z.2.2.2.2.2 (XM a cyI cyJ th df la fo he wt br dr fm sz om os st wa va sk ++ Y) N p0 x6 hx7) (va_cwS 1 C0.1.2.2.2.2 gX4_depends_X4_isCell rfl rfl rfl (by decide +kernel) ⟨Nat.le_of_ble_eq_true rfl, Nat.le_of_ble_eq_true rfl⟩) rfl hl.1 rfl (Nat.le_of_ble_eq_true rfl) dX4_depends_2 ⟨Nat.zero_le _, Nat.zero_le _⟩ (fun r u H locs hw Z => ?_)
  subst hw
  refine lv_if_eq (tgt := 19) C0.1.1 C0.1.2.1 dX4_depends_5 (by decide) (fun hc => ?_) (fun hc => ?_)
  · replace h := (if_pos hc).symm.trans h
    exact wX4_depends_19 (N := N) C0 hret th p0 p1 _ _ _ h Z (lv_sub hl [0, 1, 2] rfl)
  · replace h := (if_neg hc).symm.trans h
    refine lv_iload_n C0.1.1 C0.1.2.1 dX4_depends_8 rfl (lv_at hl 2 rfl) ?_
    obtain ⟨x8, hx9, h⟩ := g_bd h
    refine g_callSi (As := [.int p1]) (rest := [.ref (a 0)]) (ws' := (fun (u : Unit) => (XM a cyI cyJ th df la fo he wt br dr fm sz om os st wa va sk ++ Y))) C0.1 Z (zX4_isCell l D cyI cyJ cyO A bs Z.2.2.2.2.2 (XM a cyI cyJ th df la fo he wt br dr fm sz om os st wa va sk ++ Y) N p1 x8 hx9) (va_cwS 1 C0.1.2.2.2.2 gX4_depends_X4_isCell rfl rfl rfl (by decide +kernel) ⟨Nat.le_of_ble_eq_true rfl, Nat.le_of_ble_eq_true rfl⟩) rfl hl.1 rfl (Nat.le_of_ble_eq_true rfl) dX4_depends_9 ⟨Nat.zero_le _, Nat.zero_le _⟩ (fun r u H locs hw Z => ?_)
    subst hw
    refine lv_if_eq (tgt := 19) C0.1.1 C0.1.2.1 dX4_depends_12 (by decide) (fun hc => ?_) (fun hc => ?_)
    · replace h := (if_pos hc).symm.trans h
      exact wX4_depends_19 (N := N) C0 hret th p0 p1 _ _ _ h Z (lv_sub hl [0, 1, 2] rfl)
    · replace h := (if_neg hc).symm.trans h
      refine lv_iconst (v := 0) C0.1.1 C0.1.2.1 dX4_depends_15 (by decide) ?_
      refine lv_goto (tgt := 20) C0.1.1 C0.1.2.1 dX4_depends_16 (by decide) ?_
      exact wX4_depends_20 (N := N) C0 hret th p0 p1 (0 : Int32) _ _ _ h Z (lv_sub hl [0, 1, 2] rfl)
/-! X4_faulty -/
abbrev rmX4_faulty : Room := { frames := 6, cells := 0, slots := 0, locals := 144 }
theorem kX4_faulty_f29 : Cond.fieldLink RX4 29 "GoalseekOfficeModel" "states" "[I" ∈ wsX4_faulty := by decide +kernel
theorem kX4_faulty_in : ∀ w ∈ wsX40, w ∈ wsX4_faulty := by decide +kernel
theorem kX4_faulty_f38 : Cond.fieldLink RX4 38 "GoalseekOfficeModel" "thrown" "I" ∈ wsX4_faulty := by decide +kernel
def mX4_faulty_35 (N : Nat) (fm : Nat → Int32) (sz : Nat → Int32) (r13 : Int32 → Int32 → Int32 → Int32 → (Nat → Int32) → (Nat → Int32) → (Nat → Int64) → (Nat → Int64) → Int32 → Int32 → Option (Int32 × Int32 × Int32 × Int32 × Int32 × (Nat → Int32) × (Nat → Int32) × (Nat → Int64) × (Nat → Int64))) (th : Int32) (he : Int32) (wt : Int32) (br : Int32) (st : Nat → Int32) (wa : Nat → Int32) (va : Nat → Int64) (sk : Nat → Int64) (v2 : Int32) (s0 : Int32) (s1 : Int32) : Option (Int32 × Int32 × Int32 × Int32 × Int32 × (Nat → Int32) × (Nat → Int32) × (Nat → Int64) × (Nat → Int64)) := r13 th he wt br st wa va sk (s0 + s1) (v2 + (1 : Int32))
def mX4_faulty_13_b (N : Nat) (fm : Nat → Int32) (sz : Nat → Int32) (r13 : Int32 → Int32 → Int32 → Int32 → (Nat → Int32) → (Nat → Int32) → (Nat → Int64) → (Nat → Int64) → Int32 → Int32 → Option (Int32 × Int32 × Int32 × Int32 × Int32 × (Nat → Int32) × (Nat → Int32) × (Nat → Int64) × (Nat → Int64))) (th : Int32) (he : Int32) (wt : Int32) (br : Int32) (st : Nat → Int32) (wa : Nat → Int32) (va : Nat → Int64) (sk : Nat → Int64) (v1 : Int32) (v2 : Int32) : Option (Int32 × Int32 × Int32 × Int32 × Int32 × (Nat → Int32) × (Nat → Int32) × (Nat → Int64) × (Nat → Int64)) := (if (30 : Int32) ≤ v2 then some (v1, th, he, wt, br, st, wa, va, sk) else (if v2 < 0 ∨ 30 ≤ v2.toNatClampNeg then none else (if (st v2.toNatClampNeg) = (2 : Int32) then mX4_faulty_35 N fm sz r13 th he wt br st wa va sk v2 v1 (1 : Int32) else mX4_faulty_35 N fm sz r13 th he wt br st wa va sk v2 v1 (0 : Int32))))
def mX4_faulty_13 (N : Nat) (fm : Nat → Int32) (sz : Nat → Int32) : Nat → Int32 → Int32 → Int32 → Int32 → (Nat → Int32) → (Nat → Int32) → (Nat → Int64) → (Nat → Int64) → Int32 → Int32 → Option (Int32 × Int32 × Int32 × Int32 × Int32 × (Nat → Int32) × (Nat → Int32) × (Nat → Int64) × (Nat → Int64))
  | 0 => fun _ _ _ _ _ _ _ _ _ _ => none
  | n + 1 => fun th he wt br st wa va sk v1 v2 => mX4_faulty_13_b N fm sz (mX4_faulty_13 N fm sz n) th he wt br st wa va sk v1 v2
def mX4_faulty (N : Nat) (fm : Nat → Int32) (sz : Nat → Int32) (th : Int32) (he : Int32) (wt : Int32) (br : Int32) (st : Nat → Int32) (wa : Nat → Int32) (va : Nat → Int64) (sk : Nat → Int64) : Option (Int32 × Int32 × Int32 × Int32 × Int32 × (Nat → Int32) × (Nat → Int32) × (Nat → Int64) × (Nat → Int64)) := ((mX4_worksAll N fm sz he wt br st wa va sk).bind fun x2 => mX4_faulty_13 N fm sz N (0 : Int32) x2.1 x2.2.1 x2.2.2.1 x2.2.2.2.1 x2.2.2.2.2.1 x2.2.2.2.2.2.1 x2.2.2.2.2.2.2 (0 : Int32) (0 : Int32))
set_option maxRecDepth 20000 in
set_option maxHeartbeats 4000000 in
theorem wX4_faulty_35 {p : Program} {l : Launch} {e : Env} {s : State} {m : MethodId} {args : Array Value} {below : List Frame} {meth : Method} {c : Code} {Q : State → Prop} {D : va_G} {cyI cyJ cyO : ClassId} {A : Nat → Prop} {bs : Nat} {a : Nat → Nat} {Y : va_W} {df : Int32} {la : Int32} {fo : Int32} {dr : Nat → Int32} {fm : Nat → Int32} {sz : Nat → Int32} {om : Nat → Int32} {os : Nat → Int32} {N : Nat} {res : Int32 × Int32 × Int32 × Int32 × Int32 × (Nat → Int32) × (Nat → Int32) × (Nat → Int64) × (Nat → Int64)} (C0 : gC p m meth c cX4_faulty 3 (some .int) s args wsX4_faulty RX4) (hret : ∀ (r : Int32) (th_r : Int32) (he_r : Int32) (wt_r : Int32) (br_r : Int32) (st_r : Nat → Int32) (wa_r : Nat → Int32) (va_r : Nat → Int64) (sk_r : Nat → Int64) (H : Heap) (locs : List Loc) (pc : Nat) (ls : Array Slot), some (r, th_r, he_r, wt_r, br_r, st_r, wa_r, va_r, sk_r) = some res → gZ D (gT cyI cyJ cyO) (XM a cyI cyJ th_r df la fo he_r wt_r br_r dr fm sz om os st_r wa_r va_r sk_r ++ Y) A bs s H locs → decode cX4_faulty pc = .ok (.ireturn, 1) → W p l e rmX4_faulty s m args below meth c H locs 0 0 Q (F0 m pc ls [.int r])) {r13 : Int32 → Int32 → Int32 → Int32 → (Nat → Int32) → (Nat → Int32) → (Nat → Int64) → (Nat → Int64) → Int32 → Int32 → Option (Int32 × Int32 × Int32 × Int32 × Int32 × (Nat → Int32) × (Nat → Int32) × (Nat → Int64) × (Nat → Int64))} (hr13 : ∀ (th : Int32) (he : Int32) (wt : Int32) (br : Int32) (st : Nat → Int32) (wa : Nat → Int32) (va : Nat → Int64) (sk : Nat → Int64) (v1 : Int32) (v2 : Int32) (H : Heap) (locs : List Loc) (ls : Array Slot), r13 th he wt br st wa va sk v1 v2 = some res → gZ D (gT cyI cyJ cyO) (XM a cyI cyJ th df la fo he wt br dr fm sz om os st wa va sk ++ Y) A bs s H locs → lv_has ls 3 [(0, .ref (a 0)), (1, .int v1), (2, .int v2)] → W p l e rmX4_faulty s m args below meth c H locs 0 0 Q (F0 m 13 ls [])) : ∀ (th : Int32) (he : Int32) (wt : Int32) (br : Int32) (st : Nat → Int32) (wa : Nat → Int32) (va : Nat → Int64) (sk : Nat → Int64) (v2 : Int32) (s0 : Int32) (s1 : Int32) (H : Heap) (locs : List Loc) (ls : Array Slot), mX4_faulty_35 N fm sz r13 th he wt br st wa va sk v2 s0 s1 = some res → gZ D (gT cyI cyJ cyO) (XM a cyI cyJ th df la fo he wt br dr fm sz om os st wa va sk ++ Y) A bs s H locs → lv_has ls 3 [(0, .ref (a 0)), (2, .int v2)] → W p l e rmX4_faulty s m args below meth c H locs 0 0 Q (F0 m 35 ls [.int s1, .int s0]) := by
  intro th he wt br st wa va sk v2 s0 s1 H locs ls h Z hl
  unfold mX4_faulty_35 at h
  refine lv_iadd C0.1.1 C0.1.2.1 dX4_faulty_35 ?_
  refine lv_istore_n (lv' := [(1, .int (s0 + s1)), (0, .ref (a 0)), (2, .int v2)]) C0.1.1 C0.1.2.1 dX4_faulty_36 rfl hl (by decide) rfl (fun ls hl => ?_)
  refine lv_iinc (v := v2 + (1 : Int32)) (lv' := [(2, .int (v2 + (1 : Int32))), (1, .int (s0 + s1)), (0, .ref (a 0))]) C0.1.1 C0.1.2.1 dX4_faulty_37 hl (k := 2) rfl rfl (by decide) rfl (fun ls hl => ?_)
  refine lv_goto (tgt := 13) C0.1.1 C0.1.2.1 dX4_faulty_40 (by decide) ?_
  exact hr13 th he wt br st wa va sk (s0 + s1) (v2 + (1 : Int32)) _ _ _ h Z (lv_sub hl [2, 1, 0] rfl)
set_option maxRecDepth 20000 in
set_option maxHeartbeats 4000000 in
theorem wX4_faulty_13_b {p : Program} {l : Launch} {e : Env} {s : State} {m : MethodId} {args : Array Value} {below : List Frame} {meth : Method} {c : Code} {Q : State → Prop} {D : va_G} {cyI cyJ cyO : ClassId} {A : Nat → Prop} {bs : Nat} {a : Nat → Nat} {Y : va_W} {df : Int32} {la : Int32} {fo : Int32} {dr : Nat → Int32} {fm : Nat → Int32} {sz : Nat → Int32} {om : Nat → Int32} {os : Nat → Int32} {N : Nat} {res : Int32 × Int32 × Int32 × Int32 × Int32 × (Nat → Int32) × (Nat → Int32) × (Nat → Int64) × (Nat → Int64)} (C0 : gC p m meth c cX4_faulty 3 (some .int) s args wsX4_faulty RX4) (hret : ∀ (r : Int32) (th_r : Int32) (he_r : Int32) (wt_r : Int32) (br_r : Int32) (st_r : Nat → Int32) (wa_r : Nat → Int32) (va_r : Nat → Int64) (sk_r : Nat → Int64) (H : Heap) (locs : List Loc) (pc : Nat) (ls : Array Slot), some (r, th_r, he_r, wt_r, br_r, st_r, wa_r, va_r, sk_r) = some res → gZ D (gT cyI cyJ cyO) (XM a cyI cyJ th_r df la fo he_r wt_r br_r dr fm sz om os st_r wa_r va_r sk_r ++ Y) A bs s H locs → decode cX4_faulty pc = .ok (.ireturn, 1) → W p l e rmX4_faulty s m args below meth c H locs 0 0 Q (F0 m pc ls [.int r])) {r13 : Int32 → Int32 → Int32 → Int32 → (Nat → Int32) → (Nat → Int32) → (Nat → Int64) → (Nat → Int64) → Int32 → Int32 → Option (Int32 × Int32 × Int32 × Int32 × Int32 × (Nat → Int32) × (Nat → Int32) × (Nat → Int64) × (Nat → Int64))} (hr13 : ∀ (th : Int32) (he : Int32) (wt : Int32) (br : Int32) (st : Nat → Int32) (wa : Nat → Int32) (va : Nat → Int64) (sk : Nat → Int64) (v1 : Int32) (v2 : Int32) (H : Heap) (locs : List Loc) (ls : Array Slot), r13 th he wt br st wa va sk v1 v2 = some res → gZ D (gT cyI cyJ cyO) (XM a cyI cyJ th df la fo he wt br dr fm sz om os st wa va sk ++ Y) A bs s H locs → lv_has ls 3 [(0, .ref (a 0)), (1, .int v1), (2, .int v2)] → W p l e rmX4_faulty s m args below meth c H locs 0 0 Q (F0 m 13 ls [])) : ∀ (th : Int32) (he : Int32) (wt : Int32) (br : Int32) (st : Nat → Int32) (wa : Nat → Int32) (va : Nat → Int64) (sk : Nat → Int64) (v1 : Int32) (v2 : Int32) (H : Heap) (locs : List Loc) (ls : Array Slot), mX4_faulty_13_b N fm sz r13 th he wt br st wa va sk v1 v2 = some res → gZ D (gT cyI cyJ cyO) (XM a cyI cyJ th df la fo he wt br dr fm sz om os st wa va sk ++ Y) A bs s H locs → lv_has ls 3 [(0, .ref (a 0)), (1, .int v1), (2, .int v2)] → W p l e rmX4_faulty s m args below meth c H locs 0 0 Q (F0 m 13 ls []) := by
  intro th he wt br st wa va sk v1 v2 H locs ls h Z hl
  unfold mX4_faulty_13_b at h
  refine lv_iload_n C0.1.1 C0.1.2.1 dX4_faulty_13 rfl (lv_at hl 2 rfl) ?_
  refine lv_bipush (v := 30) C0.1.1 C0.1.2.1 dX4_faulty_14 (by decide +kernel) ?_
  refine lv_icmp_ge (tgt := 43) C0.1.1 C0.1.2.1 dX4_faulty_16 (by decide) (fun hc => ?_) (fun hc => ?_)
  · replace h := (if_pos hc).symm.trans h
    refine lv_iload_n C0.1.1 C0.1.2.1 dX4_faulty_43 rfl (lv_at hl 1 rfl) ?_
    exact hret v1 th he wt br st wa va sk _ _ _ _ h Z dX4_faulty_44
  · replace h := (if_neg hc).symm.trans h
    refine lv_iload_n C0.1.1 C0.1.2.1 dX4_faulty_19 rfl (lv_at hl 1 rfl) ?_
    refine lv_aload_n C0.1.1 C0.1.2.1 dX4_faulty_20 rfl (lv_at hl 0 rfl) ?_
    refine g_get (ci := 6) (v := .ref (a 7)) (T := TX4) (N := 16) C0.1 Z 0 rfl rfl 10 (by decide) kX4_faulty_in kX4_faulty_f29 rfl rfl dX4_faulty_21 ?_
    refine lv_iload_n C0.1.1 C0.1.2.1 dX4_faulty_24 rfl (lv_at hl 2 rfl) ?_
    obtain ⟨hi1, h⟩ := g_ni h
    refine g_iald (f := st) (n := 30) C0.1 Z 7 0 rfl rfl hi1 dX4_faulty_25 ?_
    refine lv_iconst (v := 2) C0.1.1 C0.1.2.1 dX4_faulty_26 (by decide) ?_
    refine lv_icmp_ne (tgt := 34) C0.1.1 C0.1.2.1 dX4_faulty_27 (by decide) (fun hc => ?_) (fun hc => ?_)
    · replace h := (if_neg hc).symm.trans h
      refine lv_iconst (v := 0) C0.1.1 C0.1.2.1 dX4_faulty_34 (by decide) ?_
      exact wX4_faulty_35 (N := N) C0 hret hr13 th he wt br st wa va sk v2 v1 (0 : Int32) _ _ _ h Z (lv_sub hl [0, 2] rfl)
    · replace h := (if_pos hc).symm.trans h
      refine lv_iconst (v := 1) C0.1.1 C0.1.2.1 dX4_faulty_30 (by decide) ?_
      refine lv_goto (tgt := 35) C0.1.1 C0.1.2.1 dX4_faulty_31 (by decide) ?_
      exact wX4_faulty_35 (N := N) C0 hret hr13 th he wt br st wa va sk v2 v1 (1 : Int32) _ _ _ h Z (lv_sub hl [0, 2] rfl)
theorem wX4_faulty_13 {p : Program} {l : Launch} {e : Env} {s : State} {m : MethodId} {args : Array Value} {below : List Frame} {meth : Method} {c : Code} {Q : State → Prop} {D : va_G} {cyI cyJ cyO : ClassId} {A : Nat → Prop} {bs : Nat} {a : Nat → Nat} {Y : va_W} {df : Int32} {la : Int32} {fo : Int32} {dr : Nat → Int32} {fm : Nat → Int32} {sz : Nat → Int32} {om : Nat → Int32} {os : Nat → Int32} {N : Nat} {res : Int32 × Int32 × Int32 × Int32 × Int32 × (Nat → Int32) × (Nat → Int32) × (Nat → Int64) × (Nat → Int64)} (C0 : gC p m meth c cX4_faulty 3 (some .int) s args wsX4_faulty RX4) (hret : ∀ (r : Int32) (th_r : Int32) (he_r : Int32) (wt_r : Int32) (br_r : Int32) (st_r : Nat → Int32) (wa_r : Nat → Int32) (va_r : Nat → Int64) (sk_r : Nat → Int64) (H : Heap) (locs : List Loc) (pc : Nat) (ls : Array Slot), some (r, th_r, he_r, wt_r, br_r, st_r, wa_r, va_r, sk_r) = some res → gZ D (gT cyI cyJ cyO) (XM a cyI cyJ th_r df la fo he_r wt_r br_r dr fm sz om os st_r wa_r va_r sk_r ++ Y) A bs s H locs → decode cX4_faulty pc = .ok (.ireturn, 1) → W p l e rmX4_faulty s m args below meth c H locs 0 0 Q (F0 m pc ls [.int r]))  : ∀ (n : Nat), ∀ (th : Int32) (he : Int32) (wt : Int32) (br : Int32) (st : Nat → Int32) (wa : Nat → Int32) (va : Nat → Int64) (sk : Nat → Int64) (v1 : Int32) (v2 : Int32) (H : Heap) (locs : List Loc) (ls : Array Slot), mX4_faulty_13 N fm sz n th he wt br st wa va sk v1 v2 = some res → gZ D (gT cyI cyJ cyO) (XM a cyI cyJ th df la fo he wt br dr fm sz om os st wa va sk ++ Y) A bs s H locs → lv_has ls 3 [(0, .ref (a 0)), (1, .int v1), (2, .int v2)] → W p l e rmX4_faulty s m args below meth c H locs 0 0 Q (F0 m 13 ls []) := by
  intro n
  induction n with
  | zero => intro _ _ _ _ _ _ _ _ _ _ _ _ _ h; cases h
  | succ n ih => exact wX4_faulty_13_b (N := N) C0 hret ih
set_option maxRecDepth 20000 in
set_option maxHeartbeats 4000000 in
theorem zX4_faulty (l : Launch) (D : va_G) (cyI cyJ cyO : ClassId) (A : Nat → Prop) (bs : Nat) (hA : ∀ q, bs ≤ q → A q) (a : Nat → Nat) (Y : va_W) (th : Int32) (df : Int32) (la : Int32) (fo : Int32) (he : Int32) (wt : Int32) (br : Int32) (dr : Nat → Int32) (fm : Nat → Int32) (sz : Nat → Int32) (om : Nat → Int32) (os : Nat → Int32) (st : Nat → Int32) (wa : Nat → Int32) (va : Nat → Int64) (sk : Nat → Int64) (N : Nat)  (res : Int32 × Int32 × Int32 × Int32 × Int32 × (Nat → Int32) × (Nat → Int32) × (Nat → Int64) × (Nat → Int64)) (h : mX4_faulty N fm sz th he wt br st wa va sk = some res) : Met l yX4_faulty wsX4_faulty rmX4_faulty (va_Pc [.ref (a 0)] (gW D (gT cyI cyJ cyO) (XM a cyI cyJ th df la fo he wt br dr fm sz om os st wa va sk ++ Y) A bs)) (va_Qi (fun (r : Int32) (u : Int32 × Int32 × Int32 × Int32 × (Nat → Int32) × (Nat → Int32) × (Nat → Int64) × (Nat → Int64)) => res.1 = r ∧ res.2 = u) (fun (u : Int32 × Int32 × Int32 × Int32 × (Nat → Int32) × (Nat → Int32) × (Nat → Int64) × (Nat → Int64)) U => gW D (gT cyI cyJ cyO) (XM a cyI cyJ u.1 df la fo u.2.1 u.2.2.1 u.2.2.2.1 dr fm sz om os u.2.2.2.2.1 u.2.2.2.2.2.1 u.2.2.2.2.2.2.1 u.2.2.2.2.2.2.2 ++ Y) A bs U) A) 0 0 A := by
  refine Met.ofW (cc := cX4_faulty) (maxL := 3) (ret := (some .int)) (by decide) rfl ?_
  intro p e s m args below meth c s₁ B hml hv
  obtain ⟨hav, hv⟩ := hv
  have C0 : gC p m meth c cX4_faulty 3 (some .int) s args wsX4_faulty RX4 := ⟨⟨B.exec, B.bytes, hml, findClass_of_methodNamed B.named, atoms_spec (ws := wsX4_faulty) B.pre⟩, B.returns, B.notSynchronized⟩
  have Z := g_start hA hv
  have hret : ∀ (r : Int32) (th_r : Int32) (he_r : Int32) (wt_r : Int32) (br_r : Int32) (st_r : Nat → Int32) (wa_r : Nat → Int32) (va_r : Nat → Int64) (sk_r : Nat → Int64) (H : Heap) (locs : List Loc) (pc : Nat) (ls : Array Slot), some (r, th_r, he_r, wt_r, br_r, st_r, wa_r, va_r, sk_r) = some res → gZ D (gT cyI cyJ cyO) (XM a cyI cyJ th_r df la fo he_r wt_r br_r dr fm sz om os st_r wa_r va_r sk_r ++ Y) A bs s H locs → decode cX4_faulty pc = .ok (.ireturn, 1) → W p l e rmX4_faulty s m args below meth c H locs 0 0 (MQ below (va_Qi (fun (r : Int32) (u : Int32 × Int32 × Int32 × Int32 × (Nat → Int32) × (Nat → Int32) × (Nat → Int64) × (Nat → Int64)) => res.1 = r ∧ res.2 = u) (fun (u : Int32 × Int32 × Int32 × Int32 × (Nat → Int32) × (Nat → Int32) × (Nat → Int64) × (Nat → Int64)) U => gW D (gT cyI cyJ cyO) (XM a cyI cyJ u.1 df la fo u.2.1 u.2.2.1 u.2.2.2.1 dr fm sz om os u.2.2.2.2.1 u.2.2.2.2.2.1 u.2.2.2.2.2.2.1 u.2.2.2.2.2.2.2 ++ Y) A bs U) A) args s 0 0 A) (F0 m pc ls [.int r]) := by
    intro r th_r he_r wt_r br_r st_r wa_r va_r sk_r H locs pc ls h Z hd
    replace h := Option.some.inj h
    exact W.iret C0.1.1 C0.1.2.1 C0.2.1 (fun t ht hW => ⟨⟨r, (th_r, he_r, wt_r, br_r, st_r, wa_r, va_r, sk_r), rfl, ⟨congrArg Prod.fst h.symm, congrArg Prod.snd h.symm⟩, g_end Z ht hW⟩, Z.2.2.2.1.F ht⟩) Z.2.2.2.1.2.2 hd C0.2.2
  have hl := lv_entry ([.ref (a 0)]) (n := 3) (Nat.le_of_ble_eq_true rfl)
  rw [hav, lg_entry_eq]
  generalize (lg_sl ([.ref (a 0)]) ++ List.replicate (3 - (lg_sl ([.ref (a 0)])).length) Slot.unset).toArray = ls at hl ⊢
  have hl : lv_has ls 3 [(0, .ref (a 0))] := hl
  rw [← hav]
  unfold mX4_faulty at h
  refine lv_aload_n C0.1.1 C0.1.2.1 dX4_faulty_0 rfl (lv_at hl 0 rfl) ?_
  refine lv_iconst (v := 0) C0.1.1 C0.1.2.1 dX4_faulty_1 (by decide) ?_
  refine g_put (ci := 6) (v := .int (0 : Int32)) (T := TX4) (N := 16) (ws' := (XM a cyI cyJ (0 : Int32) df la fo he wt br dr fm sz om os st wa va sk ++ Y)) C0.1 Z 0 rfl rfl 0 (by decide) kX4_faulty_in kX4_faulty_f38 rfl tyX4 tyX4_ok nmX4 rfl rfl rfl (Nat.le_of_ble_eq_true rfl) dX4_faulty_2 rfl (fun H locs Z => ?_)
  refine lv_aload_n C0.1.1 C0.1.2.1 dX4_faulty_5 rfl (lv_at hl 0 rfl) ?_
  obtain ⟨x2, hx3, h⟩ := g_bd h
  refine g_callVv (b := a 0) (As := []) (rest := []) (ws' := (fun (u : Int32 × Int32 × Int32 × (Nat → Int32) × (Nat → Int32) × (Nat → Int64) × (Nat → Int64)) => (XM a cyI cyJ (0 : Int32) df la fo u.1 u.2.1 u.2.2.1 dr fm sz om os u.2.2.2.1 u.2.2.2.2.1 u.2.2.2.2.2.1 u.2.2.2.2.2.2 ++ Y))) C0.1 Z (zX4_worksAll l D cyI cyJ cyO A bs Z.2.2.2.2.2 a Y (0 : Int32) df la fo he wt br dr fm sz om os st wa va sk N x2 hx3) (cwV 0 C0.1.2.2.2.2 gX4_faulty_X4_worksAll rfl rfl rfl (by decide +kernel) ⟨Nat.le_of_ble_eq_true rfl, Nat.le_of_ble_eq_true rfl⟩) 0 (ci := 6) rfl rfl rfl rfl hl.1 rfl (Nat.le_of_ble_eq_true rfl) dX4_faulty_6 ⟨Nat.zero_le _, Nat.zero_le _⟩ (fun u H locs hw Z => ?_)
  subst hw
  refine lv_iconst (v := 0) C0.1.1 C0.1.2.1 dX4_faulty_9 (by decide) ?_
  refine lv_istore_n (lv' := [(1, .int (0 : Int32)), (0, .ref (a 0))]) C0.1.1 C0.1.2.1 dX4_faulty_10 rfl hl (by decide) rfl (fun ls hl => ?_)
  refine lv_iconst (v := 0) C0.1.1 C0.1.2.1 dX4_faulty_11 (by decide) ?_
  refine lv_istore_n (lv' := [(2, .int (0 : Int32)), (1, .int (0 : Int32)), (0, .ref (a 0))]) C0.1.1 C0.1.2.1 dX4_faulty_12 rfl hl (by decide) rfl (fun ls hl => ?_)
  exact wX4_faulty_13 (N := N) C0 hret N (0 : Int32) x2.1 x2.2.1 x2.2.2.1 x2.2.2.2.1 x2.2.2.2.2.1 x2.2.2.2.2.2.1 x2.2.2.2.2.2.2 (0 : Int32) (0 : Int32) _ _ _ h Z (lv_sub hl [2, 1, 0] rfl)
/-! X4_foundAnew -/
abbrev rmX4_foundAnew : Room := { frames := 0, cells := 0, slots := 0, locals := 0 }
theorem kX4_foundAnew_f38 : Cond.fieldLink RX4 38 "GoalseekOfficeModel" "thrown" "I" ∈ wsX4_foundAnew := by decide +kernel
theorem kX4_foundAnew_in : ∀ w ∈ wsX40, w ∈ wsX4_foundAnew := by decide +kernel
theorem kX4_foundAnew_f129 : Cond.fieldLink RX4 129 "GoalseekOfficeModel" "found" "I" ∈ wsX4_foundAnew := by decide +kernel
def mX4_foundAnew (N : Nat) (fo : Int32) (th : Int32) : Option (Int32 × Int32) := some (fo, (0 : Int32))
set_option maxRecDepth 20000 in
set_option maxHeartbeats 4000000 in
theorem zX4_foundAnew (l : Launch) (D : va_G) (cyI cyJ cyO : ClassId) (A : Nat → Prop) (bs : Nat) (hA : ∀ q, bs ≤ q → A q) (a : Nat → Nat) (Y : va_W) (th : Int32) (df : Int32) (la : Int32) (fo : Int32) (he : Int32) (wt : Int32) (br : Int32) (dr : Nat → Int32) (fm : Nat → Int32) (sz : Nat → Int32) (om : Nat → Int32) (os : Nat → Int32) (st : Nat → Int32) (wa : Nat → Int32) (va : Nat → Int64) (sk : Nat → Int64) (N : Nat)  (res : Int32 × Int32) (h : mX4_foundAnew N fo th = some res) : Met l yX4_foundAnew wsX4_foundAnew rmX4_foundAnew (va_Pc [.ref (a 0)] (gW D (gT cyI cyJ cyO) (XM a cyI cyJ th df la fo he wt br dr fm sz om os st wa va sk ++ Y) A bs)) (va_Qi (fun (r : Int32) (u : Int32) => res.1 = r ∧ res.2 = u) (fun (u : Int32) U => gW D (gT cyI cyJ cyO) (XM a cyI cyJ u df la fo he wt br dr fm sz om os st wa va sk ++ Y) A bs U) A) 0 0 A := by
  refine Met.ofW (cc := cX4_foundAnew) (maxL := 1) (ret := (some .int)) (by decide) rfl ?_
  intro p e s m args below meth c s₁ B hml hv
  obtain ⟨hav, hv⟩ := hv
  have C0 : gC p m meth c cX4_foundAnew 1 (some .int) s args wsX4_foundAnew RX4 := ⟨⟨B.exec, B.bytes, hml, findClass_of_methodNamed B.named, atoms_spec (ws := wsX4_foundAnew) B.pre⟩, B.returns, B.notSynchronized⟩
  have Z := g_start hA hv
  have hret : ∀ (r : Int32) (th_r : Int32) (H : Heap) (locs : List Loc) (pc : Nat) (ls : Array Slot), some (r, th_r) = some res → gZ D (gT cyI cyJ cyO) (XM a cyI cyJ th_r df la fo he wt br dr fm sz om os st wa va sk ++ Y) A bs s H locs → decode cX4_foundAnew pc = .ok (.ireturn, 1) → W p l e rmX4_foundAnew s m args below meth c H locs 0 0 (MQ below (va_Qi (fun (r : Int32) (u : Int32) => res.1 = r ∧ res.2 = u) (fun (u : Int32) U => gW D (gT cyI cyJ cyO) (XM a cyI cyJ u df la fo he wt br dr fm sz om os st wa va sk ++ Y) A bs U) A) args s 0 0 A) (F0 m pc ls [.int r]) := by
    intro r th_r H locs pc ls h Z hd
    replace h := Option.some.inj h
    exact W.iret C0.1.1 C0.1.2.1 C0.2.1 (fun t ht hW => ⟨⟨r, (th_r), rfl, ⟨congrArg Prod.fst h.symm, congrArg Prod.snd h.symm⟩, g_end Z ht hW⟩, Z.2.2.2.1.F ht⟩) Z.2.2.2.1.2.2 hd C0.2.2
  have hl := lv_entry ([.ref (a 0)]) (n := 1) (Nat.le_of_ble_eq_true rfl)
  rw [hav, lg_entry_eq]
  generalize (lg_sl ([.ref (a 0)]) ++ List.replicate (1 - (lg_sl ([.ref (a 0)])).length) Slot.unset).toArray = ls at hl ⊢
  have hl : lv_has ls 1 [(0, .ref (a 0))] := hl
  rw [← hav]
  unfold mX4_foundAnew at h
  refine lv_aload_n C0.1.1 C0.1.2.1 dX4_foundAnew_0 rfl (lv_at hl 0 rfl) ?_
  refine lv_iconst (v := 0) C0.1.1 C0.1.2.1 dX4_foundAnew_1 (by decide) ?_
  refine g_put (ci := 6) (v := .int (0 : Int32)) (T := TX4) (N := 16) (ws' := (XM a cyI cyJ (0 : Int32) df la fo he wt br dr fm sz om os st wa va sk ++ Y)) C0.1 Z 0 rfl rfl 0 (by decide) kX4_foundAnew_in kX4_foundAnew_f38 rfl tyX4 tyX4_ok nmX4 rfl rfl rfl (Nat.le_of_ble_eq_true rfl) dX4_foundAnew_2 rfl (fun H locs Z => ?_)
  refine lv_aload_n C0.1.1 C0.1.2.1 dX4_foundAnew_5 rfl (lv_at hl 0 rfl) ?_
  refine g_get (ci := 6) (v := .int fo) (T := TX4) (N := 16) C0.1 Z 0 rfl rfl 8 (by decide) kX4_foundAnew_in kX4_foundAnew_f129 rfl rfl dX4_foundAnew_6 ?_
  exact hret fo (0 : Int32) _ _ _ _ h Z dX4_foundAnew_9
