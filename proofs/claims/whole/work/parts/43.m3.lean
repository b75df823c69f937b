/-! X4_pushes -/
abbrev rmX4_pushes : Room := { frames := 0, cells := 0, slots := 0, locals := 0 }
theorem kX4_pushes_f85 : Cond.fieldLink RX4 85 "GoalseekOfficeModel" "waits" "I" ∈ wsX4_pushes := by decide +kernel
theorem kX4_pushes_in : ∀ w ∈ wsX40, w ∈ wsX4_pushes := by decide +kernel
theorem kX4_pushes_f35 : Cond.fieldLink RX4 35 "GoalseekOfficeModel" "waiting" "[I" ∈ wsX4_pushes := by decide +kernel
theorem kX4_pushes_f32 : Cond.fieldLink RX4 32 "GoalseekOfficeModel" "stack" "[J" ∈ wsX4_pushes := by decide +kernel
theorem kX4_pushes_f82 : Cond.fieldLink RX4 82 "GoalseekOfficeModel" "height" "I" ∈ wsX4_pushes := by decide +kernel
def mX4_pushes_79 (N : Nat) (wa : Nat → Int32) (he : Int32) (wt : Int32) (sk : Nat → Int64) : Option (Int32 × Int32 × (Nat → Int64)) := some (he, wt, sk)
def mX4_pushes_20_b (N : Nat) (wa : Nat → Int32) (r20 : Int32 → Int32 → (Nat → Int64) → Option (Int32 × Int32 × (Nat → Int64))) (he : Int32) (wt : Int32) (sk : Nat → Int64) : Option (Int32 × Int32 × (Nat → Int64)) := (if wt ≤ 0 then mX4_pushes_79 N wa he wt sk else (if (wt - (1 : Int32)) < 0 ∨ 15 ≤ (wt - (1 : Int32)).toNatClampNeg then none else (if (wa (wt - (1 : Int32)).toNatClampNeg) = (6 : Int32) then (if (he - (1 : Int32)) < 0 ∨ 15 ≤ (he - (1 : Int32)).toNatClampNeg then none else (if (he - (1 : Int32)) < 0 ∨ 15 ≤ (he - (1 : Int32)).toNatClampNeg then none else r20 he (wt - (1 : Int32)) (vp_updL sk (he - (1 : Int32)).toNatClampNeg (-(sk (he - (1 : Int32)).toNatClampNeg))))) else mX4_pushes_79 N wa he wt sk)))
def mX4_pushes_20 (N : Nat) (wa : Nat → Int32) : Nat → Int32 → Int32 → (Nat → Int64) → Option (Int32 × Int32 × (Nat → Int64))
  | 0 => fun _ _ _ => none
  | n + 1 => fun he wt sk => mX4_pushes_20_b N wa (mX4_pushes_20 N wa n) he wt sk
def mX4_pushes (N : Nat) (wa : Nat → Int32) (he : Int32) (wt : Int32) (sk : Nat → Int64) (p0 : Int64) : Option (Int32 × Int32 × (Nat → Int64)) := (if he < 0 ∨ 15 ≤ he.toNatClampNeg then none else mX4_pushes_20 N wa N (he + (1 : Int32)) wt (vp_updL sk he.toNatClampNeg p0))
set_option maxRecDepth 20000 in
set_option maxHeartbeats 4000000 in
theorem wX4_pushes_79 {p : Program} {l : Launch} {e : Env} {s : State} {m : MethodId} {args : Array Value} {below : List Frame} {meth : Method} {c : Code} {Q : State → Prop} {D : va_G} {cyI cyJ cyO : ClassId} {A : Nat → Prop} {bs : Nat} {a : Nat → Nat} {Y : va_W} {th : Int32} {df : Int32} {la : Int32} {fo : Int32} {br : Int32} {dr : Nat → Int32} {fm : Nat → Int32} {sz : Nat → Int32} {om : Nat → Int32} {os : Nat → Int32} {st : Nat → Int32} {wa : Nat → Int32} {va : Nat → Int64} {N : Nat} {res : Int32 × Int32 × (Nat → Int64)} (C0 : gC p m meth c cX4_pushes 3 none s args wsX4_pushes RX4) (hret : ∀ (he_r : Int32) (wt_r : Int32) (sk_r : Nat → Int64) (H : Heap) (locs : List Loc) (pc : Nat) (ls : Array Slot), some (he_r, wt_r, sk_r) = some res → gZ D (gT cyI cyJ cyO) (XM a cyI cyJ th df la fo he_r wt_r br dr fm sz om os st wa va sk_r ++ Y) A bs s H locs → decode cX4_pushes pc = .ok (.return_, 1) → W p l e rmX4_pushes s m args below meth c H locs 0 0 Q (F0 m pc ls []))  : ∀ (he : Int32) (wt : Int32) (sk : Nat → Int64) (H : Heap) (locs : List Loc) (ls : Array Slot), mX4_pushes_79 N wa he wt sk = some res → gZ D (gT cyI cyJ cyO) (XM a cyI cyJ th df la fo he wt br dr fm sz om os st wa va sk ++ Y) A bs s H locs → lv_has ls 3 [] → W p l e rmX4_pushes s m args below meth c H locs 0 0 Q (F0 m 79 ls []) := by
  intro he wt sk H locs ls h Z hl
  unfold mX4_pushes_79 at h
  exact hret he wt sk _ _ _ _ h Z dX4_pushes_79
set_option maxRecDepth 20000 in
set_option maxHeartbeats 4000000 in
theorem wX4_pushes_20_b {p : Program} {l : Launch} {e : Env} {s : State} {m : MethodId} {args : Array Value} {below : List Frame} {meth : Method} {c : Code} {Q : State → Prop} {D : va_G} {cyI cyJ cyO : ClassId} {A : Nat → Prop} {bs : Nat} {a : Nat → Nat} {Y : va_W} {th : Int32} {df : Int32} {la : Int32} {fo : Int32} {br : Int32} {dr : Nat → Int32} {fm : Nat → Int32} {sz : Nat → Int32} {om : Nat → Int32} {os : Nat → Int32} {st : Nat → Int32} {wa : Nat → Int32} {va : Nat → Int64} {N : Nat} {res : Int32 × Int32 × (Nat → Int64)} (C0 : gC p m meth c cX4_pushes 3 none s args wsX4_pushes RX4) (hret : ∀ (he_r : Int32) (wt_r : Int32) (sk_r : Nat → Int64) (H : Heap) (locs : List Loc) (pc : Nat) (ls : Array Slot), some (he_r, wt_r, sk_r) = some res → gZ D (gT cyI cyJ cyO) (XM a cyI cyJ th df la fo he_r wt_r br dr fm sz om os st wa va sk_r ++ Y) A bs s H locs → decode cX4_pushes pc = .ok (.return_, 1) → W p l e rmX4_pushes s m args below meth c H locs 0 0 Q (F0 m pc ls [])) {r20 : Int32 → Int32 → (Nat → Int64) → Option (Int32 × Int32 × (Nat → Int64))} (hr20 : ∀ (he : Int32) (wt : Int32) (sk : Nat → Int64) (H : Heap) (locs : List Loc) (ls : Array Slot), r20 he wt sk = some res → gZ D (gT cyI cyJ cyO) (XM a cyI cyJ th df la fo he wt br dr fm sz om os st wa va sk ++ Y) A bs s H locs → lv_has ls 3 [(0, .ref (a 0))] → W p l e rmX4_pushes s m args below meth c H locs 0 0 Q (F0 m 20 ls [])) : ∀ (he : Int32) (wt : Int32) (sk : Nat → Int64) (H : Heap) (locs : List Loc) (ls : Array Slot), mX4_pushes_20_b N wa r20 he wt sk = some res → gZ D (gT cyI cyJ cyO) (XM a cyI cyJ th df la fo he wt br dr fm sz om os st wa va sk ++ Y) A bs s H locs → lv_has ls 3 [(0, .ref (a 0))] → W p l e rmX4_pushes s m args below meth c H locs 0 0 Q (F0 m 20 ls []) := by
  intro he wt sk H locs ls h Z hl
  unfold mX4_pushes_20_b at h
  refine lv_aload_n C0.1.1 C0.1.2.1 dX4_pushes_20 rfl (lv_at hl 0 rfl) ?_
  refine g_get (ci := 6) (v := .int wt) (T := TX4) (N := 16) C0.1 Z 0 rfl rfl 14 (by decide) kX4_pushes_in kX4_pushes_f85 rfl rfl dX4_pushes_21 ?_
  refine lv_if_le (tgt := 79) C0.1.1 C0.1.2.1 dX4_pushes_24 (by decide) (fun hc => ?_) (fun hc => ?_)
  · replace h := (if_pos hc).symm.trans h
    exact wX4_pushes_79 (N := N) C0 hret he wt sk _ _ _ h Z (lv_sub hl [] rfl)
  · replace h := (if_neg hc).symm.trans h
    refine lv_aload_n C0.1.1 C0.1.2.1 dX4_pushes_27 rfl (lv_at hl 0 rfl) ?_
    refine g_get (ci := 6) (v := .ref (a 9)) (T := TX4) (N := 16) C0.1 Z 0 rfl rfl 13 (by decide) kX4_pushes_in kX4_pushes_f35 rfl rfl dX4_pushes_28 ?_
    refine lv_aload_n C0.1.1 C0.1.2.1 dX4_pushes_31 rfl (lv_at hl 0 rfl) ?_
    refine g_get (ci := 6) (v := .int wt) (T := TX4) (N := 16) C0.1 Z 0 rfl rfl 14 (by decide) kX4_pushes_in kX4_pushes_f85 rfl rfl dX4_pushes_32 ?_
    refine lv_iconst (v := 1) C0.1.1 C0.1.2.1 dX4_pushes_35 (by decide) ?_
    refine lv_isub C0.1.1 C0.1.2.1 dX4_pushes_36 ?_
    obtain ⟨hi1, h⟩ := g_ni h
    refine g_iald (f := wa) (n := 15) C0.1 Z 9 0 rfl rfl hi1 dX4_pushes_37 ?_
    refine lv_bipush (v := 6) C0.1.1 C0.1.2.1 dX4_pushes_38 (by decide +kernel) ?_
    refine lv_icmp_ne (tgt := 79) C0.1.1 C0.1.2.1 dX4_pushes_40 (by decide) (fun hc => ?_) (fun hc => ?_)
    · replace h := (if_neg hc).symm.trans h
      exact wX4_pushes_79 (N := N) C0 hret he wt sk _ _ _ h Z (lv_sub hl [] rfl)
    · replace h := (if_pos hc).symm.trans h
      refine lv_aload_n C0.1.1 C0.1.2.1 dX4_pushes_43 rfl (lv_at hl 0 rfl) ?_
      refine g_get (ci := 6) (v := .ref (a 8)) (T := TX4) (N := 16) C0.1 Z 0 rfl rfl 11 (by decide) kX4_pushes_in kX4_pushes_f32 rfl rfl dX4_pushes_44 ?_
      refine lv_aload_n C0.1.1 C0.1.2.1 dX4_pushes_47 rfl (lv_at hl 0 rfl) ?_
      refine g_get (ci := 6) (v := .int he) (T := TX4) (N := 16) C0.1 Z 0 rfl rfl 12 (by decide) kX4_pushes_in kX4_pushes_f82 rfl rfl dX4_pushes_48 ?_
      refine lv_iconst (v := 1) C0.1.1 C0.1.2.1 dX4_pushes_51 (by decide) ?_
      refine lv_isub C0.1.1 C0.1.2.1 dX4_pushes_52 ?_
      refine lv_aload_n C0.1.1 C0.1.2.1 dX4_pushes_53 rfl (lv_at hl 0 rfl) ?_
      refine g_get (ci := 6) (v := .ref (a 8)) (T := TX4) (N := 16) C0.1 Z 0 rfl rfl 11 (by decide) kX4_pushes_in kX4_pushes_f32 rfl rfl dX4_pushes_54 ?_
      refine lv_aload_n C0.1.1 C0.1.2.1 dX4_pushes_57 rfl (lv_at hl 0 rfl) ?_
      refine g_get (ci := 6) (v := .int he) (T := TX4) (N := 16) C0.1 Z 0 rfl rfl 12 (by decide) kX4_pushes_in kX4_pushes_f82 rfl rfl dX4_pushes_58 ?_
      refine lv_iconst (v := 1) C0.1.1 C0.1.2.1 dX4_pushes_61 (by decide) ?_
      refine lv_isub C0.1.1 C0.1.2.1 dX4_pushes_62 ?_
      obtain ⟨hi2, h⟩ := g_ni h
      refine g_lald (f := sk) (n := 15) C0.1 Z 8 1 rfl rfl hi2 dX4_pushes_63 ?_
      refine lv_lneg C0.1.1 C0.1.2.1 dX4_pushes_64 ?_
      obtain ⟨hi3, h⟩ := g_ni h
      refine g_last (f := sk) (n := 15) (ws' := (XM a cyI cyJ th df la fo he wt br dr fm sz om os st wa va (vp_updL sk (he - (1 : Int32)).toNatClampNeg (-(sk (he - (1 : Int32)).toNatClampNeg))) ++ Y)) C0.1 Z 8 1 rfl rfl hi3 dX4_pushes_65 rfl (fun H locs Z => ?_)
      refine lv_aload_n C0.1.1 C0.1.2.1 dX4_pushes_66 rfl (lv_at hl 0 rfl) ?_
      refine lv_dup C0.1.1 C0.1.2.1 dX4_pushes_67 rfl ?_
      refine g_get (ci := 6) (v := .int wt) (T := TX4) (N := 16) C0.1 Z 0 rfl rfl 14 (by decide) kX4_pushes_in kX4_pushes_f85 rfl rfl dX4_pushes_68 ?_
      refine lv_iconst (v := 1) C0.1.1 C0.1.2.1 dX4_pushes_71 (by decide) ?_
      refine lv_isub C0.1.1 C0.1.2.1 dX4_pushes_72 ?_
      refine g_put (ci := 6) (v := .int (wt - (1 : Int32))) (T := TX4) (N := 16) (ws' := (XM a cyI cyJ th df la fo he (wt - (1 : Int32)) br dr fm sz om os st wa va (vp_updL sk (he - (1 : Int32)).toNatClampNeg (-(sk (he - (1 : Int32)).toNatClampNeg))) ++ Y)) C0.1 Z 0 rfl rfl 14 (by decide) kX4_pushes_in kX4_pushes_f85 rfl tyX4 tyX4_ok nmX4 rfl rfl rfl (Nat.le_of_ble_eq_true rfl) dX4_pushes_73 rfl (fun H locs Z => ?_)
      refine lv_goto (tgt := 20) C0.1.1 C0.1.2.1 dX4_pushes_76 (by decide) ?_
      exact hr20 he (wt - (1 : Int32)) (vp_updL sk (he - (1 : Int32)).toNatClampNeg (-(sk (he - (1 : Int32)).toNatClampNeg))) _ _ _ h Z (lv_sub hl [0] rfl)
theorem wX4_pushes_20 {p : Program} {l : Launch} {e : Env} {s : State} {m : MethodId} {args : Array Value} {below : List Frame} {meth : Method} {c : Code} {Q : State → Prop} {D : va_G} {cyI cyJ cyO : ClassId} {A : Nat → Prop} {bs : Nat} {a : Nat → Nat} {Y : va_W} {th : Int32} {df : Int32} {la : Int32} {fo : Int32} {br : Int32} {dr : Nat → Int32} {fm : Nat → Int32} {sz : Nat → Int32} {om : Nat → Int32} {os : Nat → Int32} {st : Nat → Int32} {wa : Nat → Int32} {va : Nat → Int64} {N : Nat} {res : Int32 × Int32 × (Nat → Int64)} (C0 : gC p m meth c cX4_pushes 3 none s args wsX4_pushes RX4) (hret : ∀ (he_r : Int32) (wt_r : Int32) (sk_r : Nat → Int64) (H : Heap) (locs : List Loc) (pc : Nat) (ls : Array Slot), some (he_r, wt_r, sk_r) = some res → gZ D (gT cyI cyJ cyO) (XM a cyI cyJ th df la fo he_r wt_r br dr fm sz om os st wa va sk_r ++ Y) A bs s H locs → decode cX4_pushes pc = .ok (.return_, 1) → W p l e rmX4_pushes s m args below meth c H locs 0 0 Q (F0 m pc ls []))  : ∀ (n : Nat), ∀ (he : Int32) (wt : Int32) (sk : Nat → Int64) (H : Heap) (locs : List Loc) (ls : Array Slot), mX4_pushes_20 N wa n he wt sk = some res → gZ D (gT cyI cyJ cyO) (XM a cyI cyJ th df la fo he wt br dr fm sz om os st wa va sk ++ Y) A bs s H locs → lv_has ls 3 [(0, .ref (a 0))] → W p l e rmX4_pushes s m args below meth c H locs 0 0 Q (F0 m 20 ls []) := by
  intro n
  induction n with
  | zero => intro _ _ _ _ _ _ h; cases h
  | succ n ih => exact wX4_pushes_20_b (N := N) C0 hret ih
set_option maxRecDepth 20000 in
set_option maxHeartbeats 4000000 in
theorem zX4_pushes (l : Launch) (D : va_G) (cyI cyJ cyO : ClassId) (A : Nat → Prop) (bs : Nat) (hA : ∀ q, bs ≤ q → A q) (a : Nat → Nat) (Y : va_W) (th : Int32) (df : Int32) (la : Int32) (fo : Int32) (he : Int32) (wt : Int32) (br : Int32) (dr : Nat → Int32) (fm : Nat → Int32) (sz : Nat → Int32) (om : Nat → Int32) (os : Nat → Int32) (st : Nat → Int32) (wa : Nat → Int32) (va : Nat → Int64) (sk : Nat → Int64) (N : Nat) (p0 : Int64) (res : Int32 × Int32 × (Nat → Int64)) (h : mX4_pushes N wa he wt sk p0 = some res) : Met l yX4_pushes wsX4_pushes rmX4_pushes (va_Pc [.ref (a 0), .long p0] (gW D (gT cyI cyJ cyO) (XM a cyI cyJ th df la fo he wt br dr fm sz om os st wa va sk ++ Y) A bs)) (va_Qv (fun (u : Int32 × Int32 × (Nat → Int64)) => res = u) (fun (u : Int32 × Int32 × (Nat → Int64)) U => gW D (gT cyI cyJ cyO) (XM a cyI cyJ th df la fo u.1 u.2.1 br dr fm sz om os st wa va u.2.2 ++ Y) A bs U) A) 0 0 A := by
  refine Met.ofW (cc := cX4_pushes) (maxL := 3) (ret := none) (by decide) rfl ?_
  intro p e s m args below meth c s₁ B hml hv
  obtain ⟨hav, hv⟩ := hv
  have C0 : gC p m meth c cX4_pushes 3 none s args wsX4_pushes RX4 := ⟨⟨B.exec, B.bytes, hml, findClass_of_methodNamed B.named, atoms_spec (ws := wsX4_pushes) B.pre⟩, B.returns, B.notSynchronized⟩
  have Z := g_start hA hv
  have hret : ∀ (he_r : Int32) (wt_r : Int32) (sk_r : Nat → Int64) (H : Heap) (locs : List Loc) (pc : Nat) (ls : Array Slot), some (he_r, wt_r, sk_r) = some res → gZ D (gT cyI cyJ cyO) (XM a cyI cyJ th df la fo he_r wt_r br dr fm sz om os st wa va sk_r ++ Y) A bs s H locs → decode cX4_pushes pc = .ok (.return_, 1) → W p l e rmX4_pushes s m args below meth c H locs 0 0 (MQ below (va_Qv (fun (u : Int32 × Int32 × (Nat → Int64)) => res = u) (fun (u : Int32 × Int32 × (Nat → Int64)) U => gW D (gT cyI cyJ cyO) (XM a cyI cyJ th df la fo u.1 u.2.1 br dr fm sz om os st wa va u.2.2 ++ Y) A bs U) A) args s 0 0 A) (F0 m pc ls []) := by
    intro he_r wt_r sk_r H locs pc ls h Z hd
    replace h := Option.some.inj h
    exact W.vret C0.1.1 C0.1.2.1 C0.2.1 (fun t ht hW => ⟨⟨(he_r, wt_r, sk_r), rfl, h.symm, g_end Z ht hW⟩, Z.2.2.2.1.F ht⟩) Z.2.2.2.1.2.2 hd C0.2.2
  have hl := lv_entry ([.ref (a 0), .long p0]) (n := 3) (Nat.le_of_ble_eq_true rfl)
  rw [hav, lg_entry_eq]
  generalize (lg_sl ([.ref (a 0), .long p0]) ++ List.replicate (3 - (lg_sl ([.ref (a 0), .long p0])).length) Slot.unset).toArray = ls at hl ⊢
  have hl : lv_has ls 3 [(0, .ref (a 0)), (1, .long p0)] := hl
  rw [← hav]
  unfold mX4_pushes at h
  refine lv_aload_n C0.1.1 C0.1.2.1 dX4_pushes_0 rfl (lv_at hl 0 rfl) ?_
  refine g_get (ci := 6) (v := .ref (a 8)) (T := TX4) (N := 16) C0.1 Z 0 rfl rfl 11 (by decide) kX4_pushes_in kX4_pushes_f32 rfl rfl dX4_pushes_1 ?_
  refine lv_aload_n C0.1.1 C0.1.2.1 dX4_pushes_4 rfl (lv_at hl 0 rfl) ?_
  refine g_get (ci := 6) (v := .int he) (T := TX4) (N := 16) C0.1 Z 0 rfl rfl 12 (by decide) kX4_pushes_in kX4_pushes_f82 rfl rfl dX4_pushes_5 ?_
  refine lv_lload_n C0.1.1 C0.1.2.1 dX4_pushes_8 rfl (lv_at hl 1 rfl) ?_
  obtain ⟨hi4, h⟩ := g_ni h
  refine g_last (f := sk) (n := 15) (ws' := (XM a cyI cyJ th df la fo he wt br dr fm sz om os st wa va (vp_updL sk he.toNatClampNeg p0) ++ Y)) C0.1 Z 8 1 rfl rfl hi4 dX4_pushes_9 rfl (fun H locs Z => ?_)
  refine lv_aload_n C0.1.1 C0.1.2.1 dX4_pushes_10 rfl (lv_at hl 0 rfl) ?_
  refine lv_dup C0.1.1 C0.1.2.1 dX4_pushes_11 rfl ?_
  refine g_get (ci := 6) (v := .int he) (T := TX4) (N := 16) C0.1 Z 0 rfl rfl 12 (by decide) kX4_pushes_in kX4_pushes_f82 rfl rfl dX4_pushes_12 ?_
  refine lv_iconst (v := 1) C0.1.1 C0.1.2.1 dX4_pushes_15 (by decide) ?_
  refine lv_iadd C0.1.1 C0.1.2.1 dX4_pushes_16 ?_
  refine g_put (ci := 6) (v := .int (he + (1 : Int32))) (T := TX4) (N := 16) (ws' := (XM a cyI cyJ th df la fo (he + (1 : Int32)) wt br dr fm sz om os st wa va (vp_updL sk he.toNatClampNeg p0) ++ Y)) C0.1 Z 0 rfl rfl 12 (by decide) kX4_pushes_in kX4_pushes_f82 rfl tyX4 tyX4_ok nmX4 rfl rfl rfl (Nat.le_of_ble_eq_true rfl) dX4_pushes_17 rfl (fun H locs Z => ?_)
  exact wX4_pushes_20 (N := N) C0 hret N (he + (1 : Int32)) wt (vp_updL sk he.toNatClampNeg p0) _ _ _ h Z (lv_sub hl [0] rfl)
/-! X4_size -/
abbrev rmX4_size : Room := { frames := 0, cells := 0, slots := 0, locals := 0 }
def mX4_size_12 (N : Nat) (s0 : Int64) : Option (Int64) := some (s0)
def mX4_size (N : Nat) (p0 : Int64) : Option (Int64) := (if 0 ≤ (lg_cmp p0 (0 : Int64)) then mX4_size_12 N p0 else mX4_size_12 N (-p0))
set_option maxRecDepth 20000 in
set_option maxHeartbeats 4000000 in
theorem wX4_size_12 {p : Program} {l : Launch} {e : Env} {s : State} {m : MethodId} {args : Array Value} {below : List Frame} {meth : Method} {c : Code} {Q : State → Prop} {D : va_G} {cyI cyJ cyO : ClassId} {A : Nat → Prop} {bs : Nat} {ws : va_W} {N : Nat} {res : Int64} (C0 : gC p m meth c cX4_size 2 (some .long) s args wsX4_size RX4) (hret : ∀ (r : Int64) (H : Heap) (locs : List Loc) (pc : Nat) (ls : Array Slot), some r = some res → gZ D (gT cyI cyJ cyO) ws A bs s H locs → decode cX4_size pc = .ok (.lreturn, 1) → W p l e rmX4_size s m args below meth c H locs 0 0 Q (F0 m pc ls [.long r]))  : ∀ (s0 : Int64) (H : Heap) (locs : List Loc) (ls : Array Slot), mX4_size_12 N s0 = some res → gZ D (gT cyI cyJ cyO) ws A bs s H locs → lv_has ls 2 [] → W p l e rmX4_size s m args below meth c H locs 0 0 Q (F0 m 12 ls [.long s0]) := by
  intro s0 H locs ls h Z hl
  unfold mX4_size_12 at h
  exact hret s0 _ _ _ _ h Z dX4_size_12
set_option maxRecDepth 20000 in
set_option maxHeartbeats 4000000 in
theorem zX4_size (l : Launch) (D : va_G) (cyI cyJ cyO : ClassId) (A : Nat → Prop) (bs : Nat) (hA : ∀ q, bs ≤ q → A q) (ws : va_W) (N : Nat) (p0 : Int64) (res : Int64) (h : mX4_size N p0 = some res) : Met l yX4_size wsX4_size rmX4_size (va_Pc [.long p0] (gW D (gT cyI cyJ cyO) ws A bs)) (va_Ql (fun (r : Int64) (_ : Unit) => res = r) (fun (u : Unit) U => gW D (gT cyI cyJ cyO) ws A bs U) A) 0 0 A := by
  refine Met.ofW (cc := cX4_size) (maxL := 2) (ret := (some .long)) (by decide) rfl ?_
  intro p e s m args below meth c s₁ B hml hv
  obtain ⟨hav, hv⟩ := hv
  have C0 : gC p m meth c cX4_size 2 (some .long) s args wsX4_size RX4 := ⟨⟨B.exec, B.bytes, hml, findClass_of_methodNamed B.named, atoms_spec (ws := wsX4_size) B.pre⟩, B.returns, B.notSynchronized⟩
  have Z := g_start hA hv
  have hret : ∀ (r : Int64) (H : Heap) (locs : List Loc) (pc : Nat) (ls : Array Slot), some r = some res → gZ D (gT cyI cyJ cyO) ws A bs s H locs → decode cX4_size pc = .ok (.lreturn, 1) → W p l e rmX4_size s m args below meth c H locs 0 0 (MQ below (va_Ql (fun (r : Int64) (_ : Unit) => res = r) (fun (u : Unit) U => gW D (gT cyI cyJ cyO) ws A bs U) A) args s 0 0 A) (F0 m pc ls [.long r]) := by
    intro r H locs pc ls h Z hd
    replace h := Option.some.inj h
    exact W.lret C0.1.1 C0.1.2.1 C0.2.1 (fun t ht hW => ⟨⟨r, (()), rfl, h.symm, g_end Z ht hW⟩, Z.2.2.2.1.F ht⟩) Z.2.2.2.1.2.2 hd C0.2.2
  have hl := lv_entry ([.long p0]) (n := 2) (Nat.le_of_ble_eq_true rfl)
  rw [hav, lg_entry_eq]
  generalize (lg_sl ([.long p0]) ++ List.replicate (2 - (lg_sl ([.long p0])).length) Slot.unset).toArray = ls at hl ⊢
  have hl : lv_has ls 2 [(0, .long p0)] := hl
  rw [← hav]
  unfold mX4_size at h
  refine lv_lload_n C0.1.1 C0.1.2.1 dX4_size_0 rfl (lv_at hl 0 rfl) ?_
  refine lv_lconst (v := 0) C0.1.1 C0.1.2.1 dX4_size_1 (by decide) ?_
  refine W.lcmp C0.1.1 C0.1.2.1 dX4_size_2 ?_
  refine lv_if_ge (tgt := 11) C0.1.1 C0.1.2.1 dX4_size_3 (by decide) (fun hc => ?_) (fun hc => ?_)
  · replace h := (if_pos hc).symm.trans h
    refine lv_lload_n C0.1.1 C0.1.2.1 dX4_size_11 rfl (lv_at hl 0 rfl) ?_
    exact wX4_size_12 (N := N) C0 hret p0 _ _ _ h Z (lv_sub hl [] rfl)
  · replace h := (if_neg hc).symm.trans h
    refine lv_lload_n C0.1.1 C0.1.2.1 dX4_size_6 rfl (lv_at hl 0 rfl) ?_
    refine lv_lneg C0.1.1 C0.1.2.1 dX4_size_7 ?_
    refine lv_goto (tgt := 12) C0.1.1 C0.1.2.1 dX4_size_8 (by decide) ?_
    exact wX4_size_12 (N := N) C0 hret (-p0) _ _ _ h Z (lv_sub hl [] rfl)
/-! X4_quotient -/
abbrev rmX4_quotient : Room := { frames := 0, cells := 0, slots := 0, locals := 0 }
def mX4_quotient_47 (N : Nat) (s0 : Int64) : Option (Int64) := some (s0)
def mX4_quotient_45 (N : Nat) (v4 : Int64) : Option (Int64) := mX4_quotient_47 N v4
def mX4_quotient_35 (N : Nat) (v4 : Int64) (s0 : Int32) (s1 : Int32) : Option (Int64) := (if s0 = s1 then mX4_quotient_45 N v4 else mX4_quotient_47 N (v4 - (1 : Int64)))
def mX4_quotient_24 (N : Nat) (v2 : Int64) (v4 : Int64) (s0 : Int32) : Option (Int64) := (if 0 ≤ (lg_cmp v2 (0 : Int64)) then mX4_quotient_35 N v4 s0 (0 : Int32) else mX4_quotient_35 N v4 s0 (1 : Int32))
def mX4_quotient (N : Nat) (p0 : Int64) (p1 : Int64) : Option (Int64) := (if p1 = 0 then none else (if p1 = 0 then none else (if (lg_cmp (p0 - p0 / p1 * p1) (0 : Int64)) = 0 then mX4_quotient_45 N (p0 / p1) else (if 0 ≤ (lg_cmp p0 (0 : Int64)) then mX4_quotient_24 N p1 (p0 / p1) (0 : Int32) else mX4_quotient_24 N p1 (p0 / p1) (1 : Int32)))))
set_option maxRecDepth 20000 in
set_option maxHeartbeats 4000000 in
theorem wX4_quotient_47 {p : Program} {l : Launch} {e : Env} {s : State} {m : MethodId} {args : Array Value} {below : List Frame} {meth : Method} {c : Code} {Q : State → Prop} {D : va_G} {cyI cyJ cyO : ClassId} {A : Nat → Prop} {bs : Nat} {ws : va_W} {N : Nat} {res : Int64} (C0 : gC p m meth c cX4_quotient 6 (some .long) s args wsX4_quotient RX4) (hret : ∀ (r : Int64) (H : Heap) (locs : List Loc) (pc : Nat) (ls : Array Slot), some r = some res → gZ D (gT cyI cyJ cyO) ws A bs s H locs → decode cX4_quotient pc = .ok (.lreturn, 1) → W p l e rmX4_quotient s m args below meth c H locs 0 0 Q (F0 m pc ls [.long r]))  : ∀ (s0 : Int64) (H : Heap) (locs : List Loc) (ls : Array Slot), mX4_quotient_47 N s0 = some res → gZ D (gT cyI cyJ cyO) ws A bs s H locs → lv_has ls 6 [] → W p l e rmX4_quotient s m args below meth c H locs 0 0 Q (F0 m 47 ls [.long s0]) := by
  intro s0 H locs ls h Z hl
  unfold mX4_quotient_47 at h
  exact hret s0 _ _ _ _ h Z dX4_quotient_47
set_option maxRecDepth 20000 in
set_option maxHeartbeats 4000000 in
theorem wX4_quotient_45 {p : Program} {l : Launch} {e : Env} {s : State} {m : MethodId} {args : Array Value} {below : List Frame} {meth : Method} {c : Code} {Q : State → Prop} {D : va_G} {cyI cyJ cyO : ClassId} {A : Nat → Prop} {bs : Nat} {ws : va_W} {N : Nat} {res : Int64} (C0 : gC p m meth c cX4_quotient 6 (some .long) s args wsX4_quotient RX4) (hret : ∀ (r : Int64) (H : Heap) (locs : List Loc) (pc : Nat) (ls : Array Slot), some r = some res → gZ D (gT cyI cyJ cyO) ws A bs s H locs → decode cX4_quotient pc = .ok (.lreturn, 1) → W p l e rmX4_quotient s m args below meth c H locs 0 0 Q (F0 m pc ls [.long r]))  : ∀ (v4 : Int64) (H : Heap) (locs : List Loc) (ls : Array Slot), mX4_quotient_45 N v4 = some res → gZ D (gT cyI cyJ cyO) ws A bs s H locs → lv_has ls 6 [(4, .long v4)] → W p l e rmX4_quotient s m args below meth c H locs 0 0 Q (F0 m 45 ls []) := by
  intro v4 H locs ls h Z hl
  unfold mX4_quotient_45 at h
  refine lv_lload C0.1.1 C0.1.2.1 dX4_quotient_45 (lv_at hl 0 rfl) ?_
  exact wX4_quotient_47 (N := N) C0 hret v4 _ _ _ h Z (lv_sub hl [] rfl)
set_option maxRecDepth 20000 in
set_option maxHeartbeats 4000000 in
theorem wX4_quotient_35 {p : Program} {l : Launch} {e : Env} {s : State} {m : MethodId} {args : Array Value} {below : List Frame} {meth : Method} {c : Code} {Q : State → Prop} {D : va_G} {cyI cyJ cyO : ClassId} {A : Nat → Prop} {bs : Nat} {ws : va_W} {N : Nat} {res : Int64} (C0 : gC p m meth c cX4_quotient 6 (some .long) s args wsX4_quotient RX4) (hret : ∀ (r : Int64) (H : Heap) (locs : List Loc) (pc : Nat) (ls : Array Slot), some r = some res → gZ D (gT cyI cyJ cyO) ws A bs s H locs → decode cX4_quotient pc = .ok (.lreturn, 1) → W p l e rmX4_quotient s m args below meth c H locs 0 0 Q (F0 m pc ls [.long r]))  : ∀ (v4 : Int64) (s0 : Int32) (s1 : Int32) (H : Heap) (locs : List Loc) (ls : Array Slot), mX4_quotient_35 N v4 s0 s1 = some res → gZ D (gT cyI cyJ cyO) ws A bs s H locs → lv_has ls 6 [(4, .long v4)] → W p l e rmX4_quotient s m args below meth c H locs 0 0 Q (F0 m 35 ls [.int s1, .int s0]) := by
  intro v4 s0 s1 H locs ls h Z hl
  unfold mX4_quotient_35 at h
  refine lv_icmp_eq (tgt := 45) C0.1.1 C0.1.2.1 dX4_quotient_35 (by decide) (fun hc => ?_) (fun hc => ?_)
  · replace h := (if_pos hc).symm.trans h
    exact wX4_quotient_45 (N := N) C0 hret v4 _ _ _ h Z (lv_sub hl [0] rfl)
  · replace h := (if_neg hc).symm.trans h
    refine lv_lload C0.1.1 C0.1.2.1 dX4_quotient_38 (lv_at hl 0 rfl) ?_
    refine lv_lconst (v := 1) C0.1.1 C0.1.2.1 dX4_quotient_40 (by decide) ?_
    refine lv_lsub C0.1.1 C0.1.2.1 dX4_quotient_41 ?_
    refine lv_goto (tgt := 47) C0.1.1 C0.1.2.1 dX4_quotient_42 (by decide) ?_
    exact wX4_quotient_47 (N := N) C0 hret (v4 - (1 : Int64)) _ _ _ h Z (lv_sub hl [] rfl)
set_option maxRecDepth 20000 in
set_option maxHeartbeats 4000000 in
theorem wX4_quotient_24 {p : Program} {l : Launch} {e : Env} {s : State} {m : MethodId} {args : Array Value} {below : List Frame} {meth : Method} {c : Code} {Q : State → Prop} {D : va_G} {cyI cyJ cyO : ClassId} {A : Nat → Prop} {bs : Nat} {ws : va_W} {N : Nat} {res : Int64} (C0 : gC p m meth c cX4_quotient 6 (some .long) s args wsX4_quotient RX4) (hret : ∀ (r : Int64) (H : Heap) (locs : List Loc) (pc : Nat) (ls : Array Slot), some r = some res → gZ D (gT cyI cyJ cyO) ws A bs s H locs → decode cX4_quotient pc = .ok (.lreturn, 1) → W p l e rmX4_quotient s m args below meth c H locs 0 0 Q (F0 m pc ls [.long r]))  : ∀ (v2 : Int64) (v4 : Int64) (s0 : Int32) (H : Heap) (locs : List Loc) (ls : Array Slot), mX4_quotient_24 N v2 v4 s0 = some res → gZ D (gT cyI cyJ cyO) ws A bs s H locs → lv_has ls 6 [(2, .long v2), (4, .long v4)] → W p l e rmX4_quotient s m args below meth c H locs 0 0 Q (F0 m 24 ls [.int s0]) := by
  intro v2 v4 s0 H locs ls h Z hl
  unfold mX4_quotient_24 at h
  refine lv_lload_n C0.1.1 C0.1.2.1 dX4_quotient_24 rfl (lv_at hl 0 rfl) ?_
  refine lv_lconst (v := 0) C0.1.1 C0.1.2.1 dX4_quotient_25 (by decide) ?_
  refine W.lcmp C0.1.1 C0.1.2.1 dX4_quotient_26 ?_
  refine lv_if_ge (tgt := 34) C0.1.1 C0.1.2.1 dX4_quotient_27 (by decide) (fun hc => ?_) (fun hc => ?_)
  · replace h := (if_pos hc).symm.trans h
    refine lv_iconst (v := 0) C0.1.1 C0.1.2.1 dX4_quotient_34 (by decide) ?_
    exact wX4_quotient_35 (N := N) C0 hret v4 s0 (0 : Int32) _ _ _ h Z (lv_sub hl [1] rfl)
  · replace h := (if_neg hc).symm.trans h
    refine lv_iconst (v := 1) C0.1.1 C0.1.2.1 dX4_quotient_30 (by decide) ?_
    refine lv_goto (tgt := 35) C0.1.1 C0.1.2.1 dX4_quotient_31 (by decide) ?_
    exact wX4_quotient_35 (N := N) C0 hret v4 s0 (1 : Int32) _ _ _ h Z (lv_sub hl [1] rfl)
set_option maxRecDepth 20000 in
set_option maxHeartbeats 4000000 in
theorem zX4_quotient (l : Launch) (D : va_G) (cyI cyJ cyO : ClassId) (A : Nat → Prop) (bs : Nat) (hA : ∀ q, bs ≤ q → A q) (ws : va_W) (N : Nat) (p0 : Int64) (p1 : Int64) (res : Int64) (h : mX4_quotient N p0 p1 = some res) : Met l yX4_quotient wsX4_quotient rmX4_quotient (va_Pc [.long p0, .long p1] (gW D (gT cyI cyJ cyO) ws A bs)) (va_Ql (fun (r : Int64) (_ : Unit) => res = r) (fun (u : Unit) U => gW D (gT cyI cyJ cyO) ws A bs U) A) 0 0 A := by
  refine Met.ofW (cc := cX4_quotient) (maxL := 6) (ret := (some .long)) (by decide) rfl ?_
  intro p e s m args below meth c s₁ B hml hv
  obtain ⟨hav, hv⟩ := hv
  have C0 : gC p m meth c cX4_quotient 6 (some .long) s args wsX4_quotient RX4 := ⟨⟨B.exec, B.bytes, hml, findClass_of_methodNamed B.named, atoms_spec (ws := wsX4_quotient) B.pre⟩, B.returns, B.notSynchronized⟩
  have Z := g_start hA hv
  have hret : ∀ (r : Int64) (H : Heap) (locs : List Loc) (pc : Nat) (ls : Array Slot), some r = some res → gZ D (gT cyI cyJ cyO) ws A bs s H locs → decode cX4_quotient pc = .ok (.lreturn, 1) → W p l e rmX4_quotient s m args below meth c H locs 0 0 (MQ below (va_Ql (fun (r : Int64) (_ : Unit) => res = r) (fun (u : Unit) U => gW D (gT cyI cyJ cyO) ws A bs U) A) args s 0 0 A) (F0 m pc ls [.long r]) := by
    intro r H locs pc ls h Z hd
    replace h := Option.some.inj h
    exact W.lret C0.1.1 C0.1.2.1 C0.2.1 (fun t ht hW => ⟨⟨r, (()), rfl, h.symm, g_end Z ht hW⟩, Z.2.2.2.1.F ht⟩) Z.2.2.2.1.2.2 hd C0.2.2
  have hl := lv_entry ([.long p0, .long p1]) (n := 6) (Nat.le_of_ble_eq_true rfl)
  rw [hav, lg_entry_eq]
  generalize (lg_sl ([.long p0, .long p1]) ++ List.replicate (6 - (lg_sl ([.long p0, .long p1])).length) Slot.unset).toArray = ls at hl ⊢
  have hl : lv_has ls 6 [(0, .long p0), (2, .long p1)] := hl
  rw [← hav]
  unfold mX4_quotient at h
  refine lv_lload_n C0.1.1 C0.1.2.1 dX4_quotient_0 rfl (lv_at hl 0 rfl) ?_
  refine lv_lload_n C0.1.1 C0.1.2.1 dX4_quotient_1 rfl (lv_at hl 1 rfl) ?_
  obtain ⟨hn1, h⟩ := g_ni h
  refine lv_ldiv C0.1.1 C0.1.2.1 dX4_quotient_2 hn1 ?_
  refine lv_lstore (lv' := [(4, .long (p0 / p1)), (0, .long p0), (2, .long p1)]) C0.1.1 C0.1.2.1 dX4_quotient_3 hl (by decide) rfl (fun ls hl => ?_)
  refine lv_lload_n C0.1.1 C0.1.2.1 dX4_quotient_5 rfl (lv_at hl 1 rfl) ?_
  refine lv_lload_n C0.1.1 C0.1.2.1 dX4_quotient_6 rfl (lv_at hl 2 rfl) ?_
  obtain ⟨hn2, h⟩ := g_ni h
  refine lv_lrem C0.1.1 C0.1.2.1 dX4_quotient_7 hn2 ?_
  refine lv_lconst (v := 0) C0.1.1 C0.1.2.1 dX4_quotient_8 (by decide) ?_
  refine W.lcmp C0.1.1 C0.1.2.1 dX4_quotient_9 ?_
  refine lv_if_eq (tgt := 45) C0.1.1 C0.1.2.1 dX4_quotient_10 (by decide) (fun hc => ?_) (fun hc => ?_)
  · replace h := (if_pos hc).symm.trans h
    exact wX4_quotient_45 (N := N) C0 hret (p0 / p1) _ _ _ h Z (lv_sub hl [0] rfl)
  · replace h := (if_neg hc).symm.trans h
    refine lv_lload_n C0.1.1 C0.1.2.1 dX4_quotient_13 rfl (lv_at hl 1 rfl) ?_
    refine lv_lconst (v := 0) C0.1.1 C0.1.2.1 dX4_quotient_14 (by decide) ?_
    refine W.lcmp C0.1.1 C0.1.2.1 dX4_quotient_15 ?_
    refine lv_if_ge (tgt := 23) C0.1.1 C0.1.2.1 dX4_quotient_16 (by decide) (fun hc => ?_) (fun hc => ?_)
    · replace h := (if_pos hc).symm.trans h
      refine lv_iconst (v := 0) C0.1.1 C0.1.2.1 dX4_quotient_23 (by decide) ?_
      exact wX4_quotient_24 (N := N) C0 hret p1 (p0 / p1) (0 : Int32) _ _ _ h Z (lv_sub hl [2, 0] rfl)
    · replace h := (if_neg hc).symm.trans h
      refine lv_iconst (v := 1) C0.1.1 C0.1.2.1 dX4_quotient_19 (by decide) ?_
      refine lv_goto (tgt := 24) C0.1.1 C0.1.2.1 dX4_quotient_20 (by decide) ?_
      exact wX4_quotient_24 (N := N) C0 hret p1 (p0 / p1) (1 : Int32) _ _ _ h Z (lv_sub hl [2, 0] rfl)
/-! X4_joins -/
abbrev rmX4_joins : Room := { frames := 1, cells := 0, slots := 0, locals := 25 }
theorem kX4_joins_f98 : Cond.fieldLink RX4 98 "GoalseekOfficeModel" "isBroken" "Z" ∈ wsX4_joins := by decide +kernel
theorem kX4_joins_in : ∀ w ∈ wsX40, w ∈ wsX4_joins := by decide +kernel
theorem kX4_joins_f32 : Cond.fieldLink RX4 32 "GoalseekOfficeModel" "stack" "[J" ∈ wsX4_joins := by decide +kernel
theorem kX4_joins_f82 : Cond.fieldLink RX4 82 "GoalseekOfficeModel" "height" "I" ∈ wsX4_joins := by decide +kernel
theorem kX4_joins_c92 : Cond.constantLong RX4 92 (1000000000000) ∈ wsX4_joins := by decide +kernel
theorem kX4_joins_f85 : Cond.fieldLink RX4 85 "GoalseekOfficeModel" "waits" "I" ∈ wsX4_joins := by decide +kernel
theorem kX4_joins_f35 : Cond.fieldLink RX4 35 "GoalseekOfficeModel" "waiting" "[I" ∈ wsX4_joins := by decide +kernel
def mX4_joins_225 (N : Nat) (wa : Nat → Int32) (he : Int32) (wt : Int32) (br : Int32) (sk : Nat → Int64) (s1 : Int32) (s2 : Int64) : Option (Int32 × Int32 × Int32 × (Nat → Int64)) := (if s1 < 0 ∨ 15 ≤ s1.toNatClampNeg then none else some (he, wt, br, (vp_updL sk s1.toNatClampNeg s2)))
def mX4_joins_199 (N : Nat) (wa : Nat → Int32) (he : Int32) (wt : Int32) (br : Int32) (sk : Nat → Int64) (v8 : Int64) (s1 : Int32) : Option (Int32 × Int32 × Int32 × (Nat → Int64)) := (if (s1 = 0 ∨ s1 = 1) then (if s1 = 0 then mX4_joins_225 N wa he wt s1 sk (he - (1 : Int32)) v8 else mX4_joins_225 N wa he wt s1 sk (he - (1 : Int32)) (0 : Int64)) else none)
def mX4_joins_194 (N : Nat) (wa : Nat → Int32) (he : Int32) (wt : Int32) (br : Int32) (sk : Nat → Int64) (v8 : Int64) : Option (Int32 × Int32 × Int32 × (Nat → Int64)) := mX4_joins_199 N wa he wt br sk v8 (1 : Int32)
def mX4_joins_162 (N : Nat) (wa : Nat → Int32) (he : Int32) (wt : Int32) (br : Int32) (sk : Nat → Int64) (v6 : Int32) (v7 : Int32) (s0 : Int64) : Option (Int32 × Int32 × Int32 × (Nat → Int64)) := (if br = 0 then (if v6 = 0 then (if v7 = 0 then ((mX4_size N s0).bind fun x3 => (if (lg_cmp x3 (1000000000000 : Int64)) ≤ 0 then mX4_joins_199 N wa he wt br sk s0 (0 : Int32) else mX4_joins_194 N wa he wt br sk s0)) else mX4_joins_194 N wa he wt br sk s0) else mX4_joins_194 N wa he wt br sk s0) else mX4_joins_194 N wa he wt br sk s0)
def mX4_joins_117 (N : Nat) (wa : Nat → Int32) (he : Int32) (wt : Int32) (br : Int32) (sk : Nat → Int64) (v6 : Int32) (v7 : Int32) : Option (Int32 × Int32 × Int32 × (Nat → Int64)) := mX4_joins_162 N wa he wt br sk v6 v7 (0 : Int64)
def mX4_joins_105 (N : Nat) (wa : Nat → Int32) (he : Int32) (wt : Int32) (br : Int32) (sk : Nat → Int64) (v1 : Int32) (v2 : Int64) (v4 : Int64) (v6 : Int32) (s0 : Int32) : Option (Int32 × Int32 × Int32 × (Nat → Int64)) := (if v6 = 0 then (if s0 = 0 then (if v1 = 0 then mX4_joins_162 N wa he wt br sk v6 s0 (v2 + v4) else (if v1 = (1 : Int32) then mX4_joins_162 N wa he wt br sk v6 s0 (v2 - v4) else (if v1 = (2 : Int32) then mX4_joins_162 N wa he wt br sk v6 s0 (v2 * v4) else ((mX4_quotient N v2 v4).bind fun x5 => mX4_joins_162 N wa he wt br sk v6 s0 x5)))) else mX4_joins_117 N wa he wt br sk v6 s0) else mX4_joins_117 N wa he wt br sk v6 s0)
def mX4_joins_104 (N : Nat) (wa : Nat → Int32) (he : Int32) (wt : Int32) (br : Int32) (sk : Nat → Int64) (v1 : Int32) (v2 : Int64) (v4 : Int64) (v6 : Int32) : Option (Int32 × Int32 × Int32 × (Nat → Int64)) := mX4_joins_105 N wa he wt br sk v1 v2 v4 v6 (0 : Int32)
def mX4_joins_86 (N : Nat) (wa : Nat → Int32) (he : Int32) (wt : Int32) (br : Int32) (sk : Nat → Int64) (v1 : Int32) (v2 : Int64) (v4 : Int64) (s0 : Int32) : Option (Int32 × Int32 × Int32 × (Nat → Int64)) := (if v1 = (3 : Int32) then (if (lg_cmp v4 (0 : Int64)) = 0 then mX4_joins_105 N wa he wt br sk v1 v2 v4 s0 (1 : Int32) else mX4_joins_104 N wa he wt br sk v1 v2 v4 s0) else mX4_joins_104 N wa he wt br sk v1 v2 v4 s0)
def mX4_joins_85 (N : Nat) (wa : Nat → Int32) (he : Int32) (wt : Int32) (br : Int32) (sk : Nat → Int64) (v1 : Int32) (v2 : Int64) (v4 : Int64) : Option (Int32 × Int32 × Int32 × (Nat → Int64)) := mX4_joins_86 N wa he wt br sk v1 v2 v4 (0 : Int32)
def mX4_joins (N : Nat) (wa : Nat → Int32) (he : Int32) (wt : Int32) (br : Int32) (sk : Nat → Int64) : Option (Int32 × Int32 × Int32 × (Nat → Int64)) := (if (wt - (1 : Int32)) < 0 ∨ 15 ≤ (wt - (1 : Int32)).toNatClampNeg then none else (if ((he - (1 : Int32)) - (1 : Int32)) < 0 ∨ 15 ≤ ((he - (1 : Int32)) - (1 : Int32)).toNatClampNeg then none else (if (he - (1 : Int32)) < 0 ∨ 15 ≤ (he - (1 : Int32)).toNatClampNeg then none else (if (wa (wt - (1 : Int32)).toNatClampNeg) = (2 : Int32) then (if (lg_cmp (sk ((he - (1 : Int32)) - (1 : Int32)).toNatClampNeg) (0 : Int64)) = 0 then mX4_joins_85 N wa (he - (1 : Int32)) (wt - (1 : Int32)) br sk (wa (wt - (1 : Int32)).toNatClampNeg) (sk ((he - (1 : Int32)) - (1 : Int32)).toNatClampNeg) (sk (he - (1 : Int32)).toNatClampNeg) else ((mX4_size N (sk (he - (1 : Int32)).toNatClampNeg)).bind fun x10 => ((mX4_size N (sk ((he - (1 : Int32)) - (1 : Int32)).toNatClampNeg)).bind fun x12 => (if x12 = 0 then none else (if (lg_cmp x10 ((1000000000000 : Int64) / x12)) ≤ 0 then mX4_joins_85 N wa (he - (1 : Int32)) (wt - (1 : Int32)) br sk (wa (wt - (1 : Int32)).toNatClampNeg) (sk ((he - (1 : Int32)) - (1 : Int32)).toNatClampNeg) (sk (he - (1 : Int32)).toNatClampNeg) else mX4_joins_86 N wa (he - (1 : Int32)) (wt - (1 : Int32)) br sk (wa (wt - (1 : Int32)).toNatClampNeg) (sk ((he - (1 : Int32)) - (1 : Int32)).toNatClampNeg) (sk (he - (1 : Int32)).toNatClampNeg) (1 : Int32)))))) else mX4_joins_85 N wa (he - (1 : Int32)) (wt - (1 : Int32)) br sk (wa (wt - (1 : Int32)).toNatClampNeg) (sk ((he - (1 : Int32)) - (1 : Int32)).toNatClampNeg) (sk (he - (1 : Int32)).toNatClampNeg)))))
set_option maxRecDepth 20000 in
set_option maxHeartbeats 4000000 in
theorem wX4_joins_225 {p : Program} {l : Launch} {e : Env} {s : State} {m : MethodId} {args : Array Value} {below : List Frame} {meth : Method} {c : Code} {Q : State → Prop} {D : va_G} {cyI cyJ cyO : ClassId} {A : Nat → Prop} {bs : Nat} {a : Nat → Nat} {Y : va_W} {th : Int32} {df : Int32} {la : Int32} {fo : Int32} {dr : Nat → Int32} {fm : Nat → Int32} {sz : Nat → Int32} {om : Nat → Int32} {os : Nat → Int32} {st : Nat → Int32} {wa : Nat → Int32} {va : Nat → Int64} {N : Nat} {res : Int32 × Int32 × Int32 × (Nat → Int64)} (C0 : gC p m meth c cX4_joins 10 none s args wsX4_joins RX4) (hret : ∀ (he_r : Int32) (wt_r : Int32) (br_r : Int32) (sk_r : Nat → Int64) (H : Heap) (locs : List Loc) (pc : Nat) (ls : Array Slot), some (he_r, wt_r, br_r, sk_r) = some res → gZ D (gT cyI cyJ cyO) (XM a cyI cyJ th df la fo he_r wt_r br_r dr fm sz om os st wa va sk_r ++ Y) A bs s H locs → decode cX4_joins pc = .ok (.return_, 1) → W p l e rmX4_joins s m args below meth c H locs 0 0 Q (F0 m pc ls []))  : ∀ (he : Int32) (wt : Int32) (br : Int32) (sk : Nat → Int64) (s1 : Int32) (s2 : Int64) (H : Heap) (locs : List Loc) (ls : Array Slot), mX4_joins_225 N wa he wt br sk s1 s2 = some res → gZ D (gT cyI cyJ cyO) (XM a cyI cyJ th df la fo he wt br dr fm sz om os st wa va sk ++ Y) A bs s H locs → lv_has ls 10 [] → W p l e rmX4_joins s m args below meth c H locs 0 0 Q (F0 m 225 ls [.long s2, .int s1, .ref (a 8)]) := by
  intro he wt br sk s1 s2 H locs ls h Z hl
  unfold mX4_joins_225 at h
  obtain ⟨hi1, h⟩ := g_ni h
  refine g_last (f := sk) (n := 15) (ws' := (XM a cyI cyJ th df la fo he wt br dr fm sz om os st wa va (vp_updL sk s1.toNatClampNeg s2) ++ Y)) C0.1 Z 8 1 rfl rfl hi1 dX4_joins_225 rfl (fun H locs Z => ?_)
  exact hret he wt br (vp_updL sk s1.toNatClampNeg s2) _ _ _ _ h Z dX4_joins_226
set_option maxRecDepth 20000 in
set_option maxHeartbeats 4000000 in
theorem wX4_joins_199 {p : Program} {l : Launch} {e : Env} {s : State} {m : MethodId} {args : Array Value} {below : List Frame} {meth : Method} {c : Code} {Q : State → Prop} {D : va_G} {cyI cyJ cyO : ClassId} {A : Nat → Prop} {bs : Nat} {a : Nat → Nat} {Y : va_W} {th : Int32} {df : Int32} {la : Int32} {fo : Int32} {dr : Nat → Int32} {fm : Nat → Int32} {sz : Nat → Int32} {om : Nat → Int32} {os : Nat → Int32} {st : Nat → Int32} {wa : Nat → Int32} {va : Nat → Int64} {N : Nat} {res : Int32 × Int32 × Int32 × (Nat → Int64)} (C0 : gC p m meth c cX4_joins 10 none s args wsX4_joins RX4) (hret : ∀ (he_r : Int32) (wt_r : Int32) (br_r : Int32) (sk_r : Nat → Int64) (H : Heap) (locs : List Loc) (pc : Nat) (ls : Array Slot), some (he_r, wt_r, br_r, sk_r) = some res → gZ D (gT cyI cyJ cyO) (XM a cyI cyJ th df la fo he_r wt_r br_r dr fm sz om os st wa va sk_r ++ Y) A bs s H locs → decode cX4_joins pc = .ok (.return_, 1) → W p l e rmX4_joins s m args below meth c H locs 0 0 Q (F0 m pc ls []))  : ∀ (he : Int32) (wt : Int32) (br : Int32) (sk : Nat → Int64) (v8 : Int64) (s1 : Int32) (H : Heap) (locs : List Loc) (ls : Array Slot), mX4_joins_199 N wa he wt br sk v8 s1 = some res → gZ D (gT cyI cyJ cyO) (XM a cyI cyJ th df la fo he wt br dr fm sz om os st wa va sk ++ Y) A bs s H locs → lv_has ls 10 [(0, .ref (a 0)), (8, .long v8)] → W p l e rmX4_joins s m args below meth c H locs 0 0 Q (F0 m 199 ls [.int s1, .ref (a 0)]) := by
  intro he wt br sk v8 s1 H locs ls h Z hl
  unfold mX4_joins_199 at h
  obtain ⟨hn2, h⟩ := g_yi h
  refine g_put (ci := 6) (v := .int s1) (T := TX4) (N := 16) (ws' := (XM a cyI cyJ th df la fo he wt s1 dr fm sz om os st wa va sk ++ Y)) C0.1 Z 0 rfl rfl 15 (by decide) kX4_joins_in kX4_joins_f98 rfl tyX4 tyX4_ok nmX4 rfl (g_nb hn2) (g_fb hn2) (Nat.le_of_ble_eq_true rfl) dX4_joins_199 rfl (fun H locs Z => ?_)
  refine lv_aload_n C0.1.1 C0.1.2.1 dX4_joins_202 rfl (lv_at hl 0 rfl) ?_
  refine g_get (ci := 6) (v := .ref (a 8)) (T := TX4) (N := 16) C0.1 Z 0 rfl rfl 11 (by decide) kX4_joins_in kX4_joins_f32 rfl rfl dX4_joins_203 ?_
  refine lv_aload_n C0.1.1 C0.1.2.1 dX4_joins_206 rfl (lv_at hl 0 rfl) ?_
  refine g_get (ci := 6) (v := .int he) (T := TX4) (N := 16) C0.1 Z 0 rfl rfl 12 (by decide) kX4_joins_in kX4_joins_f82 rfl rfl dX4_joins_207 ?_
  refine lv_iconst (v := 1) C0.1.1 C0.1.2.1 dX4_joins_210 (by decide) ?_
  refine lv_isub C0.1.1 C0.1.2.1 dX4_joins_211 ?_
  refine lv_aload_n C0.1.1 C0.1.2.1 dX4_joins_212 rfl (lv_at hl 0 rfl) ?_
  refine g_get (ci := 6) (v := .int s1) (T := TX4) (N := 16) C0.1 Z 0 rfl rfl 15 (by decide) kX4_joins_in kX4_joins_f98 rfl rfl dX4_joins_213 ?_
  refine lv_if_eq (tgt := 223) C0.1.1 C0.1.2.1 dX4_joins_216 (by decide) (fun hc => ?_) (fun hc => ?_)
  · replace h := (if_pos hc).symm.trans h
    refine lv_lload C0.1.1 C0.1.2.1 dX4_joins_223 (lv_at hl 1 rfl) ?_
    exact wX4_joins_225 (N := N) C0 hret he wt s1 sk (he - (1 : Int32)) v8 _ _ _ h Z (lv_sub hl [] rfl)
  · replace h := (if_neg hc).symm.trans h
    refine lv_lconst (v := 0) C0.1.1 C0.1.2.1 dX4_joins_219 (by decide) ?_
    refine lv_goto (tgt := 225) C0.1.1 C0.1.2.1 dX4_joins_220 (by decide) ?_
    exact wX4_joins_225 (N := N) C0 hret he wt s1 sk (he - (1 : Int32)) (0 : Int64) _ _ _ h Z (lv_sub hl [] rfl)
set_option maxRecDepth 20000 in
set_option maxHeartbeats 4000000 in
theorem wX4_joins_194 {p : Program} {l : Launch} {e : Env} {s : State} {m : MethodId} {args : Array Value} {below : List Frame} {meth : Method} {c : Code} {Q : State → Prop} {D : va_G} {cyI cyJ cyO : ClassId} {A : Nat → Prop} {bs : Nat} {a : Nat → Nat} {Y : va_W} {th : Int32} {df : Int32} {la : Int32} {fo : Int32} {dr : Nat → Int32} {fm : Nat → Int32} {sz : Nat → Int32} {om : Nat → Int32} {os : Nat → Int32} {st : Nat → Int32} {wa : Nat → Int32} {va : Nat → Int64} {N : Nat} {res : Int32 × Int32 × Int32 × (Nat → Int64)} (C0 : gC p m meth c cX4_joins 10 none s args wsX4_joins RX4) (hret : ∀ (he_r : Int32) (wt_r : Int32) (br_r : Int32) (sk_r : Nat → Int64) (H : Heap) (locs : List Loc) (pc : Nat) (ls : Array Slot), some (he_r, wt_r, br_r, sk_r) = some res → gZ D (gT cyI cyJ cyO) (XM a cyI cyJ th df la fo he_r wt_r br_r dr fm sz om os st wa va sk_r ++ Y) A bs s H locs → decode cX4_joins pc = .ok (.return_, 1) → W p l e rmX4_joins s m args below meth c H locs 0 0 Q (F0 m pc ls []))  : ∀ (he : Int32) (wt : Int32) (br : Int32) (sk : Nat → Int64) (v8 : Int64) (H : Heap) (locs : List Loc) (ls : Array Slot), mX4_joins_194 N wa he wt br sk v8 = some res → gZ D (gT cyI cyJ cyO) (XM a cyI cyJ th df la fo he wt br dr fm sz om os st wa va sk ++ Y) A bs s H locs → lv_has ls 10 [(0, .ref (a 0)), (8, .long v8)] → W p l e rmX4_joins s m args below meth c H locs 0 0 Q (F0 m 194 ls [.ref (a 0)]) := by
  intro he wt br sk v8 H locs ls h Z hl
  unfold mX4_joins_194 at h
  refine lv_iconst (v := 1) C0.1.1 C0.1.2.1 dX4_joins_194 (by decide) ?_
  refine lv_goto (tgt := 199) C0.1.1 C0.1.2.1 dX4_joins_195 (by decide) ?_
  exact wX4_joins_199 (N := N) C0 hret he wt br sk v8 (1 : Int32) _ _ _ h Z (lv_sub hl [0, 1] rfl)
set_option maxRecDepth 20000 in
set_option maxHeartbeats 4000000 in
theorem wX4_joins_162 {p : Program} {l : Launch} {e : Env} {s : State} {m : MethodId} {args : Array Value} {below : List Frame} {meth : Method} {c : Code} {Q : State → Prop} {D : va_G} {cyI cyJ cyO : ClassId} {A : Nat → Prop} {bs : Nat} {a : Nat → Nat} {Y : va_W} {th : Int32} {df : Int32} {la : Int32} {fo : Int32} {dr : Nat → Int32} {fm : Nat → Int32} {sz : Nat → Int32} {om : Nat → Int32} {os : Nat → Int32} {st : Nat → Int32} {wa : Nat → Int32} {va : Nat → Int64} {N : Nat} {res : Int32 × Int32 × Int32 × (Nat → Int64)} (C0 : gC p m meth c cX4_joins 10 none s args wsX4_joins RX4) (hret : ∀ (he_r : Int32) (wt_r : Int32) (br_r : Int32) (sk_r : Nat → Int64) (H : Heap) (locs : List Loc) (pc : Nat) (ls : Array Slot), some (he_r, wt_r, br_r, sk_r) = some res → gZ D (gT cyI cyJ cyO) (XM a cyI cyJ th df la fo he_r wt_r br_r dr fm sz om os st wa va sk_r ++ Y) A bs s H locs → decode cX4_joins pc = .ok (.return_, 1) → W p l e rmX4_joins s m args below meth c H locs 0 0 Q (F0 m pc ls []))  : ∀ (he : Int32) (wt : Int32) (br : Int32) (sk : Nat → Int64) (v6 : Int32) (v7 : Int32) (s0 : Int64) (H : Heap) (locs : List Loc) (ls : Array Slot), mX4_joins_162 N wa he wt br sk v6 v7 s0 = some res → gZ D (gT cyI cyJ cyO) (XM a cyI cyJ th df la fo he wt br dr fm sz om os st wa va sk ++ Y) A bs s H locs → lv_has ls 10 [(0, .ref (a 0)), (6, .int v6), (7, .int v7)] → W p l e rmX4_joins s m args below meth c H locs 0 0 Q (F0 m 162 ls [.long s0]) := by
  intro he wt br sk v6 v7 s0 H locs ls h Z hl
  unfold mX4_joins_162 at h
  refine lv_lstore (lv' := [(8, .long s0), (0, .ref (a 0)), (6, .int v6), (7, .int v7)]) C0.1.1 C0.1.2.1 dX4_joins_162 hl (by decide) rfl (fun ls hl => ?_)
  refine lv_aload_n C0.1.1 C0.1.2.1 dX4_joins_164 rfl (lv_at hl 1 rfl) ?_
  refine lv_aload_n C0.1.1 C0.1.2.1 dX4_joins_165 rfl (lv_at hl 1 rfl) ?_
  refine g_get (ci := 6) (v := .int br) (T := TX4) (N := 16) C0.1 Z 0 rfl rfl 15 (by decide) kX4_joins_in kX4_joins_f98 rfl rfl dX4_joins_166 ?_
  refine lv_if_ne (tgt := 194) C0.1.1 C0.1.2.1 dX4_joins_169 (by decide) (fun hc => ?_) (fun hc => ?_)
  · replace h := (if_neg hc).symm.trans h
    exact wX4_joins_194 (N := N) C0 hret he wt br sk s0 _ _ _ h Z (lv_sub hl [1, 0] rfl)
  · replace h := (if_pos hc).symm.trans h
    refine lv_iload C0.1.1 C0.1.2.1 dX4_joins_172 (lv_at hl 2 rfl) ?_
    refine lv_if_ne (tgt := 194) C0.1.1 C0.1.2.1 dX4_joins_174 (by decide) (fun hc => ?_) (fun hc => ?_)
    · replace h := (if_neg hc).symm.trans h
      exact wX4_joins_194 (N := N) C0 hret he wt br sk s0 _ _ _ h Z (lv_sub hl [1, 0] rfl)
    · replace h := (if_pos hc).symm.trans h
      refine lv_iload C0.1.1 C0.1.2.1 dX4_joins_177 (lv_at hl 3 rfl) ?_
      refine lv_if_ne (tgt := 194) C0.1.1 C0.1.2.1 dX4_joins_179 (by decide) (fun hc => ?_) (fun hc => ?_)
      · replace h := (if_neg hc).symm.trans h
        exact wX4_joins_194 (N := N) C0 hret he wt br sk s0 _ _ _ h Z (lv_sub hl [1, 0] rfl)
      · replace h := (if_pos hc).symm.trans h
        refine lv_lload C0.1.1 C0.1.2.1 dX4_joins_182 (lv_at hl 0 rfl) ?_
        obtain ⟨x3, hx4, h⟩ := g_bd h
        refine g_callSl (As := [.long s0]) (rest := [.ref (a 0)]) (ws' := (fun (u : Unit) => (XM a cyI cyJ th df la fo he wt br dr fm sz om os st wa va sk ++ Y))) C0.1 Z (zX4_size l D cyI cyJ cyO A bs Z.2.2.2.2.2 (XM a cyI cyJ th df la fo he wt br dr fm sz om os st wa va sk ++ Y) N s0 x3 hx4) (va_cwS 1 C0.1.2.2.2.2 gX4_joins_X4_size rfl rfl rfl (by decide +kernel) ⟨Nat.le_of_ble_eq_true rfl, Nat.le_of_ble_eq_true rfl⟩) rfl hl.1 rfl (Nat.le_of_ble_eq_true rfl) dX4_joins_184 ⟨Nat.zero_le _, Nat.zero_le _⟩ (fun r u H locs hw Z => ?_)
        subst hw
        refine lv_ldc2 C0.1.1 C0.1.2.1 C0.1.2.2.2.1 (C0.1.2.2.2.2 _ kX4_joins_c92) dX4_joins_187 ?_
        refine W.lcmp C0.1.1 C0.1.2.1 dX4_joins_190 ?_
        refine lv_if_le (tgt := 198) C0.1.1 C0.1.2.1 dX4_joins_191 (by decide) (fun hc => ?_) (fun hc => ?_)
        · replace h := (if_pos hc).symm.trans h
          refine lv_iconst (v := 0) C0.1.1 C0.1.2.1 dX4_joins_198 (by decide) ?_
          exact wX4_joins_199 (N := N) C0 hret he wt br sk s0 (0 : Int32) _ _ _ h Z (lv_sub hl [1, 0] rfl)
        · replace h := (if_neg hc).symm.trans h
          exact wX4_joins_194 (N := N) C0 hret he wt br sk s0 _ _ _ h Z (lv_sub hl [1, 0] rfl)
set_option maxRecDepth 20000 in
set_option maxHeartbeats 4000000 in
theorem wX4_joins_117 {p : Program} {l : Launch} {e : Env} {s : State} {m : MethodId} {args : Array Value} {below : List Frame} {meth : Method} {c : Code} {Q : State → Prop} {D : va_G} {cyI cyJ cyO : ClassId} {A : Nat → Prop} {bs : Nat} {a : Nat → Nat} {Y : va_W} {th : Int32} {df : Int32} {la : Int32} {fo : Int32} {dr : Nat → Int32} {fm : Nat → Int32} {sz : Nat → Int32} {om : Nat → Int32} {os : Nat → Int32} {st : Nat → Int32} {wa : Nat → Int32} {va : Nat → Int64} {N : Nat} {res : Int32 × Int32 × Int32 × (Nat → Int64)} (C0 : gC p m meth c cX4_joins 10 none s args wsX4_joins RX4) (hret : ∀ (he_r : Int32) (wt_r : Int32) (br_r : Int32) (sk_r : Nat → Int64) (H : Heap) (locs : List Loc) (pc : Nat) (ls : Array Slot), some (he_r, wt_r, br_r, sk_r) = some res → gZ D (gT cyI cyJ cyO) (XM a cyI cyJ th df la fo he_r wt_r br_r dr fm sz om os st wa va sk_r ++ Y) A bs s H locs → decode cX4_joins pc = .ok (.return_, 1) → W p l e rmX4_joins s m args below meth c H locs 0 0 Q (F0 m pc ls []))  : ∀ (he : Int32) (wt : Int32) (br : Int32) (sk : Nat → Int64) (v6 : Int32) (v7 : Int32) (H : Heap) (locs : List Loc) (ls : Array Slot), mX4_joins_117 N wa he wt br sk v6 v7 = some res → gZ D (gT cyI cyJ cyO) (XM a cyI cyJ th df la fo he wt br dr fm sz om os st wa va sk ++ Y) A bs s H locs → lv_has ls 10 [(0, .ref (a 0)), (6, .int v6), (7, .int v7)] → W p l e rmX4_joins s m args below meth c H locs 0 0 Q (F0 m 117 ls []) := by
  intro he wt br sk v6 v7 H locs ls h Z hl
  unfold mX4_joins_117 at h
  refine lv_lconst (v := 0) C0.1.1 C0.1.2.1 dX4_joins_117 (by decide) ?_
  refine lv_goto (tgt := 162) C0.1.1 C0.1.2.1 dX4_joins_118 (by decide) ?_
  exact wX4_joins_162 (N := N) C0 hret he wt br sk v6 v7 (0 : Int64) _ _ _ h Z (lv_sub hl [0, 1, 2] rfl)
set_option maxRecDepth 20000 in
set_option maxHeartbeats 4000000 in
theorem wX4_joins_105 {p : Program} {l : Launch} {e : Env} {s : State} {m : MethodId} {args : Array Value} {below : List Frame} {meth : Method} {c : Code} {Q : State → Prop} {D : va_G} {cyI cyJ cyO : ClassId} {A : Nat → Prop} {bs : Nat} {a : Nat → Nat} {Y : va_W} {th : Int32} {df : Int32} {la : Int32} {fo : Int32} {dr : Nat → Int32} {fm : Nat → Int32} {sz : Nat → Int32} {om : Nat → Int32} {os : Nat → Int32} {st : Nat → Int32} {wa : Nat → Int32} {va : Nat → Int64} {N : Nat} {res : Int32 × Int32 × Int32 × (Nat → Int64)} (C0 : gC p m meth c cX4_joins 10 none s args wsX4_joins RX4) (hret : ∀ (he_r : Int32) (wt_r : Int32) (br_r : Int32) (sk_r : Nat → Int64) (H : Heap) (locs : List Loc) (pc : Nat) (ls : Array Slot), some (he_r, wt_r, br_r, sk_r) = some res → gZ D (gT cyI cyJ cyO) (XM a cyI cyJ th df la fo he_r wt_r br_r dr fm sz om os st wa va sk_r ++ Y) A bs s H locs → decode cX4_joins pc = .ok (.return_, 1) → W p l e rmX4_joins s m args below meth c H locs 0 0 Q (F0 m pc ls []))  : ∀ (he : Int32) (wt : Int32) (br : Int32) (sk : Nat → Int64) (v1 : Int32) (v2 : Int64) (v4 : Int64) (v6 : Int32) (s0 : Int32) (H : Heap) (locs : List Loc) (ls : Array Slot), mX4_joins_105 N wa he wt br sk v1 v2 v4 v6 s0 = some res → gZ D (gT cyI cyJ cyO) (XM a cyI cyJ th df la fo he wt br dr fm sz om os st wa va sk ++ Y) A bs s H locs → lv_has ls 10 [(0, .ref (a 0)), (1, .int v1), (2, .long v2), (4, .long v4), (6, .int v6)] → W p l e rmX4_joins s m args below meth c H locs 0 0 Q (F0 m 105 ls [.int s0]) := by
  intro he wt br sk v1 v2 v4 v6 s0 H locs ls h Z hl
  unfold mX4_joins_105 at h
  refine lv_istore (lv' := [(7, .int s0), (0, .ref (a 0)), (1, .int v1), (2, .long v2), (4, .long v4), (6, .int v6)]) C0.1.1 C0.1.2.1 dX4_joins_105 hl (by decide) rfl (fun ls hl => ?_)
  refine lv_iload C0.1.1 C0.1.2.1 dX4_joins_107 (lv_at hl 5 rfl) ?_
  refine lv_if_ne (tgt := 117) C0.1.1 C0.1.2.1 dX4_joins_109 (by decide) (fun hc => ?_) (fun hc => ?_)
  · replace h := (if_neg hc).symm.trans h
    exact wX4_joins_117 (N := N) C0 hret he wt br sk v6 s0 _ _ _ h Z (lv_sub hl [1, 5, 0] rfl)
  · replace h := (if_pos hc).symm.trans h
    refine lv_iload C0.1.1 C0.1.2.1 dX4_joins_112 (lv_at hl 0 rfl) ?_
    refine lv_if_eq (tgt := 121) C0.1.1 C0.1.2.1 dX4_joins_114 (by decide) (fun hc => ?_) (fun hc => ?_)
    · replace h := (if_pos hc).symm.trans h
      refine lv_iload_n C0.1.1 C0.1.2.1 dX4_joins_121 rfl (lv_at hl 2 rfl) ?_
      refine lv_if_ne (tgt := 132) C0.1.1 C0.1.2.1 dX4_joins_122 (by decide) (fun hc => ?_) (fun hc => ?_)
      · replace h := (if_neg hc).symm.trans h
        refine lv_iload_n C0.1.1 C0.1.2.1 dX4_joins_132 rfl (lv_at hl 2 rfl) ?_
        refine lv_iconst (v := 1) C0.1.1 C0.1.2.1 dX4_joins_133 (by decide) ?_
        refine lv_icmp_ne (tgt := 144) C0.1.1 C0.1.2.1 dX4_joins_134 (by decide) (fun hc => ?_) (fun hc => ?_)
        · replace h := (if_neg hc).symm.trans h
          refine lv_iload_n C0.1.1 C0.1.2.1 dX4_joins_144 rfl (lv_at hl 2 rfl) ?_
          refine lv_iconst (v := 2) C0.1.1 C0.1.2.1 dX4_joins_145 (by decide) ?_
          refine lv_icmp_ne (tgt := 156) C0.1.1 C0.1.2.1 dX4_joins_146 (by decide) (fun hc => ?_) (fun hc => ?_)
          · replace h := (if_neg hc).symm.trans h
            refine lv_lload_n C0.1.1 C0.1.2.1 dX4_joins_156 rfl (lv_at hl 3 rfl) ?_
            refine lv_lload C0.1.1 C0.1.2.1 dX4_joins_157 (lv_at hl 4 rfl) ?_
            obtain ⟨x5, hx6, h⟩ := g_bd h
            refine g_callSl (As := [.long v2, .long v4]) (rest := []) (ws' := (fun (u : Unit) => (XM a cyI cyJ th df la fo he wt br dr fm sz om os st wa va sk ++ Y))) C0.1 Z (zX4_quotient l D cyI cyJ cyO A bs Z.2.2.2.2.2 (XM a cyI cyJ th df la fo he wt br dr fm sz om os st wa va sk ++ Y) N v2 v4 x5 hx6) (va_cwS 2 C0.1.2.2.2.2 gX4_joins_X4_quotient rfl rfl rfl (by decide +kernel) ⟨Nat.le_of_ble_eq_true rfl, Nat.le_of_ble_eq_true rfl⟩) rfl hl.1 rfl (Nat.le_of_ble_eq_true rfl) dX4_joins_159 ⟨Nat.zero_le _, Nat.zero_le _⟩ (fun r u H locs hw Z => ?_)
            subst hw
            exact wX4_joins_162 (N := N) C0 hret he wt br sk v6 s0 x5 _ _ _ h Z (lv_sub hl [1, 5, 0] rfl)
          · replace h := (if_pos hc).symm.trans h
            refine lv_lload_n C0.1.1 C0.1.2.1 dX4_joins_149 rfl (lv_at hl 3 rfl) ?_
            refine lv_lload C0.1.1 C0.1.2.1 dX4_joins_150 (lv_at hl 4 rfl) ?_
            refine lv_lmul C0.1.1 C0.1.2.1 dX4_joins_152 ?_
            refine lv_goto (tgt := 162) C0.1.1 C0.1.2.1 dX4_joins_153 (by decide) ?_
            exact wX4_joins_162 (N := N) C0 hret he wt br sk v6 s0 (v2 * v4) _ _ _ h Z (lv_sub hl [1, 5, 0] rfl)
        · replace h := (if_pos hc).symm.trans h
          refine lv_lload_n C0.1.1 C0.1.2.1 dX4_joins_137 rfl (lv_at hl 3 rfl) ?_
          refine lv_lload C0.1.1 C0.1.2.1 dX4_joins_138 (lv_at hl 4 rfl) ?_
          refine lv_lsub C0.1.1 C0.1.2.1 dX4_joins_140 ?_
          refine lv_goto (tgt := 162) C0.1.1 C0.1.2.1 dX4_joins_141 (by decide) ?_
          exact wX4_joins_162 (N := N) C0 hret he wt br sk v6 s0 (v2 - v4) _ _ _ h Z (lv_sub hl [1, 5, 0] rfl)
      · replace h := (if_pos hc).symm.trans h
        refine lv_lload_n C0.1.1 C0.1.2.1 dX4_joins_125 rfl (lv_at hl 3 rfl) ?_
        refine lv_lload C0.1.1 C0.1.2.1 dX4_joins_126 (lv_at hl 4 rfl) ?_
        refine lv_ladd C0.1.1 C0.1.2.1 dX4_joins_128 ?_
        refine lv_goto (tgt := 162) C0.1.1 C0.1.2.1 dX4_joins_129 (by decide) ?_
        exact wX4_joins_162 (N := N) C0 hret he wt br sk v6 s0 (v2 + v4) _ _ _ h Z (lv_sub hl [1, 5, 0] rfl)
    · replace h := (if_neg hc).symm.trans h
      exact wX4_joins_117 (N := N) C0 hret he wt br sk v6 s0 _ _ _ h Z (lv_sub hl [1, 5, 0] rfl)
set_option maxRecDepth 20000 in
set_option maxHeartbeats 4000000 in
theorem wX4_joins_104 {p : Program} {l : Launch} {e : Env} {s : State} {m : MethodId} {args : Array Value} {below : List Frame} {meth : Method} {c : Code} {Q : State → Prop} {D : va_G} {cyI cyJ cyO : ClassId} {A : Nat → Prop} {bs : Nat} {a : Nat → Nat} {Y : va_W} {th : Int32} {df : Int32} {la : Int32} {fo : Int32} {dr : Nat → Int32} {fm : Nat → Int32} {sz : Nat → Int32} {om : Nat → Int32} {os : Nat → Int32} {st : Nat → Int32} {wa : Nat → Int32} {va : Nat → Int64} {N : Nat} {res : Int32 × Int32 × Int32 × (Nat → Int64)} (C0 : gC p m meth c cX4_joins 10 none s args wsX4_joins RX4) (hret : ∀ (he_r : Int32) (wt_r : Int32) (br_r : Int32) (sk_r : Nat → Int64) (H : Heap) (locs : List Loc) (pc : Nat) (ls : Array Slot), some (he_r, wt_r, br_r, sk_r) = some res → gZ D (gT cyI cyJ cyO) (XM a cyI cyJ th df la fo he_r wt_r br_r dr fm sz om os st wa va sk_r ++ Y) A bs s H locs → decode cX4_joins pc = .ok (.return_, 1) → W p l e rmX4_joins s m args below meth c H locs 0 0 Q (F0 m pc ls []))  : ∀ (he : Int32) (wt : Int32) (br : Int32) (sk : Nat → Int64) (v1 : Int32) (v2 : Int64) (v4 : Int64) (v6 : Int32) (H : Heap) (locs : List Loc) (ls : Array Slot), mX4_joins_104 N wa he wt br sk v1 v2 v4 v6 = some res → gZ D (gT cyI cyJ cyO) (XM a cyI cyJ th df la fo he wt br dr fm sz om os st wa va sk ++ Y) A bs s H locs → lv_has ls 10 [(0, .ref (a 0)), (1, .int v1), (2, .long v2), (4, .long v4), (6, .int v6)] → W p l e rmX4_joins s m args below meth c H locs 0 0 Q (F0 m 104 ls []) := by
  intro he wt br sk v1 v2 v4 v6 H locs ls h Z hl
  unfold mX4_joins_104 at h
  refine lv_iconst (v := 0) C0.1.1 C0.1.2.1 dX4_joins_104 (by decide) ?_
  exact wX4_joins_105 (N := N) C0 hret he wt br sk v1 v2 v4 v6 (0 : Int32) _ _ _ h Z (lv_sub hl [0, 1, 2, 3, 4] rfl)
set_option maxRecDepth 20000 in
set_option maxHeartbeats 4000000 in
theorem wX4_joins_86 {p : Program} {l : Launch} {e : Env} {s : State} {m : MethodId} {args : Array Value} {below : List Frame} {meth : Method} {c : Code} {Q : State → Prop} {D : va_G} {cyI cyJ cyO : ClassId} {A : Nat → Prop} {bs : Nat} {a : Nat → Nat} {Y : va_W} {th : Int32} {df : Int32} {la : Int32} {fo : Int32} {dr : Nat → Int32} {fm : Nat → Int32} {sz : Nat → Int32} {om : Nat → Int32} {os : Nat → Int32} {st : Nat → Int32} {wa : Nat → Int32} {va : Nat → Int64} {N : Nat} {res : Int32 × Int32 × Int32 × (Nat → Int64)} (C0 : gC p m meth c cX4_joins 10 none s args wsX4_joins RX4) (hret : ∀ (he_r : Int32) (wt_r : Int32) (br_r : Int32) (sk_r : Nat → Int64) (H : Heap) (locs : List Loc) (pc : Nat) (ls : Array Slot), some (he_r, wt_r, br_r, sk_r) = some res → gZ D (gT cyI cyJ cyO) (XM a cyI cyJ th df la fo he_r wt_r br_r dr fm sz om os st wa va sk_r ++ Y) A bs s H locs → decode cX4_joins pc = .ok (.return_, 1) → W p l e rmX4_joins s m args below meth c H locs 0 0 Q (F0 m pc ls []))  : ∀ (he : Int32) (wt : Int32) (br : Int32) (sk : Nat → Int64) (v1 : Int32) (v2 : Int64) (v4 : Int64) (s0 : Int32) (H : Heap) (locs : List Loc) (ls : Array Slot), mX4_joins_86 N wa he wt br sk v1 v2 v4 s0 = some res → gZ D (gT cyI cyJ cyO) (XM a cyI cyJ th df la fo he wt br dr fm sz om os st wa va sk ++ Y) A bs s H locs → lv_has ls 10 [(0, .ref (a 0)), (1, .int v1), (2, .long v2), (4, .long v4)] → W p l e rmX4_joins s m args below meth c H locs 0 0 Q (F0 m 86 ls [.int s0]) := by
  intro he wt br sk v1 v2 v4 s0 H locs ls h Z hl
  unfold mX4_joins_86 at h
  refine lv_istore (lv' := [(6, .int s0), (0, .ref (a 0)), (1, .int v1), (2, .long v2), (4, .long v4)]) C0.1.1 C0.1.2.1 dX4_joins_86 hl (by decide) rfl (fun ls hl => ?_)
  refine lv_iload_n C0.1.1 C0.1.2.1 dX4_joins_88 rfl (lv_at hl 2 rfl) ?_
  refine lv_iconst (v := 3) C0.1.1 C0.1.2.1 dX4_joins_89 (by decide) ?_
  refine lv_icmp_ne (tgt := 104) C0.1.1 C0.1.2.1 dX4_joins_90 (by decide) (fun hc => ?_) (fun hc => ?_)
  · replace h := (if_neg hc).symm.trans h
    exact wX4_joins_104 (N := N) C0 hret he wt br sk v1 v2 v4 s0 _ _ _ h Z (lv_sub hl [1, 2, 3, 4, 0] rfl)
  · replace h := (if_pos hc).symm.trans h
    refine lv_lload C0.1.1 C0.1.2.1 dX4_joins_93 (lv_at hl 4 rfl) ?_
    refine lv_lconst (v := 0) C0.1.1 C0.1.2.1 dX4_joins_95 (by decide) ?_
    refine W.lcmp C0.1.1 C0.1.2.1 dX4_joins_96 ?_
    refine lv_if_ne (tgt := 104) C0.1.1 C0.1.2.1 dX4_joins_97 (by decide) (fun hc => ?_) (fun hc => ?_)
    · replace h := (if_neg hc).symm.trans h
      exact wX4_joins_104 (N := N) C0 hret he wt br sk v1 v2 v4 s0 _ _ _ h Z (lv_sub hl [1, 2, 3, 4, 0] rfl)
    · replace h := (if_pos hc).symm.trans h
      refine lv_iconst (v := 1) C0.1.1 C0.1.2.1 dX4_joins_100 (by decide) ?_
      refine lv_goto (tgt := 105) C0.1.1 C0.1.2.1 dX4_joins_101 (by decide) ?_
      exact wX4_joins_105 (N := N) C0 hret he wt br sk v1 v2 v4 s0 (1 : Int32) _ _ _ h Z (lv_sub hl [1, 2, 3, 4, 0] rfl)
set_option maxRecDepth 20000 in
set_option maxHeartbeats 4000000 in
theorem wX4_joins_85 {p : Program} {l : Launch} {e : Env} {s : State} {m : MethodId} {args : Array Value} {below : List Frame} {meth : Method} {c : Code} {Q : State → Prop} {D : va_G} {cyI cyJ cyO : ClassId} {A : Nat → Prop} {bs : Nat} {a : Nat → Nat} {Y : va_W} {th : Int32} {df : Int32} {la : Int32} {fo : Int32} {dr : Nat → Int32} {fm : Nat → Int32} {sz : Nat → Int32} {om : Nat → Int32} {os : Nat → Int32} {st : Nat → Int32} {wa : Nat → Int32} {va : Nat → Int64} {N : Nat} {res : Int32 × Int32 × Int32 × (Nat → Int64)} (C0 : gC p m meth c cX4_joins 10 none s args wsX4_joins RX4) (hret : ∀ (he_r : Int32) (wt_r : Int32) (br_r : Int32) (sk_r : Nat → Int64) (H : Heap) (locs : List Loc) (pc : Nat) (ls : Array Slot), some (he_r, wt_r, br_r, sk_r) = some res → gZ D (gT cyI cyJ cyO) (XM a cyI cyJ th df la fo he_r wt_r br_r dr fm sz om os st wa va sk_r ++ Y) A bs s H locs → decode cX4_joins pc = .ok (.return_, 1) → W p l e rmX4_joins s m args below meth c H locs 0 0 Q (F0 m pc ls []))  : ∀ (he : Int32) (wt : Int32) (br : Int32) (sk : Nat → Int64) (v1 : Int32) (v2 : Int64) (v4 : Int64) (H : Heap) (locs : List Loc) (ls : Array Slot), mX4_joins_85 N wa he wt br sk v1 v2 v4 = some res → gZ D (gT cyI cyJ cyO) (XM a cyI cyJ th df la fo he wt br dr fm sz om os st wa va sk ++ Y) A bs s H locs → lv_has ls 10 [(0, .ref (a 0)), (1, .int v1), (2, .long v2), (4, .long v4)] → W p l e rmX4_joins s m args below meth c H locs 0 0 Q (F0 m 85 ls []) := by
  intro he wt br sk v1 v2 v4 H locs ls h Z hl
  unfold mX4_joins_85 at h
  refine lv_iconst (v := 0) C0.1.1 C0.1.2.1 dX4_joins_85 (by decide) ?_
  exact wX4_joins_86 (N := N) C0 hret he wt br sk v1 v2 v4 (0 : Int32) _ _ _ h Z (lv_sub hl [0, 1, 2, 3] rfl)
set_option maxRecDepth 20000 in
set_option maxHeartbeats 4000000 in
theorem zX4_joins (l : Launch) (D : va_G) (cyI cyJ cyO : ClassId) (A : Nat → Prop) (bs : Nat) (hA : ∀ q, bs ≤ q → A q) (a : Nat → Nat) (Y : va_W) (th : Int32) (df : Int32) (la : Int32) (fo : Int32) (he : Int32) (wt : Int32) (br : Int32) (dr : Nat → Int32) (fm : Nat → Int32) (sz : Nat → Int32) (om : Nat → Int32) (os : Nat → Int32) (st : Nat → Int32) (wa : Nat → Int32) (va : Nat → Int64) (sk : Nat → Int64) (N : Nat)  (res : Int32 × Int32 × Int32 × (Nat → Int64)) (h : mX4_joins N wa he wt br sk = some res) : Met l yX4_joins wsX4_joins rmX4_joins (va_Pc [.ref (a 0)] (gW D (gT cyI cyJ cyO) (XM a cyI cyJ th df la fo he wt br dr fm sz om os st wa va sk ++ Y) A bs)) (va_Qv (fun (u : Int32 × Int32 × Int32 × (Nat → Int64)) => res = u) (fun (u : Int32 × Int32 × Int32 × (Nat → Int64)) U => gW D (gT cyI cyJ cyO) (XM a cyI cyJ th df la fo u.1 u.2.1 u.2.2.1 dr fm sz om os st wa va u.2.2.2 ++ Y) A bs U) A) 0 0 A := by
  refine Met.ofW (cc := cX4_joins) (maxL := 10) (ret := none) (by decide) rfl ?_
  intro p e s m args below meth c s₁ B hml hv
  obtain ⟨hav, hv⟩ := hv
  have C0 : gC p m meth c cX4_joins 10 none s args wsX4_joins RX4 := ⟨⟨B.exec, B.bytes, hml, findClass_of_methodNamed B.named, atoms_spec (ws := wsX4_joins) B.pre⟩, B.returns, B.notSynchronized⟩
  have Z := g_start hA hv
  have hret : ∀ (he_r : Int32) (wt_r : Int32) (br_r : Int32) (sk_r : Nat → Int64) (H : Heap) (locs : List Loc) (pc : Nat) (ls : Array Slot), some (he_r, wt_r, br_r, sk_r) = some res → gZ D (gT cyI cyJ cyO) (XM a cyI cyJ th df la fo he_r wt_r br_r dr fm sz om os st wa va sk_r ++ Y) A bs s H locs → decode cX4_joins pc = .ok (.return_, 1) → W p l e rmX4_joins s m args below meth c H locs 0 0 (MQ below (va_Qv (fun (u : Int32 × Int32 × Int32 × (Nat → Int64)) => res = u) (fun (u : Int32 × Int32 × Int32 × (Nat → Int64)) U => gW D (gT cyI cyJ cyO) (XM a cyI cyJ th df la fo u.1 u.2.1 u.2.2.1 dr fm sz om os st wa va u.2.2.2 ++ Y) A bs U) A) args s 0 0 A) (F0 m pc ls []) := by
    intro he_r wt_r br_r sk_r H locs pc ls h Z hd
    replace h := Option.some.inj h
    exact W.vret C0.1.1 C0.1.2.1 C0.2.1 (fun t ht hW => ⟨⟨(he_r, wt_r, br_r, sk_r), rfl, h.symm, g_end Z ht hW⟩, Z.2.2.2.1.F ht⟩) Z.2.2.2.1.2.2 hd C0.2.2
  have hl := lv_entry ([.ref (a 0)]) (n := 10) (Nat.le_of_ble_eq_true rfl)
  rw [hav, lg_entry_eq]
  generalize (lg_sl ([.ref (a 0)]) ++ List.replicate (10 - (lg_sl ([.ref (a 0)])).length) Slot.unset).toArray = ls at hl ⊢
  have hl : lv_has ls 10 [(0, .ref (a 0))] := hl
  rw [← hav]
  unfold mX4_joins at h
  refine lv_aload_n C0.1.1 C0.1.2.1 dX4_joins_0 rfl (lv_at hl 0 rfl) ?_
  refine lv_dup C0.1.1 C0.1.2.1 dX4_joins_1 rfl ?_
  refine g_get (ci := 6) (v := .int wt) (T := TX4) (N := 16) C0.1 Z 0 rfl rfl 14 (by decide) kX4_joins_in kX4_joins_f85 rfl rfl dX4_joins_2 ?_
  refine lv_iconst (v := 1) C0.1.1 C0.1.2.1 dX4_joins_5 (by decide) ?_
  refine lv_isub C0.1.1 C0.1.2.1 dX4_joins_6 ?_
  refine g_put (ci := 6) (v := .int (wt - (1 : Int32))) (T := TX4) (N := 16) (ws' := (XM a cyI cyJ th df la fo he (wt - (1 : Int32)) br dr fm sz om os st wa va sk ++ Y)) C0.1 Z 0 rfl rfl 14 (by decide) kX4_joins_in kX4_joins_f85 rfl tyX4 tyX4_ok nmX4 rfl rfl rfl (Nat.le_of_ble_eq_true rfl) dX4_joins_7 rfl (fun H locs Z => ?_)
  refine lv_aload_n C0.1.1 C0.1.2.1 dX4_joins_10 rfl (lv_at hl 0 rfl) ?_
  refine lv_dup C0.1.1 C0.1.2.1 dX4_joins_11 rfl ?_
  refine g_get (ci := 6) (v := .int he) (T := TX4) (N := 16) C0.1 Z 0 rfl rfl 12 (by decide) kX4_joins_in kX4_joins_f82 rfl rfl dX4_joins_12 ?_
  refine lv_iconst (v := 1) C0.1.1 C0.1.2.1 dX4_joins_15 (by decide) ?_
  refine lv_isub C0.1.1 C0.1.2.1 dX4_joins_16 ?_
  refine g_put (ci := 6) (v := .int (he - (1 : Int32))) (T := TX4) (N := 16) (ws' := (XM a cyI cyJ th df la fo (he - (1 : Int32)) (wt - (1 : Int32)) br dr fm sz om os st wa va sk ++ Y)) C0.1 Z 0 rfl rfl 12 (by decide) kX4_joins_in kX4_joins_f82 rfl tyX4 tyX4_ok nmX4 rfl rfl rfl (Nat.le_of_ble_eq_true rfl) dX4_joins_17 rfl (fun H locs Z => ?_)
  refine lv_aload_n C0.1.1 C0.1.2.1 dX4_joins_20 rfl (lv_at hl 0 rfl) ?_
  refine g_get (ci := 6) (v := .ref (a 9)) (T := TX4) (N := 16) C0.1 Z 0 rfl rfl 13 (by decide) kX4_joins_in kX4_joins_f35 rfl rfl dX4_joins_21 ?_
  refine lv_aload_n C0.1.1 C0.1.2.1 dX4_joins_24 rfl (lv_at hl 0 rfl) ?_
  refine g_get (ci := 6) (v := .int (wt - (1 : Int32))) (T := TX4) (N := 16) C0.1 Z 0 rfl rfl 14 (by decide) kX4_joins_in kX4_joins_f85 rfl rfl dX4_joins_25 ?_
  obtain ⟨hi7, h⟩ := g_ni h
  refine g_iald (f := wa) (n := 15) C0.1 Z 9 0 rfl rfl hi7 dX4_joins_28 ?_
  refine lv_istore_n (lv' := [(1, .int (wa (wt - (1 : Int32)).toNatClampNeg)), (0, .ref (a 0))]) C0.1.1 C0.1.2.1 dX4_joins_29 rfl hl (by decide) rfl (fun ls hl => ?_)
  refine lv_aload_n C0.1.1 C0.1.2.1 dX4_joins_30 rfl (lv_at hl 1 rfl) ?_
  refine g_get (ci := 6) (v := .ref (a 8)) (T := TX4) (N := 16) C0.1 Z 0 rfl rfl 11 (by decide) kX4_joins_in kX4_joins_f32 rfl rfl dX4_joins_31 ?_
  refine lv_aload_n C0.1.1 C0.1.2.1 dX4_joins_34 rfl (lv_at hl 1 rfl) ?_
  refine g_get (ci := 6) (v := .int (he - (1 : Int32))) (T := TX4) (N := 16) C0.1 Z 0 rfl rfl 12 (by decide) kX4_joins_in kX4_joins_f82 rfl rfl dX4_joins_35 ?_
  refine lv_iconst (v := 1) C0.1.1 C0.1.2.1 dX4_joins_38 (by decide) ?_
  refine lv_isub C0.1.1 C0.1.2.1 dX4_joins_39 ?_
  obtain ⟨hi8, h⟩ := g_ni h
  refine g_lald (f := sk) (n := 15) C0.1 Z 8 1 rfl rfl hi8 dX4_joins_40 ?_
  refine lv_lstore_n (lv' := [(2, .long (sk ((he - (1 : Int32)) - (1 : Int32)).toNatClampNeg)), (1, .int (wa (wt - (1 : Int32)).toNatClampNeg)), (0, .ref (a 0))]) C0.1.1 C0.1.2.1 dX4_joins_41 rfl hl (by decide) rfl (fun ls hl => ?_)
  refine lv_aload_n C0.1.1 C0.1.2.1 dX4_joins_42 rfl (lv_at hl 2 rfl) ?_
  refine g_get (ci := 6) (v := .ref (a 8)) (T := TX4) (N := 16) C0.1 Z 0 rfl rfl 11 (by decide) kX4_joins_in kX4_joins_f32 rfl rfl dX4_joins_43 ?_
  refine lv_aload_n C0.1.1 C0.1.2.1 dX4_joins_46 rfl (lv_at hl 2 rfl) ?_
  refine g_get (ci := 6) (v := .int (he - (1 : Int32))) (T := TX4) (N := 16) C0.1 Z 0 rfl rfl 12 (by decide) kX4_joins_in kX4_joins_f82 rfl rfl dX4_joins_47 ?_
  obtain ⟨hi9, h⟩ := g_ni h
  refine g_lald (f := sk) (n := 15) C0.1 Z 8 1 rfl rfl hi9 dX4_joins_50 ?_
  refine lv_lstore (lv' := [(4, .long (sk (he - (1 : Int32)).toNatClampNeg)), (2, .long (sk ((he - (1 : Int32)) - (1 : Int32)).toNatClampNeg)), (1, .int (wa (wt - (1 : Int32)).toNatClampNeg)), (0, .ref (a 0))]) C0.1.1 C0.1.2.1 dX4_joins_51 hl (by decide) rfl (fun ls hl => ?_)
  refine lv_iload_n C0.1.1 C0.1.2.1 dX4_joins_53 rfl (lv_at hl 2 rfl) ?_
  refine lv_iconst (v := 2) C0.1.1 C0.1.2.1 dX4_joins_54 (by decide) ?_
  refine lv_icmp_ne (tgt := 85) C0.1.1 C0.1.2.1 dX4_joins_55 (by decide) (fun hc => ?_) (fun hc => ?_)
  · replace h := (if_neg hc).symm.trans h
    exact wX4_joins_85 (N := N) C0 hret (he - (1 : Int32)) (wt - (1 : Int32)) br sk (wa (wt - (1 : Int32)).toNatClampNeg) (sk ((he - (1 : Int32)) - (1 : Int32)).toNatClampNeg) (sk (he - (1 : Int32)).toNatClampNeg) _ _ _ h Z (lv_sub hl [3, 2, 1, 0] rfl)
  · replace h := (if_pos hc).symm.trans h
    refine lv_lload_n C0.1.1 C0.1.2.1 dX4_joins_58 rfl (lv_at hl 1 rfl) ?_
    refine lv_lconst (v := 0) C0.1.1 C0.1.2.1 dX4_joins_59 (by decide) ?_
    refine W.lcmp C0.1.1 C0.1.2.1 dX4_joins_60 ?_
    refine lv_if_eq (tgt := 85) C0.1.1 C0.1.2.1 dX4_joins_61 (by decide) (fun hc => ?_) (fun hc => ?_)
    · replace h := (if_pos hc).symm.trans h
      exact wX4_joins_85 (N := N) C0 hret (he - (1 : Int32)) (wt - (1 : Int32)) br sk (wa (wt - (1 : Int32)).toNatClampNeg) (sk ((he - (1 : Int32)) - (1 : Int32)).toNatClampNeg) (sk (he - (1 : Int32)).toNatClampNeg) _ _ _ h Z (lv_sub hl [3, 2, 1, 0] rfl)
    · replace h := (if_neg hc).symm.trans h
      refine lv_lload C0.1.1 C0.1.2.1 dX4_joins_64 (lv_at hl 0 rfl) ?_
      obtain ⟨x10, hx11, h⟩ := g_bd h
      refine g_callSl (As := [.long (sk (he - (1 : Int32)).toNatClampNeg)]) (rest := []) (ws' := (fun (u : Unit) => (XM a cyI cyJ th df la fo (he - (1 : Int32)) (wt - (1 : Int32)) br dr fm sz om os st wa va sk ++ Y))) C0.1 Z (zX4_size l D cyI cyJ cyO A bs Z.2.2.2.2.2 (XM a cyI cyJ th df la fo (he - (1 : Int32)) (wt - (1 : Int32)) br dr fm sz om os st wa va sk ++ Y) N (sk (he - (1 : Int32)).toNatClampNeg) x10 hx11) (va_cwS 1 C0.1.2.2.2.2 gX4_joins_X4_size rfl rfl rfl (by decide +kernel) ⟨Nat.le_of_ble_eq_true rfl, Nat.le_of_ble_eq_true rfl⟩) rfl hl.1 rfl (Nat.le_of_ble_eq_true rfl) dX4_joins_66 ⟨Nat.zero_le _, Nat.zero_le _⟩ (fun r u H locs hw Z => ?_)
      subst hw
      refine lv_ldc2 C0.1.1 C0.1.2.1 C0.1.2.2.2.1 (C0.1.2.2.2.2 _ kX4_joins_c92) dX4_joins_69 ?_
      refine lv_lload_n C0.1.1 C0.1.2.1 dX4_joins_72 rfl (lv_at hl 1 rfl) ?_
      obtain ⟨x12, hx13, h⟩ := g_bd h
      refine g_callSl (As := [.long (sk ((he - (1 : Int32)) - (1 : Int32)).toNatClampNeg)]) (rest := [.long (1000000000000 : Int64), .long x10]) (ws' := (fun (u : Unit) => (XM a cyI cyJ th df la fo (he - (1 : Int32)) (wt - (1 : Int32)) br dr fm sz om os st wa va sk ++ Y))) C0.1 Z (zX4_size l D cyI cyJ cyO A bs Z.2.2.2.2.2 (XM a cyI cyJ th df la fo (he - (1 : Int32)) (wt - (1 : Int32)) br dr fm sz om os st wa va sk ++ Y) N (sk ((he - (1 : Int32)) - (1 : Int32)).toNatClampNeg) x12 hx13) (va_cwS 1 C0.1.2.2.2.2 gX4_joins_X4_size rfl rfl rfl (by decide +kernel) ⟨Nat.le_of_ble_eq_true rfl, Nat.le_of_ble_eq_true rfl⟩) rfl hl.1 rfl (Nat.le_of_ble_eq_true rfl) dX4_joins_73 ⟨Nat.zero_le _, Nat.zero_le _⟩ (fun r u H locs hw Z => ?_)
      subst hw
      obtain ⟨hn14, h⟩ := g_ni h
      refine lv_ldiv C0.1.1 C0.1.2.1 dX4_joins_76 hn14 ?_
      refine W.lcmp C0.1.1 C0.1.2.1 dX4_joins_77 ?_
      refine lv_if_le (tgt := 85) C0.1.1 C0.1.2.1 dX4_joins_78 (by decide) (fun hc => ?_) (fun hc => ?_)
      · replace h := (if_pos hc).symm.trans h
        exact wX4_joins_85 (N := N) C0 hret (he - (1 : Int32)) (wt - (1 : Int32)) br sk (wa (wt - (1 : Int32)).toNatClampNeg) (sk ((he - (1 : Int32)) - (1 : Int32)).toNatClampNeg) (sk (he - (1 : Int32)).toNatClampNeg) _ _ _ h Z (lv_sub hl [3, 2, 1, 0] rfl)
      · replace h := (if_neg hc).symm.trans h
        refine lv_iconst (v := 1) C0.1.1 C0.1.2.1 dX4_joins_81 (by decide) ?_
        refine lv_goto (tgt := 86) C0.1.1 C0.1.2.1 dX4_joins_82 (by decide) ?_
        exact wX4_joins_86 (N := N) C0 hret (he - (1 : Int32)) (wt - (1 : Int32)) br sk (wa (wt - (1 : Int32)).toNatClampNeg) (sk ((he - (1 : Int32)) - (1 : Int32)).toNatClampNeg) (sk (he - (1 : Int32)).toNatClampNeg) (1 : Int32) _ _ _ h Z (lv_sub hl [3, 2, 1, 0] rfl)
/-! X4_joinsAll -/
abbrev rmX4_joinsAll : Room := { frames := 2, cells := 0, slots := 0, locals := 54 }
theorem kX4_joinsAll_f85 : Cond.fieldLink RX4 85 "GoalseekOfficeModel" "waits" "I" ∈ wsX4_joinsAll := by decide +kernel
theorem kX4_joinsAll_in : ∀ w ∈ wsX40, w ∈ wsX4_joinsAll := by decide +kernel
theorem kX4_joinsAll_f35 : Cond.fieldLink RX4 35 "GoalseekOfficeModel" "waiting" "[I" ∈ wsX4_joinsAll := by decide +kernel
def mX4_joinsAll_46 (N : Nat) (wa : Nat → Int32) (he : Int32) (wt : Int32) (br : Int32) (sk : Nat → Int64) : Option (Int32 × Int32 × Int32 × (Nat → Int64)) := some (he, wt, br, sk)
def mX4_joinsAll_0_b (N : Nat) (wa : Nat → Int32) (r0 : Int32 → Int32 → Int32 → (Nat → Int64) → Int32 → Option (Int32 × Int32 × Int32 × (Nat → Int64))) (he : Int32) (wt : Int32) (br : Int32) (sk : Nat → Int64) (v1 : Int32) : Option (Int32 × Int32 × Int32 × (Nat → Int64)) := (if wt ≤ 0 then mX4_joinsAll_46 N wa he wt br sk else (if (wt - (1 : Int32)) < 0 ∨ 15 ≤ (wt - (1 : Int32)).toNatClampNeg then none else (if (wa (wt - (1 : Int32)).toNatClampNeg) = (4 : Int32) then mX4_joinsAll_46 N wa he wt br sk else (if (wt - (1 : Int32)) < 0 ∨ 15 ≤ (wt - (1 : Int32)).toNatClampNeg then none else (if ((wa (wt - (1 : Int32)).toNatClampNeg) / (2 : Int32)) < v1 then mX4_joinsAll_46 N wa he wt br sk else ((mX4_joins N wa he wt br sk).bind fun x3 => r0 x3.1 x3.2.1 x3.2.2.1 x3.2.2.2 v1))))))
def mX4_joinsAll_0 (N : Nat) (wa : Nat → Int32) : Nat → Int32 → Int32 → Int32 → (Nat → Int64) → Int32 → Option (Int32 × Int32 × Int32 × (Nat → Int64))
  | 0 => fun _ _ _ _ _ => none
  | n + 1 => fun he wt br sk v1 => mX4_joinsAll_0_b N wa (mX4_joinsAll_0 N wa n) he wt br sk v1
def mX4_joinsAll (N : Nat) (wa : Nat → Int32) (he : Int32) (wt : Int32) (br : Int32) (sk : Nat → Int64) (p0 : Int32) : Option (Int32 × Int32 × Int32 × (Nat → Int64)) := mX4_joinsAll_0 N wa N he wt br sk p0
set_option maxRecDepth 20000 in
set_option maxHeartbeats 4000000 in
theorem wX4_joinsAll_46 {p : Program} {l : Launch} {e : Env} {s : State} {m : MethodId} {args : Array Value} {below : List Frame} {meth : Method} {c : Code} {Q : State → Prop} {D : va_G} {cyI cyJ cyO : ClassId} {A : Nat → Prop} {bs : Nat} {a : Nat → Nat} {Y : va_W} {th : Int32} {df : Int32} {la : Int32} {fo : Int32} {dr : Nat → Int32} {fm : Nat → Int32} {sz : Nat → Int32} {om : Nat → Int32} {os : Nat → Int32} {st : Nat → Int32} {wa : Nat → Int32} {va : Nat → Int64} {N : Nat} {res : Int32 × Int32 × Int32 × (Nat → Int64)} (C0 : gC p m meth c cX4_joinsAll 2 none s args wsX4_joinsAll RX4) (hret : ∀ (he_r : Int32) (wt_r : Int32) (br_r : Int32) (sk_r : Nat → Int64) (H : Heap) (locs : List Loc) (pc : Nat) (ls : Array Slot), some (he_r, wt_r, br_r, sk_r) = some res → gZ D (gT cyI cyJ cyO) (XM a cyI cyJ th df la fo he_r wt_r br_r dr fm sz om os st wa va sk_r ++ Y) A bs s H locs → decode cX4_joinsAll pc = .ok (.return_, 1) → W p l e rmX4_joinsAll s m args below meth c H locs 0 0 Q (F0 m pc ls []))  : ∀ (he : Int32) (wt : Int32) (br : Int32) (sk : Nat → Int64) (H : Heap) (locs : List Loc) (ls : Array Slot), mX4_joinsAll_46 N wa he wt br sk = some res → gZ D (gT cyI cyJ cyO) (XM a cyI cyJ th df la fo he wt br dr fm sz om os st wa va sk ++ Y) A bs s H locs → lv_has ls 2 [] → W p l e rmX4_joinsAll s m args below meth c H locs 0 0 Q (F0 m 46 ls []) := by
  intro he wt br sk H locs ls h Z hl
  unfold mX4_joinsAll_46 at h
  exact hret he wt br sk _ _ _ _ h Z dX4_joinsAll_46
set_option maxRecDepth 20000 in
set_option maxHeartbeats 4000000 in
theorem wX4_joinsAll_0_b {p : Program} {l : Launch} {e : Env} {s : State} {m : MethodId} {args : Array Value} {below : List Frame} {meth : Method} {c : Code} {Q : State → Prop} {D : va_G} {cyI cyJ cyO : ClassId} {A : Nat → Prop} {bs : Nat} {a : Nat → Nat} {Y : va_W} {th : Int32} {df : Int32} {la : Int32} {fo : Int32} {dr : Nat → Int32} {fm : Nat → Int32} {sz : Nat → Int32} {om : Nat → Int32} {os : Nat → Int32} {st : Nat → Int32} {wa : Nat → Int32} {va : Nat → Int64} {N : Nat} {res : Int32 × Int32 × Int32 × (Nat → Int64)} (C0 : gC p m meth c cX4_joinsAll 2 none s args wsX4_joinsAll RX4) (hret : ∀ (he_r : Int32) (wt_r : Int32) (br_r : Int32) (sk_r : Nat → Int64) (H : Heap) (locs : List Loc) (pc : Nat) (ls : Array Slot), some (he_r, wt_r, br_r, sk_r) = some res → gZ D (gT cyI cyJ cyO) (XM a cyI cyJ th df la fo he_r wt_r br_r dr fm sz om os st wa va sk_r ++ Y) A bs s H locs → decode cX4_joinsAll pc = .ok (.return_, 1) → W p l e rmX4_joinsAll s m args below meth c H locs 0 0 Q (F0 m pc ls [])) {r0 : Int32 → Int32 → Int32 → (Nat → Int64) → Int32 → Option (Int32 × Int32 × Int32 × (Nat → Int64))} (hr0 : ∀ (he : Int32) (wt : Int32) (br : Int32) (sk : Nat → Int64) (v1 : Int32) (H : Heap) (locs : List Loc) (ls : Array Slot), r0 he wt br sk v1 = some res → gZ D (gT cyI cyJ cyO) (XM a cyI cyJ th df la fo he wt br dr fm sz om os st wa va sk ++ Y) A bs s H locs → lv_has ls 2 [(0, .ref (a 0)), (1, .int v1)] → W p l e rmX4_joinsAll s m args below meth c H locs 0 0 Q (F0 m 0 ls [])) : ∀ (he : Int32) (wt : Int32) (br : Int32) (sk : Nat → Int64) (v1 : Int32) (H : Heap) (locs : List Loc) (ls : Array Slot), mX4_joinsAll_0_b N wa r0 he wt br sk v1 = some res → gZ D (gT cyI cyJ cyO) (XM a cyI cyJ th df la fo he wt br dr fm sz om os st wa va sk ++ Y) A bs s H locs → lv_has ls 2 [(0, .ref (a 0)), (1, .int v1)] → W p l e rmX4_joinsAll s m args below meth c H locs 0 0 Q (F0 m 0 ls []) := by
  intro he wt br sk v1 H locs ls h Z hl
  unfold mX4_joinsAll_0_b at h
  refine lv_aload_n C0.1.1 C0.1.2.1 dX4_joinsAll_0 rfl (lv_at hl 0 rfl) ?_
  refine g_get (ci := 6) (v := .int wt) (T := TX4) (N := 16) C0.1 Z 0 rfl rfl 14 (by decide) kX4_joinsAll_in kX4_joinsAll_f85 rfl rfl dX4_joinsAll_1 ?_
  refine lv_if_le (tgt := 46) C0.1.1 C0.1.2.1 dX4_joinsAll_4 (by decide) (fun hc => ?_) (fun hc => ?_)
  · replace h := (if_pos hc).symm.trans h
    exact wX4_joinsAll_46 (N := N) C0 hret he wt br sk _ _ _ h Z (lv_sub hl [] rfl)
  · replace h := (if_neg hc).symm.trans h
    refine lv_aload_n C0.1.1 C0.1.2.1 dX4_joinsAll_7 rfl (lv_at hl 0 rfl) ?_
    refine g_get (ci := 6) (v := .ref (a 9)) (T := TX4) (N := 16) C0.1 Z 0 rfl rfl 13 (by decide) kX4_joinsAll_in kX4_joinsAll_f35 rfl rfl dX4_joinsAll_8 ?_
    refine lv_aload_n C0.1.1 C0.1.2.1 dX4_joinsAll_11 rfl (lv_at hl 0 rfl) ?_
    refine g_get (ci := 6) (v := .int wt) (T := TX4) (N := 16) C0.1 Z 0 rfl rfl 14 (by decide) kX4_joinsAll_in kX4_joinsAll_f85 rfl rfl dX4_joinsAll_12 ?_
    refine lv_iconst (v := 1) C0.1.1 C0.1.2.1 dX4_joinsAll_15 (by decide) ?_
    refine lv_isub C0.1.1 C0.1.2.1 dX4_joinsAll_16 ?_
    obtain ⟨hi1, h⟩ := g_ni h
    refine g_iald (f := wa) (n := 15) C0.1 Z 9 0 rfl rfl hi1 dX4_joinsAll_17 ?_
    refine lv_iconst (v := 4) C0.1.1 C0.1.2.1 dX4_joinsAll_18 (by decide) ?_
    refine lv_icmp_eq (tgt := 46) C0.1.1 C0.1.2.1 dX4_joinsAll_19 (by decide) (fun hc => ?_) (fun hc => ?_)
    · replace h := (if_pos hc).symm.trans h
      exact wX4_joinsAll_46 (N := N) C0 hret he wt br sk _ _ _ h Z (lv_sub hl [] rfl)
    · replace h := (if_neg hc).symm.trans h
      refine lv_aload_n C0.1.1 C0.1.2.1 dX4_joinsAll_22 rfl (lv_at hl 0 rfl) ?_
      refine g_get (ci := 6) (v := .ref (a 9)) (T := TX4) (N := 16) C0.1 Z 0 rfl rfl 13 (by decide) kX4_joinsAll_in kX4_joinsAll_f35 rfl rfl dX4_joinsAll_23 ?_
      refine lv_aload_n C0.1.1 C0.1.2.1 dX4_joinsAll_26 rfl (lv_at hl 0 rfl) ?_
      refine g_get (ci := 6) (v := .int wt) (T := TX4) (N := 16) C0.1 Z 0 rfl rfl 14 (by decide) kX4_joinsAll_in kX4_joinsAll_f85 rfl rfl dX4_joinsAll_27 ?_
      refine lv_iconst (v := 1) C0.1.1 C0.1.2.1 dX4_joinsAll_30 (by decide) ?_
      refine lv_isub C0.1.1 C0.1.2.1 dX4_joinsAll_31 ?_
      obtain ⟨hi2, h⟩ := g_ni h
      refine g_iald (f := wa) (n := 15) C0.1 Z 9 0 rfl rfl hi2 dX4_joinsAll_32 ?_
      refine lv_iconst (v := 2) C0.1.1 C0.1.2.1 dX4_joinsAll_33 (by decide) ?_
      refine lv_idiv C0.1.1 C0.1.2.1 dX4_joinsAll_34 (by decide) ?_
      refine lv_iload_n C0.1.1 C0.1.2.1 dX4_joinsAll_35 rfl (lv_at hl 1 rfl) ?_
      refine lv_icmp_lt (tgt := 46) C0.1.1 C0.1.2.1 dX4_joinsAll_36 (by decide) (fun hc => ?_) (fun hc => ?_)
      · replace h := (if_pos hc).symm.trans h
        exact wX4_joinsAll_46 (N := N) C0 hret he wt br sk _ _ _ h Z (lv_sub hl [] rfl)
      · replace h := (if_neg hc).symm.trans h
        refine lv_aload_n C0.1.1 C0.1.2.1 dX4_joinsAll_39 rfl (lv_at hl 0 rfl) ?_
        obtain ⟨x3, hx4, h⟩ := g_bd h
        refine g_callVv (b := a 0) (As := []) (rest := []) (ws' := (fun (u : Int32 × Int32 × Int32 × (Nat → Int64)) => (XM a cyI cyJ th df la fo u.1 u.2.1 u.2.2.1 dr fm sz om os st wa va u.2.2.2 ++ Y))) C0.1 Z (zX4_joins l D cyI cyJ cyO A bs Z.2.2.2.2.2 a Y th df la fo he wt br dr fm sz om os st wa va sk N x3 hx4) (cwV 0 C0.1.2.2.2.2 gX4_joinsAll_X4_joins rfl rfl rfl (by decide +kernel) ⟨Nat.le_of_ble_eq_true rfl, Nat.le_of_ble_eq_true rfl⟩) 0 (ci := 6) rfl rfl rfl rfl hl.1 rfl (Nat.le_of_ble_eq_true rfl) dX4_joinsAll_40 ⟨Nat.zero_le _, Nat.zero_le _⟩ (fun u H locs hw Z => ?_)
        subst hw
        refine lv_goto (tgt := 0) C0.1.1 C0.1.2.1 dX4_joinsAll_43 (by decide) ?_
        exact hr0 x3.1 x3.2.1 x3.2.2.1 x3.2.2.2 v1 _ _ _ h Z (lv_sub hl [0, 1] rfl)
theorem wX4_joinsAll_0 {p : Program} {l : Launch} {e : Env} {s : State} {m : MethodId} {args : Array Value} {below : List Frame} {meth : Method} {c : Code} {Q : State → Prop} {D : va_G} {cyI cyJ cyO : ClassId} {A : Nat → Prop} {bs : Nat} {a : Nat → Nat} {Y : va_W} {th : Int32} {df : Int32} {la : Int32} {fo : Int32} {dr : Nat → Int32} {fm : Nat → Int32} {sz : Nat → Int32} {om : Nat → Int32} {os : Nat → Int32} {st : Nat → Int32} {wa : Nat → Int32} {va : Nat → Int64} {N : Nat} {res : Int32 × Int32 × Int32 × (Nat → Int64)} (C0 : gC p m meth c cX4_joinsAll 2 none s args wsX4_joinsAll RX4) (hret : ∀ (he_r : Int32) (wt_r : Int32) (br_r : Int32) (sk_r : Nat → Int64) (H : Heap) (locs : List Loc) (pc : Nat) (ls : Array Slot), some (he_r, wt_r, br_r, sk_r) = some res → gZ D (gT cyI cyJ cyO) (XM a cyI cyJ th df la fo he_r wt_r br_r dr fm sz om os st wa va sk_r ++ Y) A bs s H locs → decode cX4_joinsAll pc = .ok (.return_, 1) → W p l e rmX4_joinsAll s m args below meth c H locs 0 0 Q (F0 m pc ls []))  : ∀ (n : Nat), ∀ (he : Int32) (wt : Int32) (br : Int32) (sk : Nat → Int64) (v1 : Int32) (H : Heap) (locs : List Loc) (ls : Array Slot), mX4_joinsAll_0 N wa n he wt br sk v1 = some res → gZ D (gT cyI cyJ cyO) (XM a cyI cyJ th df la fo he wt br dr fm sz om os st wa va sk ++ Y) A bs s H locs → lv_has ls 2 [(0, .ref (a 0)), (1, .int v1)] → W p l e rmX4_joinsAll s m args below meth c H locs 0 0 Q (F0 m 0 ls []) := by
  intro n
  induction n with
  | zero => intro _ _ _ _ _ _ _ _ h; cases h
  | succ n ih => exact wX4_joinsAll_0_b (N := N) C0 hret ih
set_option maxRecDepth 20000 in
set_option maxHeartbeats 4000000 in
theorem zX4_joinsAll (l : Launch) (D : va_G) (cyI cyJ cyO : ClassId) (A : Nat → Prop) (bs : Nat) (hA : ∀ q, bs ≤ q → A q) (a : Nat → Nat) (Y : va_W) (th : Int32) (df : Int32) (la : Int32) (fo : Int32) (he : Int32) (wt : Int32) (br : Int32) (dr : Nat → Int32) (fm : Nat → Int32) (sz : Nat → Int32) (om : Nat → Int32) (os : Nat → Int32) (st : Nat → Int32) (wa : Nat → Int32) (va : Nat → Int64) (sk : Nat → Int64) (N : Nat) (p0 : Int32) (res : Int32 × Int32 × Int32 × (Nat → Int64)) (h : mX4_joinsAll N wa he wt br sk p0 = some res) : Met l yX4_joinsAll wsX4_joinsAll rmX4_joinsAll (va_Pc [.ref (a 0), .int p0] (gW D (gT cyI cyJ cyO) (XM a cyI cyJ th df la fo he wt br dr fm sz om os st wa va sk ++ Y) A bs)) (va_Qv (fun (u : Int32 × Int32 × Int32 × (Nat → Int64)) => res = u) (fun (u : Int32 × Int32 × Int32 × (Nat → Int64)) U => gW D (gT cyI cyJ cyO) (XM a cyI cyJ th df la fo u.1 u.2.1 u.2.2.1 dr fm sz om os st wa va u.2.2.2 ++ Y) A bs U) A) 0 0 A := by
  refine Met.ofW (cc := cX4_joinsAll) (maxL := 2) (ret := none) (by decide) rfl ?_
  intro p e s m args below meth c s₁ B hml hv
  obtain ⟨hav, hv⟩ := hv
  have C0 : gC p m meth c cX4_joinsAll 2 none s args wsX4_joinsAll RX4 := ⟨⟨B.exec, B.bytes, hml, findClass_of_methodNamed B.named, atoms_spec (ws := wsX4_joinsAll) B.pre⟩, B.returns, B.notSynchronized⟩
  have Z := g_start hA hv
  have hret : ∀ (he_r : Int32) (wt_r : Int32) (br_r : Int32) (sk_r : Nat → Int64) (H : Heap) (locs : List Loc) (pc : Nat) (ls : Array Slot), some (he_r, wt_r, br_r, sk_r) = some res → gZ D (gT cyI cyJ cyO) (XM a cyI cyJ th df la fo he_r wt_r br_r dr fm sz om os st wa va sk_r ++ Y) A bs s H locs → decode cX4_joinsAll pc = .ok (.return_, 1) → W p l e rmX4_joinsAll s m args below meth c H locs 0 0 (MQ below (va_Qv (fun (u : Int32 × Int32 × Int32 × (Nat → Int64)) => res = u) (fun (u : Int32 × Int32 × Int32 × (Nat → Int64)) U => gW D (gT cyI cyJ cyO) (XM a cyI cyJ th df la fo u.1 u.2.1 u.2.2.1 dr fm sz om os st wa va u.2.2.2 ++ Y) A bs U) A) args s 0 0 A) (F0 m pc ls []) := by
    intro he_r wt_r br_r sk_r H locs pc ls h Z hd
    replace h := Option.some.inj h
    exact W.vret C0.1.1 C0.1.2.1 C0.2.1 (fun t ht hW => ⟨⟨(he_r, wt_r, br_r, sk_r), rfl, h.symm, g_end Z ht hW⟩, Z.2.2.2.1.F ht⟩) Z.2.2.2.1.2.2 hd C0.2.2
  have hl := lv_entry ([.ref (a 0), .int p0]) (n := 2) (Nat.le_of_ble_eq_true rfl)
  rw [hav, lg_entry_eq]
  generalize (lg_sl ([.ref (a 0), .int p0]) ++ List.replicate (2 - (lg_sl ([.ref (a 0), .int p0])).length) Slot.unset).toArray = ls at hl ⊢
  have hl : lv_has ls 2 [(0, .ref (a 0)), (1, .int p0)] := hl
  rw [← hav]
  unfold mX4_joinsAll at h
  exact wX4_joinsAll_0 (N := N) C0 hret N he wt br sk p0 _ _ _ h Z (lv_sub hl [0, 1] rfl)
/-! X4_reads -/
abbrev rmX4_reads : Room := { frames := 3, cells := 0, slots := 0, locals := 75 }
theorem kX4_reads_f85 : Cond.fieldLink RX4 85 "GoalseekOfficeModel" "waits" "I" ∈ wsX4_reads := by decide +kernel
theorem kX4_reads_in : ∀ w ∈ wsX40, w ∈ wsX4_reads := by decide +kernel
theorem kX4_reads_f35 : Cond.fieldLink RX4 35 "GoalseekOfficeModel" "waiting" "[I" ∈ wsX4_reads := by decide +kernel
theorem kX4_reads_f98 : Cond.fieldLink RX4 98 "GoalseekOfficeModel" "isBroken" "Z" ∈ wsX4_reads := by decide +kernel
theorem kX4_reads_f25 : Cond.fieldLink RX4 25 "GoalseekOfficeModel" "values" "[J" ∈ wsX4_reads := by decide +kernel
theorem kX4_reads_c65 : Cond.constant RX4 65 (1000000) ∈ wsX4_reads := by decide +kernel
theorem kX4_reads_c66 : Cond.constant RX4 66 (2000000) ∈ wsX4_reads := by decide +kernel
theorem kX4_reads_f82 : Cond.fieldLink RX4 82 "GoalseekOfficeModel" "height" "I" ∈ wsX4_reads := by decide +kernel
theorem kX4_reads_f32 : Cond.fieldLink RX4 32 "GoalseekOfficeModel" "stack" "[J" ∈ wsX4_reads := by decide +kernel
theorem kX4_reads_f29 : Cond.fieldLink RX4 29 "GoalseekOfficeModel" "states" "[I" ∈ wsX4_reads := by decide +kernel
def mX4_reads_167 (N : Nat) (st : Nat → Int32) (va : Nat → Int64) (he : Int32) (wt : Int32) (br : Int32) (wa : Nat → Int32) (sk : Nat → Int64) : Option (Int32 × Int32 × Int32 × (Nat → Int32) × (Nat → Int64)) := some (he, wt, br, wa, sk)
def mX4_reads_156 (N : Nat) (st : Nat → Int32) (va : Nat → Int64) (he : Int32) (wt : Int32) (br : Int32) (wa : Nat → Int32) (sk : Nat → Int64) (s1 : Int32) (s2 : Int32) : Option (Int32 × Int32 × Int32 × (Nat → Int32) × (Nat → Int64)) := (if s1 < 0 ∨ 15 ≤ s1.toNatClampNeg then none else mX4_reads_167 N st va he (wt + (1 : Int32)) br (upd wa s1.toNatClampNeg s2) sk)
def mX4_reads_155 (N : Nat) (st : Nat → Int32) (va : Nat → Int64) (he : Int32) (wt : Int32) (br : Int32) (wa : Nat → Int32) (sk : Nat → Int64) (v3 : Int32) (s1 : Int32) : Option (Int32 × Int32 × Int32 × (Nat → Int32) × (Nat → Int64)) := mX4_reads_156 N st va he wt br wa sk s1 v3
def mX4_reads_133 (N : Nat) (st : Nat → Int32) (va : Nat → Int64) (he : Int32) (wt : Int32) (br : Int32) (wa : Nat → Int32) (sk : Nat → Int64) (v2 : Int32) (v3 : Int32) : Option (Int32 × Int32 × Int32 × (Nat → Int32) × (Nat → Int64)) := (if v3 = (1 : Int32) then (if v2 = 0 then mX4_reads_155 N st va he wt br wa sk v3 wt else mX4_reads_156 N st va he wt br wa sk wt (6 : Int32)) else mX4_reads_155 N st va he wt br wa sk v3 wt)
def mX4_reads_52 (N : Nat) (st : Nat → Int32) (va : Nat → Int64) (he : Int32) (wt : Int32) (br : Int32) (wa : Nat → Int32) (sk : Nat → Int64) (v1 : Int32) (s1 : Int32) : Option (Int32 × Int32 × Int32 × (Nat → Int32) × (Nat → Int64)) := (if (s1 = 0 ∨ s1 = 1) then (if (v1 - (1000000 : Int32)) < 0 ∨ 30 ≤ (v1 - (1000000 : Int32)).toNatClampNeg then none else ((mX4_pushes N wa he wt sk (va (v1 - (1000000 : Int32)).toNatClampNeg)).bind fun x4 => mX4_reads_167 N st va x4.1 x4.2.1 s1 wa x4.2.2)) else none)
def mX4_reads_47 (N : Nat) (st : Nat → Int32) (va : Nat → Int64) (he : Int32) (wt : Int32) (br : Int32) (wa : Nat → Int32) (sk : Nat → Int64) (v1 : Int32) : Option (Int32 × Int32 × Int32 × (Nat → Int32) × (Nat → Int64)) := mX4_reads_52 N st va he wt br wa sk v1 (1 : Int32)
def mX4_reads (N : Nat) (st : Nat → Int32) (va : Nat → Int64) (he : Int32) (wt : Int32) (br : Int32) (wa : Nat → Int32) (sk : Nat → Int64) (p0 : Int32) (p1 : Int32) : Option (Int32 × Int32 × Int32 × (Nat → Int32) × (Nat → Int64)) := (if (1000000 : Int32) ≤ p0 then (if (2000000 : Int32) ≤ p0 then (if (p0 - (2000000 : Int32)) = (5 : Int32) then ((mX4_joinsAll N wa he wt br sk (0 : Int32)).bind fun x8 => (if (x8.1 - (1 : Int32)) < 0 ∨ 15 ≤ (x8.1 - (1 : Int32)).toNatClampNeg then none else ((mX4_pushes N wa (x8.1 - (1 : Int32)) (x8.2.1 - (1 : Int32)) x8.2.2.2 (x8.2.2.2 (x8.1 - (1 : Int32)).toNatClampNeg)).bind fun x11 => mX4_reads_167 N st va x11.1 x11.2.1 x8.2.2.1 wa x11.2.2))) else (if (p0 - (2000000 : Int32)) = (4 : Int32) then mX4_reads_133 N st va he wt br wa sk p1 (p0 - (2000000 : Int32)) else (if p1 = 0 then ((mX4_joinsAll N wa he wt br sk ((p0 - (2000000 : Int32)) / (2 : Int32))).bind fun x6 => mX4_reads_133 N st va x6.1 x6.2.1 x6.2.2.1 wa x6.2.2.2 p1 (p0 - (2000000 : Int32))) else mX4_reads_133 N st va he wt br wa sk p1 (p0 - (2000000 : Int32))))) else (if br = 0 then (if (p0 - (1000000 : Int32)) < 0 ∨ 30 ≤ (p0 - (1000000 : Int32)).toNatClampNeg then none else (if (st (p0 - (1000000 : Int32)).toNatClampNeg) = (2 : Int32) then mX4_reads_47 N st va he wt br wa sk p0 else mX4_reads_52 N st va he wt br wa sk p0 (0 : Int32))) else mX4_reads_47 N st va he wt br wa sk p0)) else ((mX4_pushes N wa he wt sk (p0.toInt64)).bind fun x14 => mX4_reads_167 N st va x14.1 x14.2.1 br wa x14.2.2))
set_option maxRecDepth 20000 in
set_option maxHeartbeats 4000000 in
theorem wX4_reads_167 {p : Program} {l : Launch} {e : Env} {s : State} {m : MethodId} {args : Array Value} {below : List Frame} {meth : Method} {c : Code} {Q : State → Prop} {D : va_G} {cyI cyJ cyO : ClassId} {A : Nat → Prop} {bs : Nat} {a : Nat → Nat} {Y : va_W} {th : Int32} {df : Int32} {la : Int32} {fo : Int32} {dr : Nat → Int32} {fm : Nat → Int32} {sz : Nat → Int32} {om : Nat → Int32} {os : Nat → Int32} {st : Nat → Int32} {va : Nat → Int64} {N : Nat} {res : Int32 × Int32 × Int32 × (Nat → Int32) × (Nat → Int64)} (C0 : gC p m meth c cX4_reads 4 none s args wsX4_reads RX4) (hret : ∀ (he_r : Int32) (wt_r : Int32) (br_r : Int32) (wa_r : Nat → Int32) (sk_r : Nat → Int64) (H : Heap) (locs : List Loc) (pc : Nat) (ls : Array Slot), some (he_r, wt_r, br_r, wa_r, sk_r) = some res → gZ D (gT cyI cyJ cyO) (XM a cyI cyJ th df la fo he_r wt_r br_r dr fm sz om os st wa_r va sk_r ++ Y) A bs s H locs → decode cX4_reads pc = .ok (.return_, 1) → W p l e rmX4_reads s m args below meth c H locs 0 0 Q (F0 m pc ls []))  : ∀ (he : Int32) (wt : Int32) (br : Int32) (wa : Nat → Int32) (sk : Nat → Int64) (H : Heap) (locs : List Loc) (ls : Array Slot), mX4_reads_167 N st va he wt br wa sk = some res → gZ D (gT cyI cyJ cyO) (XM a cyI cyJ th df la fo he wt br dr fm sz om os st wa va sk ++ Y) A bs s H locs → lv_has ls 4 [] → W p l e rmX4_reads s m args below meth c H locs 0 0 Q (F0 m 167 ls []) := by
  intro he wt br wa sk H locs ls h Z hl
  unfold mX4_reads_167 at h
  exact hret he wt br wa sk _ _ _ _ h Z dX4_reads_167
set_option maxRecDepth 20000 in
set_option maxHeartbeats 4000000 in
theorem wX4_reads_156 {p : Program} {l : Launch} {e : Env} {s : State} {m : MethodId} {args : Array Value} {below : List Frame} {meth : Method} {c : Code} {Q : State → Prop} {D : va_G} {cyI cyJ cyO : ClassId} {A : Nat → Prop} {bs : Nat} {a : Nat → Nat} {Y : va_W} {th : Int32} {df : Int32} {la : Int32} {fo : Int32} {dr : Nat → Int32} {fm : Nat → Int32} {sz : Nat → Int32} {om : Nat → Int32} {os : Nat → Int32} {st : Nat → Int32} {va : Nat → Int64} {N : Nat} {res : Int32 × Int32 × Int32 × (Nat → Int32) × (Nat → Int64)} (C0 : gC p m meth c cX4_reads 4 none s args wsX4_reads RX4) (hret : ∀ (he_r : Int32) (wt_r : Int32) (br_r : Int32) (wa_r : Nat → Int32) (sk_r : Nat → Int64) (H : Heap) (locs : List Loc) (pc : Nat) (ls : Array Slot), some (he_r, wt_r, br_r, wa_r, sk_r) = some res → gZ D (gT cyI cyJ cyO) (XM a cyI cyJ th df la fo he_r wt_r br_r dr fm sz om os st wa_r va sk_r ++ Y) A bs s H locs → decode cX4_reads pc = .ok (.return_, 1) → W p l e rmX4_reads s m args below meth c H locs 0 0 Q (F0 m pc ls []))  : ∀ (he : Int32) (wt : Int32) (br : Int32) (wa : Nat → Int32) (sk : Nat → Int64) (s1 : Int32) (s2 : Int32) (H : Heap) (locs : List Loc) (ls : Array Slot), mX4_reads_156 N st va he wt br wa sk s1 s2 = some res → gZ D (gT cyI cyJ cyO) (XM a cyI cyJ th df la fo he wt br dr fm sz om os st wa va sk ++ Y) A bs s H locs → lv_has ls 4 [(0, .ref (a 0))] → W p l e rmX4_reads s m args below meth c H locs 0 0 Q (F0 m 156 ls [.int s2, .int s1, .ref (a 9)]) := by
  intro he wt br wa sk s1 s2 H locs ls h Z hl
  unfold mX4_reads_156 at h
  obtain ⟨hi1, h⟩ := g_ni h
  refine g_iast (f := wa) (n := 15) (ws' := (XM a cyI cyJ th df la fo he wt br dr fm sz om os st (upd wa s1.toNatClampNeg s2) va sk ++ Y)) C0.1 Z 9 0 rfl rfl hi1 dX4_reads_156 rfl (fun H locs Z => ?_)
  refine lv_aload_n C0.1.1 C0.1.2.1 dX4_reads_157 rfl (lv_at hl 0 rfl) ?_
  refine lv_dup C0.1.1 C0.1.2.1 dX4_reads_158 rfl ?_
  refine g_get (ci := 6) (v := .int wt) (T := TX4) (N := 16) C0.1 Z 0 rfl rfl 14 (by decide) kX4_reads_in kX4_reads_f85 rfl rfl dX4_reads_159 ?_
  refine lv_iconst (v := 1) C0.1.1 C0.1.2.1 dX4_reads_162 (by decide) ?_
  refine lv_iadd C0.1.1 C0.1.2.1 dX4_reads_163 ?_
  refine g_put (ci := 6) (v := .int (wt + (1 : Int32))) (T := TX4) (N := 16) (ws' := (XM a cyI cyJ th df la fo he (wt + (1 : Int32)) br dr fm sz om os st (upd wa s1.toNatClampNeg s2) va sk ++ Y)) C0.1 Z 0 rfl rfl 14 (by decide) kX4_reads_in kX4_reads_f85 rfl tyX4 tyX4_ok nmX4 rfl rfl rfl (Nat.le_of_ble_eq_true rfl) dX4_reads_164 rfl (fun H locs Z => ?_)
  exact wX4_reads_167 (N := N) C0 hret he (wt + (1 : Int32)) br (upd wa s1.toNatClampNeg s2) sk _ _ _ h Z (lv_sub hl [] rfl)
set_option maxRecDepth 20000 in
set_option maxHeartbeats 4000000 in
theorem wX4_reads_155 {p : Program} {l : Launch} {e : Env} {s : State} {m : MethodId} {args : Array Value} {below : List Frame} {meth : Method} {c : Code} {Q : State → Prop} {D : va_G} {cyI cyJ cyO : ClassId} {A : Nat → Prop} {bs : Nat} {a : Nat → Nat} {Y : va_W} {th : Int32} {df : Int32} {la : Int32} {fo : Int32} {dr : Nat → Int32} {fm : Nat → Int32} {sz : Nat → Int32} {om : Nat → Int32} {os : Nat → Int32} {st : Nat → Int32} {va : Nat → Int64} {N : Nat} {res : Int32 × Int32 × Int32 × (Nat → Int32) × (Nat → Int64)} (C0 : gC p m meth c cX4_reads 4 none s args wsX4_reads RX4) (hret : ∀ (he_r : Int32) (wt_r : Int32) (br_r : Int32) (wa_r : Nat → Int32) (sk_r : Nat → Int64) (H : Heap) (locs : List Loc) (pc : Nat) (ls : Array Slot), some (he_r, wt_r, br_r, wa_r, sk_r) = some res → gZ D (gT cyI cyJ cyO) (XM a cyI cyJ th df la fo he_r wt_r br_r dr fm sz om os st wa_r va sk_r ++ Y) A bs s H locs → decode cX4_reads pc = .ok (.return_, 1) → W p l e rmX4_reads s m args below meth c H locs 0 0 Q (F0 m pc ls []))  : ∀ (he : Int32) (wt : Int32) (br : Int32) (wa : Nat → Int32) (sk : Nat → Int64) (v3 : Int32) (s1 : Int32) (H : Heap) (locs : List Loc) (ls : Array Slot), mX4_reads_155 N st va he wt br wa sk v3 s1 = some res → gZ D (gT cyI cyJ cyO) (XM a cyI cyJ th df la fo he wt br dr fm sz om os st wa va sk ++ Y) A bs s H locs → lv_has ls 4 [(0, .ref (a 0)), (3, .int v3)] → W p l e rmX4_reads s m args below meth c H locs 0 0 Q (F0 m 155 ls [.int s1, .ref (a 9)]) := by
  intro he wt br wa sk v3 s1 H locs ls h Z hl
  unfold mX4_reads_155 at h
  refine lv_iload_n C0.1.1 C0.1.2.1 dX4_reads_155 rfl (lv_at hl 1 rfl) ?_
  exact wX4_reads_156 (N := N) C0 hret he wt br wa sk s1 v3 _ _ _ h Z (lv_sub hl [0] rfl)
set_option maxRecDepth 20000 in
set_option maxHeartbeats 4000000 in
theorem wX4_reads_133 {p : Program} {l : Launch} {e : Env} {s : State} {m : MethodId} {args : Array Value} {below : List Frame} {meth : Method} {c : Code} {Q : State → Prop} {D : va_G} {cyI cyJ cyO : ClassId} {A : Nat → Prop} {bs : Nat} {a : Nat → Nat} {Y : va_W} {th : Int32} {df : Int32} {la : Int32} {fo : Int32} {dr : Nat → Int32} {fm : Nat → Int32} {sz : Nat → Int32} {om : Nat → Int32} {os : Nat → Int32} {st : Nat → Int32} {va : Nat → Int64} {N : Nat} {res : Int32 × Int32 × Int32 × (Nat → Int32) × (Nat → Int64)} (C0 : gC p m meth c cX4_reads 4 none s args wsX4_reads RX4) (hret : ∀ (he_r : Int32) (wt_r : Int32) (br_r : Int32) (wa_r : Nat → Int32) (sk_r : Nat → Int64) (H : Heap) (locs : List Loc) (pc : Nat) (ls : Array Slot), some (he_r, wt_r, br_r, wa_r, sk_r) = some res → gZ D (gT cyI cyJ cyO) (XM a cyI cyJ th df la fo he_r wt_r br_r dr fm sz om os st wa_r va sk_r ++ Y) A bs s H locs → decode cX4_reads pc = .ok (.return_, 1) → W p l e rmX4_reads s m args below meth c H locs 0 0 Q (F0 m pc ls []))  : ∀ (he : Int32) (wt : Int32) (br : Int32) (wa : Nat → Int32) (sk : Nat → Int64) (v2 : Int32) (v3 : Int32) (H : Heap) (locs : List Loc) (ls : Array Slot), mX4_reads_133 N st va he wt br wa sk v2 v3 = some res → gZ D (gT cyI cyJ cyO) (XM a cyI cyJ th df la fo he wt br dr fm sz om os st wa va sk ++ Y) A bs s H locs → lv_has ls 4 [(0, .ref (a 0)), (2, .int v2), (3, .int v3)] → W p l e rmX4_reads s m args below meth c H locs 0 0 Q (F0 m 133 ls []) := by
  intro he wt br wa sk v2 v3 H locs ls h Z hl
  unfold mX4_reads_133 at h
  refine lv_aload_n C0.1.1 C0.1.2.1 dX4_reads_133 rfl (lv_at hl 0 rfl) ?_
  refine g_get (ci := 6) (v := .ref (a 9)) (T := TX4) (N := 16) C0.1 Z 0 rfl rfl 13 (by decide) kX4_reads_in kX4_reads_f35 rfl rfl dX4_reads_134 ?_
  refine lv_aload_n C0.1.1 C0.1.2.1 dX4_reads_137 rfl (lv_at hl 0 rfl) ?_
  refine g_get (ci := 6) (v := .int wt) (T := TX4) (N := 16) C0.1 Z 0 rfl rfl 14 (by decide) kX4_reads_in kX4_reads_f85 rfl rfl dX4_reads_138 ?_
  refine lv_iload_n C0.1.1 C0.1.2.1 dX4_reads_141 rfl (lv_at hl 2 rfl) ?_
  refine lv_iconst (v := 1) C0.1.1 C0.1.2.1 dX4_reads_142 (by decide) ?_
  refine lv_icmp_ne (tgt := 155) C0.1.1 C0.1.2.1 dX4_reads_143 (by decide) (fun hc => ?_) (fun hc => ?_)
  · replace h := (if_neg hc).symm.trans h
    exact wX4_reads_155 (N := N) C0 hret he wt br wa sk v3 wt _ _ _ h Z (lv_sub hl [0, 2] rfl)
  · replace h := (if_pos hc).symm.trans h
    refine lv_iload_n C0.1.1 C0.1.2.1 dX4_reads_146 rfl (lv_at hl 1 rfl) ?_
    refine lv_if_eq (tgt := 155) C0.1.1 C0.1.2.1 dX4_reads_147 (by decide) (fun hc => ?_) (fun hc => ?_)
    · replace h := (if_pos hc).symm.trans h
      exact wX4_reads_155 (N := N) C0 hret he wt br wa sk v3 wt _ _ _ h Z (lv_sub hl [0, 2] rfl)
    · replace h := (if_neg hc).symm.trans h
      refine lv_bipush (v := 6) C0.1.1 C0.1.2.1 dX4_reads_150 (by decide +kernel) ?_
      refine lv_goto (tgt := 156) C0.1.1 C0.1.2.1 dX4_reads_152 (by decide) ?_
      exact wX4_reads_156 (N := N) C0 hret he wt br wa sk wt (6 : Int32) _ _ _ h Z (lv_sub hl [0] rfl)
set_option maxRecDepth 20000 in
set_option maxHeartbeats 4000000 in
theorem wX4_reads_52 {p : Program} {l : Launch} {e : Env} {s : State} {m : MethodId} {args : Array Value} {below : List Frame} {meth : Method} {c : Code} {Q : State → Prop} {D : va_G} {cyI cyJ cyO : ClassId} {A : Nat → Prop} {bs : Nat} {a : Nat → Nat} {Y : va_W} {th : Int32} {df : Int32} {la : Int32} {fo : Int32} {dr : Nat → Int32} {fm : Nat → Int32} {sz : Nat → Int32} {om : Nat → Int32} {os : Nat → Int32} {st : Nat → Int32} {va : Nat → Int64} {N : Nat} {res : Int32 × Int32 × Int32 × (Nat → Int32) × (Nat → Int64)} (C0 : gC p m meth c cX4_reads 4 none s args wsX4_reads RX4) (hret : ∀ (he_r : Int32) (wt_r : Int32) (br_r : Int32) (wa_r : Nat → Int32) (sk_r : Nat → Int64) (H : Heap) (locs : List Loc) (pc : Nat) (ls : Array Slot), some (he_r, wt_r, br_r, wa_r, sk_r) = some res → gZ D (gT cyI cyJ cyO) (XM a cyI cyJ th df la fo he_r wt_r br_r dr fm sz om os st wa_r va sk_r ++ Y) A bs s H locs → decode cX4_reads pc = .ok (.return_, 1) → W p l e rmX4_reads s m args below meth c H locs 0 0 Q (F0 m pc ls []))  : ∀ (he : Int32) (wt : Int32) (br : Int32) (wa : Nat → Int32) (sk : Nat → Int64) (v1 : Int32) (s1 : Int32) (H : Heap) (locs : List Loc) (ls : Array Slot), mX4_reads_52 N st va he wt br wa sk v1 s1 = some res → gZ D (gT cyI cyJ cyO) (XM a cyI cyJ th df la fo he wt br dr fm sz om os st wa va sk ++ Y) A bs s H locs → lv_has ls 4 [(0, .ref (a 0)), (1, .int v1)] → W p l e rmX4_reads s m args below meth c H locs 0 0 Q (F0 m 52 ls [.int s1, .ref (a 0)]) := by
  intro he wt br wa sk v1 s1 H locs ls h Z hl
  unfold mX4_reads_52 at h
  obtain ⟨hn2, h⟩ := g_yi h
  refine g_put (ci := 6) (v := .int s1) (T := TX4) (N := 16) (ws' := (XM a cyI cyJ th df la fo he wt s1 dr fm sz om os st wa va sk ++ Y)) C0.1 Z 0 rfl rfl 15 (by decide) kX4_reads_in kX4_reads_f98 rfl tyX4 tyX4_ok nmX4 rfl (g_nb hn2) (g_fb hn2) (Nat.le_of_ble_eq_true rfl) dX4_reads_52 rfl (fun H locs Z => ?_)
  refine lv_aload_n C0.1.1 C0.1.2.1 dX4_reads_55 rfl (lv_at hl 0 rfl) ?_
  refine lv_aload_n C0.1.1 C0.1.2.1 dX4_reads_56 rfl (lv_at hl 0 rfl) ?_
  refine g_get (ci := 6) (v := .ref (a 6)) (T := TX4) (N := 16) C0.1 Z 0 rfl rfl 9 (by decide) kX4_reads_in kX4_reads_f25 rfl rfl dX4_reads_57 ?_
  refine lv_iload_n C0.1.1 C0.1.2.1 dX4_reads_60 rfl (lv_at hl 1 rfl) ?_
  refine lv_ldc C0.1.1 C0.1.2.1 C0.1.2.2.2.1 (C0.1.2.2.2.2 _ kX4_reads_c65) dX4_reads_61 ?_
  refine lv_isub C0.1.1 C0.1.2.1 dX4_reads_63 ?_
  obtain ⟨hi3, h⟩ := g_ni h
  refine g_lald (f := va) (n := 30) C0.1 Z 6 1 rfl rfl hi3 dX4_reads_64 ?_
  obtain ⟨x4, hx5, h⟩ := g_bd h
  refine g_callVv (b := a 0) (As := [.long (va (v1 - (1000000 : Int32)).toNatClampNeg)]) (rest := []) (ws' := (fun (u : Int32 × Int32 × (Nat → Int64)) => (XM a cyI cyJ th df la fo u.1 u.2.1 s1 dr fm sz om os st wa va u.2.2 ++ Y))) C0.1 Z (zX4_pushes l D cyI cyJ cyO A bs Z.2.2.2.2.2 a Y th df la fo he wt s1 dr fm sz om os st wa va sk N (va (v1 - (1000000 : Int32)).toNatClampNeg) x4 hx5) (cwV 1 C0.1.2.2.2.2 gX4_reads_X4_pushes rfl rfl rfl (by decide +kernel) ⟨Nat.le_of_ble_eq_true rfl, Nat.le_of_ble_eq_true rfl⟩) 0 (ci := 6) rfl rfl rfl rfl hl.1 rfl (Nat.le_of_ble_eq_true rfl) dX4_reads_65 ⟨Nat.zero_le _, Nat.zero_le _⟩ (fun u H locs hw Z => ?_)
  subst hw
  refine lv_goto (tgt := 167) C0.1.1 C0.1.2.1 dX4_reads_68 (by decide) ?_
  exact wX4_reads_167 (N := N) C0 hret x4.1 x4.2.1 s1 wa x4.2.2 _ _ _ h Z (lv_sub hl [] rfl)
set_option maxRecDepth 20000 in
set_option maxHeartbeats 4000000 in
theorem wX4_reads_47 {p : Program} {l : Launch} {e : Env} {s : State} {m : MethodId} {args : Array Value} {below : List Frame} {meth : Method} {c : Code} {Q : State → Prop} {D : va_G} {cyI cyJ cyO : ClassId} {A : Nat → Prop} {bs : Nat} {a : Nat → Nat} {Y : va_W} {th : Int32} {df : Int32} {la : Int32} {fo : Int32} {dr : Nat → Int32} {fm : Nat → Int32} {sz : Nat → Int32} {om : Nat → Int32} {os : Nat → Int32} {st : Nat → Int32} {va : Nat → Int64} {N : Nat} {res : Int32 × Int32 × Int32 × (Nat → Int32) × (Nat → Int64)} (C0 : gC p m meth c cX4_reads 4 none s args wsX4_reads RX4) (hret : ∀ (he_r : Int32) (wt_r : Int32) (br_r : Int32) (wa_r : Nat → Int32) (sk_r : Nat → Int64) (H : Heap) (locs : List Loc) (pc : Nat) (ls : Array Slot), some (he_r, wt_r, br_r, wa_r, sk_r) = some res → gZ D (gT cyI cyJ cyO) (XM a cyI cyJ th df la fo he_r wt_r br_r dr fm sz om os st wa_r va sk_r ++ Y) A bs s H locs → decode cX4_reads pc = .ok (.return_, 1) → W p l e rmX4_reads s m args below meth c H locs 0 0 Q (F0 m pc ls []))  : ∀ (he : Int32) (wt : Int32) (br : Int32) (wa : Nat → Int32) (sk : Nat → Int64) (v1 : Int32) (H : Heap) (locs : List Loc) (ls : Array Slot), mX4_reads_47 N st va he wt br wa sk v1 = some res → gZ D (gT cyI cyJ cyO) (XM a cyI cyJ th df la fo he wt br dr fm sz om os st wa va sk ++ Y) A bs s H locs → lv_has ls 4 [(0, .ref (a 0)), (1, .int v1)] → W p l e rmX4_reads s m args below meth c H locs 0 0 Q (F0 m 47 ls [.ref (a 0)]) := by
  intro he wt br wa sk v1 H locs ls h Z hl
  unfold mX4_reads_47 at h
  refine lv_iconst (v := 1) C0.1.1 C0.1.2.1 dX4_reads_47 (by decide) ?_
  refine lv_goto (tgt := 52) C0.1.1 C0.1.2.1 dX4_reads_48 (by decide) ?_
  exact wX4_reads_52 (N := N) C0 hret he wt br wa sk v1 (1 : Int32) _ _ _ h Z (lv_sub hl [0, 1] rfl)
set_option maxRecDepth 20000 in
set_option maxHeartbeats 4000000 in
theorem zX4_reads (l : Launch) (D : va_G) (cyI cyJ cyO : ClassId) (A : Nat → Prop) (bs : Nat) (hA : ∀ q, bs ≤ q → A q) (a : Nat → Nat) (Y : va_W) (th : Int32) (df : Int32) (la : Int32) (fo : Int32) (he : Int32) (wt : Int32) (br : Int32) (dr : Nat → Int32) (fm : Nat → Int32) (sz : Nat → Int32) (om : Nat → Int32) (os : Nat → Int32) (st : Nat → Int32) (wa : Nat → Int32) (va : Nat → Int64) (sk : Nat → Int64) (N : Nat) (p0 : Int32) (p1 : Int32) (res : Int32 × Int32 × Int32 × (Nat → Int32) × (Nat → Int64)) (h : mX4_reads N st va he wt br wa sk p0 p1 = some res) : Met l yX4_reads wsX4_reads rmX4_reads (va_Pc [.ref (a 0), .int p0, .int p1] (gW D (gT cyI cyJ cyO) (XM a cyI cyJ th df la fo he wt br dr fm sz om os st wa va sk ++ Y) A bs)) (va_Qv (fun (u : Int32 × Int32 × Int32 × (Nat → Int32) × (Nat → Int64)) => res = u) (fun (u : Int32 × Int32 × Int32 × (Nat → Int32) × (Nat → Int64)) U => gW D (gT cyI cyJ cyO) (XM a cyI cyJ th df la fo u.1 u.2.1 u.2.2.1 dr fm sz om os st u.2.2.2.1 va u.2.2.2.2 ++ Y) A bs U) A) 0 0 A := by
  refine Met.ofW (cc := cX4_reads) (maxL := 4) (ret := none) (by decide) rfl ?_
  intro p e s m args below meth c s₁ B hml hv
  obtain ⟨hav, hv⟩ := hv
  have C0 : gC p m meth c cX4_reads 4 none s args wsX4_reads RX4 := ⟨⟨B.exec, B.bytes, hml, findClass_of_methodNamed B.named, atoms_spec (ws := wsX4_reads) B.pre⟩, B.returns, B.notSynchronized⟩
  have Z := g_start hA hv
  have hret : ∀ (he_r : Int32) (wt_r : Int32) (br_r : Int32) (wa_r : Nat → Int32) (sk_r : Nat → Int64) (H : Heap) (locs : List Loc) (pc : Nat) (ls : Array Slot), some (he_r, wt_r, br_r, wa_r, sk_r) = some res → gZ D (gT cyI cyJ cyO) (XM a cyI cyJ th df la fo he_r wt_r br_r dr fm sz om os st wa_r va sk_r ++ Y) A bs s H locs → decode cX4_reads pc = .ok (.return_, 1) → W p l e rmX4_reads s m args below meth c H locs 0 0 (MQ below (va_Qv (fun (u : Int32 × Int32 × Int32 × (Nat → Int32) × (Nat → Int64)) => res = u) (fun (u : Int32 × Int32 × Int32 × (Nat → Int32) × (Nat → Int64)) U => gW D (gT cyI cyJ cyO) (XM a cyI cyJ th df la fo u.1 u.2.1 u.2.2.1 dr fm sz om os st u.2.2.2.1 va u.2.2.2.2 ++ Y) A bs U) A) args s 0 0 A) (F0 m pc ls []) := by
    intro he_r wt_r br_r wa_r sk_r H locs pc ls h Z hd
    replace h := Option.some.inj h
    exact W.vret C0.1.1 C0.1.2.1 C0.2.1 (fun t ht hW => ⟨⟨(he_r, wt_r, br_r, wa_r, sk_r), rfl, h.symm, g_end Z ht hW⟩, Z.2.2.2.1.F ht⟩) Z.2.2.2.1.2.2 hd C0.2.2
  have hl := lv_entry ([.ref (a 0), .int p0, .int p1]) (n := 4) (Nat.le_of_ble_eq_true rfl)
  rw [hav, lg_entry_eq]
  generalize (lg_sl ([.ref (a 0), .int p0, .int p1]) ++ List.replicate (4 - (lg_sl ([.ref (a 0), .int p0, .int p1])).length) Slot.unset).toArray = ls at hl ⊢
  have hl : lv_has ls 4 [(0, .ref (a 0)), (1, .int p0), (2, .int p1)] := hl
  rw [← hav]
  unfold mX4_reads at h
  refine lv_iload_n C0.1.1 C0.1.2.1 dX4_reads_0 rfl (lv_at hl 1 rfl) ?_
  refine lv_ldc C0.1.1 C0.1.2.1 C0.1.2.2.2.1 (C0.1.2.2.2.2 _ kX4_reads_c66) dX4_reads_1 ?_
  refine lv_isub C0.1.1 C0.1.2.1 dX4_reads_3 ?_
  refine lv_istore_n (lv' := [(3, .int (p0 - (2000000 : Int32))), (0, .ref (a 0)), (1, .int p0), (2, .int p1)]) C0.1.1 C0.1.2.1 dX4_reads_4 rfl hl (by decide) rfl (fun ls hl => ?_)
  refine lv_iload_n C0.1.1 C0.1.2.1 dX4_reads_5 rfl (lv_at hl 2 rfl) ?_
  refine lv_ldc C0.1.1 C0.1.2.1 C0.1.2.2.2.1 (C0.1.2.2.2.2 _ kX4_reads_c65) dX4_reads_6 ?_
  refine lv_icmp_ge (tgt := 20) C0.1.1 C0.1.2.1 dX4_reads_8 (by decide) (fun hc => ?_) (fun hc => ?_)
  · replace h := (if_pos hc).symm.trans h
    refine lv_iload_n C0.1.1 C0.1.2.1 dX4_reads_20 rfl (lv_at hl 2 rfl) ?_
    refine lv_ldc C0.1.1 C0.1.2.1 C0.1.2.2.2.1 (C0.1.2.2.2.2 _ kX4_reads_c66) dX4_reads_21 ?_
    refine lv_icmp_ge (tgt := 71) C0.1.1 C0.1.2.1 dX4_reads_23 (by decide) (fun hc => ?_) (fun hc => ?_)
    · replace h := (if_pos hc).symm.trans h
      refine lv_iload_n C0.1.1 C0.1.2.1 dX4_reads_71 rfl (lv_at hl 0 rfl) ?_
      refine lv_iconst (v := 5) C0.1.1 C0.1.2.1 dX4_reads_72 (by decide) ?_
      refine lv_icmp_ne (tgt := 117) C0.1.1 C0.1.2.1 dX4_reads_73 (by decide) (fun hc => ?_) (fun hc => ?_)
      · replace h := (if_neg hc).symm.trans h
        refine lv_iload_n C0.1.1 C0.1.2.1 dX4_reads_117 rfl (lv_at hl 0 rfl) ?_
        refine lv_iconst (v := 4) C0.1.1 C0.1.2.1 dX4_reads_118 (by decide) ?_
        refine lv_icmp_eq (tgt := 133) C0.1.1 C0.1.2.1 dX4_reads_119 (by decide) (fun hc => ?_) (fun hc => ?_)
        · replace h := (if_pos hc).symm.trans h
          exact wX4_reads_133 (N := N) C0 hret he wt br wa sk p1 (p0 - (2000000 : Int32)) _ _ _ h Z (lv_sub hl [1, 3, 0] rfl)
        · replace h := (if_neg hc).symm.trans h
          refine lv_iload_n C0.1.1 C0.1.2.1 dX4_reads_122 rfl (lv_at hl 3 rfl) ?_
          refine lv_if_ne (tgt := 133) C0.1.1 C0.1.2.1 dX4_reads_123 (by decide) (fun hc => ?_) (fun hc => ?_)
          · replace h := (if_neg hc).symm.trans h
            exact wX4_reads_133 (N := N) C0 hret he wt br wa sk p1 (p0 - (2000000 : Int32)) _ _ _ h Z (lv_sub hl [1, 3, 0] rfl)
          · replace h := (if_pos hc).symm.trans h
            refine lv_aload_n C0.1.1 C0.1.2.1 dX4_reads_126 rfl (lv_at hl 1 rfl) ?_
            refine lv_iload_n C0.1.1 C0.1.2.1 dX4_reads_127 rfl (lv_at hl 0 rfl) ?_
            refine lv_iconst (v := 2) C0.1.1 C0.1.2.1 dX4_reads_128 (by decide) ?_
            refine lv_idiv C0.1.1 C0.1.2.1 dX4_reads_129 (by decide) ?_
            obtain ⟨x6, hx7, h⟩ := g_bd h
            refine g_callVv (b := a 0) (As := [.int ((p0 - (2000000 : Int32)) / (2 : Int32))]) (rest := []) (ws' := (fun (u : Int32 × Int32 × Int32 × (Nat → Int64)) => (XM a cyI cyJ th df la fo u.1 u.2.1 u.2.2.1 dr fm sz om os st wa va u.2.2.2 ++ Y))) C0.1 Z (zX4_joinsAll l D cyI cyJ cyO A bs Z.2.2.2.2.2 a Y th df la fo he wt br dr fm sz om os st wa va sk N ((p0 - (2000000 : Int32)) / (2 : Int32)) x6 hx7) (cwV 1 C0.1.2.2.2.2 gX4_reads_X4_joinsAll rfl rfl rfl (by decide +kernel) ⟨Nat.le_of_ble_eq_true rfl, Nat.le_of_ble_eq_true rfl⟩) 0 (ci := 6) rfl rfl rfl rfl hl.1 rfl (Nat.le_of_ble_eq_true rfl) dX4_reads_130 ⟨Nat.zero_le _, Nat.zero_le _⟩ (fun u H locs hw Z => ?_)
            subst hw
            exact wX4_reads_133 (N := N) C0 hret x6.1 x6.2.1 x6.2.2.1 wa x6.2.2.2 p1 (p0 - (2000000 : Int32)) _ _ _ h Z (lv_sub hl [1, 3, 0] rfl)
      · replace h := (if_pos hc).symm.trans h
        refine lv_aload_n C0.1.1 C0.1.2.1 dX4_reads_76 rfl (lv_at hl 1 rfl) ?_
        refine lv_iconst (v := 0) C0.1.1 C0.1.2.1 dX4_reads_77 (by decide) ?_
        obtain ⟨x8, hx9, h⟩ := g_bd h
        refine g_callVv (b := a 0) (As := [.int (0 : Int32)]) (rest := []) (ws' := (fun (u : Int32 × Int32 × Int32 × (Nat → Int64)) => (XM a cyI cyJ th df la fo u.1 u.2.1 u.2.2.1 dr fm sz om os st wa va u.2.2.2 ++ Y))) C0.1 Z (zX4_joinsAll l D cyI cyJ cyO A bs Z.2.2.2.2.2 a Y th df la fo he wt br dr fm sz om os st wa va sk N (0 : Int32) x8 hx9) (cwV 1 C0.1.2.2.2.2 gX4_reads_X4_joinsAll rfl rfl rfl (by decide +kernel) ⟨Nat.le_of_ble_eq_true rfl, Nat.le_of_ble_eq_true rfl⟩) 0 (ci := 6) rfl rfl rfl rfl hl.1 rfl (Nat.le_of_ble_eq_true rfl) dX4_reads_78 ⟨Nat.zero_le _, Nat.zero_le _⟩ (fun u H locs hw Z => ?_)
        subst hw
        refine lv_aload_n C0.1.1 C0.1.2.1 dX4_reads_81 rfl (lv_at hl 1 rfl) ?_
        refine lv_dup C0.1.1 C0.1.2.1 dX4_reads_82 rfl ?_
        refine g_get (ci := 6) (v := .int x8.2.1) (T := TX4) (N := 16) C0.1 Z 0 rfl rfl 14 (by decide) kX4_reads_in kX4_reads_f85 rfl rfl dX4_reads_83 ?_
        refine lv_iconst (v := 1) C0.1.1 C0.1.2.1 dX4_reads_86 (by decide) ?_
        refine lv_isub C0.1.1 C0.1.2.1 dX4_reads_87 ?_
        refine g_put (ci := 6) (v := .int (x8.2.1 - (1 : Int32))) (T := TX4) (N := 16) (ws' := (XM a cyI cyJ th df la fo x8.1 (x8.2.1 - (1 : Int32)) x8.2.2.1 dr fm sz om os st wa va x8.2.2.2 ++ Y)) C0.1 Z 0 rfl rfl 14 (by decide) kX4_reads_in kX4_reads_f85 rfl tyX4 tyX4_ok nmX4 rfl rfl rfl (Nat.le_of_ble_eq_true rfl) dX4_reads_88 rfl (fun H locs Z => ?_)
        refine lv_aload_n C0.1.1 C0.1.2.1 dX4_reads_91 rfl (lv_at hl 1 rfl) ?_
        refine lv_dup C0.1.1 C0.1.2.1 dX4_reads_92 rfl ?_
        refine g_get (ci := 6) (v := .int x8.1) (T := TX4) (N := 16) C0.1 Z 0 rfl rfl 12 (by decide) kX4_reads_in kX4_reads_f82 rfl rfl dX4_reads_93 ?_
        refine lv_iconst (v := 1) C0.1.1 C0.1.2.1 dX4_reads_96 (by decide) ?_
        refine lv_isub C0.1.1 C0.1.2.1 dX4_reads_97 ?_
        refine g_put (ci := 6) (v := .int (x8.1 - (1 : Int32))) (T := TX4) (N := 16) (ws' := (XM a cyI cyJ th df la fo (x8.1 - (1 : Int32)) (x8.2.1 - (1 : Int32)) x8.2.2.1 dr fm sz om os st wa va x8.2.2.2 ++ Y)) C0.1 Z 0 rfl rfl 12 (by decide) kX4_reads_in kX4_reads_f82 rfl tyX4 tyX4_ok nmX4 rfl rfl rfl (Nat.le_of_ble_eq_true rfl) dX4_reads_98 rfl (fun H locs Z => ?_)
        refine lv_aload_n C0.1.1 C0.1.2.1 dX4_reads_101 rfl (lv_at hl 1 rfl) ?_
        refine lv_aload_n C0.1.1 C0.1.2.1 dX4_reads_102 rfl (lv_at hl 1 rfl) ?_
        refine g_get (ci := 6) (v := .ref (a 8)) (T := TX4) (N := 16) C0.1 Z 0 rfl rfl 11 (by decide) kX4_reads_in kX4_reads_f32 rfl rfl dX4_reads_103 ?_
        refine lv_aload_n C0.1.1 C0.1.2.1 dX4_reads_106 rfl (lv_at hl 1 rfl) ?_
        refine g_get (ci := 6) (v := .int (x8.1 - (1 : Int32))) (T := TX4) (N := 16) C0.1 Z 0 rfl rfl 12 (by decide) kX4_reads_in kX4_reads_f82 rfl rfl dX4_reads_107 ?_
        obtain ⟨hi10, h⟩ := g_ni h
        refine g_lald (f := x8.2.2.2) (n := 15) C0.1 Z 8 1 rfl rfl hi10 dX4_reads_110 ?_
        obtain ⟨x11, hx12, h⟩ := g_bd h
        refine g_callVv (b := a 0) (As := [.long (x8.2.2.2 (x8.1 - (1 : Int32)).toNatClampNeg)]) (rest := []) (ws' := (fun (u : Int32 × Int32 × (Nat → Int64)) => (XM a cyI cyJ th df la fo u.1 u.2.1 x8.2.2.1 dr fm sz om os st wa va u.2.2 ++ Y))) C0.1 Z (zX4_pushes l D cyI cyJ cyO A bs Z.2.2.2.2.2 a Y th df la fo (x8.1 - (1 : Int32)) (x8.2.1 - (1 : Int32)) x8.2.2.1 dr fm sz om os st wa va x8.2.2.2 N (x8.2.2.2 (x8.1 - (1 : Int32)).toNatClampNeg) x11 hx12) (cwV 1 C0.1.2.2.2.2 gX4_reads_X4_pushes rfl rfl rfl (by decide +kernel) ⟨Nat.le_of_ble_eq_true rfl, Nat.le_of_ble_eq_true rfl⟩) 0 (ci := 6) rfl rfl rfl rfl hl.1 rfl (Nat.le_of_ble_eq_true rfl) dX4_reads_111 ⟨Nat.zero_le _, Nat.zero_le _⟩ (fun u H locs hw Z => ?_)
        subst hw
        refine lv_goto (tgt := 167) C0.1.1 C0.1.2.1 dX4_reads_114 (by decide) ?_
        exact wX4_reads_167 (N := N) C0 hret x11.1 x11.2.1 x8.2.2.1 wa x11.2.2 _ _ _ h Z (lv_sub hl [] rfl)
    · replace h := (if_neg hc).symm.trans h
      refine lv_aload_n C0.1.1 C0.1.2.1 dX4_reads_26 rfl (lv_at hl 1 rfl) ?_
      refine lv_aload_n C0.1.1 C0.1.2.1 dX4_reads_27 rfl (lv_at hl 1 rfl) ?_
      refine g_get (ci := 6) (v := .int br) (T := TX4) (N := 16) C0.1 Z 0 rfl rfl 15 (by decide) kX4_reads_in kX4_reads_f98 rfl rfl dX4_reads_28 ?_
      refine lv_if_ne (tgt := 47) C0.1.1 C0.1.2.1 dX4_reads_31 (by decide) (fun hc => ?_) (fun hc => ?_)
      · replace h := (if_neg hc).symm.trans h
        exact wX4_reads_47 (N := N) C0 hret he wt br wa sk p0 _ _ _ h Z (lv_sub hl [1, 2] rfl)
      · replace h := (if_pos hc).symm.trans h
        refine lv_aload_n C0.1.1 C0.1.2.1 dX4_reads_34 rfl (lv_at hl 1 rfl) ?_
        refine g_get (ci := 6) (v := .ref (a 7)) (T := TX4) (N := 16) C0.1 Z 0 rfl rfl 10 (by decide) kX4_reads_in kX4_reads_f29 rfl rfl dX4_reads_35 ?_
        refine lv_iload_n C0.1.1 C0.1.2.1 dX4_reads_38 rfl (lv_at hl 2 rfl) ?_
        refine lv_ldc C0.1.1 C0.1.2.1 C0.1.2.2.2.1 (C0.1.2.2.2.2 _ kX4_reads_c65) dX4_reads_39 ?_
        refine lv_isub C0.1.1 C0.1.2.1 dX4_reads_41 ?_
        obtain ⟨hi13, h⟩ := g_ni h
        refine g_iald (f := st) (n := 30) C0.1 Z 7 0 rfl rfl hi13 dX4_reads_42 ?_
        refine lv_iconst (v := 2) C0.1.1 C0.1.2.1 dX4_reads_43 (by decide) ?_
        refine lv_icmp_ne (tgt := 51) C0.1.1 C0.1.2.1 dX4_reads_44 (by decide) (fun hc => ?_) (fun hc => ?_)
        · replace h := (if_neg hc).symm.trans h
          refine lv_iconst (v := 0) C0.1.1 C0.1.2.1 dX4_reads_51 (by decide) ?_
          exact wX4_reads_52 (N := N) C0 hret he wt br wa sk p0 (0 : Int32) _ _ _ h Z (lv_sub hl [1, 2] rfl)
        · replace h := (if_pos hc).symm.trans h
          exact wX4_reads_47 (N := N) C0 hret he wt br wa sk p0 _ _ _ h Z (lv_sub hl [1, 2] rfl)
  · replace h := (if_neg hc).symm.trans h
    refine lv_aload_n C0.1.1 C0.1.2.1 dX4_reads_11 rfl (lv_at hl 1 rfl) ?_
    refine lv_iload_n C0.1.1 C0.1.2.1 dX4_reads_12 rfl (lv_at hl 2 rfl) ?_
    refine lv_i2l C0.1.1 C0.1.2.1 dX4_reads_13 rfl ?_
    obtain ⟨x14, hx15, h⟩ := g_bd h
    refine g_callVv (b := a 0) (As := [.long (p0.toInt64)]) (rest := []) (ws' := (fun (u : Int32 × Int32 × (Nat → Int64)) => (XM a cyI cyJ th df la fo u.1 u.2.1 br dr fm sz om os st wa va u.2.2 ++ Y))) C0.1 Z (zX4_pushes l D cyI cyJ cyO A bs Z.2.2.2.2.2 a Y th df la fo he wt br dr fm sz om os st wa va sk N (p0.toInt64) x14 hx15) (cwV 1 C0.1.2.2.2.2 gX4_reads_X4_pushes rfl rfl rfl (by decide +kernel) ⟨Nat.le_of_ble_eq_true rfl, Nat.le_of_ble_eq_true rfl⟩) 0 (ci := 6) rfl rfl rfl rfl hl.1 rfl (Nat.le_of_ble_eq_true rfl) dX4_reads_14 ⟨Nat.zero_le _, Nat.zero_le _⟩ (fun u H locs hw Z => ?_)
    subst hw
    refine lv_goto (tgt := 167) C0.1.1 C0.1.2.1 dX4_reads_17 (by decide) ?_
    exact wX4_reads_167 (N := N) C0 hret x14.1 x14.2.1 br wa x14.2.2 _ _ _ h Z (lv_sub hl [] rfl)
