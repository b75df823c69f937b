/-! X4_works -/
abbrev rmX4_works : Room := { frames := 4, cells := 0, slots := 0, locals := 98 }
theorem kX4_works_f29 : Cond.fieldLink RX4 29 "GoalseekOfficeModel" "states" "[I" ∈ wsX4_works := by decide +kernel
theorem kX4_works_in : ∀ w ∈ wsX40, w ∈ wsX4_works := by decide +kernel
theorem kX4_works_f98 : Cond.fieldLink RX4 98 "GoalseekOfficeModel" "isBroken" "Z" ∈ wsX4_works := by decide +kernel
theorem kX4_works_f16 : Cond.fieldLink RX4 16 "GoalseekOfficeModel" "sizes" "[I" ∈ wsX4_works := by decide +kernel
theorem kX4_works_f25 : Cond.fieldLink RX4 25 "GoalseekOfficeModel" "values" "[J" ∈ wsX4_works := by decide +kernel
theorem kX4_works_f32 : Cond.fieldLink RX4 32 "GoalseekOfficeModel" "stack" "[J" ∈ wsX4_works := by decide +kernel
theorem kX4_works_f13 : Cond.fieldLink RX4 13 "GoalseekOfficeModel" "formulas" "[I" ∈ wsX4_works := by decide +kernel
theorem kX4_works_c66 : Cond.constant RX4 66 (2000000) ∈ wsX4_works := by decide +kernel
theorem kX4_works_f82 : Cond.fieldLink RX4 82 "GoalseekOfficeModel" "height" "I" ∈ wsX4_works := by decide +kernel
theorem kX4_works_f85 : Cond.fieldLink RX4 85 "GoalseekOfficeModel" "waits" "I" ∈ wsX4_works := by decide +kernel
def mX4_works_131 (N : Nat) (fm : Nat → Int32) (sz : Nat → Int32) (he : Int32) (wt : Int32) (br : Int32) (st : Nat → Int32) (wa : Nat → Int32) (va : Nat → Int64) (sk : Nat → Int64) (s1 : Int32) (s2 : Int32) : Option (Int32 × Int32 × Int32 × (Nat → Int32) × (Nat → Int32) × (Nat → Int64) × (Nat → Int64)) := (if s1 < 0 ∨ 30 ≤ s1.toNatClampNeg then none else some (he, wt, br, (upd st s1.toNatClampNeg s2), wa, va, sk))
def mX4_works_113 (N : Nat) (fm : Nat → Int32) (sz : Nat → Int32) (he : Int32) (wt : Int32) (br : Int32) (st : Nat → Int32) (wa : Nat → Int32) (va : Nat → Int64) (sk : Nat → Int64) (v1 : Int32) (s1 : Int32) (s2 : Int64) : Option (Int32 × Int32 × Int32 × (Nat → Int32) × (Nat → Int32) × (Nat → Int64) × (Nat → Int64)) := (if s1 < 0 ∨ 30 ≤ s1.toNatClampNeg then none else (if br = 0 then mX4_works_131 N fm sz he wt br st wa (vp_updL va s1.toNatClampNeg s2) sk v1 (1 : Int32) else mX4_works_131 N fm sz he wt br st wa (vp_updL va s1.toNatClampNeg s2) sk v1 (2 : Int32)))
def mX4_works_103 (N : Nat) (fm : Nat → Int32) (sz : Nat → Int32) (he : Int32) (wt : Int32) (br : Int32) (st : Nat → Int32) (wa : Nat → Int32) (va : Nat → Int64) (sk : Nat → Int64) (v1 : Int32) (s1 : Int32) : Option (Int32 × Int32 × Int32 × (Nat → Int32) × (Nat → Int32) × (Nat → Int64) × (Nat → Int64)) := mX4_works_113 N fm sz he wt br st wa va sk v1 s1 (0 : Int64)
def mX4_works_70 (N : Nat) (fm : Nat → Int32) (sz : Nat → Int32) (r19 : Int32 → Int32 → Int32 → (Nat → Int32) → (Nat → Int32) → (Nat → Int64) → (Nat → Int64) → Int32 → Int32 → Int32 → Option (Int32 × Int32 × Int32 × (Nat → Int32) × (Nat → Int32) × (Nat → Int64) × (Nat → Int64))) (he : Int32) (wt : Int32) (br : Int32) (st : Nat → Int32) (wa : Nat → Int32) (va : Nat → Int64) (sk : Nat → Int64) (v1 : Int32) (v3 : Int32) (s0 : Int32) : Option (Int32 × Int32 × Int32 × (Nat → Int32) × (Nat → Int32) × (Nat → Int64) × (Nat → Int64)) := r19 he wt br st wa va sk v1 s0 (v3 + (1 : Int32))
def mX4_works_69 (N : Nat) (fm : Nat → Int32) (sz : Nat → Int32) (r19 : Int32 → Int32 → Int32 → (Nat → Int32) → (Nat → Int32) → (Nat → Int64) → (Nat → Int64) → Int32 → Int32 → Int32 → Option (Int32 × Int32 × Int32 × (Nat → Int32) × (Nat → Int32) × (Nat → Int64) × (Nat → Int64))) (he : Int32) (wt : Int32) (br : Int32) (st : Nat → Int32) (wa : Nat → Int32) (va : Nat → Int64) (sk : Nat → Int64) (v1 : Int32) (v3 : Int32) : Option (Int32 × Int32 × Int32 × (Nat → Int32) × (Nat → Int32) × (Nat → Int64) × (Nat → Int64)) := mX4_works_70 N fm sz r19 he wt br st wa va sk v1 v3 (0 : Int32)
def mX4_works_19_b (N : Nat) (fm : Nat → Int32) (sz : Nat → Int32) (r19 : Int32 → Int32 → Int32 → (Nat → Int32) → (Nat → Int32) → (Nat → Int64) → (Nat → Int64) → Int32 → Int32 → Int32 → Option (Int32 × Int32 × Int32 × (Nat → Int32) × (Nat → Int32) × (Nat → Int64) × (Nat → Int64))) (he : Int32) (wt : Int32) (br : Int32) (st : Nat → Int32) (wa : Nat → Int32) (va : Nat → Int64) (sk : Nat → Int64) (v1 : Int32) (v2 : Int32) (v3 : Int32) : Option (Int32 × Int32 × Int32 × (Nat → Int32) × (Nat → Int32) × (Nat → Int64) × (Nat → Int64)) := (if v1 < 0 ∨ 30 ≤ v1.toNatClampNeg then none else (if (sz v1.toNatClampNeg) ≤ v3 then ((mX4_joinsAll N wa he wt br sk (0 : Int32)).bind fun x4 => (if v1 < 0 ∨ 30 ≤ v1.toNatClampNeg then none else (if (sz v1.toNatClampNeg) = 0 then mX4_works_103 N fm sz x4.1 x4.2.1 x4.2.2.1 st wa va x4.2.2.2 v1 v1 else (if x4.2.2.1 = 0 then (if (0 : Int32) < 0 ∨ 15 ≤ (0 : Int32).toNatClampNeg then none else mX4_works_113 N fm sz x4.1 x4.2.1 x4.2.2.1 st wa va x4.2.2.2 v1 v1 (x4.2.2.2 (0 : Int32).toNatClampNeg)) else mX4_works_103 N fm sz x4.1 x4.2.1 x4.2.2.1 st wa va x4.2.2.2 v1 v1)))) else (if (((15 : Int32) * v1) + v3) < 0 ∨ 450 ≤ (((15 : Int32) * v1) + v3).toNatClampNeg then none else ((mX4_reads N st va he wt br wa sk (fm (((15 : Int32) * v1) + v3).toNatClampNeg) v2).bind fun x9 => (if (fm (((15 : Int32) * v1) + v3).toNatClampNeg) < (2000000 : Int32) then mX4_works_69 N fm sz r19 x9.1 x9.2.1 x9.2.2.1 st x9.2.2.2.1 va x9.2.2.2.2 v1 v3 else (if ((fm (((15 : Int32) * v1) + v3).toNatClampNeg) - (2000000 : Int32)) = (5 : Int32) then mX4_works_69 N fm sz r19 x9.1 x9.2.1 x9.2.2.1 st x9.2.2.2.1 va x9.2.2.2.2 v1 v3 else mX4_works_70 N fm sz r19 x9.1 x9.2.1 x9.2.2.1 st x9.2.2.2.1 va x9.2.2.2.2 v1 v3 (1 : Int32)))))))
def mX4_works_19 (N : Nat) (fm : Nat → Int32) (sz : Nat → Int32) : Nat → Int32 → Int32 → Int32 → (Nat → Int32) → (Nat → Int32) → (Nat → Int64) → (Nat → Int64) → Int32 → Int32 → Int32 → Option (Int32 × Int32 × Int32 × (Nat → Int32) × (Nat → Int32) × (Nat → Int64) × (Nat → Int64))
  | 0 => fun _ _ _ _ _ _ _ _ _ _ => none
  | n + 1 => fun he wt br st wa va sk v1 v2 v3 => mX4_works_19_b N fm sz (mX4_works_19 N fm sz n) he wt br st wa va sk v1 v2 v3
def mX4_works (N : Nat) (fm : Nat → Int32) (sz : Nat → Int32) (he : Int32) (wt : Int32) (br : Int32) (st : Nat → Int32) (wa : Nat → Int32) (va : Nat → Int64) (sk : Nat → Int64) (p0 : Int32) : Option (Int32 × Int32 × Int32 × (Nat → Int32) × (Nat → Int32) × (Nat → Int64) × (Nat → Int64)) := mX4_works_19 N fm sz N (0 : Int32) (0 : Int32) (0 : Int32) st wa va sk p0 (1 : Int32) (0 : Int32)
set_option maxRecDepth 20000 in
set_option maxHeartbeats 4000000 in
theorem wX4_works_131 {p : Program} {l : Launch} {e : Env} {s : State} {m : MethodId} {args : Array Value} {below : List Frame} {meth : Method} {c : Code} {Q : State → Prop} {D : va_G} {cyI cyJ cyO : ClassId} {A : Nat → Prop} {bs : Nat} {a : Nat → Nat} {Y : va_W} {th : Int32} {df : Int32} {la : Int32} {fo : Int32} {dr : Nat → Int32} {fm : Nat → Int32} {sz : Nat → Int32} {om : Nat → Int32} {os : Nat → Int32} {N : Nat} {res : Int32 × Int32 × Int32 × (Nat → Int32) × (Nat → Int32) × (Nat → Int64) × (Nat → Int64)} (C0 : gC p m meth c cX4_works 5 none s args wsX4_works RX4) (hret : ∀ (he_r : Int32) (wt_r : Int32) (br_r : Int32) (st_r : Nat → Int32) (wa_r : Nat → Int32) (va_r : Nat → Int64) (sk_r : Nat → Int64) (H : Heap) (locs : List Loc) (pc : Nat) (ls : Array Slot), some (he_r, wt_r, br_r, st_r, wa_r, va_r, sk_r) = some res → gZ D (gT cyI cyJ cyO) (XM a cyI cyJ th df la fo he_r wt_r br_r dr fm sz om os st_r wa_r va_r sk_r ++ Y) A bs s H locs → decode cX4_works pc = .ok (.return_, 1) → W p l e rmX4_works s m args below meth c H locs 0 0 Q (F0 m pc ls []))  : ∀ (he : Int32) (wt : Int32) (br : Int32) (st : Nat → Int32) (wa : Nat → Int32) (va : Nat → Int64) (sk : Nat → Int64) (s1 : Int32) (s2 : Int32) (H : Heap) (locs : List Loc) (ls : Array Slot), mX4_works_131 N fm sz he wt br st wa va sk s1 s2 = some res → gZ D (gT cyI cyJ cyO) (XM a cyI cyJ th df la fo he wt br dr fm sz om os st wa va sk ++ Y) A bs s H locs → lv_has ls 5 [] → W p l e rmX4_works s m args below meth c H locs 0 0 Q (F0 m 131 ls [.int s2, .int s1, .ref (a 7)]) := by
  intro he wt br st wa va sk s1 s2 H locs ls h Z hl
  unfold mX4_works_131 at h
  obtain ⟨hi1, h⟩ := g_ni h
  refine g_iast (f := st) (n := 30) (ws' := (XM a cyI cyJ th df la fo he wt br dr fm sz om os (upd st s1.toNatClampNeg s2) wa va sk ++ Y)) C0.1 Z 7 0 rfl rfl hi1 dX4_works_131 rfl (fun H locs Z => ?_)
  exact hret he wt br (upd st s1.toNatClampNeg s2) wa va sk _ _ _ _ h Z dX4_works_132
set_option maxRecDepth 20000 in
set_option maxHeartbeats 4000000 in
theorem wX4_works_113 {p : Program} {l : Launch} {e : Env} {s : State} {m : MethodId} {args : Array Value} {below : List Frame} {meth : Method} {c : Code} {Q : State → Prop} {D : va_G} {cyI cyJ cyO : ClassId} {A : Nat → Prop} {bs : Nat} {a : Nat → Nat} {Y : va_W} {th : Int32} {df : Int32} {la : Int32} {fo : Int32} {dr : Nat → Int32} {fm : Nat → Int32} {sz : Nat → Int32} {om : Nat → Int32} {os : Nat → Int32} {N : Nat} {res : Int32 × Int32 × Int32 × (Nat → Int32) × (Nat → Int32) × (Nat → Int64) × (Nat → Int64)} (C0 : gC p m meth c cX4_works 5 none s args wsX4_works RX4) (hret : ∀ (he_r : Int32) (wt_r : Int32) (br_r : Int32) (st_r : Nat → Int32) (wa_r : Nat → Int32) (va_r : Nat → Int64) (sk_r : Nat → Int64) (H : Heap) (locs : List Loc) (pc : Nat) (ls : Array Slot), some (he_r, wt_r, br_r, st_r, wa_r, va_r, sk_r) = some res → gZ D (gT cyI cyJ cyO) (XM a cyI cyJ th df la fo he_r wt_r br_r dr fm sz om os st_r wa_r va_r sk_r ++ Y) A bs s H locs → decode cX4_works pc = .ok (.return_, 1) → W p l e rmX4_works s m args below meth c H locs 0 0 Q (F0 m pc ls []))  : ∀ (he : Int32) (wt : Int32) (br : Int32) (st : Nat → Int32) (wa : Nat → Int32) (va : Nat → Int64) (sk : Nat → Int64) (v1 : Int32) (s1 : Int32) (s2 : Int64) (H : Heap) (locs : List Loc) (ls : Array Slot), mX4_works_113 N fm sz he wt br st wa va sk v1 s1 s2 = some res → gZ D (gT cyI cyJ cyO) (XM a cyI cyJ th df la fo he wt br dr fm sz om os st wa va sk ++ Y) A bs s H locs → lv_has ls 5 [(0, .ref (a 0)), (1, .int v1)] → W p l e rmX4_works s m args below meth c H locs 0 0 Q (F0 m 113 ls [.long s2, .int s1, .ref (a 6)]) := by
  intro he wt br st wa va sk v1 s1 s2 H locs ls h Z hl
  unfold mX4_works_113 at h
  obtain ⟨hi2, h⟩ := g_ni h
  refine g_last (f := va) (n := 30) (ws' := (XM a cyI cyJ th df la fo he wt br dr fm sz om os st wa (vp_updL va s1.toNatClampNeg s2) sk ++ Y)) C0.1 Z 6 1 rfl rfl hi2 dX4_works_113 rfl (fun H locs Z => ?_)
  refine lv_aload_n C0.1.1 C0.1.2.1 dX4_works_114 rfl (lv_at hl 0 rfl) ?_
  refine g_get (ci := 6) (v := .ref (a 7)) (T := TX4) (N := 16) C0.1 Z 0 rfl rfl 10 (by decide) kX4_works_in kX4_works_f29 rfl rfl dX4_works_115 ?_
  refine lv_iload_n C0.1.1 C0.1.2.1 dX4_works_118 rfl (lv_at hl 1 rfl) ?_
  refine lv_aload_n C0.1.1 C0.1.2.1 dX4_works_119 rfl (lv_at hl 0 rfl) ?_
  refine g_get (ci := 6) (v := .int br) (T := TX4) (N := 16) C0.1 Z 0 rfl rfl 15 (by decide) kX4_works_in kX4_works_f98 rfl rfl dX4_works_120 ?_
  refine lv_if_eq (tgt := 130) C0.1.1 C0.1.2.1 dX4_works_123 (by decide) (fun hc => ?_) (fun hc => ?_)
  · replace h := (if_pos hc).symm.trans h
    refine lv_iconst (v := 1) C0.1.1 C0.1.2.1 dX4_works_130 (by decide) ?_
    exact wX4_works_131 (N := N) C0 hret he wt br st wa (vp_updL va s1.toNatClampNeg s2) sk v1 (1 : Int32) _ _ _ h Z (lv_sub hl [] rfl)
  · replace h := (if_neg hc).symm.trans h
    refine lv_iconst (v := 2) C0.1.1 C0.1.2.1 dX4_works_126 (by decide) ?_
    refine lv_goto (tgt := 131) C0.1.1 C0.1.2.1 dX4_works_127 (by decide) ?_
    exact wX4_works_131 (N := N) C0 hret he wt br st wa (vp_updL va s1.toNatClampNeg s2) sk v1 (2 : Int32) _ _ _ h Z (lv_sub hl [] rfl)
set_option maxRecDepth 20000 in
set_option maxHeartbeats 4000000 in
theorem wX4_works_103 {p : Program} {l : Launch} {e : Env} {s : State} {m : MethodId} {args : Array Value} {below : List Frame} {meth : Method} {c : Code} {Q : State → Prop} {D : va_G} {cyI cyJ cyO : ClassId} {A : Nat → Prop} {bs : Nat} {a : Nat → Nat} {Y : va_W} {th : Int32} {df : Int32} {la : Int32} {fo : Int32} {dr : Nat → Int32} {fm : Nat → Int32} {sz : Nat → Int32} {om : Nat → Int32} {os : Nat → Int32} {N : Nat} {res : Int32 × Int32 × Int32 × (Nat → Int32) × (Nat → Int32) × (Nat → Int64) × (Nat → Int64)} (C0 : gC p m meth c cX4_works 5 none s args wsX4_works RX4) (hret : ∀ (he_r : Int32) (wt_r : Int32) (br_r : Int32) (st_r : Nat → Int32) (wa_r : Nat → Int32) (va_r : Nat → Int64) (sk_r : Nat → Int64) (H : Heap) (locs : List Loc) (pc : Nat) (ls : Array Slot), some (he_r, wt_r, br_r, st_r, wa_r, va_r, sk_r) = some res → gZ D (gT cyI cyJ cyO) (XM a cyI cyJ th df la fo he_r wt_r br_r dr fm sz om os st_r wa_r va_r sk_r ++ Y) A bs s H locs → decode cX4_works pc = .ok (.return_, 1) → W p l e rmX4_works s m args below meth c H locs 0 0 Q (F0 m pc ls []))  : ∀ (he : Int32) (wt : Int32) (br : Int32) (st : Nat → Int32) (wa : Nat → Int32) (va : Nat → Int64) (sk : Nat → Int64) (v1 : Int32) (s1 : Int32) (H : Heap) (locs : List Loc) (ls : Array Slot), mX4_works_103 N fm sz he wt br st wa va sk v1 s1 = some res → gZ D (gT cyI cyJ cyO) (XM a cyI cyJ th df la fo he wt br dr fm sz om os st wa va sk ++ Y) A bs s H locs → lv_has ls 5 [(0, .ref (a 0)), (1, .int v1)] → W p l e rmX4_works s m args below meth c H locs 0 0 Q (F0 m 103 ls [.int s1, .ref (a 6)]) := by
  intro he wt br st wa va sk v1 s1 H locs ls h Z hl
  unfold mX4_works_103 at h
  refine lv_lconst (v := 0) C0.1.1 C0.1.2.1 dX4_works_103 (by decide) ?_
  refine lv_goto (tgt := 113) C0.1.1 C0.1.2.1 dX4_works_104 (by decide) ?_
  exact wX4_works_113 (N := N) C0 hret he wt br st wa va sk v1 s1 (0 : Int64) _ _ _ h Z (lv_sub hl [0, 1] rfl)
set_option maxRecDepth 20000 in
set_option maxHeartbeats 4000000 in
theorem wX4_works_70 {p : Program} {l : Launch} {e : Env} {s : State} {m : MethodId} {args : Array Value} {below : List Frame} {meth : Method} {c : Code} {Q : State → Prop} {D : va_G} {cyI cyJ cyO : ClassId} {A : Nat → Prop} {bs : Nat} {a : Nat → Nat} {Y : va_W} {th : Int32} {df : Int32} {la : Int32} {fo : Int32} {dr : Nat → Int32} {fm : Nat → Int32} {sz : Nat → Int32} {om : Nat → Int32} {os : Nat → Int32} {N : Nat} {res : Int32 × Int32 × Int32 × (Nat → Int32) × (Nat → Int32) × (Nat → Int64) × (Nat → Int64)} (C0 : gC p m meth c cX4_works 5 none s args wsX4_works RX4) (hret : ∀ (he_r : Int32) (wt_r : Int32) (br_r : Int32) (st_r : Nat → Int32) (wa_r : Nat → Int32) (va_r : Nat → Int64) (sk_r : Nat → Int64) (H : Heap) (locs : List Loc) (pc : Nat) (ls : Array Slot), some (he_r, wt_r, br_r, st_r, wa_r, va_r, sk_r) = some res → gZ D (gT cyI cyJ cyO) (XM a cyI cyJ th df la fo he_r wt_r br_r dr fm sz om os st_r wa_r va_r sk_r ++ Y) A bs s H locs → decode cX4_works pc = .ok (.return_, 1) → W p l e rmX4_works s m args below meth c H locs 0 0 Q (F0 m pc ls [])) {r19 : Int32 → Int32 → Int32 → (Nat → Int32) → (Nat → Int32) → (Nat → Int64) → (Nat → Int64) → Int32 → Int32 → Int32 → Option (Int32 × Int32 × Int32 × (Nat → Int32) × (Nat → Int32) × (Nat → Int64) × (Nat → Int64))} (hr19 : ∀ (he : Int32) (wt : Int32) (br : Int32) (st : Nat → Int32) (wa : Nat → Int32) (va : Nat → Int64) (sk : Nat → Int64) (v1 : Int32) (v2 : Int32) (v3 : Int32) (H : Heap) (locs : List Loc) (ls : Array Slot), r19 he wt br st wa va sk v1 v2 v3 = some res → gZ D (gT cyI cyJ cyO) (XM a cyI cyJ th df la fo he wt br dr fm sz om os st wa va sk ++ Y) A bs s H locs → lv_has ls 5 [(0, .ref (a 0)), (1, .int v1), (2, .int v2), (3, .int v3)] → W p l e rmX4_works s m args below meth c H locs 0 0 Q (F0 m 19 ls [])) : ∀ (he : Int32) (wt : Int32) (br : Int32) (st : Nat → Int32) (wa : Nat → Int32) (va : Nat → Int64) (sk : Nat → Int64) (v1 : Int32) (v3 : Int32) (s0 : Int32) (H : Heap) (locs : List Loc) (ls : Array Slot), mX4_works_70 N fm sz r19 he wt br st wa va sk v1 v3 s0 = some res → gZ D (gT cyI cyJ cyO) (XM a cyI cyJ th df la fo he wt br dr fm sz om os st wa va sk ++ Y) A bs s H locs → lv_has ls 5 [(0, .ref (a 0)), (1, .int v1), (3, .int v3)] → W p l e rmX4_works s m args below meth c H locs 0 0 Q (F0 m 70 ls [.int s0]) := by
  intro he wt br st wa va sk v1 v3 s0 H locs ls h Z hl
  unfold mX4_works_70 at h
  refine lv_istore_n (lv' := [(2, .int s0), (0, .ref (a 0)), (1, .int v1), (3, .int v3)]) C0.1.1 C0.1.2.1 dX4_works_70 rfl hl (by decide) rfl (fun ls hl => ?_)
  refine lv_iinc (v := v3 + (1 : Int32)) (lv' := [(3, .int (v3 + (1 : Int32))), (2, .int s0), (0, .ref (a 0)), (1, .int v1)]) C0.1.1 C0.1.2.1 dX4_works_71 hl (k := 3) rfl rfl (by decide) rfl (fun ls hl => ?_)
  refine lv_goto (tgt := 19) C0.1.1 C0.1.2.1 dX4_works_74 (by decide) ?_
  exact hr19 he wt br st wa va sk v1 s0 (v3 + (1 : Int32)) _ _ _ h Z (lv_sub hl [2, 3, 1, 0] rfl)
set_option maxRecDepth 20000 in
set_option maxHeartbeats 4000000 in
theorem wX4_works_69 {p : Program} {l : Launch} {e : Env} {s : State} {m : MethodId} {args : Array Value} {below : List Frame} {meth : Method} {c : Code} {Q : State → Prop} {D : va_G} {cyI cyJ cyO : ClassId} {A : Nat → Prop} {bs : Nat} {a : Nat → Nat} {Y : va_W} {th : Int32} {df : Int32} {la : Int32} {fo : Int32} {dr : Nat → Int32} {fm : Nat → Int32} {sz : Nat → Int32} {om : Nat → Int32} {os : Nat → Int32} {N : Nat} {res : Int32 × Int32 × Int32 × (Nat → Int32) × (Nat → Int32) × (Nat → Int64) × (Nat → Int64)} (C0 : gC p m meth c cX4_works 5 none s args wsX4_works RX4) (hret : ∀ (he_r : Int32) (wt_r : Int32) (br_r : Int32) (st_r : Nat → Int32) (wa_r : Nat → Int32) (va_r : Nat → Int64) (sk_r : Nat → Int64) (H : Heap) (locs : List Loc) (pc : Nat) (ls : Array Slot), some (he_r, wt_r, br_r, st_r, wa_r, va_r, sk_r) = some res → gZ D (gT cyI cyJ cyO) (XM a cyI cyJ th df la fo he_r wt_r br_r dr fm sz om os st_r wa_r va_r sk_r ++ Y) A bs s H locs → decode cX4_works pc = .ok (.return_, 1) → W p l e rmX4_works s m args below meth c H locs 0 0 Q (F0 m pc ls [])) {r19 : Int32 → Int32 → Int32 → (Nat → Int32) → (Nat → Int32) → (Nat → Int64) → (Nat → Int64) → Int32 → Int32 → Int32 → Option (Int32 × Int32 × Int32 × (Nat → Int32) × (Nat → Int32) × (Nat → Int64) × (Nat → Int64))} (hr19 : ∀ (he : Int32) (wt : Int32) (br : Int32) (st : Nat → Int32) (wa : Nat → Int32) (va : Nat → Int64) (sk : Nat → Int64) (v1 : Int32) (v2 : Int32) (v3 : Int32) (H : Heap) (locs : List Loc) (ls : Array Slot), r19 he wt br st wa va sk v1 v2 v3 = some res → gZ D (gT cyI cyJ cyO) (XM a cyI cyJ th df la fo he wt br dr fm sz om os st wa va sk ++ Y) A bs s H locs → lv_has ls 5 [(0, .ref (a 0)), (1, .int v1), (2, .int v2), (3, .int v3)] → W p l e rmX4_works s m args below meth c H locs 0 0 Q (F0 m 19 ls [])) : ∀ (he : Int32) (wt : Int32) (br : Int32) (st : Nat → Int32) (wa : Nat → Int32) (va : Nat → Int64) (sk : Nat → Int64) (v1 : Int32) (v3 : Int32) (H : Heap) (locs : List Loc) (ls : Array Slot), mX4_works_69 N fm sz r19 he wt br st wa va sk v1 v3 = some res → gZ D (gT cyI cyJ cyO) (XM a cyI cyJ th df la fo he wt br dr fm sz om os st wa va sk ++ Y) A bs s H locs → lv_has ls 5 [(0, .ref (a 0)), (1, .int v1), (3, .int v3)] → W p l e rmX4_works s m args below meth c H locs 0 0 Q (F0 m 69 ls []) := by
  intro he wt br st wa va sk v1 v3 H locs ls h Z hl
  unfold mX4_works_69 at h
  refine lv_iconst (v := 0) C0.1.1 C0.1.2.1 dX4_works_69 (by decide) ?_
  exact wX4_works_70 (N := N) C0 hret hr19 he wt br st wa va sk v1 v3 (0 : Int32) _ _ _ h Z (lv_sub hl [0, 1, 2] rfl)
set_option maxRecDepth 20000 in
set_option maxHeartbeats 4000000 in
theorem wX4_works_19_b {p : Program} {l : Launch} {e : Env} {s : State} {m : MethodId} {args : Array Value} {below : List Frame} {meth : Method} {c : Code} {Q : State → Prop} {D : va_G} {cyI cyJ cyO : ClassId} {A : Nat → Prop} {bs : Nat} {a : Nat → Nat} {Y : va_W} {th : Int32} {df : Int32} {la : Int32} {fo : Int32} {dr : Nat → Int32} {fm : Nat → Int32} {sz : Nat → Int32} {om : Nat → Int32} {os : Nat → Int32} {N : Nat} {res : Int32 × Int32 × Int32 × (Nat → Int32) × (Nat → Int32) × (Nat → Int64) × (Nat → Int64)} (C0 : gC p m meth c cX4_works 5 none s args wsX4_works RX4) (hret : ∀ (he_r : Int32) (wt_r : Int32) (br_r : Int32) (st_r : Nat → Int32) (wa_r : Nat → Int32) (va_r : Nat → Int64) (sk_r : Nat → Int64) (H : Heap) (locs : List Loc) (pc : Nat) (ls : Array Slot), some (he_r, wt_r, br_r, st_r, wa_r, va_r, sk_r) = some res → gZ D (gT cyI cyJ cyO) (XM a cyI cyJ th df la fo he_r wt_r br_r dr fm sz om os st_r wa_r va_r sk_r ++ Y) A bs s H locs → decode cX4_works pc = .ok (.return_, 1) → W p l e rmX4_works s m args below meth c H locs 0 0 Q (F0 m pc ls [])) {r19 : Int32 → Int32 → Int32 → (Nat → Int32) → (Nat → Int32) → (Nat → Int64) → (Nat → Int64) → Int32 → Int32 → Int32 → Option (Int32 × Int32 × Int32 × (Nat → Int32) × (Nat → Int32) × (Nat → Int64) × (Nat → Int64))} (hr19 : ∀ (he : Int32) (wt : Int32) (br : Int32) (st : Nat → Int32) (wa : Nat → Int32) (va : Nat → Int64) (sk : Nat → Int64) (v1 : Int32) (v2 : Int32) (v3 : Int32) (H : Heap) (locs : List Loc) (ls : Array Slot), r19 he wt br st wa va sk v1 v2 v3 = some res → gZ D (gT cyI cyJ cyO) (XM a cyI cyJ th df la fo he wt br dr fm sz om os st wa va sk ++ Y) A bs s H locs → lv_has ls 5 [(0, .ref (a 0)), (1, .int v1), (2, .int v2), (3, .int v3)] → W p l e rmX4_works s m args below meth c H locs 0 0 Q (F0 m 19 ls [])) : ∀ (he : Int32) (wt : Int32) (br : Int32) (st : Nat → Int32) (wa : Nat → Int32) (va : Nat → Int64) (sk : Nat → Int64) (v1 : Int32) (v2 : Int32) (v3 : Int32) (H : Heap) (locs : List Loc) (ls : Array Slot), mX4_works_19_b N fm sz r19 he wt br st wa va sk v1 v2 v3 = some res → gZ D (gT cyI cyJ cyO) (XM a cyI cyJ th df la fo he wt br dr fm sz om os st wa va sk ++ Y) A bs s H locs → lv_has ls 5 [(0, .ref (a 0)), (1, .int v1), (2, .int v2), (3, .int v3)] → W p l e rmX4_works s m args below meth c H locs 0 0 Q (F0 m 19 ls []) := by
  intro he wt br st wa va sk v1 v2 v3 H locs ls h Z hl
  unfold mX4_works_19_b at h
  refine lv_iload_n C0.1.1 C0.1.2.1 dX4_works_19 rfl (lv_at hl 3 rfl) ?_
  refine lv_aload_n C0.1.1 C0.1.2.1 dX4_works_20 rfl (lv_at hl 0 rfl) ?_
  refine g_get (ci := 6) (v := .ref (a 3)) (T := TX4) (N := 16) C0.1 Z 0 rfl rfl 4 (by decide) kX4_works_in kX4_works_f16 rfl rfl dX4_works_21 ?_
  refine lv_iload_n C0.1.1 C0.1.2.1 dX4_works_24 rfl (lv_at hl 1 rfl) ?_
  obtain ⟨hi3, h⟩ := g_ni h
  refine g_iald (f := sz) (n := 30) C0.1 Z 3 0 rfl rfl hi3 dX4_works_25 ?_
  refine lv_icmp_ge (tgt := 77) C0.1.1 C0.1.2.1 dX4_works_26 (by decide) (fun hc => ?_) (fun hc => ?_)
  · replace h := (if_pos hc).symm.trans h
    refine lv_aload_n C0.1.1 C0.1.2.1 dX4_works_77 rfl (lv_at hl 0 rfl) ?_
    refine lv_iconst (v := 0) C0.1.1 C0.1.2.1 dX4_works_78 (by decide) ?_
    obtain ⟨x4, hx5, h⟩ := g_bd h
    refine g_callVv (b := a 0) (As := [.int (0 : Int32)]) (rest := []) (ws' := (fun (u : Int32 × Int32 × Int32 × (Nat → Int64)) => (XM a cyI cyJ th df la fo u.1 u.2.1 u.2.2.1 dr fm sz om os st wa va u.2.2.2 ++ Y))) C0.1 Z (zX4_joinsAll l D cyI cyJ cyO A bs Z.2.2.2.2.2 a Y th df la fo he wt br dr fm sz om os st wa va sk N (0 : Int32) x4 hx5) (cwV 1 C0.1.2.2.2.2 gX4_works_X4_joinsAll rfl rfl rfl (by decide +kernel) ⟨Nat.le_of_ble_eq_true rfl, Nat.le_of_ble_eq_true rfl⟩) 0 (ci := 6) rfl rfl rfl rfl hl.1 rfl (Nat.le_of_ble_eq_true rfl) dX4_works_79 ⟨Nat.zero_le _, Nat.zero_le _⟩ (fun u H locs hw Z => ?_)
    subst hw
    refine lv_aload_n C0.1.1 C0.1.2.1 dX4_works_82 rfl (lv_at hl 0 rfl) ?_
    refine g_get (ci := 6) (v := .ref (a 6)) (T := TX4) (N := 16) C0.1 Z 0 rfl rfl 9 (by decide) kX4_works_in kX4_works_f25 rfl rfl dX4_works_83 ?_
    refine lv_iload_n C0.1.1 C0.1.2.1 dX4_works_86 rfl (lv_at hl 1 rfl) ?_
    refine lv_aload_n C0.1.1 C0.1.2.1 dX4_works_87 rfl (lv_at hl 0 rfl) ?_
    refine g_get (ci := 6) (v := .ref (a 3)) (T := TX4) (N := 16) C0.1 Z 0 rfl rfl 4 (by decide) kX4_works_in kX4_works_f16 rfl rfl dX4_works_88 ?_
    refine lv_iload_n C0.1.1 C0.1.2.1 dX4_works_91 rfl (lv_at hl 1 rfl) ?_
    obtain ⟨hi6, h⟩ := g_ni h
    refine g_iald (f := sz) (n := 30) C0.1 Z 3 0 rfl rfl hi6 dX4_works_92 ?_
    refine lv_if_eq (tgt := 103) C0.1.1 C0.1.2.1 dX4_works_93 (by decide) (fun hc => ?_) (fun hc => ?_)
    · replace h := (if_pos hc).symm.trans h
      exact wX4_works_103 (N := N) C0 hret x4.1 x4.2.1 x4.2.2.1 st wa va x4.2.2.2 v1 v1 _ _ _ h Z (lv_sub hl [0, 1] rfl)
    · replace h := (if_neg hc).symm.trans h
      refine lv_aload_n C0.1.1 C0.1.2.1 dX4_works_96 rfl (lv_at hl 0 rfl) ?_
      refine g_get (ci := 6) (v := .int x4.2.2.1) (T := TX4) (N := 16) C0.1 Z 0 rfl rfl 15 (by decide) kX4_works_in kX4_works_f98 rfl rfl dX4_works_97 ?_
      refine lv_if_eq (tgt := 107) C0.1.1 C0.1.2.1 dX4_works_100 (by decide) (fun hc => ?_) (fun hc => ?_)
      · replace h := (if_pos hc).symm.trans h
        refine lv_aload_n C0.1.1 C0.1.2.1 dX4_works_107 rfl (lv_at hl 0 rfl) ?_
        refine g_get (ci := 6) (v := .ref (a 8)) (T := TX4) (N := 16) C0.1 Z 0 rfl rfl 11 (by decide) kX4_works_in kX4_works_f32 rfl rfl dX4_works_108 ?_
        refine lv_iconst (v := 0) C0.1.1 C0.1.2.1 dX4_works_111 (by decide) ?_
        obtain ⟨hi7, h⟩ := g_ni h
        refine g_lald (f := x4.2.2.2) (n := 15) C0.1 Z 8 1 rfl rfl hi7 dX4_works_112 ?_
        exact wX4_works_113 (N := N) C0 hret x4.1 x4.2.1 x4.2.2.1 st wa va x4.2.2.2 v1 v1 (x4.2.2.2 (0 : Int32).toNatClampNeg) _ _ _ h Z (lv_sub hl [0, 1] rfl)
      · replace h := (if_neg hc).symm.trans h
        exact wX4_works_103 (N := N) C0 hret x4.1 x4.2.1 x4.2.2.1 st wa va x4.2.2.2 v1 v1 _ _ _ h Z (lv_sub hl [0, 1] rfl)
  · replace h := (if_neg hc).symm.trans h
    refine lv_aload_n C0.1.1 C0.1.2.1 dX4_works_29 rfl (lv_at hl 0 rfl) ?_
    refine g_get (ci := 6) (v := .ref (a 2)) (T := TX4) (N := 16) C0.1 Z 0 rfl rfl 3 (by decide) kX4_works_in kX4_works_f13 rfl rfl dX4_works_30 ?_
    refine lv_bipush (v := 15) C0.1.1 C0.1.2.1 dX4_works_33 (by decide +kernel) ?_
    refine lv_iload_n C0.1.1 C0.1.2.1 dX4_works_35 rfl (lv_at hl 1 rfl) ?_
    refine lv_imul C0.1.1 C0.1.2.1 dX4_works_36 ?_
    refine lv_iload_n C0.1.1 C0.1.2.1 dX4_works_37 rfl (lv_at hl 3 rfl) ?_
    refine lv_iadd C0.1.1 C0.1.2.1 dX4_works_38 ?_
    obtain ⟨hi8, h⟩ := g_ni h
    refine g_iald (f := fm) (n := 450) C0.1 Z 2 0 rfl rfl hi8 dX4_works_39 ?_
    refine lv_istore (lv' := [(4, .int (fm (((15 : Int32) * v1) + v3).toNatClampNeg)), (0, .ref (a 0)), (1, .int v1), (2, .int v2), (3, .int v3)]) C0.1.1 C0.1.2.1 dX4_works_40 hl (by decide) rfl (fun ls hl => ?_)
    refine lv_aload_n C0.1.1 C0.1.2.1 dX4_works_42 rfl (lv_at hl 1 rfl) ?_
    refine lv_iload C0.1.1 C0.1.2.1 dX4_works_43 (lv_at hl 0 rfl) ?_
    refine lv_iload_n C0.1.1 C0.1.2.1 dX4_works_45 rfl (lv_at hl 3 rfl) ?_
    obtain ⟨x9, hx10, h⟩ := g_bd h
    refine g_callVv (b := a 0) (As := [.int (fm (((15 : Int32) * v1) + v3).toNatClampNeg), .int v2]) (rest := []) (ws' := (fun (u : Int32 × Int32 × Int32 × (Nat → Int32) × (Nat → Int64)) => (XM a cyI cyJ th df la fo u.1 u.2.1 u.2.2.1 dr fm sz om os st u.2.2.2.1 va u.2.2.2.2 ++ Y))) C0.1 Z (zX4_reads l D cyI cyJ cyO A bs Z.2.2.2.2.2 a Y th df la fo he wt br dr fm sz om os st wa va sk N (fm (((15 : Int32) * v1) + v3).toNatClampNeg) v2 x9 hx10) (cwV 2 C0.1.2.2.2.2 gX4_works_X4_reads rfl rfl rfl (by decide +kernel) ⟨Nat.le_of_ble_eq_true rfl, Nat.le_of_ble_eq_true rfl⟩) 0 (ci := 6) rfl rfl rfl rfl hl.1 rfl (Nat.le_of_ble_eq_true rfl) dX4_works_46 ⟨Nat.zero_le _, Nat.zero_le _⟩ (fun u H locs hw Z => ?_)
    subst hw
    refine lv_iload C0.1.1 C0.1.2.1 dX4_works_49 (lv_at hl 0 rfl) ?_
    refine lv_ldc C0.1.1 C0.1.2.1 C0.1.2.2.2.1 (C0.1.2.2.2.2 _ kX4_works_c66) dX4_works_51 ?_
    refine lv_icmp_lt (tgt := 69) C0.1.1 C0.1.2.1 dX4_works_53 (by decide) (fun hc => ?_) (fun hc => ?_)
    · replace h := (if_pos hc).symm.trans h
      exact wX4_works_69 (N := N) C0 hret hr19 x9.1 x9.2.1 x9.2.2.1 st x9.2.2.2.1 va x9.2.2.2.2 v1 v3 _ _ _ h Z (lv_sub hl [1, 2, 4] rfl)
    · replace h := (if_neg hc).symm.trans h
      refine lv_iload C0.1.1 C0.1.2.1 dX4_works_56 (lv_at hl 0 rfl) ?_
      refine lv_ldc C0.1.1 C0.1.2.1 C0.1.2.2.2.1 (C0.1.2.2.2.2 _ kX4_works_c66) dX4_works_58 ?_
      refine lv_isub C0.1.1 C0.1.2.1 dX4_works_60 ?_
      refine lv_iconst (v := 5) C0.1.1 C0.1.2.1 dX4_works_61 (by decide) ?_
      refine lv_icmp_eq (tgt := 69) C0.1.1 C0.1.2.1 dX4_works_62 (by decide) (fun hc => ?_) (fun hc => ?_)
      · replace h := (if_pos hc).symm.trans h
        exact wX4_works_69 (N := N) C0 hret hr19 x9.1 x9.2.1 x9.2.2.1 st x9.2.2.2.1 va x9.2.2.2.2 v1 v3 _ _ _ h Z (lv_sub hl [1, 2, 4] rfl)
      · replace h := (if_neg hc).symm.trans h
        refine lv_iconst (v := 1) C0.1.1 C0.1.2.1 dX4_works_65 (by decide) ?_
        refine lv_goto (tgt := 70) C0.1.1 C0.1.2.1 dX4_works_66 (by decide) ?_
        exact wX4_works_70 (N := N) C0 hret hr19 x9.1 x9.2.1 x9.2.2.1 st x9.2.2.2.1 va x9.2.2.2.2 v1 v3 (1 : Int32) _ _ _ h Z (lv_sub hl [1, 2, 4] rfl)
theorem wX4_works_19 {p : Program} {l : Launch} {e : Env} {s : State} {m : MethodId} {args : Array Value} {below : List Frame} {meth : Method} {c : Code} {Q : State → Prop} {D : va_G} {cyI cyJ cyO : ClassId} {A : Nat → Prop} {bs : Nat} {a : Nat → Nat} {Y : va_W} {th : Int32} {df : Int32} {la : Int32} {fo : Int32} {dr : Nat → Int32} {fm : Nat → Int32} {sz : Nat → Int32} {om : Nat → Int32} {os : Nat → Int32} {N : Nat} {res : Int32 × Int32 × Int32 × (Nat → Int32) × (Nat → Int32) × (Nat → Int64) × (Nat → Int64)} (C0 : gC p m meth c cX4_works 5 none s args wsX4_works RX4) (hret : ∀ (he_r : Int32) (wt_r : Int32) (br_r : Int32) (st_r : Nat → Int32) (wa_r : Nat → Int32) (va_r : Nat → Int64) (sk_r : Nat → Int64) (H : Heap) (locs : List Loc) (pc : Nat) (ls : Array Slot), some (he_r, wt_r, br_r, st_r, wa_r, va_r, sk_r) = some res → gZ D (gT cyI cyJ cyO) (XM a cyI cyJ th df la fo he_r wt_r br_r dr fm sz om os st_r wa_r va_r sk_r ++ Y) A bs s H locs → decode cX4_works pc = .ok (.return_, 1) → W p l e rmX4_works s m args below meth c H locs 0 0 Q (F0 m pc ls []))  : ∀ (n : Nat), ∀ (he : Int32) (wt : Int32) (br : Int32) (st : Nat → Int32) (wa : Nat → Int32) (va : Nat → Int64) (sk : Nat → Int64) (v1 : Int32) (v2 : Int32) (v3 : Int32) (H : Heap) (locs : List Loc) (ls : Array Slot), mX4_works_19 N fm sz n he wt br st wa va sk v1 v2 v3 = some res → gZ D (gT cyI cyJ cyO) (XM a cyI cyJ th df la fo he wt br dr fm sz om os st wa va sk ++ Y) A bs s H locs → lv_has ls 5 [(0, .ref (a 0)), (1, .int v1), (2, .int v2), (3, .int v3)] → W p l e rmX4_works s m args below meth c H locs 0 0 Q (F0 m 19 ls []) := by
  intro n
  induction n with
  | zero => intro _ _ _ _ _ _ _ _ _ _ _ _ _ h; cases h
  | succ n ih => exact wX4_works_19_b (N := N) C0 hret ih
set_option maxRecDepth 20000 in
set_option maxHeartbeats 4000000 in
theorem zX4_works (l : Launch) (D : va_G) (cyI cyJ cyO : ClassId) (A : Nat → Prop) (bs : Nat) (hA : ∀ q, bs ≤ q → A q) (a : Nat → Nat) (Y : va_W) (th : Int32) (df : Int32) (la : Int32) (fo : Int32) (he : Int32) (wt : Int32) (br : Int32) (dr : Nat → Int32) (fm : Nat → Int32) (sz : Nat → Int32) (om : Nat → Int32) (os : Nat → Int32) (st : Nat → Int32) (wa : Nat → Int32) (va : Nat → Int64) (sk : Nat → Int64) (N : Nat) (p0 : Int32) (res : Int32 × Int32 × Int32 × (Nat → Int32) × (Nat → Int32) × (Nat → Int64) × (Nat → Int64)) (h : mX4_works N fm sz he wt br st wa va sk p0 = some res) : Met l yX4_works wsX4_works rmX4_works (va_Pc [.ref (a 0), .int p0] (gW D (gT cyI cyJ cyO) (XM a cyI cyJ th df la fo he wt br dr fm sz om os st wa va sk ++ Y) A bs)) (va_Qv (fun (u : Int32 × Int32 × Int32 × (Nat → Int32) × (Nat → Int32) × (Nat → Int64) × (Nat → Int64)) => res = u) (fun (u : Int32 × Int32 × Int32 × (Nat → Int32) × (Nat → Int32) × (Nat → Int64) × (Nat → Int64)) U => gW D (gT cyI cyJ cyO) (XM a cyI cyJ th df la fo u.1 u.2.1 u.2.2.1 dr fm sz om os u.2.2.2.1 u.2.2.2.2.1 u.2.2.2.2.2.1 u.2.2.2.2.2.2 ++ Y) A bs U) A) 0 0 A := by
  refine Met.ofW (cc := cX4_works) (maxL := 5) (ret := none) (by decide) rfl ?_
  intro p e s m args below meth c s₁ B hml hv
  obtain ⟨hav, hv⟩ := hv
  have C0 : gC p m meth c cX4_works 5 none s args wsX4_works RX4 := ⟨⟨B.exec, B.bytes, hml, findClass_of_methodNamed B.named, atoms_spec (ws := wsX4_works) B.pre⟩, B.returns, B.notSynchronized⟩
  have Z := g_start hA hv
  have hret : ∀ (he_r : Int32) (wt_r : Int32) (br_r : Int32) (st_r : Nat → Int32) (wa_r : Nat → Int32) (va_r : Nat → Int64) (sk_r : Nat → Int64) (H : Heap) (locs : List Loc) (pc : Nat) (ls : Array Slot), some (he_r, wt_r, br_r, st_r, wa_r, va_r, sk_r) = some res → gZ D (gT cyI cyJ cyO) (XM a cyI cyJ th df la fo he_r wt_r br_r dr fm sz om os st_r wa_r va_r sk_r ++ Y) A bs s H locs → decode cX4_works pc = .ok (.return_, 1) → W p l e rmX4_works s m args below meth c H locs 0 0 (MQ below (va_Qv (fun (u : Int32 × Int32 × Int32 × (Nat → Int32) × (Nat → Int32) × (Nat → Int64) × (Nat → Int64)) => res = u) (fun (u : Int32 × Int32 × Int32 × (Nat → Int32) × (Nat → Int32) × (Nat → Int64) × (Nat → Int64)) U => gW D (gT cyI cyJ cyO) (XM a cyI cyJ th df la fo u.1 u.2.1 u.2.2.1 dr fm sz om os u.2.2.2.1 u.2.2.2.2.1 u.2.2.2.2.2.1 u.2.2.2.2.2.2 ++ Y) A bs U) A) args s 0 0 A) (F0 m pc ls []) := by
    intro he_r wt_r br_r st_r wa_r va_r sk_r H locs pc ls h Z hd
    replace h := Option.some.inj h
    exact W.vret C0.1.1 C0.1.2.1 C0.2.1 (fun t ht hW => ⟨⟨(he_r, wt_r, br_r, st_r, wa_r, va_r, sk_r), rfl, h.symm, g_end Z ht hW⟩, Z.2.2.2.1.F ht⟩) Z.2.2.2.1.2.2 hd C0.2.2
  have hl := lv_entry ([.ref (a 0), .int p0]) (n := 5) (Nat.le_of_ble_eq_true rfl)
  rw [hav, lg_entry_eq]
  generalize (lg_sl ([.ref (a 0), .int p0]) ++ List.replicate (5 - (lg_sl ([.ref (a 0), .int p0])).length) Slot.unset).toArray = ls at hl ⊢
  have hl : lv_has ls 5 [(0, .ref (a 0)), (1, .int p0)] := hl
  rw [← hav]
  unfold mX4_works at h
  refine lv_aload_n C0.1.1 C0.1.2.1 dX4_works_0 rfl (lv_at hl 0 rfl) ?_
  refine lv_iconst (v := 0) C0.1.1 C0.1.2.1 dX4_works_1 (by decide) ?_
  refine g_put (ci := 6) (v := .int (0 : Int32)) (T := TX4) (N := 16) (ws' := (XM a cyI cyJ th df la fo (0 : Int32) wt br dr fm sz om os st wa va sk ++ Y)) C0.1 Z 0 rfl rfl 12 (by decide) kX4_works_in kX4_works_f82 rfl tyX4 tyX4_ok nmX4 rfl rfl rfl (Nat.le_of_ble_eq_true rfl) dX4_works_2 rfl (fun H locs Z => ?_)
  refine lv_aload_n C0.1.1 C0.1.2.1 dX4_works_5 rfl (lv_at hl 0 rfl) ?_
  refine lv_iconst (v := 0) C0.1.1 C0.1.2.1 dX4_works_6 (by decide) ?_
  refine g_put (ci := 6) (v := .int (0 : Int32)) (T := TX4) (N := 16) (ws' := (XM a cyI cyJ th df la fo (0 : Int32) (0 : Int32) br dr fm sz om os st wa va sk ++ Y)) C0.1 Z 0 rfl rfl 14 (by decide) kX4_works_in kX4_works_f85 rfl tyX4 tyX4_ok nmX4 rfl rfl rfl (Nat.le_of_ble_eq_true rfl) dX4_works_7 rfl (fun H locs Z => ?_)
  refine lv_aload_n C0.1.1 C0.1.2.1 dX4_works_10 rfl (lv_at hl 0 rfl) ?_
  refine lv_iconst (v := 0) C0.1.1 C0.1.2.1 dX4_works_11 (by decide) ?_
  refine g_put (ci := 6) (v := .int (0 : Int32)) (T := TX4) (N := 16) (ws' := (XM a cyI cyJ th df la fo (0 : Int32) (0 : Int32) (0 : Int32) dr fm sz om os st wa va sk ++ Y)) C0.1 Z 0 rfl rfl 15 (by decide) kX4_works_in kX4_works_f98 rfl tyX4 tyX4_ok nmX4 rfl rfl rfl (Nat.le_of_ble_eq_true rfl) dX4_works_12 rfl (fun H locs Z => ?_)
  refine lv_iconst (v := 1) C0.1.1 C0.1.2.1 dX4_works_15 (by decide) ?_
  refine lv_istore_n (lv' := [(2, .int (1 : Int32)), (0, .ref (a 0)), (1, .int p0)]) C0.1.1 C0.1.2.1 dX4_works_16 rfl hl (by decide) rfl (fun ls hl => ?_)
  refine lv_iconst (v := 0) C0.1.1 C0.1.2.1 dX4_works_17 (by decide) ?_
  refine lv_istore_n (lv' := [(3, .int (0 : Int32)), (2, .int (1 : Int32)), (0, .ref (a 0)), (1, .int p0)]) C0.1.1 C0.1.2.1 dX4_works_18 rfl hl (by decide) rfl (fun ls hl => ?_)
  exact wX4_works_19 (N := N) C0 hret N (0 : Int32) (0 : Int32) (0 : Int32) st wa va sk p0 (1 : Int32) (0 : Int32) _ _ _ h Z (lv_sub hl [2, 3, 1, 0] rfl)
/-! X4_areKnown -/
abbrev rmX4_areKnown : Room := { frames := 0, cells := 0, slots := 0, locals := 0 }
theorem kX4_areKnown_f29 : Cond.fieldLink RX4 29 "GoalseekOfficeModel" "states" "[I" ∈ wsX4_areKnown := by decide +kernel
theorem kX4_areKnown_in : ∀ w ∈ wsX40, w ∈ wsX4_areKnown := by decide +kernel
def mX4_areKnown_28 (N : Nat) (st : Nat → Int32) (r2 : Int32 → Int32 → Option (Int32)) (v1 : Int32) (v2 : Int32) : Option (Int32) := r2 v1 (v2 + (1 : Int32))
def mX4_areKnown_2_b (N : Nat) (st : Nat → Int32) (r2 : Int32 → Int32 → Option (Int32)) (v1 : Int32) (v2 : Int32) : Option (Int32) := (if (30 : Int32) ≤ v2 then some ((1 : Int32)) else (if ((v1 >>> (v2 &&& 31)) &&& (1 : Int32)) = (1 : Int32) then (if v2 < 0 ∨ 30 ≤ v2.toNatClampNeg then none else (if (st v2.toNatClampNeg) = 0 then some ((0 : Int32)) else mX4_areKnown_28 N st r2 v1 v2)) else mX4_areKnown_28 N st r2 v1 v2))
def mX4_areKnown_2 (N : Nat) (st : Nat → Int32) : Nat → Int32 → Int32 → Option (Int32)
  | 0 => fun _ _ => none
  | n + 1 => fun v1 v2 => mX4_areKnown_2_b N st (mX4_areKnown_2 N st n) v1 v2
def mX4_areKnown (N : Nat) (st : Nat → Int32) (p0 : Int32) : Option (Int32) := mX4_areKnown_2 N st N p0 (0 : Int32)
set_option maxRecDepth 20000 in
set_option maxHeartbeats 4000000 in
theorem wX4_areKnown_28 {p : Program} {l : Launch} {e : Env} {s : State} {m : MethodId} {args : Array Value} {below : List Frame} {meth : Method} {c : Code} {Q : State → Prop} {D : va_G} {cyI cyJ cyO : ClassId} {A : Nat → Prop} {bs : Nat} {a : Nat → Nat} {Y : va_W} {th : Int32} {df : Int32} {la : Int32} {fo : Int32} {he : Int32} {wt : Int32} {br : Int32} {dr : Nat → Int32} {fm : Nat → Int32} {sz : Nat → Int32} {om : Nat → Int32} {os : Nat → Int32} {st : Nat → Int32} {wa : Nat → Int32} {va : Nat → Int64} {sk : Nat → Int64} {N : Nat} {res : Int32} (C0 : gC p m meth c cX4_areKnown 3 (some .boolean) s args wsX4_areKnown RX4) (hret : ∀ (r : Int32) (H : Heap) (locs : List Loc) (pc : Nat) (ls : Array Slot), (r = 0 ∨ r = 1) → some r = some res → gZ D (gT cyI cyJ cyO) (XM a cyI cyJ th df la fo he wt br dr fm sz om os st wa va sk ++ Y) A bs s H locs → decode cX4_areKnown pc = .ok (.ireturn, 1) → W p l e rmX4_areKnown s m args below meth c H locs 0 0 Q (F0 m pc ls [.int r])) {r2 : Int32 → Int32 → Option (Int32)} (hr2 : ∀ (v1 : Int32) (v2 : Int32) (H : Heap) (locs : List Loc) (ls : Array Slot), r2 v1 v2 = some res → gZ D (gT cyI cyJ cyO) (XM a cyI cyJ th df la fo he wt br dr fm sz om os st wa va sk ++ Y) A bs s H locs → lv_has ls 3 [(0, .ref (a 0)), (1, .int v1), (2, .int v2)] → W p l e rmX4_areKnown s m args below meth c H locs 0 0 Q (F0 m 2 ls [])) : ∀ (v1 : Int32) (v2 : Int32) (H : Heap) (locs : List Loc) (ls : Array Slot), mX4_areKnown_28 N st r2 v1 v2 = some res → gZ D (gT cyI cyJ cyO) (XM a cyI cyJ th df la fo he wt br dr fm sz om os st wa va sk ++ Y) A bs s H locs → lv_has ls 3 [(0, .ref (a 0)), (1, .int v1), (2, .int v2)] → W p l e rmX4_areKnown s m args below meth c H locs 0 0 Q (F0 m 28 ls []) := by
  intro v1 v2 H locs ls h Z hl
  unfold mX4_areKnown_28 at h
  refine lv_iinc (v := v2 + (1 : Int32)) (lv' := [(2, .int (v2 + (1 : Int32))), (0, .ref (a 0)), (1, .int v1)]) C0.1.1 C0.1.2.1 dX4_areKnown_28 hl (k := 2) rfl rfl (by decide) rfl (fun ls hl => ?_)
  refine lv_goto (tgt := 2) C0.1.1 C0.1.2.1 dX4_areKnown_31 (by decide) ?_
  exact hr2 v1 (v2 + (1 : Int32)) _ _ _ h Z (lv_sub hl [1, 2, 0] rfl)
set_option maxRecDepth 20000 in
set_option maxHeartbeats 4000000 in
theorem wX4_areKnown_2_b {p : Program} {l : Launch} {e : Env} {s : State} {m : MethodId} {args : Array Value} {below : List Frame} {meth : Method} {c : Code} {Q : State → Prop} {D : va_G} {cyI cyJ cyO : ClassId} {A : Nat → Prop} {bs : Nat} {a : Nat → Nat} {Y : va_W} {th : Int32} {df : Int32} {la : Int32} {fo : Int32} {he : Int32} {wt : Int32} {br : Int32} {dr : Nat → Int32} {fm : Nat → Int32} {sz : Nat → Int32} {om : Nat → Int32} {os : Nat → Int32} {st : Nat → Int32} {wa : Nat → Int32} {va : Nat → Int64} {sk : Nat → Int64} {N : Nat} {res : Int32} (C0 : gC p m meth c cX4_areKnown 3 (some .boolean) s args wsX4_areKnown RX4) (hret : ∀ (r : Int32) (H : Heap) (locs : List Loc) (pc : Nat) (ls : Array Slot), (r = 0 ∨ r = 1) → some r = some res → gZ D (gT cyI cyJ cyO) (XM a cyI cyJ th df la fo he wt br dr fm sz om os st wa va sk ++ Y) A bs s H locs → decode cX4_areKnown pc = .ok (.ireturn, 1) → W p l e rmX4_areKnown s m args below meth c H locs 0 0 Q (F0 m pc ls [.int r])) {r2 : Int32 → Int32 → Option (Int32)} (hr2 : ∀ (v1 : Int32) (v2 : Int32) (H : Heap) (locs : List Loc) (ls : Array Slot), r2 v1 v2 = some res → gZ D (gT cyI cyJ cyO) (XM a cyI cyJ th df la fo he wt br dr fm sz om os st wa va sk ++ Y) A bs s H locs → lv_has ls 3 [(0, .ref (a 0)), (1, .int v1), (2, .int v2)] → W p l e rmX4_areKnown s m args below meth c H locs 0 0 Q (F0 m 2 ls [])) : ∀ (v1 : Int32) (v2 : Int32) (H : Heap) (locs : List Loc) (ls : Array Slot), mX4_areKnown_2_b N st r2 v1 v2 = some res → gZ D (gT cyI cyJ cyO) (XM a cyI cyJ th df la fo he wt br dr fm sz om os st wa va sk ++ Y) A bs s H locs → lv_has ls 3 [(0, .ref (a 0)), (1, .int v1), (2, .int v2)] → W p l e rmX4_areKnown s m args below meth c H locs 0 0 Q (F0 m 2 ls []) := by
  intro v1 v2 H locs ls h Z hl
  unfold mX4_areKnown_2_b at h
  refine lv_iload_n C0.1.1 C0.1.2.1 dX4_areKnown_2 rfl (lv_at hl 2 rfl) ?_
  refine lv_bipush (v := 30) C0.1.1 C0.1.2.1 dX4_areKnown_3 (by decide +kernel) ?_
  refine lv_icmp_ge (tgt := 34) C0.1.1 C0.1.2.1 dX4_areKnown_5 (by decide) (fun hc => ?_) (fun hc => ?_)
  · replace h := (if_pos hc).symm.trans h
    refine lv_iconst (v := 1) C0.1.1 C0.1.2.1 dX4_areKnown_34 (by decide) ?_
    exact hret (1 : Int32) _ _ _ _ (Or.inr rfl) h Z dX4_areKnown_35
  · replace h := (if_neg hc).symm.trans h
    refine lv_iload_n C0.1.1 C0.1.2.1 dX4_areKnown_8 rfl (lv_at hl 1 rfl) ?_
    refine lv_iload_n C0.1.1 C0.1.2.1 dX4_areKnown_9 rfl (lv_at hl 2 rfl) ?_
    refine lv_ishr C0.1.1 C0.1.2.1 dX4_areKnown_10 ?_
    refine lv_iconst (v := 1) C0.1.1 C0.1.2.1 dX4_areKnown_11 (by decide) ?_
    refine lv_iand C0.1.1 C0.1.2.1 dX4_areKnown_12 ?_
    refine lv_iconst (v := 1) C0.1.1 C0.1.2.1 dX4_areKnown_13 (by decide) ?_
    refine lv_icmp_ne (tgt := 28) C0.1.1 C0.1.2.1 dX4_areKnown_14 (by decide) (fun hc => ?_) (fun hc => ?_)
    · replace h := (if_neg hc).symm.trans h
      exact wX4_areKnown_28 (N := N) C0 hret hr2 v1 v2 _ _ _ h Z (lv_sub hl [0, 1, 2] rfl)
    · replace h := (if_pos hc).symm.trans h
      refine lv_aload_n C0.1.1 C0.1.2.1 dX4_areKnown_17 rfl (lv_at hl 0 rfl) ?_
      refine g_get (ci := 6) (v := .ref (a 7)) (T := TX4) (N := 16) C0.1 Z 0 rfl rfl 10 (by decide) kX4_areKnown_in kX4_areKnown_f29 rfl rfl dX4_areKnown_18 ?_
      refine lv_iload_n C0.1.1 C0.1.2.1 dX4_areKnown_21 rfl (lv_at hl 2 rfl) ?_
      obtain ⟨hi1, h⟩ := g_ni h
      refine g_iald (f := st) (n := 30) C0.1 Z 7 0 rfl rfl hi1 dX4_areKnown_22 ?_
      refine lv_if_ne (tgt := 28) C0.1.1 C0.1.2.1 dX4_areKnown_23 (by decide) (fun hc => ?_) (fun hc => ?_)
      · replace h := (if_neg hc).symm.trans h
        exact wX4_areKnown_28 (N := N) C0 hret hr2 v1 v2 _ _ _ h Z (lv_sub hl [0, 1, 2] rfl)
      · replace h := (if_pos hc).symm.trans h
        refine lv_iconst (v := 0) C0.1.1 C0.1.2.1 dX4_areKnown_26 (by decide) ?_
        exact hret (0 : Int32) _ _ _ _ (Or.inl rfl) h Z dX4_areKnown_27
theorem wX4_areKnown_2 {p : Program} {l : Launch} {e : Env} {s : State} {m : MethodId} {args : Array Value} {below : List Frame} {meth : Method} {c : Code} {Q : State → Prop} {D : va_G} {cyI cyJ cyO : ClassId} {A : Nat → Prop} {bs : Nat} {a : Nat → Nat} {Y : va_W} {th : Int32} {df : Int32} {la : Int32} {fo : Int32} {he : Int32} {wt : Int32} {br : Int32} {dr : Nat → Int32} {fm : Nat → Int32} {sz : Nat → Int32} {om : Nat → Int32} {os : Nat → Int32} {st : Nat → Int32} {wa : Nat → Int32} {va : Nat → Int64} {sk : Nat → Int64} {N : Nat} {res : Int32} (C0 : gC p m meth c cX4_areKnown 3 (some .boolean) s args wsX4_areKnown RX4) (hret : ∀ (r : Int32) (H : Heap) (locs : List Loc) (pc : Nat) (ls : Array Slot), (r = 0 ∨ r = 1) → some r = some res → gZ D (gT cyI cyJ cyO) (XM a cyI cyJ th df la fo he wt br dr fm sz om os st wa va sk ++ Y) A bs s H locs → decode cX4_areKnown pc = .ok (.ireturn, 1) → W p l e rmX4_areKnown s m args below meth c H locs 0 0 Q (F0 m pc ls [.int r]))  : ∀ (n : Nat), ∀ (v1 : Int32) (v2 : Int32) (H : Heap) (locs : List Loc) (ls : Array Slot), mX4_areKnown_2 N st n v1 v2 = some res → gZ D (gT cyI cyJ cyO) (XM a cyI cyJ th df la fo he wt br dr fm sz om os st wa va sk ++ Y) A bs s H locs → lv_has ls 3 [(0, .ref (a 0)), (1, .int v1), (2, .int v2)] → W p l e rmX4_areKnown s m args below meth c H locs 0 0 Q (F0 m 2 ls []) := by
  intro n
  induction n with
  | zero => intro _ _ _ _ _ h; cases h
  | succ n ih => exact wX4_areKnown_2_b (N := N) C0 hret ih
set_option maxRecDepth 20000 in
set_option maxHeartbeats 4000000 in
theorem zX4_areKnown (l : Launch) (D : va_G) (cyI cyJ cyO : ClassId) (A : Nat → Prop) (bs : Nat) (hA : ∀ q, bs ≤ q → A q) (a : Nat → Nat) (Y : va_W) (th : Int32) (df : Int32) (la : Int32) (fo : Int32) (he : Int32) (wt : Int32) (br : Int32) (dr : Nat → Int32) (fm : Nat → Int32) (sz : Nat → Int32) (om : Nat → Int32) (os : Nat → Int32) (st : Nat → Int32) (wa : Nat → Int32) (va : Nat → Int64) (sk : Nat → Int64) (N : Nat) (p0 : Int32) (res : Int32) (h : mX4_areKnown N st p0 = some res) : Met l yX4_areKnown wsX4_areKnown rmX4_areKnown (va_Pc [.ref (a 0), .int p0] (gW D (gT cyI cyJ cyO) (XM a cyI cyJ th df la fo he wt br dr fm sz om os st wa va sk ++ Y) A bs)) (va_Qi (fun (r : Int32) (_ : Unit) => res = r) (fun (u : Unit) U => gW D (gT cyI cyJ cyO) (XM a cyI cyJ th df la fo he wt br dr fm sz om os st wa va sk ++ Y) A bs U) A) 0 0 A := by
  refine Met.ofW (cc := cX4_areKnown) (maxL := 3) (ret := (some .boolean)) (by decide) rfl ?_
  intro p e s m args below meth c s₁ B hml hv
  obtain ⟨hav, hv⟩ := hv
  have C0 : gC p m meth c cX4_areKnown 3 (some .boolean) s args wsX4_areKnown RX4 := ⟨⟨B.exec, B.bytes, hml, findClass_of_methodNamed B.named, atoms_spec (ws := wsX4_areKnown) B.pre⟩, B.returns, B.notSynchronized⟩
  have Z := g_start hA hv
  have hret : ∀ (r : Int32) (H : Heap) (locs : List Loc) (pc : Nat) (ls : Array Slot), (r = 0 ∨ r = 1) → some r = some res → gZ D (gT cyI cyJ cyO) (XM a cyI cyJ th df la fo he wt br dr fm sz om os st wa va sk ++ Y) A bs s H locs → decode cX4_areKnown pc = .ok (.ireturn, 1) → W p l e rmX4_areKnown s m args below meth c H locs 0 0 (MQ below (va_Qi (fun (r : Int32) (_ : Unit) => res = r) (fun (u : Unit) U => gW D (gT cyI cyJ cyO) (XM a cyI cyJ th df la fo he wt br dr fm sz om os st wa va sk ++ Y) A bs U) A) args s 0 0 A) (F0 m pc ls [.int r]) := by
    intro r H locs pc ls hb h Z hd
    replace h := Option.some.inj h
    exact W.zret C0.1.1 C0.1.2.1 C0.2.1 (g_nb hb) (fun t ht hW => ⟨⟨r, (()), rfl, h.symm, g_end Z ht hW⟩, Z.2.2.2.1.F ht⟩) Z.2.2.2.1.2.2 hd C0.2.2
  have hl := lv_entry ([.ref (a 0), .int p0]) (n := 3) (Nat.le_of_ble_eq_true rfl)
  rw [hav, lg_entry_eq]
  generalize (lg_sl ([.ref (a 0), .int p0]) ++ List.replicate (3 - (lg_sl ([.ref (a 0), .int p0])).length) Slot.unset).toArray = ls at hl ⊢
  have hl : lv_has ls 3 [(0, .ref (a 0)), (1, .int p0)] := hl
  rw [← hav]
  unfold mX4_areKnown at h
  refine lv_iconst (v := 0) C0.1.1 C0.1.2.1 dX4_areKnown_0 (by decide) ?_
  refine lv_istore_n (lv' := [(2, .int (0 : Int32)), (0, .ref (a 0)), (1, .int p0)]) C0.1.1 C0.1.2.1 dX4_areKnown_1 rfl hl (by decide) rfl (fun ls hl => ?_)
  exact wX4_areKnown_2 (N := N) C0 hret N p0 (0 : Int32) _ _ _ h Z (lv_sub hl [1, 2, 0] rfl)
/-! X4_worksAll -/
abbrev rmX4_worksAll : Room := { frames := 5, cells := 0, slots := 0, locals := 122 }
theorem kX4_worksAll_f29 : Cond.fieldLink RX4 29 "GoalseekOfficeModel" "states" "[I" ∈ wsX4_worksAll := by decide +kernel
theorem kX4_worksAll_in : ∀ w ∈ wsX40, w ∈ wsX4_worksAll := by decide +kernel
def mX4_worksAll_79 (N : Nat) (fm : Nat → Int32) (sz : Nat → Int32) (r24 : Int32 → Int32 → Int32 → (Nat → Int32) → (Nat → Int32) → (Nat → Int64) → (Nat → Int64) → Int32 → Option (Int32 × Int32 × Int32 × (Nat → Int32) × (Nat → Int32) × (Nat → Int64) × (Nat → Int64))) (r32 : Int32 → Int32 → Int32 → (Nat → Int32) → (Nat → Int32) → (Nat → Int64) → (Nat → Int64) → Int32 → Int32 → Option (Int32 × Int32 × Int32 × (Nat → Int32) × (Nat → Int32) × (Nat → Int64) × (Nat → Int64))) (he : Int32) (wt : Int32) (br : Int32) (st : Nat → Int32) (wa : Nat → Int32) (va : Nat → Int64) (sk : Nat → Int64) (v2 : Int32) (s0 : Int32) (s1 : Int32) : Option (Int32 × Int32 × Int32 × (Nat → Int32) × (Nat → Int32) × (Nat → Int64) × (Nat → Int64)) := r32 he wt br st wa va sk (s0 + s1) (v2 + (1 : Int32))
def mX4_worksAll_64 (N : Nat) (fm : Nat → Int32) (sz : Nat → Int32) (r24 : Int32 → Int32 → Int32 → (Nat → Int32) → (Nat → Int32) → (Nat → Int64) → (Nat → Int64) → Int32 → Option (Int32 × Int32 × Int32 × (Nat → Int32) × (Nat → Int32) × (Nat → Int64) × (Nat → Int64))) (r32 : Int32 → Int32 → Int32 → (Nat → Int32) → (Nat → Int32) → (Nat → Int64) → (Nat → Int64) → Int32 → Int32 → Option (Int32 × Int32 × Int32 × (Nat → Int32) × (Nat → Int32) × (Nat → Int64) × (Nat → Int64))) (he : Int32) (wt : Int32) (br : Int32) (st : Nat → Int32) (wa : Nat → Int32) (va : Nat → Int64) (sk : Nat → Int64) (v1 : Int32) (v2 : Int32) : Option (Int32 × Int32 × Int32 × (Nat → Int32) × (Nat → Int32) × (Nat → Int64) × (Nat → Int64)) := (if v2 < 0 ∨ 30 ≤ v2.toNatClampNeg then none else (if (st v2.toNatClampNeg) = 0 then mX4_worksAll_79 N fm sz r24 r32 he wt br st wa va sk v2 v1 (1 : Int32) else mX4_worksAll_79 N fm sz r24 r32 he wt br st wa va sk v2 v1 (0 : Int32)))
def mX4_worksAll_32_b (N : Nat) (fm : Nat → Int32) (sz : Nat → Int32) (r24 : Int32 → Int32 → Int32 → (Nat → Int32) → (Nat → Int32) → (Nat → Int64) → (Nat → Int64) → Int32 → Option (Int32 × Int32 × Int32 × (Nat → Int32) × (Nat → Int32) × (Nat → Int64) × (Nat → Int64))) (r32 : Int32 → Int32 → Int32 → (Nat → Int32) → (Nat → Int32) → (Nat → Int64) → (Nat → Int64) → Int32 → Int32 → Option (Int32 × Int32 × Int32 × (Nat → Int32) × (Nat → Int32) × (Nat → Int64) × (Nat → Int64))) (he : Int32) (wt : Int32) (br : Int32) (st : Nat → Int32) (wa : Nat → Int32) (va : Nat → Int64) (sk : Nat → Int64) (v1 : Int32) (v2 : Int32) : Option (Int32 × Int32 × Int32 × (Nat → Int32) × (Nat → Int32) × (Nat → Int64) × (Nat → Int64)) := (if (30 : Int32) ≤ v2 then r24 he wt br st wa va sk v1 else (if v2 < 0 ∨ 30 ≤ v2.toNatClampNeg then none else (if (st v2.toNatClampNeg) = 0 then ((mX4_refersOf N fm sz v2).bind fun x3 => ((mX4_areKnown N st x3).bind fun x5 => (if x5 = 0 then mX4_worksAll_64 N fm sz r24 r32 he wt br st wa va sk v1 v2 else ((mX4_works N fm sz he wt br st wa va sk v2).bind fun x7 => mX4_worksAll_64 N fm sz r24 r32 x7.1 x7.2.1 x7.2.2.1 x7.2.2.2.1 x7.2.2.2.2.1 x7.2.2.2.2.2.1 x7.2.2.2.2.2.2 v1 v2)))) else mX4_worksAll_64 N fm sz r24 r32 he wt br st wa va sk v1 v2)))
def mX4_worksAll_32 (N : Nat) (fm : Nat → Int32) (sz : Nat → Int32) (r24 : Int32 → Int32 → Int32 → (Nat → Int32) → (Nat → Int32) → (Nat → Int64) → (Nat → Int64) → Int32 → Option (Int32 × Int32 × Int32 × (Nat → Int32) × (Nat → Int32) × (Nat → Int64) × (Nat → Int64))) : Nat → Int32 → Int32 → Int32 → (Nat → Int32) → (Nat → Int32) → (Nat → Int64) → (Nat → Int64) → Int32 → Int32 → Option (Int32 × Int32 × Int32 × (Nat → Int32) × (Nat → Int32) × (Nat → Int64) × (Nat → Int64))
  | 0 => fun _ _ _ _ _ _ _ _ _ => none
  | n + 1 => fun he wt br st wa va sk v1 v2 => mX4_worksAll_32_b N fm sz r24 (mX4_worksAll_32 N fm sz r24 n) he wt br st wa va sk v1 v2
def mX4_worksAll_24_b (N : Nat) (fm : Nat → Int32) (sz : Nat → Int32) (r24 : Int32 → Int32 → Int32 → (Nat → Int32) → (Nat → Int32) → (Nat → Int64) → (Nat → Int64) → Int32 → Option (Int32 × Int32 × Int32 × (Nat → Int32) × (Nat → Int32) × (Nat → Int64) × (Nat → Int64))) (he : Int32) (wt : Int32) (br : Int32) (st : Nat → Int32) (wa : Nat → Int32) (va : Nat → Int64) (sk : Nat → Int64) (v1 : Int32) : Option (Int32 × Int32 × Int32 × (Nat → Int32) × (Nat → Int32) × (Nat → Int64) × (Nat → Int64)) := (if v1 ≤ 0 then some (he, wt, br, st, wa, va, sk) else mX4_worksAll_32 N fm sz r24 N he wt br st wa va sk (0 : Int32) (0 : Int32))
def mX4_worksAll_24 (N : Nat) (fm : Nat → Int32) (sz : Nat → Int32) : Nat → Int32 → Int32 → Int32 → (Nat → Int32) → (Nat → Int32) → (Nat → Int64) → (Nat → Int64) → Int32 → Option (Int32 × Int32 × Int32 × (Nat → Int32) × (Nat → Int32) × (Nat → Int64) × (Nat → Int64))
  | 0 => fun _ _ _ _ _ _ _ _ => none
  | n + 1 => fun he wt br st wa va sk v1 => mX4_worksAll_24_b N fm sz (mX4_worksAll_24 N fm sz n) he wt br st wa va sk v1
def mX4_worksAll_2_b (N : Nat) (fm : Nat → Int32) (sz : Nat → Int32) (r2 : Int32 → Int32 → Int32 → (Nat → Int32) → (Nat → Int32) → (Nat → Int64) → (Nat → Int64) → Int32 → Option (Int32 × Int32 × Int32 × (Nat → Int32) × (Nat → Int32) × (Nat → Int64) × (Nat → Int64))) (he : Int32) (wt : Int32) (br : Int32) (st : Nat → Int32) (wa : Nat → Int32) (va : Nat → Int64) (sk : Nat → Int64) (v1 : Int32) : Option (Int32 × Int32 × Int32 × (Nat → Int32) × (Nat → Int32) × (Nat → Int64) × (Nat → Int64)) := (if (30 : Int32) ≤ v1 then mX4_worksAll_24 N fm sz N he wt br st wa va sk (30 : Int32) else (if v1 < 0 ∨ 30 ≤ v1.toNatClampNeg then none else r2 he wt br (upd st v1.toNatClampNeg (0 : Int32)) wa va sk (v1 + (1 : Int32))))
def mX4_worksAll_2 (N : Nat) (fm : Nat → Int32) (sz : Nat → Int32) : Nat → Int32 → Int32 → Int32 → (Nat → Int32) → (Nat → Int32) → (Nat → Int64) → (Nat → Int64) → Int32 → Option (Int32 × Int32 × Int32 × (Nat → Int32) × (Nat → Int32) × (Nat → Int64) × (Nat → Int64))
  | 0 => fun _ _ _ _ _ _ _ _ => none
  | n + 1 => fun he wt br st wa va sk v1 => mX4_worksAll_2_b N fm sz (mX4_worksAll_2 N fm sz n) he wt br st wa va sk v1
def mX4_worksAll (N : Nat) (fm : Nat → Int32) (sz : Nat → Int32) (he : Int32) (wt : Int32) (br : Int32) (st : Nat → Int32) (wa : Nat → Int32) (va : Nat → Int64) (sk : Nat → Int64) : Option (Int32 × Int32 × Int32 × (Nat → Int32) × (Nat → Int32) × (Nat → Int64) × (Nat → Int64)) := mX4_worksAll_2 N fm sz N he wt br st wa va sk (0 : Int32)
set_option maxRecDepth 20000 in
set_option maxHeartbeats 4000000 in
theorem wX4_worksAll_79 {p : Program} {l : Launch} {e : Env} {s : State} {m : MethodId} {args : Array Value} {below : List Frame} {meth : Method} {c : Code} {Q : State → Prop} {D : va_G} {cyI cyJ cyO : ClassId} {A : Nat → Prop} {bs : Nat} {a : Nat → Nat} {Y : va_W} {th : Int32} {df : Int32} {la : Int32} {fo : Int32} {dr : Nat → Int32} {fm : Nat → Int32} {sz : Nat → Int32} {om : Nat → Int32} {os : Nat → Int32} {N : Nat} {res : Int32 × Int32 × Int32 × (Nat → Int32) × (Nat → Int32) × (Nat → Int64) × (Nat → Int64)} (C0 : gC p m meth c cX4_worksAll 3 none s args wsX4_worksAll RX4) (hret : ∀ (he_r : Int32) (wt_r : Int32) (br_r : Int32) (st_r : Nat → Int32) (wa_r : Nat → Int32) (va_r : Nat → Int64) (sk_r : Nat → Int64) (H : Heap) (locs : List Loc) (pc : Nat) (ls : Array Slot), some (he_r, wt_r, br_r, st_r, wa_r, va_r, sk_r) = some res → gZ D (gT cyI cyJ cyO) (XM a cyI cyJ th df la fo he_r wt_r br_r dr fm sz om os st_r wa_r va_r sk_r ++ Y) A bs s H locs → decode cX4_worksAll pc = .ok (.return_, 1) → W p l e rmX4_worksAll s m args below meth c H locs 0 0 Q (F0 m pc ls [])) {r24 : Int32 → Int32 → Int32 → (Nat → Int32) → (Nat → Int32) → (Nat → Int64) → (Nat → Int64) → Int32 → Option (Int32 × Int32 × Int32 × (Nat → Int32) × (Nat → Int32) × (Nat → Int64) × (Nat → Int64))} (hr24 : ∀ (he : Int32) (wt : Int32) (br : Int32) (st : Nat → Int32) (wa : Nat → Int32) (va : Nat → Int64) (sk : Nat → Int64) (v1 : Int32) (H : Heap) (locs : List Loc) (ls : Array Slot), r24 he wt br st wa va sk v1 = some res → gZ D (gT cyI cyJ cyO) (XM a cyI cyJ th df la fo he wt br dr fm sz om os st wa va sk ++ Y) A bs s H locs → lv_has ls 3 [(0, .ref (a 0)), (1, .int v1)] → W p l e rmX4_worksAll s m args below meth c H locs 0 0 Q (F0 m 24 ls [])) {r32 : Int32 → Int32 → Int32 → (Nat → Int32) → (Nat → Int32) → (Nat → Int64) → (Nat → Int64) → Int32 → Int32 → Option (Int32 × Int32 × Int32 × (Nat → Int32) × (Nat → Int32) × (Nat → Int64) × (Nat → Int64))} (hr32 : ∀ (he : Int32) (wt : Int32) (br : Int32) (st : Nat → Int32) (wa : Nat → Int32) (va : Nat → Int64) (sk : Nat → Int64) (v1 : Int32) (v2 : Int32) (H : Heap) (locs : List Loc) (ls : Array Slot), r32 he wt br st wa va sk v1 v2 = some res → gZ D (gT cyI cyJ cyO) (XM a cyI cyJ th df la fo he wt br dr fm sz om os st wa va sk ++ Y) A bs s H locs → lv_has ls 3 [(0, .ref (a 0)), (1, .int v1), (2, .int v2)] → W p l e rmX4_worksAll s m args below meth c H locs 0 0 Q (F0 m 32 ls [])) : ∀ (he : Int32) (wt : Int32) (br : Int32) (st : Nat → Int32) (wa : Nat → Int32) (va : Nat → Int64) (sk : Nat → Int64) (v2 : Int32) (s0 : Int32) (s1 : Int32) (H : Heap) (locs : List Loc) (ls : Array Slot), mX4_worksAll_79 N fm sz r24 r32 he wt br st wa va sk v2 s0 s1 = some res → gZ D (gT cyI cyJ cyO) (XM a cyI cyJ th df la fo he wt br dr fm sz om os st wa va sk ++ Y) A bs s H locs → lv_has ls 3 [(0, .ref (a 0)), (2, .int v2)] → W p l e rmX4_worksAll s m args below meth c H locs 0 0 Q (F0 m 79 ls [.int s1, .int s0]) := by
  intro he wt br st wa va sk v2 s0 s1 H locs ls h Z hl
  unfold mX4_worksAll_79 at h
  refine lv_iadd C0.1.1 C0.1.2.1 dX4_worksAll_79 ?_
  refine lv_istore_n (lv' := [(1, .int (s0 + s1)), (0, .ref (a 0)), (2, .int v2)]) C0.1.1 C0.1.2.1 dX4_worksAll_80 rfl hl (by decide) rfl (fun ls hl => ?_)
  refine lv_iinc (v := v2 + (1 : Int32)) (lv' := [(2, .int (v2 + (1 : Int32))), (1, .int (s0 + s1)), (0, .ref (a 0))]) C0.1.1 C0.1.2.1 dX4_worksAll_81 hl (k := 2) rfl rfl (by decide) rfl (fun ls hl => ?_)
  refine lv_goto (tgt := 32) C0.1.1 C0.1.2.1 dX4_worksAll_84 (by decide) ?_
  exact hr32 he wt br st wa va sk (s0 + s1) (v2 + (1 : Int32)) _ _ _ h Z (lv_sub hl [2, 1, 0] rfl)
set_option maxRecDepth 20000 in
set_option maxHeartbeats 4000000 in
theorem wX4_worksAll_64 {p : Program} {l : Launch} {e : Env} {s : State} {m : MethodId} {args : Array Value} {below : List Frame} {meth : Method} {c : Code} {Q : State → Prop} {D : va_G} {cyI cyJ cyO : ClassId} {A : Nat → Prop} {bs : Nat} {a : Nat → Nat} {Y : va_W} {th : Int32} {df : Int32} {la : Int32} {fo : Int32} {dr : Nat → Int32} {fm : Nat → Int32} {sz : Nat → Int32} {om : Nat → Int32} {os : Nat → Int32} {N : Nat} {res : Int32 × Int32 × Int32 × (Nat → Int32) × (Nat → Int32) × (Nat → Int64) × (Nat → Int64)} (C0 : gC p m meth c cX4_worksAll 3 none s args wsX4_worksAll RX4) (hret : ∀ (he_r : Int32) (wt_r : Int32) (br_r : Int32) (st_r : Nat → Int32) (wa_r : Nat → Int32) (va_r : Nat → Int64) (sk_r : Nat → Int64) (H : Heap) (locs : List Loc) (pc : Nat) (ls : Array Slot), some (he_r, wt_r, br_r, st_r, wa_r, va_r, sk_r) = some res → gZ D (gT cyI cyJ cyO) (XM a cyI cyJ th df la fo he_r wt_r br_r dr fm sz om os st_r wa_r va_r sk_r ++ Y) A bs s H locs → decode cX4_worksAll pc = .ok (.return_, 1) → W p l e rmX4_worksAll s m args below meth c H locs 0 0 Q (F0 m pc ls [])) {r24 : Int32 → Int32 → Int32 → (Nat → Int32) → (Nat → Int32) → (Nat → Int64) → (Nat → Int64) → Int32 → Option (Int32 × Int32 × Int32 × (Nat → Int32) × (Nat → Int32) × (Nat → Int64) × (Nat → Int64))} (hr24 : ∀ (he : Int32) (wt : Int32) (br : Int32) (st : Nat → Int32) (wa : Nat → Int32) (va : Nat → Int64) (sk : Nat → Int64) (v1 : Int32) (H : Heap) (locs : List Loc) (ls : Array Slot), r24 he wt br st wa va sk v1 = some res → gZ D (gT cyI cyJ cyO) (XM a cyI cyJ th df la fo he wt br dr fm sz om os st wa va sk ++ Y) A bs s H locs → lv_has ls 3 [(0, .ref (a 0)), (1, .int v1)] → W p l e rmX4_worksAll s m args below meth c H locs 0 0 Q (F0 m 24 ls [])) {r32 : Int32 → Int32 → Int32 → (Nat → Int32) → (Nat → Int32) → (Nat → Int64) → (Nat → Int64) → Int32 → Int32 → Option (Int32 × Int32 × Int32 × (Nat → Int32) × (Nat → Int32) × (Nat → Int64) × (Nat → Int64))} (hr32 : ∀ (he : Int32) (wt : Int32) (br : Int32) (st : Nat → Int32) (wa : Nat → Int32) (va : Nat → Int64) (sk : Nat → Int64) (v1 : Int32) (v2 : Int32) (H : Heap) (locs : List Loc) (ls : Array Slot), r32 he wt br st wa va sk v1 v2 = some res → gZ D (gT cyI cyJ cyO) (XM a cyI cyJ th df la fo he wt br dr fm sz om os st wa va sk ++ Y) A bs s H locs → lv_has ls 3 [(0, .ref (a 0)), (1, .int v1), (2, .int v2)] → W p l e rmX4_worksAll s m args below meth c H locs 0 0 Q (F0 m 32 ls [])) : ∀ (he : Int32) (wt : Int32) (br : Int32) (st : Nat → Int32) (wa : Nat → Int32) (va : Nat → Int64) (sk : Nat → Int64) (v1 : Int32) (v2 : Int32) (H : Heap) (locs : List Loc) (ls : Array Slot), mX4_worksAll_64 N fm sz r24 r32 he wt br st wa va sk v1 v2 = some res → gZ D (gT cyI cyJ cyO) (XM a cyI cyJ th df la fo he wt br dr fm sz om os st wa va sk ++ Y) A bs s H locs → lv_has ls 3 [(0, .ref (a 0)), (1, .int v1), (2, .int v2)] → W p l e rmX4_worksAll s m args below meth c H locs 0 0 Q (F0 m 64 ls []) := by
  intro he wt br st wa va sk v1 v2 H locs ls h Z hl
  unfold mX4_worksAll_64 at h
  refine lv_iload_n C0.1.1 C0.1.2.1 dX4_worksAll_64 rfl (lv_at hl 1 rfl) ?_
  refine lv_aload_n C0.1.1 C0.1.2.1 dX4_worksAll_65 rfl (lv_at hl 0 rfl) ?_
  refine g_get (ci := 6) (v := .ref (a 7)) (T := TX4) (N := 16) C0.1 Z 0 rfl rfl 10 (by decide) kX4_worksAll_in kX4_worksAll_f29 rfl rfl dX4_worksAll_66 ?_
  refine lv_iload_n C0.1.1 C0.1.2.1 dX4_worksAll_69 rfl (lv_at hl 2 rfl) ?_
  obtain ⟨hi1, h⟩ := g_ni h
  refine g_iald (f := st) (n := 30) C0.1 Z 7 0 rfl rfl hi1 dX4_worksAll_70 ?_
  refine lv_if_ne (tgt := 78) C0.1.1 C0.1.2.1 dX4_worksAll_71 (by decide) (fun hc => ?_) (fun hc => ?_)
  · replace h := (if_neg hc).symm.trans h
    refine lv_iconst (v := 0) C0.1.1 C0.1.2.1 dX4_worksAll_78 (by decide) ?_
    exact wX4_worksAll_79 (N := N) C0 hret hr24 hr32 he wt br st wa va sk v2 v1 (0 : Int32) _ _ _ h Z (lv_sub hl [0, 2] rfl)
  · replace h := (if_pos hc).symm.trans h
    refine lv_iconst (v := 1) C0.1.1 C0.1.2.1 dX4_worksAll_74 (by decide) ?_
    refine lv_goto (tgt := 79) C0.1.1 C0.1.2.1 dX4_worksAll_75 (by decide) ?_
    exact wX4_worksAll_79 (N := N) C0 hret hr24 hr32 he wt br st wa va sk v2 v1 (1 : Int32) _ _ _ h Z (lv_sub hl [0, 2] rfl)
set_option maxRecDepth 20000 in
set_option maxHeartbeats 4000000 in
theorem wX4_worksAll_32_b {p : Program} {l : Launch} {e : Env} {s : State} {m : MethodId} {args : Array Value} {below : List Frame} {meth : Method} {c : Code} {Q : State → Prop} {D : va_G} {cyI cyJ cyO : ClassId} {A : Nat → Prop} {bs : Nat} {a : Nat → Nat} {Y : va_W} {th : Int32} {df : Int32} {la : Int32} {fo : Int32} {dr : Nat → Int32} {fm : Nat → Int32} {sz : Nat → Int32} {om : Nat → Int32} {os : Nat → Int32} {N : Nat} {res : Int32 × Int32 × Int32 × (Nat → Int32) × (Nat → Int32) × (Nat → Int64) × (Nat → Int64)} (C0 : gC p m meth c cX4_worksAll 3 none s args wsX4_worksAll RX4) (hret : ∀ (he_r : Int32) (wt_r : Int32) (br_r : Int32) (st_r : Nat → Int32) (wa_r : Nat → Int32) (va_r : Nat → Int64) (sk_r : Nat → Int64) (H : Heap) (locs : List Loc) (pc : Nat) (ls : Array Slot), some (he_r, wt_r, br_r, st_r, wa_r, va_r, sk_r) = some res → gZ D (gT cyI cyJ cyO) (XM a cyI cyJ th df la fo he_r wt_r br_r dr fm sz om os st_r wa_r va_r sk_r ++ Y) A bs s H locs → decode cX4_worksAll pc = .ok (.return_, 1) → W p l e rmX4_worksAll s m args below meth c H locs 0 0 Q (F0 m pc ls [])) {r24 : Int32 → Int32 → Int32 → (Nat → Int32) → (Nat → Int32) → (Nat → Int64) → (Nat → Int64) → Int32 → Option (Int32 × Int32 × Int32 × (Nat → Int32) × (Nat → Int32) × (Nat → Int64) × (Nat → Int64))} (hr24 : ∀ (he : Int32) (wt : Int32) (br : Int32) (st : Nat → Int32) (wa : Nat → Int32) (va : Nat → Int64) (sk : Nat → Int64) (v1 : Int32) (H : Heap) (locs : List Loc) (ls : Array Slot), r24 he wt br st wa va sk v1 = some res → gZ D (gT cyI cyJ cyO) (XM a cyI cyJ th df la fo he wt br dr fm sz om os st wa va sk ++ Y) A bs s H locs → lv_has ls 3 [(0, .ref (a 0)), (1, .int v1)] → W p l e rmX4_worksAll s m args below meth c H locs 0 0 Q (F0 m 24 ls [])) {r32 : Int32 → Int32 → Int32 → (Nat → Int32) → (Nat → Int32) → (Nat → Int64) → (Nat → Int64) → Int32 → Int32 → Option (Int32 × Int32 × Int32 × (Nat → Int32) × (Nat → Int32) × (Nat → Int64) × (Nat → Int64))} (hr32 : ∀ (he : Int32) (wt : Int32) (br : Int32) (st : Nat → Int32) (wa : Nat → Int32) (va : Nat → Int64) (sk : Nat → Int64) (v1 : Int32) (v2 : Int32) (H : Heap) (locs : List Loc) (ls : Array Slot), r32 he wt br st wa va sk v1 v2 = some res → gZ D (gT cyI cyJ cyO) (XM a cyI cyJ th df la fo he wt br dr fm sz om os st wa va sk ++ Y) A bs s H locs → lv_has ls 3 [(0, .ref (a 0)), (1, .int v1), (2, .int v2)] → W p l e rmX4_worksAll s m args below meth c H locs 0 0 Q (F0 m 32 ls [])) : ∀ (he : Int32) (wt : Int32) (br : Int32) (st : Nat → Int32) (wa : Nat → Int32) (va : Nat → Int64) (sk : Nat → Int64) (v1 : Int32) (v2 : Int32) (H : Heap) (locs : List Loc) (ls : Array Slot), mX4_worksAll_32_b N fm sz r24 r32 he wt br st wa va sk v1 v2 = some res → gZ D (gT cyI cyJ cyO) (XM a cyI cyJ th df la fo he wt br dr fm sz om os st wa va sk ++ Y) A bs s H locs → lv_has ls 3 [(0, .ref (a 0)), (1, .int v1), (2, .int v2)] → W p l e rmX4_worksAll s m args below meth c H locs 0 0 Q (F0 m 32 ls []) := by
  intro he wt br st wa va sk v1 v2 H locs ls h Z hl
  unfold mX4_worksAll_32_b at h
  refine lv_iload_n C0.1.1 C0.1.2.1 dX4_worksAll_32 rfl (lv_at hl 2 rfl) ?_
  refine lv_bipush (v := 30) C0.1.1 C0.1.2.1 dX4_worksAll_33 (by decide +kernel) ?_
  refine lv_icmp_ge (tgt := 87) C0.1.1 C0.1.2.1 dX4_worksAll_35 (by decide) (fun hc => ?_) (fun hc => ?_)
  · replace h := (if_pos hc).symm.trans h
    refine lv_goto (tgt := 24) C0.1.1 C0.1.2.1 dX4_worksAll_87 (by decide) ?_
    exact hr24 he wt br st wa va sk v1 _ _ _ h Z (lv_sub hl [0, 1] rfl)
  · replace h := (if_neg hc).symm.trans h
    refine lv_aload_n C0.1.1 C0.1.2.1 dX4_worksAll_38 rfl (lv_at hl 0 rfl) ?_
    refine g_get (ci := 6) (v := .ref (a 7)) (T := TX4) (N := 16) C0.1 Z 0 rfl rfl 10 (by decide) kX4_worksAll_in kX4_worksAll_f29 rfl rfl dX4_worksAll_39 ?_
    refine lv_iload_n C0.1.1 C0.1.2.1 dX4_worksAll_42 rfl (lv_at hl 2 rfl) ?_
    obtain ⟨hi2, h⟩ := g_ni h
    refine g_iald (f := st) (n := 30) C0.1 Z 7 0 rfl rfl hi2 dX4_worksAll_43 ?_
    refine lv_if_ne (tgt := 64) C0.1.1 C0.1.2.1 dX4_worksAll_44 (by decide) (fun hc => ?_) (fun hc => ?_)
    · replace h := (if_neg hc).symm.trans h
      exact wX4_worksAll_64 (N := N) C0 hret hr24 hr32 he wt br st wa va sk v1 v2 _ _ _ h Z (lv_sub hl [0, 1, 2] rfl)
    · replace h := (if_pos hc).symm.trans h
      refine lv_aload_n C0.1.1 C0.1.2.1 dX4_worksAll_47 rfl (lv_at hl 0 rfl) ?_
      refine lv_aload_n C0.1.1 C0.1.2.1 dX4_worksAll_48 rfl (lv_at hl 0 rfl) ?_
      refine lv_iload_n C0.1.1 C0.1.2.1 dX4_worksAll_49 rfl (lv_at hl 2 rfl) ?_
      obtain ⟨x3, hx4, h⟩ := g_bd h
      refine g_callVi (b := a 0) (As := [.int v2]) (rest := [.ref (a 0)]) (ws' := (fun (u : Unit) => (XM a cyI cyJ th df la fo he wt br dr fm sz om os st wa va sk ++ Y))) C0.1 Z (zX4_refersOf l D cyI cyJ cyO A bs Z.2.2.2.2.2 a Y th df la fo he wt br dr fm sz om os st wa va sk N v2 x3 hx4) (cwV 1 C0.1.2.2.2.2 gX4_worksAll_X4_refersOf rfl rfl rfl (by decide +kernel) ⟨Nat.le_of_ble_eq_true rfl, Nat.le_of_ble_eq_true rfl⟩) 0 (ci := 6) rfl rfl rfl rfl hl.1 rfl (Nat.le_of_ble_eq_true rfl) dX4_worksAll_50 ⟨Nat.zero_le _, Nat.zero_le _⟩ (fun r u H locs hw Z => ?_)
      subst hw
      obtain ⟨x5, hx6, h⟩ := g_bd h
      refine g_callVi (b := a 0) (As := [.int x3]) (rest := []) (ws' := (fun (u : Unit) => (XM a cyI cyJ th df la fo he wt br dr fm sz om os st wa va sk ++ Y))) C0.1 Z (zX4_areKnown l D cyI cyJ cyO A bs Z.2.2.2.2.2 a Y th df la fo he wt br dr fm sz om os st wa va sk N x3 x5 hx6) (cwV 1 C0.1.2.2.2.2 gX4_worksAll_X4_areKnown rfl rfl rfl (by decide +kernel) ⟨Nat.le_of_ble_eq_true rfl, Nat.le_of_ble_eq_true rfl⟩) 0 (ci := 6) rfl rfl rfl rfl hl.1 rfl (Nat.le_of_ble_eq_true rfl) dX4_worksAll_53 ⟨Nat.zero_le _, Nat.zero_le _⟩ (fun r u H locs hw Z => ?_)
      subst hw
      refine lv_if_eq (tgt := 64) C0.1.1 C0.1.2.1 dX4_worksAll_56 (by decide) (fun hc => ?_) (fun hc => ?_)
      · replace h := (if_pos hc).symm.trans h
        exact wX4_worksAll_64 (N := N) C0 hret hr24 hr32 he wt br st wa va sk v1 v2 _ _ _ h Z (lv_sub hl [0, 1, 2] rfl)
      · replace h := (if_neg hc).symm.trans h
        refine lv_aload_n C0.1.1 C0.1.2.1 dX4_worksAll_59 rfl (lv_at hl 0 rfl) ?_
        refine lv_iload_n C0.1.1 C0.1.2.1 dX4_worksAll_60 rfl (lv_at hl 2 rfl) ?_
        obtain ⟨x7, hx8, h⟩ := g_bd h
        refine g_callVv (b := a 0) (As := [.int v2]) (rest := []) (ws' := (fun (u : Int32 × Int32 × Int32 × (Nat → Int32) × (Nat → Int32) × (Nat → Int64) × (Nat → Int64)) => (XM a cyI cyJ th df la fo u.1 u.2.1 u.2.2.1 dr fm sz om os u.2.2.2.1 u.2.2.2.2.1 u.2.2.2.2.2.1 u.2.2.2.2.2.2 ++ Y))) C0.1 Z (zX4_works l D cyI cyJ cyO A bs Z.2.2.2.2.2 a Y th df la fo he wt br dr fm sz om os st wa va sk N v2 x7 hx8) (cwV 1 C0.1.2.2.2.2 gX4_worksAll_X4_works rfl rfl rfl (by decide +kernel) ⟨Nat.le_of_ble_eq_true rfl, Nat.le_of_ble_eq_true rfl⟩) 0 (ci := 6) rfl rfl rfl rfl hl.1 rfl (Nat.le_of_ble_eq_true rfl) dX4_worksAll_61 ⟨Nat.zero_le _, Nat.zero_le _⟩ (fun u H locs hw Z => ?_)
        subst hw
        exact wX4_worksAll_64 (N := N) C0 hret hr24 hr32 x7.1 x7.2.1 x7.2.2.1 x7.2.2.2.1 x7.2.2.2.2.1 x7.2.2.2.2.2.1 x7.2.2.2.2.2.2 v1 v2 _ _ _ h Z (lv_sub hl [0, 1, 2] rfl)
theorem wX4_worksAll_32 {p : Program} {l : Launch} {e : Env} {s : State} {m : MethodId} {args : Array Value} {below : List Frame} {meth : Method} {c : Code} {Q : State → Prop} {D : va_G} {cyI cyJ cyO : ClassId} {A : Nat → Prop} {bs : Nat} {a : Nat → Nat} {Y : va_W} {th : Int32} {df : Int32} {la : Int32} {fo : Int32} {dr : Nat → Int32} {fm : Nat → Int32} {sz : Nat → Int32} {om : Nat → Int32} {os : Nat → Int32} {N : Nat} {res : Int32 × Int32 × Int32 × (Nat → Int32) × (Nat → Int32) × (Nat → Int64) × (Nat → Int64)} (C0 : gC p m meth c cX4_worksAll 3 none s args wsX4_worksAll RX4) (hret : ∀ (he_r : Int32) (wt_r : Int32) (br_r : Int32) (st_r : Nat → Int32) (wa_r : Nat → Int32) (va_r : Nat → Int64) (sk_r : Nat → Int64) (H : Heap) (locs : List Loc) (pc : Nat) (ls : Array Slot), some (he_r, wt_r, br_r, st_r, wa_r, va_r, sk_r) = some res → gZ D (gT cyI cyJ cyO) (XM a cyI cyJ th df la fo he_r wt_r br_r dr fm sz om os st_r wa_r va_r sk_r ++ Y) A bs s H locs → decode cX4_worksAll pc = .ok (.return_, 1) → W p l e rmX4_worksAll s m args below meth c H locs 0 0 Q (F0 m pc ls [])) {r24 : Int32 → Int32 → Int32 → (Nat → Int32) → (Nat → Int32) → (Nat → Int64) → (Nat → Int64) → Int32 → Option (Int32 × Int32 × Int32 × (Nat → Int32) × (Nat → Int32) × (Nat → Int64) × (Nat → Int64))} (hr24 : ∀ (he : Int32) (wt : Int32) (br : Int32) (st : Nat → Int32) (wa : Nat → Int32) (va : Nat → Int64) (sk : Nat → Int64) (v1 : Int32) (H : Heap) (locs : List Loc) (ls : Array Slot), r24 he wt br st wa va sk v1 = some res → gZ D (gT cyI cyJ cyO) (XM a cyI cyJ th df la fo he wt br dr fm sz om os st wa va sk ++ Y) A bs s H locs → lv_has ls 3 [(0, .ref (a 0)), (1, .int v1)] → W p l e rmX4_worksAll s m args below meth c H locs 0 0 Q (F0 m 24 ls [])) : ∀ (n : Nat), ∀ (he : Int32) (wt : Int32) (br : Int32) (st : Nat → Int32) (wa : Nat → Int32) (va : Nat → Int64) (sk : Nat → Int64) (v1 : Int32) (v2 : Int32) (H : Heap) (locs : List Loc) (ls : Array Slot), mX4_worksAll_32 N fm sz r24 n he wt br st wa va sk v1 v2 = some res → gZ D (gT cyI cyJ cyO) (XM a cyI cyJ th df la fo he wt br dr fm sz om os st wa va sk ++ Y) A bs s H locs → lv_has ls 3 [(0, .ref (a 0)), (1, .int v1), (2, .int v2)] → W p l e rmX4_worksAll s m args below meth c H locs 0 0 Q (F0 m 32 ls []) := by
  intro n
  induction n with
  | zero => intro _ _ _ _ _ _ _ _ _ _ _ _ h; cases h
  | succ n ih => exact wX4_worksAll_32_b (N := N) C0 hret hr24 ih
set_option maxRecDepth 20000 in
set_option maxHeartbeats 4000000 in
theorem wX4_worksAll_24_b {p : Program} {l : Launch} {e : Env} {s : State} {m : MethodId} {args : Array Value} {below : List Frame} {meth : Method} {c : Code} {Q : State → Prop} {D : va_G} {cyI cyJ cyO : ClassId} {A : Nat → Prop} {bs : Nat} {a : Nat → Nat} {Y : va_W} {th : Int32} {df : Int32} {la : Int32} {fo : Int32} {dr : Nat → Int32} {fm : Nat → Int32} {sz : Nat → Int32} {om : Nat → Int32} {os : Nat → Int32} {N : Nat} {res : Int32 × Int32 × Int32 × (Nat → Int32) × (Nat → Int32) × (Nat → Int64) × (Nat → Int64)} (C0 : gC p m meth c cX4_worksAll 3 none s args wsX4_worksAll RX4) (hret : ∀ (he_r : Int32) (wt_r : Int32) (br_r : Int32) (st_r : Nat → Int32) (wa_r : Nat → Int32) (va_r : Nat → Int64) (sk_r : Nat → Int64) (H : Heap) (locs : List Loc) (pc : Nat) (ls : Array Slot), some (he_r, wt_r, br_r, st_r, wa_r, va_r, sk_r) = some res → gZ D (gT cyI cyJ cyO) (XM a cyI cyJ th df la fo he_r wt_r br_r dr fm sz om os st_r wa_r va_r sk_r ++ Y) A bs s H locs → decode cX4_worksAll pc = .ok (.return_, 1) → W p l e rmX4_worksAll s m args below meth c H locs 0 0 Q (F0 m pc ls [])) {r24 : Int32 → Int32 → Int32 → (Nat → Int32) → (Nat → Int32) → (Nat → Int64) → (Nat → Int64) → Int32 → Option (Int32 × Int32 × Int32 × (Nat → Int32) × (Nat → Int32) × (Nat → Int64) × (Nat → Int64))} (hr24 : ∀ (he : Int32) (wt : Int32) (br : Int32) (st : Nat → Int32) (wa : Nat → Int32) (va : Nat → Int64) (sk : Nat → Int64) (v1 : Int32) (H : Heap) (locs : List Loc) (ls : Array Slot), r24 he wt br st wa va sk v1 = some res → gZ D (gT cyI cyJ cyO) (XM a cyI cyJ th df la fo he wt br dr fm sz om os st wa va sk ++ Y) A bs s H locs → lv_has ls 3 [(0, .ref (a 0)), (1, .int v1)] → W p l e rmX4_worksAll s m args below meth c H locs 0 0 Q (F0 m 24 ls [])) : ∀ (he : Int32) (wt : Int32) (br : Int32) (st : Nat → Int32) (wa : Nat → Int32) (va : Nat → Int64) (sk : Nat → Int64) (v1 : Int32) (H : Heap) (locs : List Loc) (ls : Array Slot), mX4_worksAll_24_b N fm sz r24 he wt br st wa va sk v1 = some res → gZ D (gT cyI cyJ cyO) (XM a cyI cyJ th df la fo he wt br dr fm sz om os st wa va sk ++ Y) A bs s H locs → lv_has ls 3 [(0, .ref (a 0)), (1, .int v1)] → W p l e rmX4_worksAll s m args below meth c H locs 0 0 Q (F0 m 24 ls []) := by
  intro he wt br st wa va sk v1 H locs ls h Z hl
  unfold mX4_worksAll_24_b at h
  refine lv_iload_n C0.1.1 C0.1.2.1 dX4_worksAll_24 rfl (lv_at hl 1 rfl) ?_
  refine lv_if_le (tgt := 90) C0.1.1 C0.1.2.1 dX4_worksAll_25 (by decide) (fun hc => ?_) (fun hc => ?_)
  · replace h := (if_pos hc).symm.trans h
    exact hret he wt br st wa va sk _ _ _ _ h Z dX4_worksAll_90
  · replace h := (if_neg hc).symm.trans h
    refine lv_iconst (v := 0) C0.1.1 C0.1.2.1 dX4_worksAll_28 (by decide) ?_
    refine lv_istore_n (lv' := [(1, .int (0 : Int32)), (0, .ref (a 0))]) C0.1.1 C0.1.2.1 dX4_worksAll_29 rfl hl (by decide) rfl (fun ls hl => ?_)
    refine lv_iconst (v := 0) C0.1.1 C0.1.2.1 dX4_worksAll_30 (by decide) ?_
    refine lv_istore_n (lv' := [(2, .int (0 : Int32)), (1, .int (0 : Int32)), (0, .ref (a 0))]) C0.1.1 C0.1.2.1 dX4_worksAll_31 rfl hl (by decide) rfl (fun ls hl => ?_)
    exact wX4_worksAll_32 (N := N) C0 hret hr24 N he wt br st wa va sk (0 : Int32) (0 : Int32) _ _ _ h Z (lv_sub hl [2, 1, 0] rfl)
theorem wX4_worksAll_24 {p : Program} {l : Launch} {e : Env} {s : State} {m : MethodId} {args : Array Value} {below : List Frame} {meth : Method} {c : Code} {Q : State → Prop} {D : va_G} {cyI cyJ cyO : ClassId} {A : Nat → Prop} {bs : Nat} {a : Nat → Nat} {Y : va_W} {th : Int32} {df : Int32} {la : Int32} {fo : Int32} {dr : Nat → Int32} {fm : Nat → Int32} {sz : Nat → Int32} {om : Nat → Int32} {os : Nat → Int32} {N : Nat} {res : Int32 × Int32 × Int32 × (Nat → Int32) × (Nat → Int32) × (Nat → Int64) × (Nat → Int64)} (C0 : gC p m meth c cX4_worksAll 3 none s args wsX4_worksAll RX4) (hret : ∀ (he_r : Int32) (wt_r : Int32) (br_r : Int32) (st_r : Nat → Int32) (wa_r : Nat → Int32) (va_r : Nat → Int64) (sk_r : Nat → Int64) (H : Heap) (locs : List Loc) (pc : Nat) (ls : Array Slot), some (he_r, wt_r, br_r, st_r, wa_r, va_r, sk_r) = some res → gZ D (gT cyI cyJ cyO) (XM a cyI cyJ th df la fo he_r wt_r br_r dr fm sz om os st_r wa_r va_r sk_r ++ Y) A bs s H locs → decode cX4_worksAll pc = .ok (.return_, 1) → W p l e rmX4_worksAll s m args below meth c H locs 0 0 Q (F0 m pc ls []))  : ∀ (n : Nat), ∀ (he : Int32) (wt : Int32) (br : Int32) (st : Nat → Int32) (wa : Nat → Int32) (va : Nat → Int64) (sk : Nat → Int64) (v1 : Int32) (H : Heap) (locs : List Loc) (ls : Array Slot), mX4_worksAll_24 N fm sz n he wt br st wa va sk v1 = some res → gZ D (gT cyI cyJ cyO) (XM a cyI cyJ th df la fo he wt br dr fm sz om os st wa va sk ++ Y) A bs s H locs → lv_has ls 3 [(0, .ref (a 0)), (1, .int v1)] → W p l e rmX4_worksAll s m args below meth c H locs 0 0 Q (F0 m 24 ls []) := by
  intro n
  induction n with
  | zero => intro _ _ _ _ _ _ _ _ _ _ _ h; cases h
  | succ n ih => exact wX4_worksAll_24_b (N := N) C0 hret ih
set_option maxRecDepth 20000 in
set_option maxHeartbeats 4000000 in
theorem wX4_worksAll_2_b {p : Program} {l : Launch} {e : Env} {s : State} {m : MethodId} {args : Array Value} {below : List Frame} {meth : Method} {c : Code} {Q : State → Prop} {D : va_G} {cyI cyJ cyO : ClassId} {A : Nat → Prop} {bs : Nat} {a : Nat → Nat} {Y : va_W} {th : Int32} {df : Int32} {la : Int32} {fo : Int32} {dr : Nat → Int32} {fm : Nat → Int32} {sz : Nat → Int32} {om : Nat → Int32} {os : Nat → Int32} {N : Nat} {res : Int32 × Int32 × Int32 × (Nat → Int32) × (Nat → Int32) × (Nat → Int64) × (Nat → Int64)} (C0 : gC p m meth c cX4_worksAll 3 none s args wsX4_worksAll RX4) (hret : ∀ (he_r : Int32) (wt_r : Int32) (br_r : Int32) (st_r : Nat → Int32) (wa_r : Nat → Int32) (va_r : Nat → Int64) (sk_r : Nat → Int64) (H : Heap) (locs : List Loc) (pc : Nat) (ls : Array Slot), some (he_r, wt_r, br_r, st_r, wa_r, va_r, sk_r) = some res → gZ D (gT cyI cyJ cyO) (XM a cyI cyJ th df la fo he_r wt_r br_r dr fm sz om os st_r wa_r va_r sk_r ++ Y) A bs s H locs → decode cX4_worksAll pc = .ok (.return_, 1) → W p l e rmX4_worksAll s m args below meth c H locs 0 0 Q (F0 m pc ls [])) {r2 : Int32 → Int32 → Int32 → (Nat → Int32) → (Nat → Int32) → (Nat → Int64) → (Nat → Int64) → Int32 → Option (Int32 × Int32 × Int32 × (Nat → Int32) × (Nat → Int32) × (Nat → Int64) × (Nat → Int64))} (hr2 : ∀ (he : Int32) (wt : Int32) (br : Int32) (st : Nat → Int32) (wa : Nat → Int32) (va : Nat → Int64) (sk : Nat → Int64) (v1 : Int32) (H : Heap) (locs : List Loc) (ls : Array Slot), r2 he wt br st wa va sk v1 = some res → gZ D (gT cyI cyJ cyO) (XM a cyI cyJ th df la fo he wt br dr fm sz om os st wa va sk ++ Y) A bs s H locs → lv_has ls 3 [(0, .ref (a 0)), (1, .int v1)] → W p l e rmX4_worksAll s m args below meth c H locs 0 0 Q (F0 m 2 ls [])) : ∀ (he : Int32) (wt : Int32) (br : Int32) (st : Nat → Int32) (wa : Nat → Int32) (va : Nat → Int64) (sk : Nat → Int64) (v1 : Int32) (H : Heap) (locs : List Loc) (ls : Array Slot), mX4_worksAll_2_b N fm sz r2 he wt br st wa va sk v1 = some res → gZ D (gT cyI cyJ cyO) (XM a cyI cyJ th df la fo he wt br dr fm sz om os st wa va sk ++ Y) A bs s H locs → lv_has ls 3 [(0, .ref (a 0)), (1, .int v1)] → W p l e rmX4_worksAll s m args below meth c H locs 0 0 Q (F0 m 2 ls []) := by
  intro he wt br st wa va sk v1 H locs ls h Z hl
  unfold mX4_worksAll_2_b at h
  refine lv_iload_n C0.1.1 C0.1.2.1 dX4_worksAll_2 rfl (lv_at hl 1 rfl) ?_
  refine lv_bipush (v := 30) C0.1.1 C0.1.2.1 dX4_worksAll_3 (by decide +kernel) ?_
  refine lv_icmp_ge (tgt := 21) C0.1.1 C0.1.2.1 dX4_worksAll_5 (by decide) (fun hc => ?_) (fun hc => ?_)
  · replace h := (if_pos hc).symm.trans h
    refine lv_bipush (v := 30) C0.1.1 C0.1.2.1 dX4_worksAll_21 (by decide +kernel) ?_
    refine lv_istore_n (lv' := [(1, .int (30 : Int32)), (0, .ref (a 0))]) C0.1.1 C0.1.2.1 dX4_worksAll_23 rfl hl (by decide) rfl (fun ls hl => ?_)
    exact wX4_worksAll_24 (N := N) C0 hret N he wt br st wa va sk (30 : Int32) _ _ _ h Z (lv_sub hl [1, 0] rfl)
  · replace h := (if_neg hc).symm.trans h
    refine lv_aload_n C0.1.1 C0.1.2.1 dX4_worksAll_8 rfl (lv_at hl 0 rfl) ?_
    refine g_get (ci := 6) (v := .ref (a 7)) (T := TX4) (N := 16) C0.1 Z 0 rfl rfl 10 (by decide) kX4_worksAll_in kX4_worksAll_f29 rfl rfl dX4_worksAll_9 ?_
    refine lv_iload_n C0.1.1 C0.1.2.1 dX4_worksAll_12 rfl (lv_at hl 1 rfl) ?_
    refine lv_iconst (v := 0) C0.1.1 C0.1.2.1 dX4_worksAll_13 (by decide) ?_
    obtain ⟨hi9, h⟩ := g_ni h
    refine g_iast (f := st) (n := 30) (ws' := (XM a cyI cyJ th df la fo he wt br dr fm sz om os (upd st v1.toNatClampNeg (0 : Int32)) wa va sk ++ Y)) C0.1 Z 7 0 rfl rfl hi9 dX4_worksAll_14 rfl (fun H locs Z => ?_)
    refine lv_iinc (v := v1 + (1 : Int32)) (lv' := [(1, .int (v1 + (1 : Int32))), (0, .ref (a 0))]) C0.1.1 C0.1.2.1 dX4_worksAll_15 hl (k := 1) rfl rfl (by decide) rfl (fun ls hl => ?_)
    refine lv_goto (tgt := 2) C0.1.1 C0.1.2.1 dX4_worksAll_18 (by decide) ?_
    exact hr2 he wt br (upd st v1.toNatClampNeg (0 : Int32)) wa va sk (v1 + (1 : Int32)) _ _ _ h Z (lv_sub hl [1, 0] rfl)
theorem wX4_worksAll_2 {p : Program} {l : Launch} {e : Env} {s : State} {m : MethodId} {args : Array Value} {below : List Frame} {meth : Method} {c : Code} {Q : State → Prop} {D : va_G} {cyI cyJ cyO : ClassId} {A : Nat → Prop} {bs : Nat} {a : Nat → Nat} {Y : va_W} {th : Int32} {df : Int32} {la : Int32} {fo : Int32} {dr : Nat → Int32} {fm : Nat → Int32} {sz : Nat → Int32} {om : Nat → Int32} {os : Nat → Int32} {N : Nat} {res : Int32 × Int32 × Int32 × (Nat → Int32) × (Nat → Int32) × (Nat → Int64) × (Nat → Int64)} (C0 : gC p m meth c cX4_worksAll 3 none s args wsX4_worksAll RX4) (hret : ∀ (he_r : Int32) (wt_r : Int32) (br_r : Int32) (st_r : Nat → Int32) (wa_r : Nat → Int32) (va_r : Nat → Int64) (sk_r : Nat → Int64) (H : Heap) (locs : List Loc) (pc : Nat) (ls : Array Slot), some (he_r, wt_r, br_r, st_r, wa_r, va_r, sk_r) = some res → gZ D (gT cyI cyJ cyO) (XM a cyI cyJ th df la fo he_r wt_r br_r dr fm sz om os st_r wa_r va_r sk_r ++ Y) A bs s H locs → decode cX4_worksAll pc = .ok (.return_, 1) → W p l e rmX4_worksAll s m args below meth c H locs 0 0 Q (F0 m pc ls []))  : ∀ (n : Nat), ∀ (he : Int32) (wt : Int32) (br : Int32) (st : Nat → Int32) (wa : Nat → Int32) (va : Nat → Int64) (sk : Nat → Int64) (v1 : Int32) (H : Heap) (locs : List Loc) (ls : Array Slot), mX4_worksAll_2 N fm sz n he wt br st wa va sk v1 = some res → gZ D (gT cyI cyJ cyO) (XM a cyI cyJ th df la fo he wt br dr fm sz om os st wa va sk ++ Y) A bs s H locs → lv_has ls 3 [(0, .ref (a 0)), (1, .int v1)] → W p l e rmX4_worksAll s m args below meth c H locs 0 0 Q (F0 m 2 ls []) := by
  intro n
  induction n with
  | zero => intro _ _ _ _ _ _ _ _ _ _ _ h; cases h
  | succ n ih => exact wX4_worksAll_2_b (N := N) C0 hret ih
set_option maxRecDepth 20000 in
set_option maxHeartbeats 4000000 in
theorem zX4_worksAll (l : Launch) (D : va_G) (cyI cyJ cyO : ClassId) (A : Nat → Prop) (bs : Nat) (hA : ∀ q, bs ≤ q → A q) (a : Nat → Nat) (Y : va_W) (th : Int32) (df : Int32) (la : Int32) (fo : Int32) (he : Int32) (wt : Int32) (br : Int32) (dr : Nat → Int32) (fm : Nat → Int32) (sz : Nat → Int32) (om : Nat → Int32) (os : Nat → Int32) (st : Nat → Int32) (wa : Nat → Int32) (va : Nat → Int64) (sk : Nat → Int64) (N : Nat)  (res : Int32 × Int32 × Int32 × (Nat → Int32) × (Nat → Int32) × (Nat → Int64) × (Nat → Int64)) (h : mX4_worksAll N fm sz he wt br st wa va sk = some res) : Met l yX4_worksAll wsX4_worksAll rmX4_worksAll (va_Pc [.ref (a 0)] (gW D (gT cyI cyJ cyO) (XM a cyI cyJ th df la fo he wt br dr fm sz om os st wa va sk ++ Y) A bs)) (va_Qv (fun (u : Int32 × Int32 × Int32 × (Nat → Int32) × (Nat → Int32) × (Nat → Int64) × (Nat → Int64)) => res = u) (fun (u : Int32 × Int32 × Int32 × (Nat → Int32) × (Nat → Int32) × (Nat → Int64) × (Nat → Int64)) U => gW D (gT cyI cyJ cyO) (XM a cyI cyJ th df la fo u.1 u.2.1 u.2.2.1 dr fm sz om os u.2.2.2.1 u.2.2.2.2.1 u.2.2.2.2.2.1 u.2.2.2.2.2.2 ++ Y) A bs U) A) 0 0 A := by
  refine Met.ofW (cc := cX4_worksAll) (maxL := 3) (ret := none) (by decide) rfl ?_
  intro p e s m args below meth c s₁ B hml hv
  obtain ⟨hav, hv⟩ := hv
  have C0 : gC p m meth c cX4_worksAll 3 none s args wsX4_worksAll RX4 := ⟨⟨B.exec, B.bytes, hml, findClass_of_methodNamed B.named, atoms_spec (ws := wsX4_worksAll) B.pre⟩, B.returns, B.notSynchronized⟩
  have Z := g_start hA hv
  have hret : ∀ (he_r : Int32) (wt_r : Int32) (br_r : Int32) (st_r : Nat → Int32) (wa_r : Nat → Int32) (va_r : Nat → Int64) (sk_r : Nat → Int64) (H : Heap) (locs : List Loc) (pc : Nat) (ls : Array Slot), some (he_r, wt_r, br_r, st_r, wa_r, va_r, sk_r) = some res → gZ D (gT cyI cyJ cyO) (XM a cyI cyJ th df la fo he_r wt_r br_r dr fm sz om os st_r wa_r va_r sk_r ++ Y) A bs s H locs → decode cX4_worksAll pc = .ok (.return_, 1) → W p l e rmX4_worksAll s m args below meth c H locs 0 0 (MQ below (va_Qv (fun (u : Int32 × Int32 × Int32 × (Nat → Int32) × (Nat → Int32) × (Nat → Int64) × (Nat → Int64)) => res = u) (fun (u : Int32 × Int32 × Int32 × (Nat → Int32) × (Nat → Int32) × (Nat → Int64) × (Nat → Int64)) U => gW D (gT cyI cyJ cyO) (XM a cyI cyJ th df la fo u.1 u.2.1 u.2.2.1 dr fm sz om os u.2.2.2.1 u.2.2.2.2.1 u.2.2.2.2.2.1 u.2.2.2.2.2.2 ++ Y) A bs U) A) args s 0 0 A) (F0 m pc ls []) := by
    intro he_r wt_r br_r st_r wa_r va_r sk_r H locs pc ls h Z hd
    replace h := Option.some.inj h
    exact W.vret C0.1.1 C0.1.2.1 C0.2.1 (fun t ht hW => ⟨⟨(he_r, wt_r, br_r, st_r, wa_r, va_r, sk_r), rfl, h.symm, g_end Z ht hW⟩, Z.2.2.2.1.F ht⟩) Z.2.2.2.1.2.2 hd C0.2.2
  have hl := lv_entry ([.ref (a 0)]) (n := 3) (Nat.le_of_ble_eq_true rfl)
  rw [hav, lg_entry_eq]
  generalize (lg_sl ([.ref (a 0)]) ++ List.replicate (3 - (lg_sl ([.ref (a 0)])).length) Slot.unset).toArray = ls at hl ⊢
  have hl : lv_has ls 3 [(0, .ref (a 0))] := hl
  rw [← hav]
  unfold mX4_worksAll at h
  refine lv_iconst (v := 0) C0.1.1 C0.1.2.1 dX4_worksAll_0 (by decide) ?_
  refine lv_istore_n (lv' := [(1, .int (0 : Int32)), (0, .ref (a 0))]) C0.1.1 C0.1.2.1 dX4_worksAll_1 rfl hl (by decide) rfl (fun ls hl => ?_)
  exact wX4_worksAll_2 (N := N) C0 hret N he wt br st wa va sk (0 : Int32) _ _ _ h Z (lv_sub hl [1, 0] rfl)
/-! X4_errorOfSet -/
abbrev rmX4_errorOfSet : Room := { frames := 4, cells := 0, slots := 0, locals := 91 }
theorem kX4_errorOfSet_f7 : Cond.fieldLink RX4 7 "GoalseekOfficeModel" "draft" "[I" ∈ wsX4_errorOfSet := by decide +kernel
theorem kX4_errorOfSet_in : ∀ w ∈ wsX40, w ∈ wsX4_errorOfSet := by decide +kernel
theorem kX4_errorOfSet_f46 : Cond.fieldLink RX4 46 "GoalseekOfficeModel" "drafted" "I" ∈ wsX4_errorOfSet := by decide +kernel
def mX4_errorOfSet_50 (N : Nat) (df : Int32) (dr : Nat → Int32) (fm : Nat → Int32) (sz : Nat → Int32) (s0 : Int32) : Option (Int32) := some (s0)
def mX4_errorOfSet (N : Nat) (df : Int32) (dr : Nat → Int32) (fm : Nat → Int32) (sz : Nat → Int32) (p0 : Int32) : Option (Int32) := ((mX4_isCell N p0).bind fun x1 => (if x1 = 0 then some ((1 : Int32)) else ((mX4_faultOf N df dr).bind fun x3 => (if x3 = (-1 : Int32) then ((mX4_refers N 15 dr (0 : Int32) df).bind fun x5 => ((mX4_below N fm sz x5).bind fun x7 => (if ((x7 >>> (p0 &&& 31)) &&& (1 : Int32)) = (1 : Int32) then mX4_errorOfSet_50 N df dr fm sz (3 : Int32) else mX4_errorOfSet_50 N df dr fm sz (0 : Int32)))) else mX4_errorOfSet_50 N df dr fm sz (2 : Int32)))))
set_option maxRecDepth 20000 in
set_option maxHeartbeats 4000000 in
theorem wX4_errorOfSet_50 {p : Program} {l : Launch} {e : Env} {s : State} {m : MethodId} {args : Array Value} {below : List Frame} {meth : Method} {c : Code} {Q : State → Prop} {D : va_G} {cyI cyJ cyO : ClassId} {A : Nat → Prop} {bs : Nat} {a : Nat → Nat} {Y : va_W} {th : Int32} {df : Int32} {la : Int32} {fo : Int32} {he : Int32} {wt : Int32} {br : Int32} {dr : Nat → Int32} {fm : Nat → Int32} {sz : Nat → Int32} {om : Nat → Int32} {os : Nat → Int32} {st : Nat → Int32} {wa : Nat → Int32} {va : Nat → Int64} {sk : Nat → Int64} {N : Nat} {res : Int32} (C0 : gC p m meth c cX4_errorOfSet 2 (some .int) s args wsX4_errorOfSet RX4) (hret : ∀ (r : Int32) (H : Heap) (locs : List Loc) (pc : Nat) (ls : Array Slot), some r = some res → gZ D (gT cyI cyJ cyO) (XM a cyI cyJ th df la fo he wt br dr fm sz om os st wa va sk ++ Y) A bs s H locs → decode cX4_errorOfSet pc = .ok (.ireturn, 1) → W p l e rmX4_errorOfSet s m args below meth c H locs 0 0 Q (F0 m pc ls [.int r]))  : ∀ (s0 : Int32) (H : Heap) (locs : List Loc) (ls : Array Slot), mX4_errorOfSet_50 N df dr fm sz s0 = some res → gZ D (gT cyI cyJ cyO) (XM a cyI cyJ th df la fo he wt br dr fm sz om os st wa va sk ++ Y) A bs s H locs → lv_has ls 2 [] → W p l e rmX4_errorOfSet s m args below meth c H locs 0 0 Q (F0 m 50 ls [.int s0]) := by
  intro s0 H locs ls h Z hl
  unfold mX4_errorOfSet_50 at h
  exact hret s0 _ _ _ _ h Z dX4_errorOfSet_50
set_option maxRecDepth 20000 in
set_option maxHeartbeats 4000000 in
theorem zX4_errorOfSet (l : Launch) (D : va_G) (cyI cyJ cyO : ClassId) (A : Nat → Prop) (bs : Nat) (hA : ∀ q, bs ≤ q → A q) (a : Nat → Nat) (Y : va_W) (th : Int32) (df : Int32) (la : Int32) (fo : Int32) (he : Int32) (wt : Int32) (br : Int32) (dr : Nat → Int32) (fm : Nat → Int32) (sz : Nat → Int32) (om : Nat → Int32) (os : Nat → Int32) (st : Nat → Int32) (wa : Nat → Int32) (va : Nat → Int64) (sk : Nat → Int64) (N : Nat) (p0 : Int32) (res : Int32) (h : mX4_errorOfSet N df dr fm sz p0 = some res) : Met l yX4_errorOfSet wsX4_errorOfSet rmX4_errorOfSet (va_Pc [.ref (a 0), .int p0] (gW D (gT cyI cyJ cyO) (XM a cyI cyJ th df la fo he wt br dr fm sz om os st wa va sk ++ Y) A bs)) (va_Qi (fun (r : Int32) (_ : Unit) => res = r) (fun (u : Unit) U => gW D (gT cyI cyJ cyO) (XM a cyI cyJ th df la fo he wt br dr fm sz om os st wa va sk ++ Y) A bs U) A) 0 0 A := by
  refine Met.ofW (cc := cX4_errorOfSet) (maxL := 2) (ret := (some .int)) (by decide) rfl ?_
  intro p e s m args below meth c s₁ B hml hv
  obtain ⟨hav, hv⟩ := hv
  have C0 : gC p m meth c cX4_errorOfSet 2 (some .int) s args wsX4_errorOfSet RX4 := ⟨⟨B.exec, B.bytes, hml, findClass_of_methodNamed B.named, atoms_spec (ws := wsX4_errorOfSet) B.pre⟩, B.returns, B.notSynchronized⟩
  have Z := g_start hA hv
  have hret : ∀ (r : Int32) (H : Heap) (locs : List Loc) (pc : Nat) (ls : Array Slot), some r = some res → gZ D (gT cyI cyJ cyO) (XM a cyI cyJ th df la fo he wt br dr fm sz om os st wa va sk ++ Y) A bs s H locs → decode cX4_errorOfSet pc = .ok (.ireturn, 1) → W p l e rmX4_errorOfSet s m args below meth c H locs 0 0 (MQ below (va_Qi (fun (r : Int32) (_ : Unit) => res = r) (fun (u : Unit) U => gW D (gT cyI cyJ cyO) (XM a cyI cyJ th df la fo he wt br dr fm sz om os st wa va sk ++ Y) A bs U) A) args s 0 0 A) (F0 m pc ls [.int r]) := by
    intro r H locs pc ls h Z hd
    replace h := Option.some.inj h
    exact W.iret C0.1.1 C0.1.2.1 C0.2.1 (fun t ht hW => ⟨⟨r, (()), rfl, h.symm, g_end Z ht hW⟩, Z.2.2.2.1.F ht⟩) Z.2.2.2.1.2.2 hd C0.2.2
  have hl := lv_entry ([.ref (a 0), .int p0]) (n := 2) (Nat.le_of_ble_eq_true rfl)
  rw [hav, lg_entry_eq]
  generalize (lg_sl ([.ref (a 0), .int p0]) ++ List.replicate (2 - (lg_sl ([.ref (a 0), .int p0])).length) Slot.unset).toArray = ls at hl ⊢
  have hl : lv_has ls 2 [(0, .ref (a 0)), (1, .int p0)] := hl
  rw [← hav]
  unfold mX4_errorOfSet at h
  refine lv_iload_n C0.1.1 C0.1.2.1 dX4_errorOfSet_0 rfl (lv_at hl 1 rfl) ?_
  obtain ⟨x1, hx2, h⟩ := g_bd h
  refine g_callSi (As := [.int p0]) (rest := []) (ws' := (fun (u : Unit) => (XM a cyI cyJ th df la fo he wt br dr fm sz om os st wa va sk ++ Y))) C0.1 Z (zX4_isCell l D cyI cyJ cyO A bs Z.2.2.2.2.2 (XM a cyI cyJ th df la fo he wt br dr fm sz om os st wa va sk ++ Y) N p0 x1 hx2) (va_cwS 1 C0.1.2.2.2.2 gX4_errorOfSet_X4_isCell rfl rfl rfl (by decide +kernel) ⟨Nat.le_of_ble_eq_true rfl, Nat.le_of_ble_eq_true rfl⟩) rfl hl.1 rfl (Nat.le_of_ble_eq_true rfl) dX4_errorOfSet_1 ⟨Nat.zero_le _, Nat.zero_le _⟩ (fun r u H locs hw Z => ?_)
  subst hw
  refine lv_if_ne (tgt := 9) C0.1.1 C0.1.2.1 dX4_errorOfSet_4 (by decide) (fun hc => ?_) (fun hc => ?_)
  · replace h := (if_neg hc).symm.trans h
    refine lv_aload_n C0.1.1 C0.1.2.1 dX4_errorOfSet_9 rfl (lv_at hl 0 rfl) ?_
    obtain ⟨x3, hx4, h⟩ := g_bd h
    refine g_callVi (b := a 0) (As := []) (rest := []) (ws' := (fun (u : Unit) => (XM a cyI cyJ th df la fo he wt br dr fm sz om os st wa va sk ++ Y))) C0.1 Z (zX4_faultOf l D cyI cyJ cyO A bs Z.2.2.2.2.2 a Y th df la fo he wt br dr fm sz om os st wa va sk N x3 hx4) (cwV 0 C0.1.2.2.2.2 gX4_errorOfSet_X4_faultOf rfl rfl rfl (by decide +kernel) ⟨Nat.le_of_ble_eq_true rfl, Nat.le_of_ble_eq_true rfl⟩) 0 (ci := 6) rfl rfl rfl rfl hl.1 rfl (Nat.le_of_ble_eq_true rfl) dX4_errorOfSet_10 ⟨Nat.zero_le _, Nat.zero_le _⟩ (fun r u H locs hw Z => ?_)
    subst hw
    refine lv_iconst (v := -1) C0.1.1 C0.1.2.1 dX4_errorOfSet_13 (by decide) ?_
    refine lv_icmp_eq (tgt := 21) C0.1.1 C0.1.2.1 dX4_errorOfSet_14 (by decide) (fun hc => ?_) (fun hc => ?_)
    · replace h := (if_pos hc).symm.trans h
      refine lv_aload_n C0.1.1 C0.1.2.1 dX4_errorOfSet_21 rfl (lv_at hl 0 rfl) ?_
      refine lv_aload_n C0.1.1 C0.1.2.1 dX4_errorOfSet_22 rfl (lv_at hl 0 rfl) ?_
      refine g_get (ci := 6) (v := .ref (a 1)) (T := TX4) (N := 16) C0.1 Z 0 rfl rfl 1 (by decide) kX4_errorOfSet_in kX4_errorOfSet_f7 rfl rfl dX4_errorOfSet_23 ?_
      refine lv_iconst (v := 0) C0.1.1 C0.1.2.1 dX4_errorOfSet_26 (by decide) ?_
      refine lv_aload_n C0.1.1 C0.1.2.1 dX4_errorOfSet_27 rfl (lv_at hl 0 rfl) ?_
      refine g_get (ci := 6) (v := .int df) (T := TX4) (N := 16) C0.1 Z 0 rfl rfl 2 (by decide) kX4_errorOfSet_in kX4_errorOfSet_f46 rfl rfl dX4_errorOfSet_28 ?_
      obtain ⟨x5, hx6, h⟩ := g_bd h
      refine g_callSi (As := [.ref (a 1), .int (0 : Int32), .int df]) (rest := [.ref (a 0)]) (ws' := (fun (u : Unit) => (XM a cyI cyJ th df la fo he wt br dr fm sz om os st wa va sk ++ Y))) C0.1 Z (zX4_refers l D cyI cyJ cyO A bs Z.2.2.2.2.2 (XM a cyI cyJ th df la fo he wt br dr fm sz om os st wa va sk ++ Y) (ra0 := (a 1)) (q0 := 1) (n0 := 15) (f0 := dr) rfl N (0 : Int32) df x5 hx6) (va_cwS 3 C0.1.2.2.2.2 gX4_errorOfSet_X4_refers rfl rfl rfl (by decide +kernel) ⟨Nat.le_of_ble_eq_true rfl, Nat.le_of_ble_eq_true rfl⟩) rfl hl.1 rfl (Nat.le_of_ble_eq_true rfl) dX4_errorOfSet_31 ⟨Nat.zero_le _, Nat.zero_le _⟩ (fun r u H locs hw Z => ?_)
      subst hw
      obtain ⟨x7, hx8, h⟩ := g_bd h
      refine g_callVi (b := a 0) (As := [.int x5]) (rest := []) (ws' := (fun (u : Unit) => (XM a cyI cyJ th df la fo he wt br dr fm sz om os st wa va sk ++ Y))) C0.1 Z (zX4_below l D cyI cyJ cyO A bs Z.2.2.2.2.2 a Y th df la fo he wt br dr fm sz om os st wa va sk N x5 x7 hx8) (cwV 1 C0.1.2.2.2.2 gX4_errorOfSet_X4_below rfl rfl rfl (by decide +kernel) ⟨Nat.le_of_ble_eq_true rfl, Nat.le_of_ble_eq_true rfl⟩) 0 (ci := 6) rfl rfl rfl rfl hl.1 rfl (Nat.le_of_ble_eq_true rfl) dX4_errorOfSet_34 ⟨Nat.zero_le _, Nat.zero_le _⟩ (fun r u H locs hw Z => ?_)
      subst hw
      refine lv_iload_n C0.1.1 C0.1.2.1 dX4_errorOfSet_37 rfl (lv_at hl 1 rfl) ?_
      refine lv_ishr C0.1.1 C0.1.2.1 dX4_errorOfSet_38 ?_
      refine lv_iconst (v := 1) C0.1.1 C0.1.2.1 dX4_errorOfSet_39 (by decide) ?_
      refine lv_iand C0.1.1 C0.1.2.1 dX4_errorOfSet_40 ?_
      refine lv_iconst (v := 1) C0.1.1 C0.1.2.1 dX4_errorOfSet_41 (by decide) ?_
      refine lv_icmp_ne (tgt := 49) C0.1.1 C0.1.2.1 dX4_errorOfSet_42 (by decide) (fun hc => ?_) (fun hc => ?_)
      · replace h := (if_neg hc).symm.trans h
        refine lv_iconst (v := 0) C0.1.1 C0.1.2.1 dX4_errorOfSet_49 (by decide) ?_
        exact wX4_errorOfSet_50 (N := N) C0 hret (0 : Int32) _ _ _ h Z (lv_sub hl [] rfl)
      · replace h := (if_pos hc).symm.trans h
        refine lv_iconst (v := 3) C0.1.1 C0.1.2.1 dX4_errorOfSet_45 (by decide) ?_
        refine lv_goto (tgt := 50) C0.1.1 C0.1.2.1 dX4_errorOfSet_46 (by decide) ?_
        exact wX4_errorOfSet_50 (N := N) C0 hret (3 : Int32) _ _ _ h Z (lv_sub hl [] rfl)
    · replace h := (if_neg hc).symm.trans h
      refine lv_iconst (v := 2) C0.1.1 C0.1.2.1 dX4_errorOfSet_17 (by decide) ?_
      refine lv_goto (tgt := 50) C0.1.1 C0.1.2.1 dX4_errorOfSet_18 (by decide) ?_
      exact wX4_errorOfSet_50 (N := N) C0 hret (2 : Int32) _ _ _ h Z (lv_sub hl [] rfl)
  · replace h := (if_pos hc).symm.trans h
    refine lv_iconst (v := 1) C0.1.1 C0.1.2.1 dX4_errorOfSet_7 (by decide) ?_
    exact hret (1 : Int32) _ _ _ _ h Z dX4_errorOfSet_8
/-! X4_set -/
abbrev rmX4_set : Room := { frames := 5, cells := 0, slots := 0, locals := 114 }
theorem kX4_set_f46 : Cond.fieldLink RX4 46 "GoalseekOfficeModel" "drafted" "I" ∈ wsX4_set := by decide +kernel
theorem kX4_set_in : ∀ w ∈ wsX40, w ∈ wsX4_set := by decide +kernel
theorem kX4_set_f16 : Cond.fieldLink RX4 16 "GoalseekOfficeModel" "sizes" "[I" ∈ wsX4_set := by decide +kernel
theorem kX4_set_f129 : Cond.fieldLink RX4 129 "GoalseekOfficeModel" "found" "I" ∈ wsX4_set := by decide +kernel
theorem kX4_set_f13 : Cond.fieldLink RX4 13 "GoalseekOfficeModel" "formulas" "[I" ∈ wsX4_set := by decide +kernel
theorem kX4_set_f7 : Cond.fieldLink RX4 7 "GoalseekOfficeModel" "draft" "[I" ∈ wsX4_set := by decide +kernel
def mX4_set_16_b (N : Nat) (dr : Nat → Int32) (r16 : Int32 → Int32 → Int32 → (Nat → Int32) → (Nat → Int32) → Int32 → Int32 → Option (Int32 × Int32 × Int32 × Int32 × (Nat → Int32) × (Nat → Int32))) (th : Int32) (df : Int32) (fo : Int32) (fm : Nat → Int32) (sz : Nat → Int32) (v1 : Int32) (v2 : Int32) : Option (Int32 × Int32 × Int32 × Int32 × (Nat → Int32) × (Nat → Int32)) := (if df ≤ v2 then (if v1 < 0 ∨ 30 ≤ v1.toNatClampNeg then none else ((mX4_anew N fm (upd sz v1.toNatClampNeg df) ((1 : Int32) <<< (v1 &&& 31))).bind fun x2 => some (x2, th, (0 : Int32), (fo + x2), fm, (upd sz v1.toNatClampNeg df)))) else (if v2 < 0 ∨ 15 ≤ v2.toNatClampNeg then none else (if (((15 : Int32) * v1) + v2) < 0 ∨ 450 ≤ (((15 : Int32) * v1) + v2).toNatClampNeg then none else r16 th df fo (upd fm (((15 : Int32) * v1) + v2).toNatClampNeg (dr v2.toNatClampNeg)) sz v1 (v2 + (1 : Int32)))))
def mX4_set_16 (N : Nat) (dr : Nat → Int32) : Nat → Int32 → Int32 → Int32 → (Nat → Int32) → (Nat → Int32) → Int32 → Int32 → Option (Int32 × Int32 × Int32 × Int32 × (Nat → Int32) × (Nat → Int32))
  | 0 => fun _ _ _ _ _ _ _ => none
  | n + 1 => fun th df fo fm sz v1 v2 => mX4_set_16_b N dr (mX4_set_16 N dr n) th df fo fm sz v1 v2
def mX4_set (N : Nat) (dr : Nat → Int32) (th : Int32) (df : Int32) (fo : Int32) (fm : Nat → Int32) (sz : Nat → Int32) (p0 : Int32) : Option (Int32 × Int32 × Int32 × Int32 × (Nat → Int32) × (Nat → Int32)) := ((mX4_errorOfSet N df dr fm sz p0).bind fun x6 => ((mX4_holds N th x6).bind fun x8 => (if x8.1 = 0 then some ((0 : Int32), x8.2, df, fo, fm, sz) else mX4_set_16 N dr N x8.2 df fo fm sz p0 (0 : Int32))))
set_option maxRecDepth 20000 in
set_option maxHeartbeats 4000000 in
theorem wX4_set_16_b {p : Program} {l : Launch} {e : Env} {s : State} {m : MethodId} {args : Array Value} {below : List Frame} {meth : Method} {c : Code} {Q : State → Prop} {D : va_G} {cyI cyJ cyO : ClassId} {A : Nat → Prop} {bs : Nat} {a : Nat → Nat} {Y : va_W} {la : Int32} {he : Int32} {wt : Int32} {br : Int32} {dr : Nat → Int32} {om : Nat → Int32} {os : Nat → Int32} {st : Nat → Int32} {wa : Nat → Int32} {va : Nat → Int64} {sk : Nat → Int64} {N : Nat} {res : Int32 × Int32 × Int32 × Int32 × (Nat → Int32) × (Nat → Int32)} (C0 : gC p m meth c cX4_set 3 (some .int) s args wsX4_set RX4) (hret : ∀ (r : Int32) (th_r : Int32) (df_r : Int32) (fo_r : Int32) (fm_r : Nat → Int32) (sz_r : Nat → Int32) (H : Heap) (locs : List Loc) (pc : Nat) (ls : Array Slot), some (r, th_r, df_r, fo_r, fm_r, sz_r) = some res → gZ D (gT cyI cyJ cyO) (XM a cyI cyJ th_r df_r la fo_r he wt br dr fm_r sz_r om os st wa va sk ++ Y) A bs s H locs → decode cX4_set pc = .ok (.ireturn, 1) → W p l e rmX4_set s m args below meth c H locs 0 0 Q (F0 m pc ls [.int r])) {r16 : Int32 → Int32 → Int32 → (Nat → Int32) → (Nat → Int32) → Int32 → Int32 → Option (Int32 × Int32 × Int32 × Int32 × (Nat → Int32) × (Nat → Int32))} (hr16 : ∀ (th : Int32) (df : Int32) (fo : Int32) (fm : Nat → Int32) (sz : Nat → Int32) (v1 : Int32) (v2 : Int32) (H : Heap) (locs : List Loc) (ls : Array Slot), r16 th df fo fm sz v1 v2 = some res → gZ D (gT cyI cyJ cyO) (XM a cyI cyJ th df la fo he wt br dr fm sz om os st wa va sk ++ Y) A bs s H locs → lv_has ls 3 [(0, .ref (a 0)), (1, .int v1), (2, .int v2)] → W p l e rmX4_set s m args below meth c H locs 0 0 Q (F0 m 16 ls [])) : ∀ (th : Int32) (df : Int32) (fo : Int32) (fm : Nat → Int32) (sz : Nat → Int32) (v1 : Int32) (v2 : Int32) (H : Heap) (locs : List Loc) (ls : Array Slot), mX4_set_16_b N dr r16 th df fo fm sz v1 v2 = some res → gZ D (gT cyI cyJ cyO) (XM a cyI cyJ th df la fo he wt br dr fm sz om os st wa va sk ++ Y) A bs s H locs → lv_has ls 3 [(0, .ref (a 0)), (1, .int v1), (2, .int v2)] → W p l e rmX4_set s m args below meth c H locs 0 0 Q (F0 m 16 ls []) := by
  intro th df fo fm sz v1 v2 H locs ls h Z hl
  unfold mX4_set_16_b at h
  refine lv_iload_n C0.1.1 C0.1.2.1 dX4_set_16 rfl (lv_at hl 2 rfl) ?_
  refine lv_aload_n C0.1.1 C0.1.2.1 dX4_set_17 rfl (lv_at hl 0 rfl) ?_
  refine g_get (ci := 6) (v := .int df) (T := TX4) (N := 16) C0.1 Z 0 rfl rfl 2 (by decide) kX4_set_in kX4_set_f46 rfl rfl dX4_set_18 ?_
  refine lv_icmp_ge (tgt := 47) C0.1.1 C0.1.2.1 dX4_set_21 (by decide) (fun hc => ?_) (fun hc => ?_)
  · replace h := (if_pos hc).symm.trans h
    refine lv_aload_n C0.1.1 C0.1.2.1 dX4_set_47 rfl (lv_at hl 0 rfl) ?_
    refine g_get (ci := 6) (v := .ref (a 3)) (T := TX4) (N := 16) C0.1 Z 0 rfl rfl 4 (by decide) kX4_set_in kX4_set_f16 rfl rfl dX4_set_48 ?_
    refine lv_iload_n C0.1.1 C0.1.2.1 dX4_set_51 rfl (lv_at hl 1 rfl) ?_
    refine lv_aload_n C0.1.1 C0.1.2.1 dX4_set_52 rfl (lv_at hl 0 rfl) ?_
    refine g_get (ci := 6) (v := .int df) (T := TX4) (N := 16) C0.1 Z 0 rfl rfl 2 (by decide) kX4_set_in kX4_set_f46 rfl rfl dX4_set_53 ?_
    obtain ⟨hi1, h⟩ := g_ni h
    refine g_iast (f := sz) (n := 30) (ws' := (XM a cyI cyJ th df la fo he wt br dr fm (upd sz v1.toNatClampNeg df) om os st wa va sk ++ Y)) C0.1 Z 3 0 rfl rfl hi1 dX4_set_56 rfl (fun H locs Z => ?_)
    refine lv_aload_n C0.1.1 C0.1.2.1 dX4_set_57 rfl (lv_at hl 0 rfl) ?_
    refine lv_iconst (v := 0) C0.1.1 C0.1.2.1 dX4_set_58 (by decide) ?_
    refine g_put (ci := 6) (v := .int (0 : Int32)) (T := TX4) (N := 16) (ws' := (XM a cyI cyJ th (0 : Int32) la fo he wt br dr fm (upd sz v1.toNatClampNeg df) om os st wa va sk ++ Y)) C0.1 Z 0 rfl rfl 2 (by decide) kX4_set_in kX4_set_f46 rfl tyX4 tyX4_ok nmX4 rfl rfl rfl (Nat.le_of_ble_eq_true rfl) dX4_set_59 rfl (fun H locs Z => ?_)
    refine lv_aload_n C0.1.1 C0.1.2.1 dX4_set_62 rfl (lv_at hl 0 rfl) ?_
    refine lv_iconst (v := 1) C0.1.1 C0.1.2.1 dX4_set_63 (by decide) ?_
    refine lv_iload_n C0.1.1 C0.1.2.1 dX4_set_64 rfl (lv_at hl 1 rfl) ?_
    refine lv_ishl C0.1.1 C0.1.2.1 dX4_set_65 ?_
    obtain ⟨x2, hx3, h⟩ := g_bd h
    refine g_callVi (b := a 0) (As := [.int ((1 : Int32) <<< (v1 &&& 31))]) (rest := []) (ws' := (fun (u : Unit) => (XM a cyI cyJ th (0 : Int32) la fo he wt br dr fm (upd sz v1.toNatClampNeg df) om os st wa va sk ++ Y))) C0.1 Z (zX4_anew l D cyI cyJ cyO A bs Z.2.2.2.2.2 a Y th (0 : Int32) la fo he wt br dr fm (upd sz v1.toNatClampNeg df) om os st wa va sk N ((1 : Int32) <<< (v1 &&& 31)) x2 hx3) (cwV 1 C0.1.2.2.2.2 gX4_set_X4_anew rfl rfl rfl (by decide +kernel) ⟨Nat.le_of_ble_eq_true rfl, Nat.le_of_ble_eq_true rfl⟩) 0 (ci := 6) rfl rfl rfl rfl hl.1 rfl (Nat.le_of_ble_eq_true rfl) dX4_set_66 ⟨Nat.zero_le _, Nat.zero_le _⟩ (fun r u H locs hw Z => ?_)
    subst hw
    refine lv_istore_n (lv' := [(2, .int x2), (0, .ref (a 0)), (1, .int v1)]) C0.1.1 C0.1.2.1 dX4_set_69 rfl hl (by decide) rfl (fun ls hl => ?_)
    refine lv_aload_n C0.1.1 C0.1.2.1 dX4_set_70 rfl (lv_at hl 1 rfl) ?_
    refine lv_dup C0.1.1 C0.1.2.1 dX4_set_71 rfl ?_
    refine g_get (ci := 6) (v := .int fo) (T := TX4) (N := 16) C0.1 Z 0 rfl rfl 8 (by decide) kX4_set_in kX4_set_f129 rfl rfl dX4_set_72 ?_
    refine lv_iload_n C0.1.1 C0.1.2.1 dX4_set_75 rfl (lv_at hl 0 rfl) ?_
    refine lv_iadd C0.1.1 C0.1.2.1 dX4_set_76 ?_
    refine g_put (ci := 6) (v := .int (fo + x2)) (T := TX4) (N := 16) (ws' := (XM a cyI cyJ th (0 : Int32) la (fo + x2) he wt br dr fm (upd sz v1.toNatClampNeg df) om os st wa va sk ++ Y)) C0.1 Z 0 rfl rfl 8 (by decide) kX4_set_in kX4_set_f129 rfl tyX4 tyX4_ok nmX4 rfl rfl rfl (Nat.le_of_ble_eq_true rfl) dX4_set_77 rfl (fun H locs Z => ?_)
    refine lv_iload_n C0.1.1 C0.1.2.1 dX4_set_80 rfl (lv_at hl 0 rfl) ?_
    exact hret x2 th (0 : Int32) (fo + x2) fm (upd sz v1.toNatClampNeg df) _ _ _ _ h Z dX4_set_81
  · replace h := (if_neg hc).symm.trans h
    refine lv_aload_n C0.1.1 C0.1.2.1 dX4_set_24 rfl (lv_at hl 0 rfl) ?_
    refine g_get (ci := 6) (v := .ref (a 2)) (T := TX4) (N := 16) C0.1 Z 0 rfl rfl 3 (by decide) kX4_set_in kX4_set_f13 rfl rfl dX4_set_25 ?_
    refine lv_bipush (v := 15) C0.1.1 C0.1.2.1 dX4_set_28 (by decide +kernel) ?_
    refine lv_iload_n C0.1.1 C0.1.2.1 dX4_set_30 rfl (lv_at hl 1 rfl) ?_
    refine lv_imul C0.1.1 C0.1.2.1 dX4_set_31 ?_
    refine lv_iload_n C0.1.1 C0.1.2.1 dX4_set_32 rfl (lv_at hl 2 rfl) ?_
    refine lv_iadd C0.1.1 C0.1.2.1 dX4_set_33 ?_
    refine lv_aload_n C0.1.1 C0.1.2.1 dX4_set_34 rfl (lv_at hl 0 rfl) ?_
    refine g_get (ci := 6) (v := .ref (a 1)) (T := TX4) (N := 16) C0.1 Z 0 rfl rfl 1 (by decide) kX4_set_in kX4_set_f7 rfl rfl dX4_set_35 ?_
    refine lv_iload_n C0.1.1 C0.1.2.1 dX4_set_38 rfl (lv_at hl 2 rfl) ?_
    obtain ⟨hi4, h⟩ := g_ni h
    refine g_iald (f := dr) (n := 15) C0.1 Z 1 0 rfl rfl hi4 dX4_set_39 ?_
    obtain ⟨hi5, h⟩ := g_ni h
    refine g_iast (f := fm) (n := 450) (ws' := (XM a cyI cyJ th df la fo he wt br dr (upd fm (((15 : Int32) * v1) + v2).toNatClampNeg (dr v2.toNatClampNeg)) sz om os st wa va sk ++ Y)) C0.1 Z 2 0 rfl rfl hi5 dX4_set_40 rfl (fun H locs Z => ?_)
    refine lv_iinc (v := v2 + (1 : Int32)) (lv' := [(2, .int (v2 + (1 : Int32))), (0, .ref (a 0)), (1, .int v1)]) C0.1.1 C0.1.2.1 dX4_set_41 hl (k := 2) rfl rfl (by decide) rfl (fun ls hl => ?_)
    refine lv_goto (tgt := 16) C0.1.1 C0.1.2.1 dX4_set_44 (by decide) ?_
    exact hr16 th df fo (upd fm (((15 : Int32) * v1) + v2).toNatClampNeg (dr v2.toNatClampNeg)) sz v1 (v2 + (1 : Int32)) _ _ _ h Z (lv_sub hl [1, 2, 0] rfl)
theorem wX4_set_16 {p : Program} {l : Launch} {e : Env} {s : State} {m : MethodId} {args : Array Value} {below : List Frame} {meth : Method} {c : Code} {Q : State → Prop} {D : va_G} {cyI cyJ cyO : ClassId} {A : Nat → Prop} {bs : Nat} {a : Nat → Nat} {Y : va_W} {la : Int32} {he : Int32} {wt : Int32} {br : Int32} {dr : Nat → Int32} {om : Nat → Int32} {os : Nat → Int32} {st : Nat → Int32} {wa : Nat → Int32} {va : Nat → Int64} {sk : Nat → Int64} {N : Nat} {res : Int32 × Int32 × Int32 × Int32 × (Nat → Int32) × (Nat → Int32)} (C0 : gC p m meth c cX4_set 3 (some .int) s args wsX4_set RX4) (hret : ∀ (r : Int32) (th_r : Int32) (df_r : Int32) (fo_r : Int32) (fm_r : Nat → Int32) (sz_r : Nat → Int32) (H : Heap) (locs : List Loc) (pc : Nat) (ls : Array Slot), some (r, th_r, df_r, fo_r, fm_r, sz_r) = some res → gZ D (gT cyI cyJ cyO) (XM a cyI cyJ th_r df_r la fo_r he wt br dr fm_r sz_r om os st wa va sk ++ Y) A bs s H locs → decode cX4_set pc = .ok (.ireturn, 1) → W p l e rmX4_set s m args below meth c H locs 0 0 Q (F0 m pc ls [.int r]))  : ∀ (n : Nat), ∀ (th : Int32) (df : Int32) (fo : Int32) (fm : Nat → Int32) (sz : Nat → Int32) (v1 : Int32) (v2 : Int32) (H : Heap) (locs : List Loc) (ls : Array Slot), mX4_set_16 N dr n th df fo fm sz v1 v2 = some res → gZ D (gT cyI cyJ cyO) (XM a cyI cyJ th df la fo he wt br dr fm sz om os st wa va sk ++ Y) A bs s H locs → lv_has ls 3 [(0, .ref (a 0)), (1, .int v1), (2, .int v2)] → W p l e rmX4_set s m args below meth c H locs 0 0 Q (F0 m 16 ls []) := by
  intro n
  induction n with
  | zero => intro _ _ _ _ _ _ _ _ _ _ h; cases h
  | succ n ih => exact wX4_set_16_b (N := N) C0 hret ih
set_option maxRecDepth 20000 in
set_option maxHeartbeats 4000000 in
theorem zX4_set (l : Launch) (D : va_G) (cyI cyJ cyO : ClassId) (A : Nat → Prop) (bs : Nat) (hA : ∀ q, bs ≤ q → A q) (a : Nat → Nat) (Y : va_W) (th : Int32) (df : Int32) (la : Int32) (fo : Int32) (he : Int32) (wt : Int32) (br : Int32) (dr : Nat → Int32) (fm : Nat → Int32) (sz : Nat → Int32) (om : Nat → Int32) (os : Nat → Int32) (st : Nat → Int32) (wa : Nat → Int32) (va : Nat → Int64) (sk : Nat → Int64) (N : Nat) (p0 : Int32) (res : Int32 × Int32 × Int32 × Int32 × (Nat → Int32) × (Nat → Int32)) (h : mX4_set N dr th df fo fm sz p0 = some res) : Met l yX4_set wsX4_set rmX4_set (va_Pc [.ref (a 0), .int p0] (gW D (gT cyI cyJ cyO) (XM a cyI cyJ th df la fo he wt br dr fm sz om os st wa va sk ++ Y) A bs)) (va_Qi (fun (r : Int32) (u : Int32 × Int32 × Int32 × (Nat → Int32) × (Nat → Int32)) => res.1 = r ∧ res.2 = u) (fun (u : Int32 × Int32 × Int32 × (Nat → Int32) × (Nat → Int32)) U => gW D (gT cyI cyJ cyO) (XM a cyI cyJ u.1 u.2.1 la u.2.2.1 he wt br dr u.2.2.2.1 u.2.2.2.2 om os st wa va sk ++ Y) A bs U) A) 0 0 A := by
  refine Met.ofW (cc := cX4_set) (maxL := 3) (ret := (some .int)) (by decide) rfl ?_
  intro p e s m args below meth c s₁ B hml hv
  obtain ⟨hav, hv⟩ := hv
  have C0 : gC p m meth c cX4_set 3 (some .int) s args wsX4_set RX4 := ⟨⟨B.exec, B.bytes, hml, findClass_of_methodNamed B.named, atoms_spec (ws := wsX4_set) B.pre⟩, B.returns, B.notSynchronized⟩
  have Z := g_start hA hv
  have hret : ∀ (r : Int32) (th_r : Int32) (df_r : Int32) (fo_r : Int32) (fm_r : Nat → Int32) (sz_r : Nat → Int32) (H : Heap) (locs : List Loc) (pc : Nat) (ls : Array Slot), some (r, th_r, df_r, fo_r, fm_r, sz_r) = some res → gZ D (gT cyI cyJ cyO) (XM a cyI cyJ th_r df_r la fo_r he wt br dr fm_r sz_r om os st wa va sk ++ Y) A bs s H locs → decode cX4_set pc = .ok (.ireturn, 1) → W p l e rmX4_set s m args below meth c H locs 0 0 (MQ below (va_Qi (fun (r : Int32) (u : Int32 × Int32 × Int32 × (Nat → Int32) × (Nat → Int32)) => res.1 = r ∧ res.2 = u) (fun (u : Int32 × Int32 × Int32 × (Nat → Int32) × (Nat → Int32)) U => gW D (gT cyI cyJ cyO) (XM a cyI cyJ u.1 u.2.1 la u.2.2.1 he wt br dr u.2.2.2.1 u.2.2.2.2 om os st wa va sk ++ Y) A bs U) A) args s 0 0 A) (F0 m pc ls [.int r]) := by
    intro r th_r df_r fo_r fm_r sz_r H locs pc ls h Z hd
    replace h := Option.some.inj h
    exact W.iret C0.1.1 C0.1.2.1 C0.2.1 (fun t ht hW => ⟨⟨r, (th_r, df_r, fo_r, fm_r, sz_r), rfl, ⟨congrArg Prod.fst h.symm, congrArg Prod.snd h.symm⟩, g_end Z ht hW⟩, Z.2.2.2.1.F ht⟩) Z.2.2.2.1.2.2 hd C0.2.2
  have hl := lv_entry ([.ref (a 0), .int p0]) (n := 3) (Nat.le_of_ble_eq_true rfl)
  rw [hav, lg_entry_eq]
  generalize (lg_sl ([.ref (a 0), .int p0]) ++ List.replicate (3 - (lg_sl ([.ref (a 0), .int p0])).length) Slot.unset).toArray = ls at hl ⊢
  have hl : lv_has ls 3 [(0, .ref (a 0)), (1, .int p0)] := hl
  rw [← hav]
  unfold mX4_set at h
  refine lv_aload_n C0.1.1 C0.1.2.1 dX4_set_0 rfl (lv_at hl 0 rfl) ?_
  refine lv_aload_n C0.1.1 C0.1.2.1 dX4_set_1 rfl (lv_at hl 0 rfl) ?_
  refine lv_iload_n C0.1.1 C0.1.2.1 dX4_set_2 rfl (lv_at hl 1 rfl) ?_
  obtain ⟨x6, hx7, h⟩ := g_bd h
  refine g_callVi (b := a 0) (As := [.int p0]) (rest := [.ref (a 0)]) (ws' := (fun (u : Unit) => (XM a cyI cyJ th df la fo he wt br dr fm sz om os st wa va sk ++ Y))) C0.1 Z (zX4_errorOfSet l D cyI cyJ cyO A bs Z.2.2.2.2.2 a Y th df la fo he wt br dr fm sz om os st wa va sk N p0 x6 hx7) (cwV 1 C0.1.2.2.2.2 gX4_set_X4_errorOfSet rfl rfl rfl (by decide +kernel) ⟨Nat.le_of_ble_eq_true rfl, Nat.le_of_ble_eq_true rfl⟩) 0 (ci := 6) rfl rfl rfl rfl hl.1 rfl (Nat.le_of_ble_eq_true rfl) dX4_set_3 ⟨Nat.zero_le _, Nat.zero_le _⟩ (fun r u H locs hw Z => ?_)
  subst hw
  obtain ⟨x8, hx9, h⟩ := g_bd h
  refine g_callVi (b := a 0) (As := [.int x6]) (rest := []) (ws' := (fun (u : Int32) => (XM a cyI cyJ u df la fo he wt br dr fm sz om os st wa va sk ++ Y))) C0.1 Z (zX4_holds l D cyI cyJ cyO A bs Z.2.2.2.2.2 a Y th df la fo he wt br dr fm sz om os st wa va sk N x6 x8 hx9) (cwV 1 C0.1.2.2.2.2 gX4_set_X4_holds rfl rfl rfl (by decide +kernel) ⟨Nat.le_of_ble_eq_true rfl, Nat.le_of_ble_eq_true rfl⟩) 0 (ci := 6) rfl rfl rfl rfl hl.1 rfl (Nat.le_of_ble_eq_true rfl) dX4_set_6 ⟨Nat.zero_le _, Nat.zero_le _⟩ (fun r u H locs hw Z => ?_)
  obtain ⟨rfl, rfl⟩ := hw
  refine lv_if_ne (tgt := 14) C0.1.1 C0.1.2.1 dX4_set_9 (by decide) (fun hc => ?_) (fun hc => ?_)
  · replace h := (if_neg hc).symm.trans h
    refine lv_iconst (v := 0) C0.1.1 C0.1.2.1 dX4_set_14 (by decide) ?_
    refine lv_istore_n (lv' := [(2, .int (0 : Int32)), (0, .ref (a 0)), (1, .int p0)]) C0.1.1 C0.1.2.1 dX4_set_15 rfl hl (by decide) rfl (fun ls hl => ?_)
    exact wX4_set_16 (N := N) C0 hret N x8.2 df fo fm sz p0 (0 : Int32) _ _ _ h Z (lv_sub hl [1, 2, 0] rfl)
  · replace h := (if_pos hc).symm.trans h
    refine lv_iconst (v := 0) C0.1.1 C0.1.2.1 dX4_set_12 (by decide) ?_
    exact hret (0 : Int32) x8.2 df fo fm sz _ _ _ _ h Z dX4_set_13
/-! X4_puts -/
abbrev rmX4_puts : Room := { frames := 5, cells := 0, slots := 0, locals := 114 }
theorem kX4_puts_f13 : Cond.fieldLink RX4 13 "GoalseekOfficeModel" "formulas" "[I" ∈ wsX4_puts := by decide +kernel
theorem kX4_puts_in : ∀ w ∈ wsX40, w ∈ wsX4_puts := by decide +kernel
theorem kX4_puts_f16 : Cond.fieldLink RX4 16 "GoalseekOfficeModel" "sizes" "[I" ∈ wsX4_puts := by decide +kernel
theorem kX4_puts_f129 : Cond.fieldLink RX4 129 "GoalseekOfficeModel" "found" "I" ∈ wsX4_puts := by decide +kernel
def mX4_puts (N : Nat) (fo : Int32) (fm : Nat → Int32) (sz : Nat → Int32) (p0 : Int32) (p1 : Int32) : Option (Int32 × Int32 × (Nat → Int32) × (Nat → Int32)) := (if ((15 : Int32) * p0) < 0 ∨ 450 ≤ ((15 : Int32) * p0).toNatClampNeg then none else (if p0 < 0 ∨ 30 ≤ p0.toNatClampNeg then none else ((mX4_anew N (upd fm ((15 : Int32) * p0).toNatClampNeg p1) (upd sz p0.toNatClampNeg (1 : Int32)) ((1 : Int32) <<< (p0 &&& 31))).bind fun x3 => some (x3, (fo + x3), (upd fm ((15 : Int32) * p0).toNatClampNeg p1), (upd sz p0.toNatClampNeg (1 : Int32))))))
set_option maxRecDepth 20000 in
set_option maxHeartbeats 4000000 in
theorem zX4_puts (l : Launch) (D : va_G) (cyI cyJ cyO : ClassId) (A : Nat → Prop) (bs : Nat) (hA : ∀ q, bs ≤ q → A q) (a : Nat → Nat) (Y : va_W) (th : Int32) (df : Int32) (la : Int32) (fo : Int32) (he : Int32) (wt : Int32) (br : Int32) (dr : Nat → Int32) (fm : Nat → Int32) (sz : Nat → Int32) (om : Nat → Int32) (os : Nat → Int32) (st : Nat → Int32) (wa : Nat → Int32) (va : Nat → Int64) (sk : Nat → Int64) (N : Nat) (p0 : Int32) (p1 : Int32) (res : Int32 × Int32 × (Nat → Int32) × (Nat → Int32)) (h : mX4_puts N fo fm sz p0 p1 = some res) : Met l yX4_puts wsX4_puts rmX4_puts (va_Pc [.ref (a 0), .int p0, .int p1] (gW D (gT cyI cyJ cyO) (XM a cyI cyJ th df la fo he wt br dr fm sz om os st wa va sk ++ Y) A bs)) (va_Qi (fun (r : Int32) (u : Int32 × (Nat → Int32) × (Nat → Int32)) => res.1 = r ∧ res.2 = u) (fun (u : Int32 × (Nat → Int32) × (Nat → Int32)) U => gW D (gT cyI cyJ cyO) (XM a cyI cyJ th df la u.1 he wt br dr u.2.1 u.2.2 om os st wa va sk ++ Y) A bs U) A) 0 0 A := by
  refine Met.ofW (cc := cX4_puts) (maxL := 4) (ret := (some .int)) (by decide) rfl ?_
  intro p e s m args below meth c s₁ B hml hv
  obtain ⟨hav, hv⟩ := hv
  have C0 : gC p m meth c cX4_puts 4 (some .int) s args wsX4_puts RX4 := ⟨⟨B.exec, B.bytes, hml, findClass_of_methodNamed B.named, atoms_spec (ws := wsX4_puts) B.pre⟩, B.returns, B.notSynchronized⟩
  have Z := g_start hA hv
  have hret : ∀ (r : Int32) (fo_r : Int32) (fm_r : Nat → Int32) (sz_r : Nat → Int32) (H : Heap) (locs : List Loc) (pc : Nat) (ls : Array Slot), some (r, fo_r, fm_r, sz_r) = some res → gZ D (gT cyI cyJ cyO) (XM a cyI cyJ th df la fo_r he wt br dr fm_r sz_r om os st wa va sk ++ Y) A bs s H locs → decode cX4_puts pc = .ok (.ireturn, 1) → W p l e rmX4_puts s m args below meth c H locs 0 0 (MQ below (va_Qi (fun (r : Int32) (u : Int32 × (Nat → Int32) × (Nat → Int32)) => res.1 = r ∧ res.2 = u) (fun (u : Int32 × (Nat → Int32) × (Nat → Int32)) U => gW D (gT cyI cyJ cyO) (XM a cyI cyJ th df la u.1 he wt br dr u.2.1 u.2.2 om os st wa va sk ++ Y) A bs U) A) args s 0 0 A) (F0 m pc ls [.int r]) := by
    intro r fo_r fm_r sz_r H locs pc ls h Z hd
    replace h := Option.some.inj h
    exact W.iret C0.1.1 C0.1.2.1 C0.2.1 (fun t ht hW => ⟨⟨r, (fo_r, fm_r, sz_r), rfl, ⟨congrArg Prod.fst h.symm, congrArg Prod.snd h.symm⟩, g_end Z ht hW⟩, Z.2.2.2.1.F ht⟩) Z.2.2.2.1.2.2 hd C0.2.2
  have hl := lv_entry ([.ref (a 0), .int p0, .int p1]) (n := 4) (Nat.le_of_ble_eq_true rfl)
  rw [hav, lg_entry_eq]
  generalize (lg_sl ([.ref (a 0), .int p0, .int p1]) ++ List.replicate (4 - (lg_sl ([.ref (a 0), .int p0, .int p1])).length) Slot.unset).toArray = ls at hl ⊢
  have hl : lv_has ls 4 [(0, .ref (a 0)), (1, .int p0), (2, .int p1)] := hl
  rw [← hav]
  unfold mX4_puts at h
  refine lv_aload_n C0.1.1 C0.1.2.1 dX4_puts_0 rfl (lv_at hl 0 rfl) ?_
  refine g_get (ci := 6) (v := .ref (a 2)) (T := TX4) (N := 16) C0.1 Z 0 rfl rfl 3 (by decide) kX4_puts_in kX4_puts_f13 rfl rfl dX4_puts_1 ?_
  refine lv_bipush (v := 15) C0.1.1 C0.1.2.1 dX4_puts_4 (by decide +kernel) ?_
  refine lv_iload_n C0.1.1 C0.1.2.1 dX4_puts_6 rfl (lv_at hl 1 rfl) ?_
  refine lv_imul C0.1.1 C0.1.2.1 dX4_puts_7 ?_
  refine lv_iload_n C0.1.1 C0.1.2.1 dX4_puts_8 rfl (lv_at hl 2 rfl) ?_
  obtain ⟨hi1, h⟩ := g_ni h
  refine g_iast (f := fm) (n := 450) (ws' := (XM a cyI cyJ th df la fo he wt br dr (upd fm ((15 : Int32) * p0).toNatClampNeg p1) sz om os st wa va sk ++ Y)) C0.1 Z 2 0 rfl rfl hi1 dX4_puts_9 rfl (fun H locs Z => ?_)
  refine lv_aload_n C0.1.1 C0.1.2.1 dX4_puts_10 rfl (lv_at hl 0 rfl) ?_
  refine g_get (ci := 6) (v := .ref (a 3)) (T := TX4) (N := 16) C0.1 Z 0 rfl rfl 4 (by decide) kX4_puts_in kX4_puts_f16 rfl rfl dX4_puts_11 ?_
  refine lv_iload_n C0.1.1 C0.1.2.1 dX4_puts_14 rfl (lv_at hl 1 rfl) ?_
  refine lv_iconst (v := 1) C0.1.1 C0.1.2.1 dX4_puts_15 (by decide) ?_
  obtain ⟨hi2, h⟩ := g_ni h
  refine g_iast (f := sz) (n := 30) (ws' := (XM a cyI cyJ th df la fo he wt br dr (upd fm ((15 : Int32) * p0).toNatClampNeg p1) (upd sz p0.toNatClampNeg (1 : Int32)) om os st wa va sk ++ Y)) C0.1 Z 3 0 rfl rfl hi2 dX4_puts_16 rfl (fun H locs Z => ?_)
  refine lv_aload_n C0.1.1 C0.1.2.1 dX4_puts_17 rfl (lv_at hl 0 rfl) ?_
  refine lv_iconst (v := 1) C0.1.1 C0.1.2.1 dX4_puts_18 (by decide) ?_
  refine lv_iload_n C0.1.1 C0.1.2.1 dX4_puts_19 rfl (lv_at hl 1 rfl) ?_
  refine lv_ishl C0.1.1 C0.1.2.1 dX4_puts_20 ?_
  obtain ⟨x3, hx4, h⟩ := g_bd h
  refine g_callVi (b := a 0) (As := [.int ((1 : Int32) <<< (p0 &&& 31))]) (rest := []) (ws' := (fun (u : Unit) => (XM a cyI cyJ th df la fo he wt br dr (upd fm ((15 : Int32) * p0).toNatClampNeg p1) (upd sz p0.toNatClampNeg (1 : Int32)) om os st wa va sk ++ Y))) C0.1 Z (zX4_anew l D cyI cyJ cyO A bs Z.2.2.2.2.2 a Y th df la fo he wt br dr (upd fm ((15 : Int32) * p0).toNatClampNeg p1) (upd sz p0.toNatClampNeg (1 : Int32)) om os st wa va sk N ((1 : Int32) <<< (p0 &&& 31)) x3 hx4) (cwV 1 C0.1.2.2.2.2 gX4_puts_X4_anew rfl rfl rfl (by decide +kernel) ⟨Nat.le_of_ble_eq_true rfl, Nat.le_of_ble_eq_true rfl⟩) 0 (ci := 6) rfl rfl rfl rfl hl.1 rfl (Nat.le_of_ble_eq_true rfl) dX4_puts_21 ⟨Nat.zero_le _, Nat.zero_le _⟩ (fun r u H locs hw Z => ?_)
  subst hw
  refine lv_istore_n (lv' := [(3, .int x3), (0, .ref (a 0)), (1, .int p0), (2, .int p1)]) C0.1.1 C0.1.2.1 dX4_puts_24 rfl hl (by decide) rfl (fun ls hl => ?_)
  refine lv_aload_n C0.1.1 C0.1.2.1 dX4_puts_25 rfl (lv_at hl 1 rfl) ?_
  refine lv_dup C0.1.1 C0.1.2.1 dX4_puts_26 rfl ?_
  refine g_get (ci := 6) (v := .int fo) (T := TX4) (N := 16) C0.1 Z 0 rfl rfl 8 (by decide) kX4_puts_in kX4_puts_f129 rfl rfl dX4_puts_27 ?_
  refine lv_iload_n C0.1.1 C0.1.2.1 dX4_puts_30 rfl (lv_at hl 0 rfl) ?_
  refine lv_iadd C0.1.1 C0.1.2.1 dX4_puts_31 ?_
  refine g_put (ci := 6) (v := .int (fo + x3)) (T := TX4) (N := 16) (ws' := (XM a cyI cyJ th df la (fo + x3) he wt br dr (upd fm ((15 : Int32) * p0).toNatClampNeg p1) (upd sz p0.toNatClampNeg (1 : Int32)) om os st wa va sk ++ Y)) C0.1 Z 0 rfl rfl 8 (by decide) kX4_puts_in kX4_puts_f129 rfl tyX4 tyX4_ok nmX4 rfl rfl rfl (Nat.le_of_ble_eq_true rfl) dX4_puts_32 rfl (fun H locs Z => ?_)
  refine lv_iload_n C0.1.1 C0.1.2.1 dX4_puts_35 rfl (lv_at hl 0 rfl) ?_
  exact hret x3 (fo + x3) (upd fm ((15 : Int32) * p0).toNatClampNeg p1) (upd sz p0.toNatClampNeg (1 : Int32)) _ _ _ _ h Z dX4_puts_36
/-! X4_put -/
abbrev rmX4_put : Room := { frames := 6, cells := 0, slots := 0, locals := 137 }
theorem kX4_put_c49 : Cond.constant RX4 49 (999999) ∈ wsX4_put := by decide +kernel
def mX4_put_43 (N : Nat) (th : Int32) (fo : Int32) (fm : Nat → Int32) (sz : Nat → Int32) (s0 : Int32) : Option (Int32 × Int32 × Int32 × (Nat → Int32) × (Nat → Int32)) := some (s0, th, fo, fm, sz)
def mX4_put_27 (N : Nat) (th : Int32) (fo : Int32) (fm : Nat → Int32) (sz : Nat → Int32) (v1 : Int32) (v2 : Int32) (s1 : Int32) : Option (Int32 × Int32 × Int32 × (Nat → Int32) × (Nat → Int32)) := ((mX4_holds N th s1).bind fun x1 => (if x1.1 = 0 then mX4_put_43 N x1.2 fo fm sz (0 : Int32) else ((mX4_puts N fo fm sz v1 v2).bind fun x3 => mX4_put_43 N x1.2 x3.2.1 x3.2.2.1 x3.2.2.2 x3.1)))
def mX4_put (N : Nat) (th : Int32) (fo : Int32) (fm : Nat → Int32) (sz : Nat → Int32) (p0 : Int32) (p1 : Int32) : Option (Int32 × Int32 × Int32 × (Nat → Int32) × (Nat → Int32)) := ((mX4_isCell N p0).bind fun x5 => (if x5 = 0 then mX4_put_27 N th fo fm sz p0 p1 (1 : Int32) else ((mX4_in N p1 (0 : Int32) (999999 : Int32)).bind fun x7 => (if x7 = 0 then mX4_put_27 N th fo fm sz p0 p1 (2 : Int32) else mX4_put_27 N th fo fm sz p0 p1 (0 : Int32)))))
set_option maxRecDepth 20000 in
set_option maxHeartbeats 4000000 in
theorem wX4_put_43 {p : Program} {l : Launch} {e : Env} {s : State} {m : MethodId} {args : Array Value} {below : List Frame} {meth : Method} {c : Code} {Q : State → Prop} {D : va_G} {cyI cyJ cyO : ClassId} {A : Nat → Prop} {bs : Nat} {a : Nat → Nat} {Y : va_W} {df : Int32} {la : Int32} {he : Int32} {wt : Int32} {br : Int32} {dr : Nat → Int32} {om : Nat → Int32} {os : Nat → Int32} {st : Nat → Int32} {wa : Nat → Int32} {va : Nat → Int64} {sk : Nat → Int64} {N : Nat} {res : Int32 × Int32 × Int32 × (Nat → Int32) × (Nat → Int32)} (C0 : gC p m meth c cX4_put 3 (some .int) s args wsX4_put RX4) (hret : ∀ (r : Int32) (th_r : Int32) (fo_r : Int32) (fm_r : Nat → Int32) (sz_r : Nat → Int32) (H : Heap) (locs : List Loc) (pc : Nat) (ls : Array Slot), some (r, th_r, fo_r, fm_r, sz_r) = some res → gZ D (gT cyI cyJ cyO) (XM a cyI cyJ th_r df la fo_r he wt br dr fm_r sz_r om os st wa va sk ++ Y) A bs s H locs → decode cX4_put pc = .ok (.ireturn, 1) → W p l e rmX4_put s m args below meth c H locs 0 0 Q (F0 m pc ls [.int r]))  : ∀ (th : Int32) (fo : Int32) (fm : Nat → Int32) (sz : Nat → Int32) (s0 : Int32) (H : Heap) (locs : List Loc) (ls : Array Slot), mX4_put_43 N th fo fm sz s0 = some res → gZ D (gT cyI cyJ cyO) (XM a cyI cyJ th df la fo he wt br dr fm sz om os st wa va sk ++ Y) A bs s H locs → lv_has ls 3 [] → W p l e rmX4_put s m args below meth c H locs 0 0 Q (F0 m 43 ls [.int s0]) := by
  intro th fo fm sz s0 H locs ls h Z hl
  unfold mX4_put_43 at h
  exact hret s0 th fo fm sz _ _ _ _ h Z dX4_put_43
set_option maxRecDepth 20000 in
set_option maxHeartbeats 4000000 in
theorem wX4_put_27 {p : Program} {l : Launch} {e : Env} {s : State} {m : MethodId} {args : Array Value} {below : List Frame} {meth : Method} {c : Code} {Q : State → Prop} {D : va_G} {cyI cyJ cyO : ClassId} {A : Nat → Prop} {bs : Nat} {a : Nat → Nat} {Y : va_W} {df : Int32} {la : Int32} {he : Int32} {wt : Int32} {br : Int32} {dr : Nat → Int32} {om : Nat → Int32} {os : Nat → Int32} {st : Nat → Int32} {wa : Nat → Int32} {va : Nat → Int64} {sk : Nat → Int64} {N : Nat} {res : Int32 × Int32 × Int32 × (Nat → Int32) × (Nat → Int32)} (C0 : gC p m meth c cX4_put 3 (some .int) s args wsX4_put RX4) (hret : ∀ (r : Int32) (th_r : Int32) (fo_r : Int32) (fm_r : Nat → Int32) (sz_r : Nat → Int32) (H : Heap) (locs : List Loc) (pc : Nat) (ls : Array Slot), some (r, th_r, fo_r, fm_r, sz_r) = some res → gZ D (gT cyI cyJ cyO) (XM a cyI cyJ th_r df la fo_r he wt br dr fm_r sz_r om os st wa va sk ++ Y) A bs s H locs → decode cX4_put pc = .ok (.ireturn, 1) → W p l e rmX4_put s m args below meth c H locs 0 0 Q (F0 m pc ls [.int r]))  : ∀ (th : Int32) (fo : Int32) (fm : Nat → Int32) (sz : Nat → Int32) (v1 : Int32) (v2 : Int32) (s1 : Int32) (H : Heap) (locs : List Loc) (ls : Array Slot), mX4_put_27 N th fo fm sz v1 v2 s1 = some res → gZ D (gT cyI cyJ cyO) (XM a cyI cyJ th df la fo he wt br dr fm sz om os st wa va sk ++ Y) A bs s H locs → lv_has ls 3 [(0, .ref (a 0)), (1, .int v1), (2, .int v2)] → W p l e rmX4_put s m args below meth c H locs 0 0 Q (F0 m 27 ls [.int s1, .ref (a 0)]) := by
  intro th fo fm sz v1 v2 s1 H locs ls h Z hl
  unfold mX4_put_27 at h
  obtain ⟨x1, hx2, h⟩ := g_bd h
  refine g_callVi (b := a 0) (As := [.int s1]) (rest := []) (ws' := (fun (u : Int32) => (XM a cyI cyJ u df la fo he wt br dr fm sz om os st wa va sk ++ Y))) C0.1 Z (zX4_holds l D cyI cyJ cyO A bs Z.2.2.2.2.2 a Y th df la fo he wt br dr fm sz om os st wa va sk N s1 x1 hx2) (cwV 1 C0.1.2.2.2.2 gX4_put_X4_holds rfl rfl rfl (by decide +kernel) ⟨Nat.le_of_ble_eq_true rfl, Nat.le_of_ble_eq_true rfl⟩) 0 (ci := 6) rfl rfl rfl rfl hl.1 rfl (Nat.le_of_ble_eq_true rfl) dX4_put_27 ⟨Nat.zero_le _, Nat.zero_le _⟩ (fun r u H locs hw Z => ?_)
  obtain ⟨rfl, rfl⟩ := hw
  refine lv_if_eq (tgt := 42) C0.1.1 C0.1.2.1 dX4_put_30 (by decide) (fun hc => ?_) (fun hc => ?_)
  · replace h := (if_pos hc).symm.trans h
    refine lv_iconst (v := 0) C0.1.1 C0.1.2.1 dX4_put_42 (by decide) ?_
    exact wX4_put_43 (N := N) C0 hret x1.2 fo fm sz (0 : Int32) _ _ _ h Z (lv_sub hl [] rfl)
  · replace h := (if_neg hc).symm.trans h
    refine lv_aload_n C0.1.1 C0.1.2.1 dX4_put_33 rfl (lv_at hl 0 rfl) ?_
    refine lv_iload_n C0.1.1 C0.1.2.1 dX4_put_34 rfl (lv_at hl 1 rfl) ?_
    refine lv_iload_n C0.1.1 C0.1.2.1 dX4_put_35 rfl (lv_at hl 2 rfl) ?_
    obtain ⟨x3, hx4, h⟩ := g_bd h
    refine g_callVi (b := a 0) (As := [.int v1, .int v2]) (rest := []) (ws' := (fun (u : Int32 × (Nat → Int32) × (Nat → Int32)) => (XM a cyI cyJ x1.2 df la u.1 he wt br dr u.2.1 u.2.2 om os st wa va sk ++ Y))) C0.1 Z (zX4_puts l D cyI cyJ cyO A bs Z.2.2.2.2.2 a Y x1.2 df la fo he wt br dr fm sz om os st wa va sk N v1 v2 x3 hx4) (cwV 2 C0.1.2.2.2.2 gX4_put_X4_puts rfl rfl rfl (by decide +kernel) ⟨Nat.le_of_ble_eq_true rfl, Nat.le_of_ble_eq_true rfl⟩) 0 (ci := 6) rfl rfl rfl rfl hl.1 rfl (Nat.le_of_ble_eq_true rfl) dX4_put_36 ⟨Nat.zero_le _, Nat.zero_le _⟩ (fun r u H locs hw Z => ?_)
    obtain ⟨rfl, rfl⟩ := hw
    refine lv_goto (tgt := 43) C0.1.1 C0.1.2.1 dX4_put_39 (by decide) ?_
    exact wX4_put_43 (N := N) C0 hret x1.2 x3.2.1 x3.2.2.1 x3.2.2.2 x3.1 _ _ _ h Z (lv_sub hl [] rfl)
set_option maxRecDepth 20000 in
set_option maxHeartbeats 4000000 in
theorem zX4_put (l : Launch) (D : va_G) (cyI cyJ cyO : ClassId) (A : Nat → Prop) (bs : Nat) (hA : ∀ q, bs ≤ q → A q) (a : Nat → Nat) (Y : va_W) (th : Int32) (df : Int32) (la : Int32) (fo : Int32) (he : Int32) (wt : Int32) (br : Int32) (dr : Nat → Int32) (fm : Nat → Int32) (sz : Nat → Int32) (om : Nat → Int32) (os : Nat → Int32) (st : Nat → Int32) (wa : Nat → Int32) (va : Nat → Int64) (sk : Nat → Int64) (N : Nat) (p0 : Int32) (p1 : Int32) (res : Int32 × Int32 × Int32 × (Nat → Int32) × (Nat → Int32)) (h : mX4_put N th fo fm sz p0 p1 = some res) : Met l yX4_put wsX4_put rmX4_put (va_Pc [.ref (a 0), .int p0, .int p1] (gW D (gT cyI cyJ cyO) (XM a cyI cyJ th df la fo he wt br dr fm sz om os st wa va sk ++ Y) A bs)) (va_Qi (fun (r : Int32) (u : Int32 × Int32 × (Nat → Int32) × (Nat → Int32)) => res.1 = r ∧ res.2 = u) (fun (u : Int32 × Int32 × (Nat → Int32) × (Nat → Int32)) U => gW D (gT cyI cyJ cyO) (XM a cyI cyJ u.1 df la u.2.1 he wt br dr u.2.2.1 u.2.2.2 om os st wa va sk ++ Y) A bs U) A) 0 0 A := by
  refine Met.ofW (cc := cX4_put) (maxL := 3) (ret := (some .int)) (by decide) rfl ?_
  intro p e s m args below meth c s₁ B hml hv
  obtain ⟨hav, hv⟩ := hv
  have C0 : gC p m meth c cX4_put 3 (some .int) s args wsX4_put RX4 := ⟨⟨B.exec, B.bytes, hml, findClass_of_methodNamed B.named, atoms_spec (ws := wsX4_put) B.pre⟩, B.returns, B.notSynchronized⟩
  have Z := g_start hA hv
  have hret : ∀ (r : Int32) (th_r : Int32) (fo_r : Int32) (fm_r : Nat → Int32) (sz_r : Nat → Int32) (H : Heap) (locs : List Loc) (pc : Nat) (ls : Array Slot), some (r, th_r, fo_r, fm_r, sz_r) = some res → gZ D (gT cyI cyJ cyO) (XM a cyI cyJ th_r df la fo_r he wt br dr fm_r sz_r om os st wa va sk ++ Y) A bs s H locs → decode cX4_put pc = .ok (.ireturn, 1) → W p l e rmX4_put s m args below meth c H locs 0 0 (MQ below (va_Qi (fun (r : Int32) (u : Int32 × Int32 × (Nat → Int32) × (Nat → Int32)) => res.1 = r ∧ res.2 = u) (fun (u : Int32 × Int32 × (Nat → Int32) × (Nat → Int32)) U => gW D (gT cyI cyJ cyO) (XM a cyI cyJ u.1 df la u.2.1 he wt br dr u.2.2.1 u.2.2.2 om os st wa va sk ++ Y) A bs U) A) args s 0 0 A) (F0 m pc ls [.int r]) := by
    intro r th_r fo_r fm_r sz_r H locs pc ls h Z hd
    replace h := Option.some.inj h
    exact W.iret C0.1.1 C0.1.2.1 C0.2.1 (fun t ht hW => ⟨⟨r, (th_r, fo_r, fm_r, sz_r), rfl, ⟨congrArg Prod.fst h.symm, congrArg Prod.snd h.symm⟩, g_end Z ht hW⟩, Z.2.2.2.1.F ht⟩) Z.2.2.2.1.2.2 hd C0.2.2
  have hl := lv_entry ([.ref (a 0), .int p0, .int p1]) (n := 3) (Nat.le_of_ble_eq_true rfl)
  rw [hav, lg_entry_eq]
  generalize (lg_sl ([.ref (a 0), .int p0, .int p1]) ++ List.replicate (3 - (lg_sl ([.ref (a 0), .int p0, .int p1])).length) Slot.unset).toArray = ls at hl ⊢
  have hl : lv_has ls 3 [(0, .ref (a 0)), (1, .int p0), (2, .int p1)] := hl
  rw [← hav]
  unfold mX4_put at h
  refine lv_aload_n C0.1.1 C0.1.2.1 dX4_put_0 rfl (lv_at hl 0 rfl) ?_
  refine lv_iload_n C0.1.1 C0.1.2.1 dX4_put_1 rfl (lv_at hl 1 rfl) ?_
  obtain ⟨x5, hx6, h⟩ := g_bd h
  refine g_callSi (As := [.int p0]) (rest := [.ref (a 0)]) (ws' := (fun (u : Unit) => (XM a cyI cyJ th df la fo he wt br dr fm sz om os st wa va sk ++ Y))) C0.1 Z (zX4_isCell l D cyI cyJ cyO A bs Z.2.2.2.2.2 (XM a cyI cyJ th df la fo he wt br dr fm sz om os st wa va sk ++ Y) N p0 x5 hx6) (va_cwS 1 C0.1.2.2.2.2 gX4_put_X4_isCell rfl rfl rfl (by decide +kernel) ⟨Nat.le_of_ble_eq_true rfl, Nat.le_of_ble_eq_true rfl⟩) rfl hl.1 rfl (Nat.le_of_ble_eq_true rfl) dX4_put_2 ⟨Nat.zero_le _, Nat.zero_le _⟩ (fun r u H locs hw Z => ?_)
  subst hw
  refine lv_if_ne (tgt := 12) C0.1.1 C0.1.2.1 dX4_put_5 (by decide) (fun hc => ?_) (fun hc => ?_)
  · replace h := (if_neg hc).symm.trans h
    refine lv_iload_n C0.1.1 C0.1.2.1 dX4_put_12 rfl (lv_at hl 2 rfl) ?_
    refine lv_iconst (v := 0) C0.1.1 C0.1.2.1 dX4_put_13 (by decide) ?_
    refine lv_ldc C0.1.1 C0.1.2.1 C0.1.2.2.2.1 (C0.1.2.2.2.2 _ kX4_put_c49) dX4_put_14 ?_
    obtain ⟨x7, hx8, h⟩ := g_bd h
    refine g_callSi (As := [.int p1, .int (0 : Int32), .int (999999 : Int32)]) (rest := [.ref (a 0)]) (ws' := (fun (u : Unit) => (XM a cyI cyJ th df la fo he wt br dr fm sz om os st wa va sk ++ Y))) C0.1 Z (zX4_in l D cyI cyJ cyO A bs Z.2.2.2.2.2 (XM a cyI cyJ th df la fo he wt br dr fm sz om os st wa va sk ++ Y) N p1 (0 : Int32) (999999 : Int32) x7 hx8) (va_cwS 3 C0.1.2.2.2.2 gX4_put_X4_in rfl rfl rfl (by decide +kernel) ⟨Nat.le_of_ble_eq_true rfl, Nat.le_of_ble_eq_true rfl⟩) rfl hl.1 rfl (Nat.le_of_ble_eq_true rfl) dX4_put_16 ⟨Nat.zero_le _, Nat.zero_le _⟩ (fun r u H locs hw Z => ?_)
    subst hw
    refine lv_if_eq (tgt := 26) C0.1.1 C0.1.2.1 dX4_put_19 (by decide) (fun hc => ?_) (fun hc => ?_)
    · replace h := (if_pos hc).symm.trans h
      refine lv_iconst (v := 2) C0.1.1 C0.1.2.1 dX4_put_26 (by decide) ?_
      exact wX4_put_27 (N := N) C0 hret th fo fm sz p0 p1 (2 : Int32) _ _ _ h Z (lv_sub hl [0, 1, 2] rfl)
    · replace h := (if_neg hc).symm.trans h
      refine lv_iconst (v := 0) C0.1.1 C0.1.2.1 dX4_put_22 (by decide) ?_
      refine lv_goto (tgt := 27) C0.1.1 C0.1.2.1 dX4_put_23 (by decide) ?_
      exact wX4_put_27 (N := N) C0 hret th fo fm sz p0 p1 (0 : Int32) _ _ _ h Z (lv_sub hl [0, 1, 2] rfl)
  · replace h := (if_pos hc).symm.trans h
    refine lv_iconst (v := 1) C0.1.1 C0.1.2.1 dX4_put_8 (by decide) ?_
    refine lv_goto (tgt := 27) C0.1.1 C0.1.2.1 dX4_put_9 (by decide) ?_
    exact wX4_put_27 (N := N) C0 hret th fo fm sz p0 p1 (1 : Int32) _ _ _ h Z (lv_sub hl [0, 1, 2] rfl)
