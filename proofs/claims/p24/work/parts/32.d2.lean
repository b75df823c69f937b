/-! X1_isEmpty -/
abbrev rmX1_isEmpty : Room := { frames := 0, cells := 0, slots := 0, locals := 0 }
theorem kX1_isEmpty_in1 : ∀ w ∈ wsX10, w ∈ wsX1_isEmpty := by decide +kernel
theorem kX1_isEmpty_f9 : Cond.fieldLink RX1 9 "GoalseekOffice$Formula" "signs" "[I" ∈ wsX1_isEmpty := by decide +kernel
def mX1_isEmpty_13 (N : Nat) (w : Int32) (n : Nat) (f : Nat → Int32) (s0 : Int32) : Option (Int32) := (if (s0 = 0 ∨ s0 = 1) then some s0 else none)
def mX1_isEmpty (N : Nat) (w : Int32) (n : Nat) (f : Nat → Int32) : Option (Int32) := (if (nI n) = 0 then mX1_isEmpty_13 N w n f (1 : Int32) else mX1_isEmpty_13 N w n f (0 : Int32))
set_option maxRecDepth 20000 in
set_option maxHeartbeats 4000000 in
theorem wX1_isEmpty_13 {p : Program} {l : Launch} {e : Env} {s : State} {m : MethodId} {args : Array Value} {below : List Frame} {meth : Method} {c : Code} {D : va_G} {cyI cyJ cyO : ClassId} {A : Nat → Prop} {bs : Nat} {X : va_W} {P : List Nat} {g : Nat → va_E} {b : Nat} {Q : State → Prop} {N : Nat} {w : Int32} {n : Nat} {f : Nat → Int32} {res : Int32} (C0 : gC p m meth c cX1_isEmpty 1 (some .boolean) s args wsX1_isEmpty RX1) (hb : isF cyI P g b w n f) (hret : ∀ (r : Int32) (H : Heap) (locs : List Loc) (pc : Nat) (ls : Array Slot), (r = 0 ∨ r = 1) → some r = some res → gZ D (gT cyI cyJ cyO) (X ++ va_pl P g) A bs s H locs → decode cX1_isEmpty pc = .ok (.ireturn, 1) → W p l e rmX1_isEmpty s m args below meth c H locs 0 0 Q (F0 m pc ls [.int r]))  : ∀ (s0 : Int32) (H : Heap) (locs : List Loc) (ls : Array Slot), mX1_isEmpty_13 N w n f s0 = some res → gZ D (gT cyI cyJ cyO) (X ++ va_pl P g) A bs s H locs → lv_has ls 1 [] → W p l e rmX1_isEmpty s m args below meth c H locs 0 0 Q (F0 m 13 ls [.int s0]) := by
  intro s0 H locs ls h Z hl
  unfold mX1_isEmpty_13 at h
  obtain ⟨hn1, h⟩ := g_yi h
  exact hret s0 _ _ _ _ hn1 h Z dX1_isEmpty_13
set_option maxRecDepth 20000 in
set_option maxHeartbeats 4000000 in
theorem zX1_isEmpty (l : Launch) (D : va_G) (cyI cyJ cyO : ClassId) (A : Nat → Prop) (bs : Nat) (hA : ∀ q, bs ≤ q → A q) (X : va_W) (P : List Nat) (g : Nat → va_E) (b : Nat) (w : Int32) (n : Nat) (f : Nat → Int32) (hb : isF cyI P g b w n f) (N : Nat)  (res : Int32) (h : mX1_isEmpty N w n f = some res) : Met l yX1_isEmpty wsX1_isEmpty rmX1_isEmpty (va_Pc [.ref b] (gW D (gT cyI cyJ cyO) (X ++ va_pl P g) A bs)) (va_Qi (fun (r : Int32) (_ : Unit) => res = r) (fun (u : Unit) U => gW D (gT cyI cyJ cyO) (X ++ va_pl P g) A bs U) A)  0 0 A := by
  refine Met.ofW (cc := cX1_isEmpty) (maxL := 1) (ret := (some .boolean)) (by decide) rfl ?_
  intro p e s m args below meth c s₁ B hml hv
  obtain ⟨hav, hv⟩ := hv
  have C0 : gC p m meth c cX1_isEmpty 1 (some .boolean) s args wsX1_isEmpty RX1 := ⟨⟨B.exec, B.bytes, hml, findClass_of_methodNamed B.named, atoms_spec (ws := wsX1_isEmpty) B.pre⟩, B.returns, B.notSynchronized⟩
  have Z := g_start hA hv
  have hret : ∀ (r : Int32) (H : Heap) (locs : List Loc) (pc : Nat) (ls : Array Slot), (r = 0 ∨ r = 1) → some r = some res → gZ D (gT cyI cyJ cyO) (X ++ va_pl P g) A bs s H locs → decode cX1_isEmpty pc = .ok (.ireturn, 1) → W p l e rmX1_isEmpty s m args below meth c H locs 0 0 (MQ below (va_Qi (fun (r : Int32) (_ : Unit) => res = r) (fun (u : Unit) U => gW D (gT cyI cyJ cyO) (X ++ va_pl P g) A bs U) A) args s 0 0 A) (F0 m pc ls [.int r]) := by
    intro r H locs pc ls hb9 h Z hd
    replace h := Option.some.inj h
    subst h
    exact W.zret C0.1.1 C0.1.2.1 C0.2.1 (g_nb hb9) (fun t ht hW => ⟨⟨r, (), rfl, rfl, g_end Z ht hW⟩, va_S.F Z.2.2.2.1 ht⟩) Z.2.2.2.1.2.2 hd C0.2.2
  have hl := lv_entry ([.ref b]) (n := 1) (Nat.le_of_ble_eq_true rfl)
  rw [hav, lg_entry_eq]
  generalize (lg_sl ([.ref b]) ++ List.replicate (1 - (lg_sl ([.ref b])).length) Slot.unset).toArray = ls at hl ⊢
  have hl : lv_has ls 1 [(0, .ref b)] := hl
  rw [← hav]
  unfold mX1_isEmpty at h
  refine lv_aload_n C0.1.1 C0.1.2.1 dX1_isEmpty_0 rfl (lv_at hl 0 rfl) ?_
  refine d_fsignsO C0.1 Z hb kX1_isEmpty_in1 kX1_isEmpty_f9 dX1_isEmpty_1 (fun sa2 hs3 => ?_)
  refine d_alen C0.1 Z hs3 dX1_isEmpty_4 ?_
  refine lv_if_ne (tgt := 12) C0.1.1 C0.1.2.1 dX1_isEmpty_5 (by decide) (fun hc => ?_) (fun hc => ?_)
  · replace h := (if_neg hc).symm.trans h
    refine lv_iconst (v := 0) C0.1.1 C0.1.2.1 dX1_isEmpty_12 (by decide) ?_
    exact wX1_isEmpty_13 (N := N) C0 hb hret (0 : Int32) _ _ _ h Z (lv_sub hl [] rfl)
  · replace h := (if_pos hc).symm.trans h
    refine lv_iconst (v := 1) C0.1.1 C0.1.2.1 dX1_isEmpty_8 (by decide) ?_
    refine lv_goto (tgt := 13) C0.1.1 C0.1.2.1 dX1_isEmpty_9 (by decide) ?_
    exact wX1_isEmpty_13 (N := N) C0 hb hret (1 : Int32) _ _ _ h Z (lv_sub hl [] rfl)
/-! X1_canBeInput -/
abbrev rmX1_canBeInput : Room := { frames := 0, cells := 0, slots := 0, locals := 0 }
theorem kX1_canBeInput_in1 : ∀ w ∈ wsX10, w ∈ wsX1_canBeInput := by decide +kernel
theorem kX1_canBeInput_f9 : Cond.fieldLink RX1 9 "GoalseekOffice$Formula" "signs" "[I" ∈ wsX1_canBeInput := by decide +kernel
def mX1_canBeInput_33 (N : Nat) (w : Int32) (n : Nat) (f : Nat → Int32) (s0 : Int32) : Option (Int32) := (if (s0 = 0 ∨ s0 = 1) then some s0 else none)
def mX1_canBeInput_32 (N : Nat) (w : Int32) (n : Nat) (f : Nat → Int32) : Option (Int32) := mX1_canBeInput_33 N w n f (0 : Int32)
def mX1_canBeInput_28 (N : Nat) (w : Int32) (n : Nat) (f : Nat → Int32) : Option (Int32) := mX1_canBeInput_33 N w n f (1 : Int32)
def mX1_canBeInput (N : Nat) (w : Int32) (n : Nat) (f : Nat → Int32) : Option (Int32) := (if (nI n) = 0 then mX1_canBeInput_28 N w n f else (if (nI n) = (1 : Int32) then (if (0 : Int32) < 0 ∨ n ≤ (0 : Int32).toNatClampNeg then none else (if (f (0 : Int32).toNatClampNeg) < (36 : Int32) then mX1_canBeInput_32 N w n f else mX1_canBeInput_28 N w n f)) else mX1_canBeInput_32 N w n f))
set_option maxRecDepth 20000 in
set_option maxHeartbeats 4000000 in
theorem wX1_canBeInput_33 {p : Program} {l : Launch} {e : Env} {s : State} {m : MethodId} {args : Array Value} {below : List Frame} {meth : Method} {c : Code} {D : va_G} {cyI cyJ cyO : ClassId} {A : Nat → Prop} {bs : Nat} {X : va_W} {P : List Nat} {g : Nat → va_E} {b : Nat} {Q : State → Prop} {N : Nat} {w : Int32} {n : Nat} {f : Nat → Int32} {res : Int32} (C0 : gC p m meth c cX1_canBeInput 1 (some .boolean) s args wsX1_canBeInput RX1) (hb : isF cyI P g b w n f) (hret : ∀ (r : Int32) (H : Heap) (locs : List Loc) (pc : Nat) (ls : Array Slot), (r = 0 ∨ r = 1) → some r = some res → gZ D (gT cyI cyJ cyO) (X ++ va_pl P g) A bs s H locs → decode cX1_canBeInput pc = .ok (.ireturn, 1) → W p l e rmX1_canBeInput s m args below meth c H locs 0 0 Q (F0 m pc ls [.int r]))  : ∀ (s0 : Int32) (H : Heap) (locs : List Loc) (ls : Array Slot), mX1_canBeInput_33 N w n f s0 = some res → gZ D (gT cyI cyJ cyO) (X ++ va_pl P g) A bs s H locs → lv_has ls 1 [] → W p l e rmX1_canBeInput s m args below meth c H locs 0 0 Q (F0 m 33 ls [.int s0]) := by
  intro s0 H locs ls h Z hl
  unfold mX1_canBeInput_33 at h
  obtain ⟨hn1, h⟩ := g_yi h
  exact hret s0 _ _ _ _ hn1 h Z dX1_canBeInput_33
set_option maxRecDepth 20000 in
set_option maxHeartbeats 4000000 in
theorem wX1_canBeInput_32 {p : Program} {l : Launch} {e : Env} {s : State} {m : MethodId} {args : Array Value} {below : List Frame} {meth : Method} {c : Code} {D : va_G} {cyI cyJ cyO : ClassId} {A : Nat → Prop} {bs : Nat} {X : va_W} {P : List Nat} {g : Nat → va_E} {b : Nat} {Q : State → Prop} {N : Nat} {w : Int32} {n : Nat} {f : Nat → Int32} {res : Int32} (C0 : gC p m meth c cX1_canBeInput 1 (some .boolean) s args wsX1_canBeInput RX1) (hb : isF cyI P g b w n f) (hret : ∀ (r : Int32) (H : Heap) (locs : List Loc) (pc : Nat) (ls : Array Slot), (r = 0 ∨ r = 1) → some r = some res → gZ D (gT cyI cyJ cyO) (X ++ va_pl P g) A bs s H locs → decode cX1_canBeInput pc = .ok (.ireturn, 1) → W p l e rmX1_canBeInput s m args below meth c H locs 0 0 Q (F0 m pc ls [.int r]))  : ∀ (H : Heap) (locs : List Loc) (ls : Array Slot), mX1_canBeInput_32 N w n f = some res → gZ D (gT cyI cyJ cyO) (X ++ va_pl P g) A bs s H locs → lv_has ls 1 [] → W p l e rmX1_canBeInput s m args below meth c H locs 0 0 Q (F0 m 32 ls []) := by
  intro H locs ls h Z hl
  unfold mX1_canBeInput_32 at h
  refine lv_iconst (v := 0) C0.1.1 C0.1.2.1 dX1_canBeInput_32 (by decide) ?_
  exact wX1_canBeInput_33 (N := N) C0 hb hret (0 : Int32) _ _ _ h Z (lv_sub hl [] rfl)
set_option maxRecDepth 20000 in
set_option maxHeartbeats 4000000 in
theorem wX1_canBeInput_28 {p : Program} {l : Launch} {e : Env} {s : State} {m : MethodId} {args : Array Value} {below : List Frame} {meth : Method} {c : Code} {D : va_G} {cyI cyJ cyO : ClassId} {A : Nat → Prop} {bs : Nat} {X : va_W} {P : List Nat} {g : Nat → va_E} {b : Nat} {Q : State → Prop} {N : Nat} {w : Int32} {n : Nat} {f : Nat → Int32} {res : Int32} (C0 : gC p m meth c cX1_canBeInput 1 (some .boolean) s args wsX1_canBeInput RX1) (hb : isF cyI P g b w n f) (hret : ∀ (r : Int32) (H : Heap) (locs : List Loc) (pc : Nat) (ls : Array Slot), (r = 0 ∨ r = 1) → some r = some res → gZ D (gT cyI cyJ cyO) (X ++ va_pl P g) A bs s H locs → decode cX1_canBeInput pc = .ok (.ireturn, 1) → W p l e rmX1_canBeInput s m args below meth c H locs 0 0 Q (F0 m pc ls [.int r]))  : ∀ (H : Heap) (locs : List Loc) (ls : Array Slot), mX1_canBeInput_28 N w n f = some res → gZ D (gT cyI cyJ cyO) (X ++ va_pl P g) A bs s H locs → lv_has ls 1 [] → W p l e rmX1_canBeInput s m args below meth c H locs 0 0 Q (F0 m 28 ls []) := by
  intro H locs ls h Z hl
  unfold mX1_canBeInput_28 at h
  refine lv_iconst (v := 1) C0.1.1 C0.1.2.1 dX1_canBeInput_28 (by decide) ?_
  refine lv_goto (tgt := 33) C0.1.1 C0.1.2.1 dX1_canBeInput_29 (by decide) ?_
  exact wX1_canBeInput_33 (N := N) C0 hb hret (1 : Int32) _ _ _ h Z (lv_sub hl [] rfl)
set_option maxRecDepth 20000 in
set_option maxHeartbeats 4000000 in
theorem zX1_canBeInput (l : Launch) (D : va_G) (cyI cyJ cyO : ClassId) (A : Nat → Prop) (bs : Nat) (hA : ∀ q, bs ≤ q → A q) (X : va_W) (P : List Nat) (g : Nat → va_E) (b : Nat) (w : Int32) (n : Nat) (f : Nat → Int32) (hb : isF cyI P g b w n f) (N : Nat)  (res : Int32) (h : mX1_canBeInput N w n f = some res) : Met l yX1_canBeInput wsX1_canBeInput rmX1_canBeInput (va_Pc [.ref b] (gW D (gT cyI cyJ cyO) (X ++ va_pl P g) A bs)) (va_Qi (fun (r : Int32) (_ : Unit) => res = r) (fun (u : Unit) U => gW D (gT cyI cyJ cyO) (X ++ va_pl P g) A bs U) A)  0 0 A := by
  refine Met.ofW (cc := cX1_canBeInput) (maxL := 1) (ret := (some .boolean)) (by decide) rfl ?_
  intro p e s m args below meth c s₁ B hml hv
  obtain ⟨hav, hv⟩ := hv
  have C0 : gC p m meth c cX1_canBeInput 1 (some .boolean) s args wsX1_canBeInput RX1 := ⟨⟨B.exec, B.bytes, hml, findClass_of_methodNamed B.named, atoms_spec (ws := wsX1_canBeInput) B.pre⟩, B.returns, B.notSynchronized⟩
  have Z := g_start hA hv
  have hret : ∀ (r : Int32) (H : Heap) (locs : List Loc) (pc : Nat) (ls : Array Slot), (r = 0 ∨ r = 1) → some r = some res → gZ D (gT cyI cyJ cyO) (X ++ va_pl P g) A bs s H locs → decode cX1_canBeInput pc = .ok (.ireturn, 1) → W p l e rmX1_canBeInput s m args below meth c H locs 0 0 (MQ below (va_Qi (fun (r : Int32) (_ : Unit) => res = r) (fun (u : Unit) U => gW D (gT cyI cyJ cyO) (X ++ va_pl P g) A bs U) A) args s 0 0 A) (F0 m pc ls [.int r]) := by
    intro r H locs pc ls hb9 h Z hd
    replace h := Option.some.inj h
    subst h
    exact W.zret C0.1.1 C0.1.2.1 C0.2.1 (g_nb hb9) (fun t ht hW => ⟨⟨r, (), rfl, rfl, g_end Z ht hW⟩, va_S.F Z.2.2.2.1 ht⟩) Z.2.2.2.1.2.2 hd C0.2.2
  have hl := lv_entry ([.ref b]) (n := 1) (Nat.le_of_ble_eq_true rfl)
  rw [hav, lg_entry_eq]
  generalize (lg_sl ([.ref b]) ++ List.replicate (1 - (lg_sl ([.ref b])).length) Slot.unset).toArray = ls at hl ⊢
  have hl : lv_has ls 1 [(0, .ref b)] := hl
  rw [← hav]
  unfold mX1_canBeInput at h
  refine lv_aload_n C0.1.1 C0.1.2.1 dX1_canBeInput_0 rfl (lv_at hl 0 rfl) ?_
  refine d_fsignsO C0.1 Z hb kX1_canBeInput_in1 kX1_canBeInput_f9 dX1_canBeInput_1 (fun sa2 hs3 => ?_)
  refine d_alen C0.1 Z hs3 dX1_canBeInput_4 ?_
  refine lv_if_eq (tgt := 28) C0.1.1 C0.1.2.1 dX1_canBeInput_5 (by decide) (fun hc => ?_) (fun hc => ?_)
  · replace h := (if_pos hc).symm.trans h
    exact wX1_canBeInput_28 (N := N) C0 hb hret _ _ _ h Z (lv_sub hl [] rfl)
  · replace h := (if_neg hc).symm.trans h
    refine lv_aload_n C0.1.1 C0.1.2.1 dX1_canBeInput_8 rfl (lv_at hl 0 rfl) ?_
    refine d_fsignsO C0.1 Z hb kX1_canBeInput_in1 kX1_canBeInput_f9 dX1_canBeInput_9 (fun sa4 hs5 => ?_)
    refine d_alen C0.1 Z hs5 dX1_canBeInput_12 ?_
    refine lv_iconst (v := 1) C0.1.1 C0.1.2.1 dX1_canBeInput_13 (by decide) ?_
    refine lv_icmp_ne (tgt := 32) C0.1.1 C0.1.2.1 dX1_canBeInput_14 (by decide) (fun hc => ?_) (fun hc => ?_)
    · replace h := (if_neg hc).symm.trans h
      exact wX1_canBeInput_32 (N := N) C0 hb hret _ _ _ h Z (lv_sub hl [] rfl)
    · replace h := (if_pos hc).symm.trans h
      refine lv_aload_n C0.1.1 C0.1.2.1 dX1_canBeInput_17 rfl (lv_at hl 0 rfl) ?_
      refine d_fsignsO C0.1 Z hb kX1_canBeInput_in1 kX1_canBeInput_f9 dX1_canBeInput_18 (fun sa6 hs7 => ?_)
      refine lv_iconst (v := 0) C0.1.1 C0.1.2.1 dX1_canBeInput_21 (by decide) ?_
      obtain ⟨hi8, h⟩ := g_ni h
      refine d_iald C0.1 Z hs7 hi8 dX1_canBeInput_22 ?_
      refine lv_bipush (v := 36) C0.1.1 C0.1.2.1 dX1_canBeInput_23 (by decide +kernel) ?_
      refine lv_icmp_lt (tgt := 32) C0.1.1 C0.1.2.1 dX1_canBeInput_25 (by decide) (fun hc => ?_) (fun hc => ?_)
      · replace h := (if_pos hc).symm.trans h
        exact wX1_canBeInput_32 (N := N) C0 hb hret _ _ _ h Z (lv_sub hl [] rfl)
      · replace h := (if_neg hc).symm.trans h
        exact wX1_canBeInput_28 (N := N) C0 hb hret _ _ _ h Z (lv_sub hl [] rfl)
/-! X1_sameAs -/
abbrev rmX1_sameAs : Room := { frames := 0, cells := 0, slots := 0, locals := 0 }
theorem kX1_sameAs_in1 : ∀ w ∈ wsX10, w ∈ wsX1_sameAs := by decide +kernel
theorem kX1_sameAs_f9 : Cond.fieldLink RX1 9 "GoalseekOffice$Formula" "signs" "[I" ∈ wsX1_sameAs := by decide +kernel
def mX1_sameAs_17_b (N : Nat) (w : Int32) (n : Nat) (f : Nat → Int32) (w0 : Int32) (n0 : Nat) (f0 : Nat → Int32) (r17 : Int32 → Option (Int32)) (v2 : Int32) : Option (Int32) := (if (nI n) ≤ v2 then some (1 : Int32) else (if v2 < 0 ∨ n ≤ v2.toNatClampNeg then none else (if v2 < 0 ∨ n0 ≤ v2.toNatClampNeg then none else (if (f v2.toNatClampNeg) = (f0 v2.toNatClampNeg) then r17 (v2 + (1 : Int32)) else some (0 : Int32)))))
def mX1_sameAs_17 (N : Nat) (w : Int32) (n : Nat) (f : Nat → Int32) (w0 : Int32) (n0 : Nat) (f0 : Nat → Int32) : Nat → Int32 → Option (Int32)
  | 0 => fun _ => none
  | n_ + 1 => fun v2 => mX1_sameAs_17_b N w n f w0 n0 f0 (mX1_sameAs_17 N w n f w0 n0 f0 n_) v2
def mX1_sameAs (N : Nat) (w : Int32) (n : Nat) (f : Nat → Int32) (w0 : Int32) (n0 : Nat) (f0 : Nat → Int32) : Option (Int32) := (if (nI n) = (nI n0) then mX1_sameAs_17 N w n f w0 n0 f0 N (0 : Int32) else some (0 : Int32))
set_option maxRecDepth 20000 in
set_option maxHeartbeats 4000000 in
theorem wX1_sameAs_17_b {p : Program} {l : Launch} {e : Env} {s : State} {m : MethodId} {args : Array Value} {below : List Frame} {meth : Method} {c : Code} {D : va_G} {cyI cyJ cyO : ClassId} {A : Nat → Prop} {bs : Nat} {X : va_W} {P : List Nat} {g : Nat → va_E} {b : Nat} {Q : State → Prop} {N : Nat} {w : Int32} {n : Nat} {f : Nat → Int32} {w0 : Int32} {n0 : Nat} {f0 : Nat → Int32} {res : Int32} (C0 : gC p m meth c cX1_sameAs 3 (some .boolean) s args wsX1_sameAs RX1) (hb : isF cyI P g b w n f) {b0 : Nat} (hb0 : isF cyI P g b0 w0 n0 f0) (hret : ∀ (r : Int32) (H : Heap) (locs : List Loc) (pc : Nat) (ls : Array Slot), (r = 0 ∨ r = 1) → some r = some res → gZ D (gT cyI cyJ cyO) (X ++ va_pl P g) A bs s H locs → decode cX1_sameAs pc = .ok (.ireturn, 1) → W p l e rmX1_sameAs s m args below meth c H locs 0 0 Q (F0 m pc ls [.int r])) {r17 : Int32 → Option (Int32)} (hr17 : ∀ (v2 : Int32) (H : Heap) (locs : List Loc) (ls : Array Slot), r17 v2 = some res → gZ D (gT cyI cyJ cyO) (X ++ va_pl P g) A bs s H locs → lv_has ls 3 [(0, .ref b), (1, .ref b0), (2, .int v2)] → W p l e rmX1_sameAs s m args below meth c H locs 0 0 Q (F0 m 17 ls [])) : ∀ (v2 : Int32) (H : Heap) (locs : List Loc) (ls : Array Slot), mX1_sameAs_17_b N w n f w0 n0 f0 r17 v2 = some res → gZ D (gT cyI cyJ cyO) (X ++ va_pl P g) A bs s H locs → lv_has ls 3 [(0, .ref b), (1, .ref b0), (2, .int v2)] → W p l e rmX1_sameAs s m args below meth c H locs 0 0 Q (F0 m 17 ls []) := by
  intro v2 H locs ls h Z hl
  unfold mX1_sameAs_17_b at h
  refine lv_iload_n C0.1.1 C0.1.2.1 dX1_sameAs_17 rfl (lv_at hl 2 rfl) ?_
  refine lv_aload_n C0.1.1 C0.1.2.1 dX1_sameAs_18 rfl (lv_at hl 0 rfl) ?_
  refine d_fsignsO C0.1 Z hb kX1_sameAs_in1 kX1_sameAs_f9 dX1_sameAs_19 (fun sa1 hs2 => ?_)
  refine d_alen C0.1 Z hs2 dX1_sameAs_22 ?_
  refine lv_icmp_ge (tgt := 49) C0.1.1 C0.1.2.1 dX1_sameAs_23 (by decide) (fun hc => ?_) (fun hc => ?_)
  · replace h := (if_pos hc).symm.trans h
    refine lv_iconst (v := 1) C0.1.1 C0.1.2.1 dX1_sameAs_49 (by decide) ?_
    exact hret (1 : Int32) _ _ _ _ (Or.inr rfl) h Z dX1_sameAs_50
  · replace h := (if_neg hc).symm.trans h
    refine lv_aload_n C0.1.1 C0.1.2.1 dX1_sameAs_26 rfl (lv_at hl 0 rfl) ?_
    refine d_fsignsO C0.1 Z hb kX1_sameAs_in1 kX1_sameAs_f9 dX1_sameAs_27 (fun sa3 hs4 => ?_)
    refine lv_iload_n C0.1.1 C0.1.2.1 dX1_sameAs_30 rfl (lv_at hl 2 rfl) ?_
    obtain ⟨hi5, h⟩ := g_ni h
    refine d_iald C0.1 Z hs4 hi5 dX1_sameAs_31 ?_
    refine lv_aload_n C0.1.1 C0.1.2.1 dX1_sameAs_32 rfl (lv_at hl 1 rfl) ?_
    refine d_fsignsO C0.1 Z hb0 kX1_sameAs_in1 kX1_sameAs_f9 dX1_sameAs_33 (fun sa6 hs7 => ?_)
    refine lv_iload_n C0.1.1 C0.1.2.1 dX1_sameAs_36 rfl (lv_at hl 2 rfl) ?_
    obtain ⟨hi8, h⟩ := g_ni h
    refine d_iald C0.1 Z hs7 hi8 dX1_sameAs_37 ?_
    refine lv_icmp_eq (tgt := 43) C0.1.1 C0.1.2.1 dX1_sameAs_38 (by decide) (fun hc => ?_) (fun hc => ?_)
    · replace h := (if_pos hc).symm.trans h
      refine lv_iinc (v := v2 + (1 : Int32)) (lv' := [(2, .int (v2 + (1 : Int32))), (0, .ref b), (1, .ref b0)]) C0.1.1 C0.1.2.1 dX1_sameAs_43 hl (k := 2) rfl rfl (by decide) rfl (fun ls hl => ?_)
      refine lv_goto (tgt := 17) C0.1.1 C0.1.2.1 dX1_sameAs_46 (by decide) ?_
      exact hr17 (v2 + (1 : Int32)) _ _ _ h Z (lv_sub hl [1, 2, 0] rfl)
    · replace h := (if_neg hc).symm.trans h
      refine lv_iconst (v := 0) C0.1.1 C0.1.2.1 dX1_sameAs_41 (by decide) ?_
      exact hret (0 : Int32) _ _ _ _ (Or.inl rfl) h Z dX1_sameAs_42
theorem wX1_sameAs_17 {p : Program} {l : Launch} {e : Env} {s : State} {m : MethodId} {args : Array Value} {below : List Frame} {meth : Method} {c : Code} {D : va_G} {cyI cyJ cyO : ClassId} {A : Nat → Prop} {bs : Nat} {X : va_W} {P : List Nat} {g : Nat → va_E} {b : Nat} {Q : State → Prop} {N : Nat} {w : Int32} {n : Nat} {f : Nat → Int32} {w0 : Int32} {n0 : Nat} {f0 : Nat → Int32} {res : Int32} (C0 : gC p m meth c cX1_sameAs 3 (some .boolean) s args wsX1_sameAs RX1) (hb : isF cyI P g b w n f) {b0 : Nat} (hb0 : isF cyI P g b0 w0 n0 f0) (hret : ∀ (r : Int32) (H : Heap) (locs : List Loc) (pc : Nat) (ls : Array Slot), (r = 0 ∨ r = 1) → some r = some res → gZ D (gT cyI cyJ cyO) (X ++ va_pl P g) A bs s H locs → decode cX1_sameAs pc = .ok (.ireturn, 1) → W p l e rmX1_sameAs s m args below meth c H locs 0 0 Q (F0 m pc ls [.int r]))  : ∀ (n_ : Nat), ∀ (v2 : Int32) (H : Heap) (locs : List Loc) (ls : Array Slot), mX1_sameAs_17 N w n f w0 n0 f0 n_ v2 = some res → gZ D (gT cyI cyJ cyO) (X ++ va_pl P g) A bs s H locs → lv_has ls 3 [(0, .ref b), (1, .ref b0), (2, .int v2)] → W p l e rmX1_sameAs s m args below meth c H locs 0 0 Q (F0 m 17 ls []) := by
  intro n_
  induction n_ with
  | zero => intro _ _ _ _ h; cases h
  | succ n_ ih => exact wX1_sameAs_17_b (N := N) C0 hb hb0 hret ih
set_option maxRecDepth 20000 in
set_option maxHeartbeats 4000000 in
theorem zX1_sameAs (l : Launch) (D : va_G) (cyI cyJ cyO : ClassId) (A : Nat → Prop) (bs : Nat) (hA : ∀ q, bs ≤ q → A q) (X : va_W) (P : List Nat) (g : Nat → va_E) (b : Nat) (w : Int32) (n : Nat) (f : Nat → Int32) (hb : isF cyI P g b w n f) (b0 : Nat) (w0 : Int32) (n0 : Nat) (f0 : Nat → Int32) (hb0 : isF cyI P g b0 w0 n0 f0) (N : Nat)  (res : Int32) (h : mX1_sameAs N w n f w0 n0 f0 = some res) : Met l yX1_sameAs wsX1_sameAs rmX1_sameAs (va_Pc [.ref b, .ref b0] (gW D (gT cyI cyJ cyO) (X ++ va_pl P g) A bs)) (va_Qi (fun (r : Int32) (_ : Unit) => res = r) (fun (u : Unit) U => gW D (gT cyI cyJ cyO) (X ++ va_pl P g) A bs U) A)  0 0 A := by
  refine Met.ofW (cc := cX1_sameAs) (maxL := 3) (ret := (some .boolean)) (by decide) rfl ?_
  intro p e s m args below meth c s₁ B hml hv
  obtain ⟨hav, hv⟩ := hv
  have C0 : gC p m meth c cX1_sameAs 3 (some .boolean) s args wsX1_sameAs RX1 := ⟨⟨B.exec, B.bytes, hml, findClass_of_methodNamed B.named, atoms_spec (ws := wsX1_sameAs) B.pre⟩, B.returns, B.notSynchronized⟩
  have Z := g_start hA hv
  have hret : ∀ (r : Int32) (H : Heap) (locs : List Loc) (pc : Nat) (ls : Array Slot), (r = 0 ∨ r = 1) → some r = some res → gZ D (gT cyI cyJ cyO) (X ++ va_pl P g) A bs s H locs → decode cX1_sameAs pc = .ok (.ireturn, 1) → W p l e rmX1_sameAs s m args below meth c H locs 0 0 (MQ below (va_Qi (fun (r : Int32) (_ : Unit) => res = r) (fun (u : Unit) U => gW D (gT cyI cyJ cyO) (X ++ va_pl P g) A bs U) A) args s 0 0 A) (F0 m pc ls [.int r]) := by
    intro r H locs pc ls hb9 h Z hd
    replace h := Option.some.inj h
    subst h
    exact W.zret C0.1.1 C0.1.2.1 C0.2.1 (g_nb hb9) (fun t ht hW => ⟨⟨r, (), rfl, rfl, g_end Z ht hW⟩, va_S.F Z.2.2.2.1 ht⟩) Z.2.2.2.1.2.2 hd C0.2.2
  have hl := lv_entry ([.ref b, .ref b0]) (n := 3) (Nat.le_of_ble_eq_true rfl)
  rw [hav, lg_entry_eq]
  generalize (lg_sl ([.ref b, .ref b0]) ++ List.replicate (3 - (lg_sl ([.ref b, .ref b0])).length) Slot.unset).toArray = ls at hl ⊢
  have hl : lv_has ls 3 [(0, .ref b), (1, .ref b0)] := hl
  rw [← hav]
  unfold mX1_sameAs at h
  refine lv_aload_n C0.1.1 C0.1.2.1 dX1_sameAs_0 rfl (lv_at hl 0 rfl) ?_
  refine d_fsignsO C0.1 Z hb kX1_sameAs_in1 kX1_sameAs_f9 dX1_sameAs_1 (fun sa9 hs10 => ?_)
  refine d_alen C0.1 Z hs10 dX1_sameAs_4 ?_
  refine lv_aload_n C0.1.1 C0.1.2.1 dX1_sameAs_5 rfl (lv_at hl 1 rfl) ?_
  refine d_fsignsO C0.1 Z hb0 kX1_sameAs_in1 kX1_sameAs_f9 dX1_sameAs_6 (fun sa11 hs12 => ?_)
  refine d_alen C0.1 Z hs12 dX1_sameAs_9 ?_
  refine lv_icmp_eq (tgt := 15) C0.1.1 C0.1.2.1 dX1_sameAs_10 (by decide) (fun hc => ?_) (fun hc => ?_)
  · replace h := (if_pos hc).symm.trans h
    refine lv_iconst (v := 0) C0.1.1 C0.1.2.1 dX1_sameAs_15 (by decide) ?_
    refine lv_istore_n (lv' := [(2, .int (0 : Int32)), (0, .ref b), (1, .ref b0)]) C0.1.1 C0.1.2.1 dX1_sameAs_16 rfl hl (by decide) rfl (fun ls hl => ?_)
    exact wX1_sameAs_17 (N := N) C0 hb hb0 hret N (0 : Int32) _ _ _ h Z (lv_sub hl [1, 2, 0] rfl)
  · replace h := (if_neg hc).symm.trans h
    refine lv_iconst (v := 0) C0.1.1 C0.1.2.1 dX1_sameAs_13 (by decide) ?_
    exact hret (0 : Int32) _ _ _ _ (Or.inl rfl) h Z dX1_sameAs_14
/-! X0_write -/
abbrev rmX0_write : Room := { frames := 0, cells := 0, slots := 0, locals := 0 }
theorem kX0_write_in0 : ∀ w ∈ wsX00, w ∈ wsX0_write := by decide +kernel
theorem kX0_write_f15 : Cond.fieldLink RX0 15 "GoalseekOffice$Draft" "count" "I" ∈ wsX0_write := by decide +kernel
theorem kX0_write_f9 : Cond.fieldLink RX0 9 "GoalseekOffice$Draft" "signs" "[I" ∈ wsX0_write := by decide +kernel
def mX0_write_32 (N : Nat) (dc : Int32) (ds : Nat → Int32) : Option (Int32 × Int32 × (Nat → Int32)) := some (dc, dc, ds)
def mX0_write (N : Nat) (dc : Int32) (ds : Nat → Int32) (p0 : Int32) : Option (Int32 × Int32 × (Nat → Int32)) := (if (15 : Int32) ≤ dc then mX0_write_32 N dc ds else (if dc < 0 ∨ 15 ≤ dc.toNatClampNeg then none else mX0_write_32 N (dc + (1 : Int32)) (upd ds dc.toNatClampNeg p0)))
set_option maxRecDepth 20000 in
set_option maxHeartbeats 4000000 in
theorem wX0_write_32 {p : Program} {l : Launch} {e : Env} {s : State} {m : MethodId} {args : Array Value} {below : List Frame} {meth : Method} {c : Code} {D : va_G} {cyI cyJ cyO : ClassId} {A : Nat → Prop} {bs : Nat} {P : List Nat} {g : Nat → va_E} {d : Nat → Nat} {eA : Nat} {Q : State → Prop} {ol : Int32} {fd : Int32} {fw : Nat → Int32} {fn : Nat → Nat} {ff : Nat → Nat → Int32} {qw : Nat → Int32} {qn : Nat → Nat} {qf : Nat → Nat → Int32} {va : Nat → Int64} {tr : Nat → Int64} {N : Nat} {res : Int32 × Int32 × (Nat → Int32)} (C0 : gC p m meth c cX0_write 2 (some .int) s args wsX0_write RX0) (hN : dN s) (hT : dT A s) (hret : ∀ (r : Int32) (dc_r : Int32) (ds_r : Nat → Int32) (H : Heap) (locs : List Loc) (pc : Nat) (ls : Array Slot), some (r, dc_r, ds_r) = some res → dZ D cyI cyJ cyO A bs P g d eA (d 5) (d 6) ol fd dc_r ds_r fw fn ff qw qn qf va tr s H locs → decode cX0_write pc = .ok (.ireturn, 1) → W p l e rmX0_write s m args below meth c H locs 0 0 Q (F0 m pc ls [.int r]))  : ∀ (dc : Int32) (ds : Nat → Int32) (H : Heap) (locs : List Loc) (ls : Array Slot), mX0_write_32 N dc ds = some res → dZ D cyI cyJ cyO A bs P g d eA (d 5) (d 6) ol fd dc ds fw fn ff qw qn qf va tr s H locs → lv_has ls 2 [(0, .ref (d 1))] → W p l e rmX0_write s m args below meth c H locs 0 0 Q (F0 m 32 ls []) := by
  intro dc ds H locs ls h Z hl
  unfold mX0_write_32 at h
  obtain ⟨rs1, rr1, at1, fa1, ra1, Z, hF1⟩ := Z
  refine lv_aload_n C0.1.1 C0.1.2.1 dX0_write_32 rfl (lv_at hl 0 rfl) ?_
  refine g_get (ci := 2) (v := .int dc) (T := TX0) (N := 2) C0.1 Z 1 rfl rfl 1 (by decide) kX0_write_in0 kX0_write_f15 rfl rfl dX0_write_33 ?_
  exact hret dc dc ds _ _ _ _ h ⟨rs1, rr1, at1, fa1, ra1, Z, hF1⟩ dX0_write_36
set_option maxRecDepth 20000 in
set_option maxHeartbeats 4000000 in
theorem zX0_write (l : Launch) (D : va_G) (cyI cyJ cyO : ClassId) (A : Nat → Prop) (bs : Nat) (hA : ∀ q, bs ≤ q → A q) (P : List Nat) (g : Nat → va_E) (d : Nat → Nat) (eA : Nat) (ol : Int32) (fd : Int32) (dc : Int32) (ds : Nat → Int32) (fw : Nat → Int32) (fn : Nat → Nat) (ff : Nat → Nat → Int32) (qw : Nat → Int32) (qn : Nat → Nat) (qf : Nat → Nat → Int32) (va : Nat → Int64) (tr : Nat → Int64) (N : Nat) (p0 : Int32) (res : Int32 × Int32 × (Nat → Int32)) (h : mX0_write N dc ds p0 = some res) : Met l yX0_write wsX0_write rmX0_write (va_Pc [.ref (d 1), .int p0] (dP (dW D cyI cyJ cyO A bs P g d eA (d 5) (d 6) ol fd dc ds fw fn ff qw qn qf va tr) A)) (va_Qi (fun (r : Int32) (u : Int32 × (Nat → Int32)) => res.1 = r ∧ res.2 = u) (fun (u : Int32 × (Nat → Int32)) U => dW D cyI cyJ cyO A bs P g d eA (d 5) (d 6) ol fd u.1 u.2 fw fn ff qw qn qf va tr U) A)  0 0 A := by
  refine Met.ofW (cc := cX0_write) (maxL := 2) (ret := (some .int)) (by decide) rfl ?_
  intro p e s m args below meth c s₁ B hml hv
  obtain ⟨hav, hv⟩ := hv
  obtain ⟨hv, hN, hT⟩ := hv
  have C0 : gC p m meth c cX0_write 2 (some .int) s args wsX0_write RX0 := ⟨⟨B.exec, B.bytes, hml, findClass_of_methodNamed B.named, atoms_spec (ws := wsX0_write) B.pre⟩, B.returns, B.notSynchronized⟩
  have Z := dZ_start hA hv
  have hret : ∀ (r : Int32) (dc_r : Int32) (ds_r : Nat → Int32) (H : Heap) (locs : List Loc) (pc : Nat) (ls : Array Slot), some (r, dc_r, ds_r) = some res → dZ D cyI cyJ cyO A bs P g d eA (d 5) (d 6) ol fd dc_r ds_r fw fn ff qw qn qf va tr s H locs → decode cX0_write pc = .ok (.ireturn, 1) → W p l e rmX0_write s m args below meth c H locs 0 0 (MQ below (va_Qi (fun (r : Int32) (u : Int32 × (Nat → Int32)) => res.1 = r ∧ res.2 = u) (fun (u : Int32 × (Nat → Int32)) U => dW D cyI cyJ cyO A bs P g d eA (d 5) (d 6) ol fd u.1 u.2 fw fn ff qw qn qf va tr U) A) args s 0 0 A) (F0 m pc ls [.int r]) := by
    intro r dc_r ds_r H locs pc ls h Z hd
    replace h := Option.some.inj h
    subst h
    exact W.iret C0.1.1 C0.1.2.1 C0.2.1 (fun t ht hW => ⟨⟨r, (dc_r, ds_r), rfl, ⟨rfl, rfl⟩, dZ_end Z ht hW⟩, va_S.F (dZ_S Z) ht⟩) (dZ_S Z).2.2 hd C0.2.2
  have hl := lv_entry ([.ref (d 1), .int p0]) (n := 2) (Nat.le_of_ble_eq_true rfl)
  rw [hav, lg_entry_eq]
  generalize (lg_sl ([.ref (d 1), .int p0]) ++ List.replicate (2 - (lg_sl ([.ref (d 1), .int p0])).length) Slot.unset).toArray = ls at hl ⊢
  have hl : lv_has ls 2 [(0, .ref (d 1)), (1, .int p0)] := hl
  rw [← hav]
  unfold mX0_write at h
  obtain ⟨rs2, rr2, at2, fa2, ra2, Z, hF2⟩ := Z
  refine lv_aload_n C0.1.1 C0.1.2.1 dX0_write_0 rfl (lv_at hl 0 rfl) ?_
  refine g_get (ci := 2) (v := .int dc) (T := TX0) (N := 2) C0.1 Z 1 rfl rfl 1 (by decide) kX0_write_in0 kX0_write_f15 rfl rfl dX0_write_1 ?_
  refine lv_aload_n C0.1.1 C0.1.2.1 dX0_write_4 rfl (lv_at hl 0 rfl) ?_
  refine g_get (ci := 2) (v := .ref (d 7)) (T := TX0) (N := 2) C0.1 Z 1 rfl rfl 0 (by decide) kX0_write_in0 kX0_write_f9 rfl rfl dX0_write_5 ?_
  refine g_alen C0.1 Z 7 0 (ty := .int) rfl rfl (v := 15) rfl dX0_write_8 ?_
  refine lv_icmp_ge (tgt := 32) C0.1.1 C0.1.2.1 dX0_write_9 (by decide) (fun hc => ?_) (fun hc => ?_)
  · replace h := (if_pos hc).symm.trans h
    exact wX0_write_32 (N := N) C0 hN hT hret dc ds _ _ _ h ⟨rs2, rr2, at2, fa2, ra2, Z, hF2⟩ (lv_sub hl [0] rfl)
  · replace h := (if_neg hc).symm.trans h
    refine lv_aload_n C0.1.1 C0.1.2.1 dX0_write_12 rfl (lv_at hl 0 rfl) ?_
    refine g_get (ci := 2) (v := .ref (d 7)) (T := TX0) (N := 2) C0.1 Z 1 rfl rfl 0 (by decide) kX0_write_in0 kX0_write_f9 rfl rfl dX0_write_13 ?_
    refine lv_aload_n C0.1.1 C0.1.2.1 dX0_write_16 rfl (lv_at hl 0 rfl) ?_
    refine g_get (ci := 2) (v := .int dc) (T := TX0) (N := 2) C0.1 Z 1 rfl rfl 1 (by decide) kX0_write_in0 kX0_write_f15 rfl rfl dX0_write_17 ?_
    refine lv_iload_n C0.1.1 C0.1.2.1 dX0_write_20 rfl (lv_at hl 1 rfl) ?_
    obtain ⟨hi3, h⟩ := g_ni h
    refine g_iast (f := ds) (n := 15) (ws' := (XD d cyI cyJ cyO eA (d 5) (d 6) rs2 rr2 at2 fa2 ra2 ol fd dc (upd ds dc.toNatClampNeg p0) va tr ++ va_pl P g)) C0.1 Z 7 0 rfl rfl hi3 dX0_write_21 rfl (fun H locs Z => ?_)
    refine lv_aload_n C0.1.1 C0.1.2.1 dX0_write_22 rfl (lv_at hl 0 rfl) ?_
    refine lv_dup C0.1.1 C0.1.2.1 dX0_write_23 rfl ?_
    refine g_get (ci := 2) (v := .int dc) (T := TX0) (N := 2) C0.1 Z 1 rfl rfl 1 (by decide) kX0_write_in0 kX0_write_f15 rfl rfl dX0_write_24 ?_
    refine lv_iconst (v := 1) C0.1.1 C0.1.2.1 dX0_write_27 (by decide) ?_
    refine lv_iadd C0.1.1 C0.1.2.1 dX0_write_28 ?_
    refine g_put (ci := 2) (v := .int (dc + (1 : Int32))) (T := TX0) (N := 2) (ws' := (XD d cyI cyJ cyO eA (d 5) (d 6) rs2 rr2 at2 fa2 ra2 ol fd (dc + (1 : Int32)) (upd ds dc.toNatClampNeg p0) va tr ++ va_pl P g)) C0.1 Z 1 rfl rfl 1 (by decide) kX0_write_in0 kX0_write_f15 rfl tyX0 tyX0_ok nmX0 rfl rfl rfl (Nat.le_of_ble_eq_true rfl) dX0_write_29 rfl (fun H locs Z => ?_)
    exact wX0_write_32 (N := N) C0 hN hT hret (dc + (1 : Int32)) (upd ds dc.toNatClampNeg p0) _ _ _ h ⟨rs2, rr2, at2, fa2, ra2, Z, hF2⟩ (lv_sub hl [0] rfl)
/-! X0_faultPlace -/
abbrev rmX0_faultPlace : Room := { frames := 0, cells := 0, slots := 0, locals := 0 }
theorem kX0_faultPlace_in0 : ∀ w ∈ wsX00, w ∈ wsX0_faultPlace := by decide +kernel
theorem kX0_faultPlace_f15 : Cond.fieldLink RX0 15 "GoalseekOffice$Draft" "count" "I" ∈ wsX0_faultPlace := by decide +kernel
theorem kX0_faultPlace_f9 : Cond.fieldLink RX0 9 "GoalseekOffice$Draft" "signs" "[I" ∈ wsX0_faultPlace := by decide +kernel
def mX0_faultPlace_118 (N : Nat) (dc : Int32) (ds : Nat → Int32) (s0 : Int32) : Option (Int32) := some s0
def mX0_faultPlace_110 (N : Nat) (dc : Int32) (ds : Nat → Int32) : Option (Int32) := mX0_faultPlace_118 N dc ds dc
def mX0_faultPlace_102 (N : Nat) (dc : Int32) (ds : Nat → Int32) (v1 : Int32) (v2 : Int32) : Option (Int32) := (if v2 = 0 then (if v1 ≤ 0 then mX0_faultPlace_118 N dc ds (-1 : Int32) else mX0_faultPlace_110 N dc ds) else mX0_faultPlace_110 N dc ds)
def mX0_faultPlace_96 (N : Nat) (dc : Int32) (ds : Nat → Int32) (r6 : Int32 → Int32 → Int32 → Option (Int32)) (v1 : Int32) (v2 : Int32) (v3 : Int32) : Option (Int32) := r6 v1 v2 (v3 + (1 : Int32))
def mX0_faultPlace_94 (N : Nat) (dc : Int32) (ds : Nat → Int32) (v3 : Int32) : Option (Int32) := some v3
def mX0_faultPlace_6_b (N : Nat) (dc : Int32) (ds : Nat → Int32) (r6 : Int32 → Int32 → Int32 → Option (Int32)) (v1 : Int32) (v2 : Int32) (v3 : Int32) : Option (Int32) := (if dc ≤ v3 then mX0_faultPlace_102 N dc ds v1 v2 else (if (15 : Int32) ≤ v3 then mX0_faultPlace_102 N dc ds v1 v2 else (if v3 < 0 ∨ 15 ≤ v3.toNatClampNeg then none else (if v2 = 0 then (if (3 : Int32) < (ds v3.toNatClampNeg) then (if (ds v3.toNatClampNeg) = (5 : Int32) then (if v1 ≤ 0 then mX0_faultPlace_94 N dc ds v3 else mX0_faultPlace_96 N dc ds r6 (v1 + (-1 : Int32)) v2 v3) else mX0_faultPlace_94 N dc ds v3) else mX0_faultPlace_96 N dc ds r6 v1 (1 : Int32) v3) else (if (ds v3.toNatClampNeg) = (4 : Int32) then mX0_faultPlace_96 N dc ds r6 (v1 + (1 : Int32)) v2 v3 else (if (ds v3.toNatClampNeg) < (6 : Int32) then (if (ds v3.toNatClampNeg) = (1 : Int32) then mX0_faultPlace_96 N dc ds r6 v1 v2 v3 else some v3) else mX0_faultPlace_96 N dc ds r6 v1 (0 : Int32) v3))))))
def mX0_faultPlace_6 (N : Nat) (dc : Int32) (ds : Nat → Int32) : Nat → Int32 → Int32 → Int32 → Option (Int32)
  | 0 => fun _ _ _ => none
  | n_ + 1 => fun v1 v2 v3 => mX0_faultPlace_6_b N dc ds (mX0_faultPlace_6 N dc ds n_) v1 v2 v3
def mX0_faultPlace (N : Nat) (dc : Int32) (ds : Nat → Int32) : Option (Int32) := mX0_faultPlace_6 N dc ds N (0 : Int32) (1 : Int32) (0 : Int32)
set_option maxRecDepth 20000 in
set_option maxHeartbeats 4000000 in
theorem wX0_faultPlace_118 {p : Program} {l : Launch} {e : Env} {s : State} {m : MethodId} {args : Array Value} {below : List Frame} {meth : Method} {c : Code} {D : va_G} {cyI cyJ cyO : ClassId} {A : Nat → Prop} {bs : Nat} {P : List Nat} {g : Nat → va_E} {d : Nat → Nat} {eA : Nat} {Q : State → Prop} {ol : Int32} {fd : Int32} {dc : Int32} {ds : Nat → Int32} {fw : Nat → Int32} {fn : Nat → Nat} {ff : Nat → Nat → Int32} {qw : Nat → Int32} {qn : Nat → Nat} {qf : Nat → Nat → Int32} {va : Nat → Int64} {tr : Nat → Int64} {N : Nat} {res : Int32} (C0 : gC p m meth c cX0_faultPlace 5 (some .int) s args wsX0_faultPlace RX0) (hN : dN s) (hT : dT A s) (hret : ∀ (r : Int32) (H : Heap) (locs : List Loc) (pc : Nat) (ls : Array Slot), some r = some res → dZ D cyI cyJ cyO A bs P g d eA (d 5) (d 6) ol fd dc ds fw fn ff qw qn qf va tr s H locs → decode cX0_faultPlace pc = .ok (.ireturn, 1) → W p l e rmX0_faultPlace s m args below meth c H locs 0 0 Q (F0 m pc ls [.int r]))  : ∀ (s0 : Int32) (H : Heap) (locs : List Loc) (ls : Array Slot), mX0_faultPlace_118 N dc ds s0 = some res → dZ D cyI cyJ cyO A bs P g d eA (d 5) (d 6) ol fd dc ds fw fn ff qw qn qf va tr s H locs → lv_has ls 5 [] → W p l e rmX0_faultPlace s m args below meth c H locs 0 0 Q (F0 m 118 ls [.int s0]) := by
  intro s0 H locs ls h Z hl
  unfold mX0_faultPlace_118 at h
  obtain ⟨rs1, rr1, at1, fa1, ra1, Z, hF1⟩ := Z
  exact hret s0 _ _ _ _ h ⟨rs1, rr1, at1, fa1, ra1, Z, hF1⟩ dX0_faultPlace_118
set_option maxRecDepth 20000 in
set_option maxHeartbeats 4000000 in
theorem wX0_faultPlace_110 {p : Program} {l : Launch} {e : Env} {s : State} {m : MethodId} {args : Array Value} {below : List Frame} {meth : Method} {c : Code} {D : va_G} {cyI cyJ cyO : ClassId} {A : Nat → Prop} {bs : Nat} {P : List Nat} {g : Nat → va_E} {d : Nat → Nat} {eA : Nat} {Q : State → Prop} {ol : Int32} {fd : Int32} {dc : Int32} {ds : Nat → Int32} {fw : Nat → Int32} {fn : Nat → Nat} {ff : Nat → Nat → Int32} {qw : Nat → Int32} {qn : Nat → Nat} {qf : Nat → Nat → Int32} {va : Nat → Int64} {tr : Nat → Int64} {N : Nat} {res : Int32} (C0 : gC p m meth c cX0_faultPlace 5 (some .int) s args wsX0_faultPlace RX0) (hN : dN s) (hT : dT A s) (hret : ∀ (r : Int32) (H : Heap) (locs : List Loc) (pc : Nat) (ls : Array Slot), some r = some res → dZ D cyI cyJ cyO A bs P g d eA (d 5) (d 6) ol fd dc ds fw fn ff qw qn qf va tr s H locs → decode cX0_faultPlace pc = .ok (.ireturn, 1) → W p l e rmX0_faultPlace s m args below meth c H locs 0 0 Q (F0 m pc ls [.int r]))  : ∀ (H : Heap) (locs : List Loc) (ls : Array Slot), mX0_faultPlace_110 N dc ds = some res → dZ D cyI cyJ cyO A bs P g d eA (d 5) (d 6) ol fd dc ds fw fn ff qw qn qf va tr s H locs → lv_has ls 5 [(0, .ref (d 1))] → W p l e rmX0_faultPlace s m args below meth c H locs 0 0 Q (F0 m 110 ls []) := by
  intro H locs ls h Z hl
  unfold mX0_faultPlace_110 at h
  obtain ⟨rs2, rr2, at2, fa2, ra2, Z, hF2⟩ := Z
  refine lv_aload_n C0.1.1 C0.1.2.1 dX0_faultPlace_110 rfl (lv_at hl 0 rfl) ?_
  refine g_get (ci := 2) (v := .int dc) (T := TX0) (N := 2) C0.1 Z 1 rfl rfl 1 (by decide) kX0_faultPlace_in0 kX0_faultPlace_f15 rfl rfl dX0_faultPlace_111 ?_
  refine lv_goto (tgt := 118) C0.1.1 C0.1.2.1 dX0_faultPlace_114 (by decide) ?_
  exact wX0_faultPlace_118 (N := N) C0 hN hT hret dc _ _ _ h ⟨rs2, rr2, at2, fa2, ra2, Z, hF2⟩ (lv_sub hl [] rfl)
set_option maxRecDepth 20000 in
set_option maxHeartbeats 4000000 in
theorem wX0_faultPlace_102 {p : Program} {l : Launch} {e : Env} {s : State} {m : MethodId} {args : Array Value} {below : List Frame} {meth : Method} {c : Code} {D : va_G} {cyI cyJ cyO : ClassId} {A : Nat → Prop} {bs : Nat} {P : List Nat} {g : Nat → va_E} {d : Nat → Nat} {eA : Nat} {Q : State → Prop} {ol : Int32} {fd : Int32} {dc : Int32} {ds : Nat → Int32} {fw : Nat → Int32} {fn : Nat → Nat} {ff : Nat → Nat → Int32} {qw : Nat → Int32} {qn : Nat → Nat} {qf : Nat → Nat → Int32} {va : Nat → Int64} {tr : Nat → Int64} {N : Nat} {res : Int32} (C0 : gC p m meth c cX0_faultPlace 5 (some .int) s args wsX0_faultPlace RX0) (hN : dN s) (hT : dT A s) (hret : ∀ (r : Int32) (H : Heap) (locs : List Loc) (pc : Nat) (ls : Array Slot), some r = some res → dZ D cyI cyJ cyO A bs P g d eA (d 5) (d 6) ol fd dc ds fw fn ff qw qn qf va tr s H locs → decode cX0_faultPlace pc = .ok (.ireturn, 1) → W p l e rmX0_faultPlace s m args below meth c H locs 0 0 Q (F0 m pc ls [.int r]))  : ∀ (v1 : Int32) (v2 : Int32) (H : Heap) (locs : List Loc) (ls : Array Slot), mX0_faultPlace_102 N dc ds v1 v2 = some res → dZ D cyI cyJ cyO A bs P g d eA (d 5) (d 6) ol fd dc ds fw fn ff qw qn qf va tr s H locs → lv_has ls 5 [(0, .ref (d 1)), (1, .int v1), (2, .int v2)] → W p l e rmX0_faultPlace s m args below meth c H locs 0 0 Q (F0 m 102 ls []) := by
  intro v1 v2 H locs ls h Z hl
  unfold mX0_faultPlace_102 at h
  obtain ⟨rs3, rr3, at3, fa3, ra3, Z, hF3⟩ := Z
  refine lv_iload_n C0.1.1 C0.1.2.1 dX0_faultPlace_102 rfl (lv_at hl 2 rfl) ?_
  refine lv_if_ne (tgt := 110) C0.1.1 C0.1.2.1 dX0_faultPlace_103 (by decide) (fun hc => ?_) (fun hc => ?_)
  · replace h := (if_neg hc).symm.trans h
    exact wX0_faultPlace_110 (N := N) C0 hN hT hret _ _ _ h ⟨rs3, rr3, at3, fa3, ra3, Z, hF3⟩ (lv_sub hl [0] rfl)
  · replace h := (if_pos hc).symm.trans h
    refine lv_iload_n C0.1.1 C0.1.2.1 dX0_faultPlace_106 rfl (lv_at hl 1 rfl) ?_
    refine lv_if_le (tgt := 117) C0.1.1 C0.1.2.1 dX0_faultPlace_107 (by decide) (fun hc => ?_) (fun hc => ?_)
    · replace h := (if_pos hc).symm.trans h
      refine lv_iconst (v := -1) C0.1.1 C0.1.2.1 dX0_faultPlace_117 (by decide) ?_
      exact wX0_faultPlace_118 (N := N) C0 hN hT hret (-1 : Int32) _ _ _ h ⟨rs3, rr3, at3, fa3, ra3, Z, hF3⟩ (lv_sub hl [] rfl)
    · replace h := (if_neg hc).symm.trans h
      exact wX0_faultPlace_110 (N := N) C0 hN hT hret _ _ _ h ⟨rs3, rr3, at3, fa3, ra3, Z, hF3⟩ (lv_sub hl [0] rfl)
set_option maxRecDepth 20000 in
set_option maxHeartbeats 4000000 in
theorem wX0_faultPlace_96 {p : Program} {l : Launch} {e : Env} {s : State} {m : MethodId} {args : Array Value} {below : List Frame} {meth : Method} {c : Code} {D : va_G} {cyI cyJ cyO : ClassId} {A : Nat → Prop} {bs : Nat} {P : List Nat} {g : Nat → va_E} {d : Nat → Nat} {eA : Nat} {Q : State → Prop} {ol : Int32} {fd : Int32} {dc : Int32} {ds : Nat → Int32} {fw : Nat → Int32} {fn : Nat → Nat} {ff : Nat → Nat → Int32} {qw : Nat → Int32} {qn : Nat → Nat} {qf : Nat → Nat → Int32} {va : Nat → Int64} {tr : Nat → Int64} {N : Nat} {res : Int32} (C0 : gC p m meth c cX0_faultPlace 5 (some .int) s args wsX0_faultPlace RX0) (hN : dN s) (hT : dT A s) (hret : ∀ (r : Int32) (H : Heap) (locs : List Loc) (pc : Nat) (ls : Array Slot), some r = some res → dZ D cyI cyJ cyO A bs P g d eA (d 5) (d 6) ol fd dc ds fw fn ff qw qn qf va tr s H locs → decode cX0_faultPlace pc = .ok (.ireturn, 1) → W p l e rmX0_faultPlace s m args below meth c H locs 0 0 Q (F0 m pc ls [.int r])) {r6 : Int32 → Int32 → Int32 → Option (Int32)} (hr6 : ∀ (v1 : Int32) (v2 : Int32) (v3 : Int32) (H : Heap) (locs : List Loc) (ls : Array Slot), r6 v1 v2 v3 = some res → dZ D cyI cyJ cyO A bs P g d eA (d 5) (d 6) ol fd dc ds fw fn ff qw qn qf va tr s H locs → lv_has ls 5 [(0, .ref (d 1)), (1, .int v1), (2, .int v2), (3, .int v3)] → W p l e rmX0_faultPlace s m args below meth c H locs 0 0 Q (F0 m 6 ls [])) : ∀ (v1 : Int32) (v2 : Int32) (v3 : Int32) (H : Heap) (locs : List Loc) (ls : Array Slot), mX0_faultPlace_96 N dc ds r6 v1 v2 v3 = some res → dZ D cyI cyJ cyO A bs P g d eA (d 5) (d 6) ol fd dc ds fw fn ff qw qn qf va tr s H locs → lv_has ls 5 [(0, .ref (d 1)), (1, .int v1), (2, .int v2), (3, .int v3)] → W p l e rmX0_faultPlace s m args below meth c H locs 0 0 Q (F0 m 96 ls []) := by
  intro v1 v2 v3 H locs ls h Z hl
  unfold mX0_faultPlace_96 at h
  obtain ⟨rs4, rr4, at4, fa4, ra4, Z, hF4⟩ := Z
  refine lv_iinc (v := v3 + (1 : Int32)) (lv' := [(3, .int (v3 + (1 : Int32))), (0, .ref (d 1)), (1, .int v1), (2, .int v2)]) C0.1.1 C0.1.2.1 dX0_faultPlace_96 hl (k := 3) rfl rfl (by decide) rfl (fun ls hl => ?_)
  refine lv_goto (tgt := 6) C0.1.1 C0.1.2.1 dX0_faultPlace_99 (by decide) ?_
  exact hr6 v1 v2 (v3 + (1 : Int32)) _ _ _ h ⟨rs4, rr4, at4, fa4, ra4, Z, hF4⟩ (lv_sub hl [1, 2, 3, 0] rfl)
set_option maxRecDepth 20000 in
set_option maxHeartbeats 4000000 in
theorem wX0_faultPlace_94 {p : Program} {l : Launch} {e : Env} {s : State} {m : MethodId} {args : Array Value} {below : List Frame} {meth : Method} {c : Code} {D : va_G} {cyI cyJ cyO : ClassId} {A : Nat → Prop} {bs : Nat} {P : List Nat} {g : Nat → va_E} {d : Nat → Nat} {eA : Nat} {Q : State → Prop} {ol : Int32} {fd : Int32} {dc : Int32} {ds : Nat → Int32} {fw : Nat → Int32} {fn : Nat → Nat} {ff : Nat → Nat → Int32} {qw : Nat → Int32} {qn : Nat → Nat} {qf : Nat → Nat → Int32} {va : Nat → Int64} {tr : Nat → Int64} {N : Nat} {res : Int32} (C0 : gC p m meth c cX0_faultPlace 5 (some .int) s args wsX0_faultPlace RX0) (hN : dN s) (hT : dT A s) (hret : ∀ (r : Int32) (H : Heap) (locs : List Loc) (pc : Nat) (ls : Array Slot), some r = some res → dZ D cyI cyJ cyO A bs P g d eA (d 5) (d 6) ol fd dc ds fw fn ff qw qn qf va tr s H locs → decode cX0_faultPlace pc = .ok (.ireturn, 1) → W p l e rmX0_faultPlace s m args below meth c H locs 0 0 Q (F0 m pc ls [.int r]))  : ∀ (v3 : Int32) (H : Heap) (locs : List Loc) (ls : Array Slot), mX0_faultPlace_94 N dc ds v3 = some res → dZ D cyI cyJ cyO A bs P g d eA (d 5) (d 6) ol fd dc ds fw fn ff qw qn qf va tr s H locs → lv_has ls 5 [(3, .int v3)] → W p l e rmX0_faultPlace s m args below meth c H locs 0 0 Q (F0 m 94 ls []) := by
  intro v3 H locs ls h Z hl
  unfold mX0_faultPlace_94 at h
  obtain ⟨rs5, rr5, at5, fa5, ra5, Z, hF5⟩ := Z
  refine lv_iload_n C0.1.1 C0.1.2.1 dX0_faultPlace_94 rfl (lv_at hl 0 rfl) ?_
  exact hret v3 _ _ _ _ h ⟨rs5, rr5, at5, fa5, ra5, Z, hF5⟩ dX0_faultPlace_95
set_option maxRecDepth 20000 in
set_option maxHeartbeats 4000000 in
theorem wX0_faultPlace_6_b {p : Program} {l : Launch} {e : Env} {s : State} {m : MethodId} {args : Array Value} {below : List Frame} {meth : Method} {c : Code} {D : va_G} {cyI cyJ cyO : ClassId} {A : Nat → Prop} {bs : Nat} {P : List Nat} {g : Nat → va_E} {d : Nat → Nat} {eA : Nat} {Q : State → Prop} {ol : Int32} {fd : Int32} {dc : Int32} {ds : Nat → Int32} {fw : Nat → Int32} {fn : Nat → Nat} {ff : Nat → Nat → Int32} {qw : Nat → Int32} {qn : Nat → Nat} {qf : Nat → Nat → Int32} {va : Nat → Int64} {tr : Nat → Int64} {N : Nat} {res : Int32} (C0 : gC p m meth c cX0_faultPlace 5 (some .int) s args wsX0_faultPlace RX0) (hN : dN s) (hT : dT A s) (hret : ∀ (r : Int32) (H : Heap) (locs : List Loc) (pc : Nat) (ls : Array Slot), some r = some res → dZ D cyI cyJ cyO A bs P g d eA (d 5) (d 6) ol fd dc ds fw fn ff qw qn qf va tr s H locs → decode cX0_faultPlace pc = .ok (.ireturn, 1) → W p l e rmX0_faultPlace s m args below meth c H locs 0 0 Q (F0 m pc ls [.int r])) {r6 : Int32 → Int32 → Int32 → Option (Int32)} (hr6 : ∀ (v1 : Int32) (v2 : Int32) (v3 : Int32) (H : Heap) (locs : List Loc) (ls : Array Slot), r6 v1 v2 v3 = some res → dZ D cyI cyJ cyO A bs P g d eA (d 5) (d 6) ol fd dc ds fw fn ff qw qn qf va tr s H locs → lv_has ls 5 [(0, .ref (d 1)), (1, .int v1), (2, .int v2), (3, .int v3)] → W p l e rmX0_faultPlace s m args below meth c H locs 0 0 Q (F0 m 6 ls [])) : ∀ (v1 : Int32) (v2 : Int32) (v3 : Int32) (H : Heap) (locs : List Loc) (ls : Array Slot), mX0_faultPlace_6_b N dc ds r6 v1 v2 v3 = some res → dZ D cyI cyJ cyO A bs P g d eA (d 5) (d 6) ol fd dc ds fw fn ff qw qn qf va tr s H locs → lv_has ls 5 [(0, .ref (d 1)), (1, .int v1), (2, .int v2), (3, .int v3)] → W p l e rmX0_faultPlace s m args below meth c H locs 0 0 Q (F0 m 6 ls []) := by
  intro v1 v2 v3 H locs ls h Z hl
  unfold mX0_faultPlace_6_b at h
  obtain ⟨rs6, rr6, at6, fa6, ra6, Z, hF6⟩ := Z
  refine lv_iload_n C0.1.1 C0.1.2.1 dX0_faultPlace_6 rfl (lv_at hl 3 rfl) ?_
  refine lv_aload_n C0.1.1 C0.1.2.1 dX0_faultPlace_7 rfl (lv_at hl 0 rfl) ?_
  refine g_get (ci := 2) (v := .int dc) (T := TX0) (N := 2) C0.1 Z 1 rfl rfl 1 (by decide) kX0_faultPlace_in0 kX0_faultPlace_f15 rfl rfl dX0_faultPlace_8 ?_
  refine lv_icmp_ge (tgt := 102) C0.1.1 C0.1.2.1 dX0_faultPlace_11 (by decide) (fun hc => ?_) (fun hc => ?_)
  · replace h := (if_pos hc).symm.trans h
    exact wX0_faultPlace_102 (N := N) C0 hN hT hret v1 v2 _ _ _ h ⟨rs6, rr6, at6, fa6, ra6, Z, hF6⟩ (lv_sub hl [0, 1, 2] rfl)
  · replace h := (if_neg hc).symm.trans h
    refine lv_iload_n C0.1.1 C0.1.2.1 dX0_faultPlace_14 rfl (lv_at hl 3 rfl) ?_
    refine lv_aload_n C0.1.1 C0.1.2.1 dX0_faultPlace_15 rfl (lv_at hl 0 rfl) ?_
    refine g_get (ci := 2) (v := .ref (d 7)) (T := TX0) (N := 2) C0.1 Z 1 rfl rfl 0 (by decide) kX0_faultPlace_in0 kX0_faultPlace_f9 rfl rfl dX0_faultPlace_16 ?_
    refine g_alen C0.1 Z 7 0 (ty := .int) rfl rfl (v := 15) rfl dX0_faultPlace_19 ?_
    refine lv_icmp_ge (tgt := 102) C0.1.1 C0.1.2.1 dX0_faultPlace_20 (by decide) (fun hc => ?_) (fun hc => ?_)
    · replace h := (if_pos hc).symm.trans h
      exact wX0_faultPlace_102 (N := N) C0 hN hT hret v1 v2 _ _ _ h ⟨rs6, rr6, at6, fa6, ra6, Z, hF6⟩ (lv_sub hl [0, 1, 2] rfl)
    · replace h := (if_neg hc).symm.trans h
      refine lv_aload_n C0.1.1 C0.1.2.1 dX0_faultPlace_23 rfl (lv_at hl 0 rfl) ?_
      refine g_get (ci := 2) (v := .ref (d 7)) (T := TX0) (N := 2) C0.1 Z 1 rfl rfl 0 (by decide) kX0_faultPlace_in0 kX0_faultPlace_f9 rfl rfl dX0_faultPlace_24 ?_
      refine lv_iload_n C0.1.1 C0.1.2.1 dX0_faultPlace_27 rfl (lv_at hl 3 rfl) ?_
      obtain ⟨hi7, h⟩ := g_ni h
      refine g_iald (f := ds) (n := 15) C0.1 Z 7 0 rfl rfl hi7 dX0_faultPlace_28 ?_
      refine lv_istore (lv' := [(4, .int (ds v3.toNatClampNeg)), (0, .ref (d 1)), (1, .int v1), (2, .int v2), (3, .int v3)]) C0.1.1 C0.1.2.1 dX0_faultPlace_29 hl (by decide) rfl (fun ls hl => ?_)
      refine lv_iload_n C0.1.1 C0.1.2.1 dX0_faultPlace_31 rfl (lv_at hl 3 rfl) ?_
      refine lv_if_eq (tgt := 67) C0.1.1 C0.1.2.1 dX0_faultPlace_32 (by decide) (fun hc => ?_) (fun hc => ?_)
      · replace h := (if_pos hc).symm.trans h
        refine lv_iload C0.1.1 C0.1.2.1 dX0_faultPlace_67 (lv_at hl 0 rfl) ?_
        refine lv_iconst (v := 3) C0.1.1 C0.1.2.1 dX0_faultPlace_69 (by decide) ?_
        refine lv_icmp_gt (tgt := 78) C0.1.1 C0.1.2.1 dX0_faultPlace_70 (by decide) (fun hc => ?_) (fun hc => ?_)
        · replace h := (if_pos hc).symm.trans h
          refine lv_iload C0.1.1 C0.1.2.1 dX0_faultPlace_78 (lv_at hl 0 rfl) ?_
          refine lv_iconst (v := 5) C0.1.1 C0.1.2.1 dX0_faultPlace_80 (by decide) ?_
          refine lv_icmp_ne (tgt := 94) C0.1.1 C0.1.2.1 dX0_faultPlace_81 (by decide) (fun hc => ?_) (fun hc => ?_)
          · replace h := (if_neg hc).symm.trans h
            exact wX0_faultPlace_94 (N := N) C0 hN hT hret v3 _ _ _ h ⟨rs6, rr6, at6, fa6, ra6, Z, hF6⟩ (lv_sub hl [4] rfl)
          · replace h := (if_pos hc).symm.trans h
            refine lv_iload_n C0.1.1 C0.1.2.1 dX0_faultPlace_84 rfl (lv_at hl 2 rfl) ?_
            refine lv_if_le (tgt := 94) C0.1.1 C0.1.2.1 dX0_faultPlace_85 (by decide) (fun hc => ?_) (fun hc => ?_)
            · replace h := (if_pos hc).symm.trans h
              exact wX0_faultPlace_94 (N := N) C0 hN hT hret v3 _ _ _ h ⟨rs6, rr6, at6, fa6, ra6, Z, hF6⟩ (lv_sub hl [4] rfl)
            · replace h := (if_neg hc).symm.trans h
              refine lv_iinc (v := v1 + (-1 : Int32)) (lv' := [(1, .int (v1 + (-1 : Int32))), (4, .int (ds v3.toNatClampNeg)), (0, .ref (d 1)), (2, .int v2), (3, .int v3)]) C0.1.1 C0.1.2.1 dX0_faultPlace_88 hl (k := 2) rfl rfl (by decide) rfl (fun ls hl => ?_)
              refine lv_goto (tgt := 96) C0.1.1 C0.1.2.1 dX0_faultPlace_91 (by decide) ?_
              exact wX0_faultPlace_96 (N := N) C0 hN hT hret hr6 (v1 + (-1 : Int32)) v2 v3 _ _ _ h ⟨rs6, rr6, at6, fa6, ra6, Z, hF6⟩ (lv_sub hl [2, 0, 3, 4] rfl)
        · replace h := (if_neg hc).symm.trans h
          refine lv_iconst (v := 1) C0.1.1 C0.1.2.1 dX0_faultPlace_73 (by decide) ?_
          refine lv_istore_n (lv' := [(2, .int (1 : Int32)), (4, .int (ds v3.toNatClampNeg)), (0, .ref (d 1)), (1, .int v1), (3, .int v3)]) C0.1.1 C0.1.2.1 dX0_faultPlace_74 rfl hl (by decide) rfl (fun ls hl => ?_)
          refine lv_goto (tgt := 96) C0.1.1 C0.1.2.1 dX0_faultPlace_75 (by decide) ?_
          exact wX0_faultPlace_96 (N := N) C0 hN hT hret hr6 v1 (1 : Int32) v3 _ _ _ h ⟨rs6, rr6, at6, fa6, ra6, Z, hF6⟩ (lv_sub hl [2, 3, 0, 4] rfl)
      · replace h := (if_neg hc).symm.trans h
        refine lv_iload C0.1.1 C0.1.2.1 dX0_faultPlace_35 (lv_at hl 0 rfl) ?_
        refine lv_iconst (v := 4) C0.1.1 C0.1.2.1 dX0_faultPlace_37 (by decide) ?_
        refine lv_icmp_ne (tgt := 47) C0.1.1 C0.1.2.1 dX0_faultPlace_38 (by decide) (fun hc => ?_) (fun hc => ?_)
        · replace h := (if_neg hc).symm.trans h
          refine lv_iload C0.1.1 C0.1.2.1 dX0_faultPlace_47 (lv_at hl 0 rfl) ?_
          refine lv_bipush (v := 6) C0.1.1 C0.1.2.1 dX0_faultPlace_49 (by decide +kernel) ?_
          refine lv_icmp_lt (tgt := 59) C0.1.1 C0.1.2.1 dX0_faultPlace_51 (by decide) (fun hc => ?_) (fun hc => ?_)
          · replace h := (if_pos hc).symm.trans h
            refine lv_iload C0.1.1 C0.1.2.1 dX0_faultPlace_59 (lv_at hl 0 rfl) ?_
            refine lv_iconst (v := 1) C0.1.1 C0.1.2.1 dX0_faultPlace_61 (by decide) ?_
            refine lv_icmp_eq (tgt := 96) C0.1.1 C0.1.2.1 dX0_faultPlace_62 (by decide) (fun hc => ?_) (fun hc => ?_)
            · replace h := (if_pos hc).symm.trans h
              exact wX0_faultPlace_96 (N := N) C0 hN hT hret hr6 v1 v2 v3 _ _ _ h ⟨rs6, rr6, at6, fa6, ra6, Z, hF6⟩ (lv_sub hl [1, 2, 3, 4] rfl)
            · replace h := (if_neg hc).symm.trans h
              refine lv_iload_n C0.1.1 C0.1.2.1 dX0_faultPlace_65 rfl (lv_at hl 4 rfl) ?_
              exact hret v3 _ _ _ _ h ⟨rs6, rr6, at6, fa6, ra6, Z, hF6⟩ dX0_faultPlace_66
          · replace h := (if_neg hc).symm.trans h
            refine lv_iconst (v := 0) C0.1.1 C0.1.2.1 dX0_faultPlace_54 (by decide) ?_
            refine lv_istore_n (lv' := [(2, .int (0 : Int32)), (4, .int (ds v3.toNatClampNeg)), (0, .ref (d 1)), (1, .int v1), (3, .int v3)]) C0.1.1 C0.1.2.1 dX0_faultPlace_55 rfl hl (by decide) rfl (fun ls hl => ?_)
            refine lv_goto (tgt := 96) C0.1.1 C0.1.2.1 dX0_faultPlace_56 (by decide) ?_
            exact wX0_faultPlace_96 (N := N) C0 hN hT hret hr6 v1 (0 : Int32) v3 _ _ _ h ⟨rs6, rr6, at6, fa6, ra6, Z, hF6⟩ (lv_sub hl [2, 3, 0, 4] rfl)
        · replace h := (if_pos hc).symm.trans h
          refine lv_iinc (v := v1 + (1 : Int32)) (lv' := [(1, .int (v1 + (1 : Int32))), (4, .int (ds v3.toNatClampNeg)), (0, .ref (d 1)), (2, .int v2), (3, .int v3)]) C0.1.1 C0.1.2.1 dX0_faultPlace_41 hl (k := 2) rfl rfl (by decide) rfl (fun ls hl => ?_)
          refine lv_goto (tgt := 96) C0.1.1 C0.1.2.1 dX0_faultPlace_44 (by decide) ?_
          exact wX0_faultPlace_96 (N := N) C0 hN hT hret hr6 (v1 + (1 : Int32)) v2 v3 _ _ _ h ⟨rs6, rr6, at6, fa6, ra6, Z, hF6⟩ (lv_sub hl [2, 0, 3, 4] rfl)
theorem wX0_faultPlace_6 {p : Program} {l : Launch} {e : Env} {s : State} {m : MethodId} {args : Array Value} {below : List Frame} {meth : Method} {c : Code} {D : va_G} {cyI cyJ cyO : ClassId} {A : Nat → Prop} {bs : Nat} {P : List Nat} {g : Nat → va_E} {d : Nat → Nat} {eA : Nat} {Q : State → Prop} {ol : Int32} {fd : Int32} {dc : Int32} {ds : Nat → Int32} {fw : Nat → Int32} {fn : Nat → Nat} {ff : Nat → Nat → Int32} {qw : Nat → Int32} {qn : Nat → Nat} {qf : Nat → Nat → Int32} {va : Nat → Int64} {tr : Nat → Int64} {N : Nat} {res : Int32} (C0 : gC p m meth c cX0_faultPlace 5 (some .int) s args wsX0_faultPlace RX0) (hN : dN s) (hT : dT A s) (hret : ∀ (r : Int32) (H : Heap) (locs : List Loc) (pc : Nat) (ls : Array Slot), some r = some res → dZ D cyI cyJ cyO A bs P g d eA (d 5) (d 6) ol fd dc ds fw fn ff qw qn qf va tr s H locs → decode cX0_faultPlace pc = .ok (.ireturn, 1) → W p l e rmX0_faultPlace s m args below meth c H locs 0 0 Q (F0 m pc ls [.int r]))  : ∀ (n_ : Nat), ∀ (v1 : Int32) (v2 : Int32) (v3 : Int32) (H : Heap) (locs : List Loc) (ls : Array Slot), mX0_faultPlace_6 N dc ds n_ v1 v2 v3 = some res → dZ D cyI cyJ cyO A bs P g d eA (d 5) (d 6) ol fd dc ds fw fn ff qw qn qf va tr s H locs → lv_has ls 5 [(0, .ref (d 1)), (1, .int v1), (2, .int v2), (3, .int v3)] → W p l e rmX0_faultPlace s m args below meth c H locs 0 0 Q (F0 m 6 ls []) := by
  intro n_
  induction n_ with
  | zero => intro _ _ _ _ _ _ h; cases h
  | succ n_ ih => exact wX0_faultPlace_6_b (N := N) C0 hN hT hret ih
set_option maxRecDepth 20000 in
set_option maxHeartbeats 4000000 in
theorem zX0_faultPlace (l : Launch) (D : va_G) (cyI cyJ cyO : ClassId) (A : Nat → Prop) (bs : Nat) (hA : ∀ q, bs ≤ q → A q) (P : List Nat) (g : Nat → va_E) (d : Nat → Nat) (eA : Nat) (ol : Int32) (fd : Int32) (dc : Int32) (ds : Nat → Int32) (fw : Nat → Int32) (fn : Nat → Nat) (ff : Nat → Nat → Int32) (qw : Nat → Int32) (qn : Nat → Nat) (qf : Nat → Nat → Int32) (va : Nat → Int64) (tr : Nat → Int64) (N : Nat)  (res : Int32) (h : mX0_faultPlace N dc ds = some res) : Met l yX0_faultPlace wsX0_faultPlace rmX0_faultPlace (va_Pc [.ref (d 1)] (dP (dW D cyI cyJ cyO A bs P g d eA (d 5) (d 6) ol fd dc ds fw fn ff qw qn qf va tr) A)) (va_Qi (fun (r : Int32) (_ : Unit) => res = r) (fun (u : Unit) U => dW D cyI cyJ cyO A bs P g d eA (d 5) (d 6) ol fd dc ds fw fn ff qw qn qf va tr U) A)  0 0 A := by
  refine Met.ofW (cc := cX0_faultPlace) (maxL := 5) (ret := (some .int)) (by decide) rfl ?_
  intro p e s m args below meth c s₁ B hml hv
  obtain ⟨hav, hv⟩ := hv
  obtain ⟨hv, hN, hT⟩ := hv
  have C0 : gC p m meth c cX0_faultPlace 5 (some .int) s args wsX0_faultPlace RX0 := ⟨⟨B.exec, B.bytes, hml, findClass_of_methodNamed B.named, atoms_spec (ws := wsX0_faultPlace) B.pre⟩, B.returns, B.notSynchronized⟩
  have Z := dZ_start hA hv
  have hret : ∀ (r : Int32) (H : Heap) (locs : List Loc) (pc : Nat) (ls : Array Slot), some r = some res → dZ D cyI cyJ cyO A bs P g d eA (d 5) (d 6) ol fd dc ds fw fn ff qw qn qf va tr s H locs → decode cX0_faultPlace pc = .ok (.ireturn, 1) → W p l e rmX0_faultPlace s m args below meth c H locs 0 0 (MQ below (va_Qi (fun (r : Int32) (_ : Unit) => res = r) (fun (u : Unit) U => dW D cyI cyJ cyO A bs P g d eA (d 5) (d 6) ol fd dc ds fw fn ff qw qn qf va tr U) A) args s 0 0 A) (F0 m pc ls [.int r]) := by
    intro r H locs pc ls h Z hd
    replace h := Option.some.inj h
    subst h
    exact W.iret C0.1.1 C0.1.2.1 C0.2.1 (fun t ht hW => ⟨⟨r, (), rfl, rfl, dZ_end Z ht hW⟩, va_S.F (dZ_S Z) ht⟩) (dZ_S Z).2.2 hd C0.2.2
  have hl := lv_entry ([.ref (d 1)]) (n := 5) (Nat.le_of_ble_eq_true rfl)
  rw [hav, lg_entry_eq]
  generalize (lg_sl ([.ref (d 1)]) ++ List.replicate (5 - (lg_sl ([.ref (d 1)])).length) Slot.unset).toArray = ls at hl ⊢
  have hl : lv_has ls 5 [(0, .ref (d 1))] := hl
  rw [← hav]
  unfold mX0_faultPlace at h
  obtain ⟨rs8, rr8, at8, fa8, ra8, Z, hF8⟩ := Z
  refine lv_iconst (v := 0) C0.1.1 C0.1.2.1 dX0_faultPlace_0 (by decide) ?_
  refine lv_istore_n (lv' := [(1, .int (0 : Int32)), (0, .ref (d 1))]) C0.1.1 C0.1.2.1 dX0_faultPlace_1 rfl hl (by decide) rfl (fun ls hl => ?_)
  refine lv_iconst (v := 1) C0.1.1 C0.1.2.1 dX0_faultPlace_2 (by decide) ?_
  refine lv_istore_n (lv' := [(2, .int (1 : Int32)), (1, .int (0 : Int32)), (0, .ref (d 1))]) C0.1.1 C0.1.2.1 dX0_faultPlace_3 rfl hl (by decide) rfl (fun ls hl => ?_)
  refine lv_iconst (v := 0) C0.1.1 C0.1.2.1 dX0_faultPlace_4 (by decide) ?_
  refine lv_istore_n (lv' := [(3, .int (0 : Int32)), (2, .int (1 : Int32)), (1, .int (0 : Int32)), (0, .ref (d 1))]) C0.1.1 C0.1.2.1 dX0_faultPlace_5 rfl hl (by decide) rfl (fun ls hl => ?_)
  exact wX0_faultPlace_6 (N := N) C0 hN hT hret N (0 : Int32) (1 : Int32) (0 : Int32) _ _ _ h ⟨rs8, rr8, at8, fa8, ra8, Z, hF8⟩ (lv_sub hl [3, 2, 1, 0] rfl)
/-! X3_requireRoom -/
abbrev rmX3_requireRoom : Room := { frames := 6, cells := 1, slots := 6, locals := 92 }
theorem kX3_requireRoom_in3 : ∀ w ∈ wsX30, w ∈ wsX3_requireRoom := by decide +kernel
theorem kX3_requireRoom_f14 : Cond.fieldLink RX3 14 "GoalseekOffice" "draft" "LGoalseekOffice$Draft;" ∈ wsX3_requireRoom := by decide +kernel
theorem kX3_requireRoom_in0 : ∀ w ∈ wsX00, w ∈ wsX3_requireRoom := by decide +kernel
theorem kX3_requireRoom_x93a : Cond.classLink RX3 93 "java/lang/IllegalStateException" ∈ wsX3_requireRoom := by decide +kernel
theorem kX3_requireRoom_x93b : Cond.initialized "java/lang/IllegalStateException" ∈ wsX3_requireRoom := by decide +kernel
theorem kX3_requireRoom_x93c : ∀ w ∈ (vx_atS RX3 97 "java/lang/IllegalStateException" ["java/lang/RuntimeException", "java/lang/Exception"]).filter goodWord, w ∈ wsX3_requireRoom := by decide +kernel
def mX3_requireRoom (N : Nat) (dc : Int32) : Option (Nat) := (if dc < (15 : Int32) then some 0 else some 3)
set_option maxRecDepth 20000 in
set_option maxHeartbeats 4000000 in
theorem zX3_requireRoom (l : Launch) (hlf : l.stackTraces = false) (D : va_G) (cyI cyJ cyO : ClassId) (A : Nat → Prop) (bs : Nat) (hA : ∀ q, bs ≤ q → A q) (P : List Nat) (g : Nat → va_E) (d : Nat → Nat) (eA : Nat) (ol : Int32) (fd : Int32) (dc : Int32) (ds : Nat → Int32) (fw : Nat → Int32) (fn : Nat → Nat) (ff : Nat → Nat → Int32) (qw : Nat → Int32) (qn : Nat → Nat) (qf : Nat → Nat → Int32) (va : Nat → Int64) (tr : Nat → Int64) (N : Nat)  (res : Nat) (h : mX3_requireRoom N dc = some res) : vx_Met l yX3_requireRoom wsX3_requireRoom rmX3_requireRoom (va_Pc [.ref (d 0)] (dP (dW D cyI cyJ cyO A bs P g d eA (d 5) (d 6) ol fd dc ds fw fn ff qw qn qf va tr) A)) (va_Qv (fun (_ : Unit) => res = 0) (fun (u : Unit) U => dW D cyI cyJ cyO A bs P g d eA (d 5) (d 6) ol fd dc ds fw fn ff qw qn qf va tr U) A) (vx_X (S := Unit) (fun _ => True) (fun E u t => res ≠ 0 ∧ E = exN res ∧ dW D cyI cyJ cyO A bs P g d eA (d 5) (d 6) ol fd dc ds fw fn ff qw qn qf va tr t) A) 1 6 A := by
  refine vx_ofW (cc := cX3_requireRoom) (maxL := 1) (ret := none) (by decide) rfl ?_
  intro p e s m args below meth c s₁ B hml hxt hv
  obtain ⟨hav, hv⟩ := hv
  obtain ⟨hv, hN, hT⟩ := hv
  have C0 : gC p m meth c cX3_requireRoom 1 none s args wsX3_requireRoom RX3 := ⟨⟨B.exec, B.bytes, hml, findClass_of_methodNamed B.named, atoms_spec (ws := wsX3_requireRoom) B.pre⟩, B.returns, B.notSynchronized⟩
  have Z := dZ_start hA hv
  have hret : ∀ (H : Heap) (locs : List Loc) (pc : Nat) (ls : Array Slot), some 0 = some res → dZ D cyI cyJ cyO A bs P g d eA (d 5) (d 6) ol fd dc ds fw fn ff qw qn qf va tr s H locs → decode cX3_requireRoom pc = .ok (.return_, 1) → W p l e rmX3_requireRoom s m args below meth c H locs 1 6 (vx_MQ below (va_Qv (fun (_ : Unit) => res = 0) (fun (u : Unit) U => dW D cyI cyJ cyO A bs P g d eA (d 5) (d 6) ol fd dc ds fw fn ff qw qn qf va tr U) A) (vx_X (S := Unit) (fun _ => True) (fun E u t => res ≠ 0 ∧ E = exN res ∧ dW D cyI cyJ cyO A bs P g d eA (d 5) (d 6) ol fd dc ds fw fn ff qw qn qf va tr t) A) args s 1 6 A) (F0 m pc ls []) := by
    intro H locs pc ls h Z hd
    replace h := Option.some.inj h
    subst h
    exact vx_ret (W.vret C0.1.1 C0.1.2.1 C0.2.1 (fun t ht hW => ⟨⟨(), rfl, rfl, dZ_end Z ht hW⟩, va_S.F (dZ_S Z) ht⟩) (dZ_S Z).2.2 hd C0.2.2)
  have hxc : ∀ (k : Nat) (H : Heap) (locs : List Loc) (t : State), k ≠ 0 → some k = some res → dZ D cyI cyJ cyO A bs P g d eA (d 5) (d 6) ol fd dc ds fw fn ff qw qn qf va tr s H locs → s.vm.Alike t.vm → H.size ≤ t.heap.size → (∀ q : Nat, q < H.size → t.heap[q]? = H[q]?) → (vx_X (S := Unit) (fun _ => True) (fun E u t => res ≠ 0 ∧ E = exN res ∧ dW D cyI cyJ cyO A bs P g d eA (d 5) (d 6) ol fd dc ds fw fn ff qw qn qf va tr t) A) (exN k) s t := by
    intro k H locs t hk h Z hvm hz hq
    replace h := Option.some.inj h
    subst h
    exact ⟨(), trivial, ⟨hk, rfl, dW_grow Z hvm hz hq⟩, vaF_grow (dZ_S Z) hz hq⟩
  have hl := lv_entry ([.ref (d 0)]) (n := 1) (Nat.le_of_ble_eq_true rfl)
  rw [hav, lg_entry_eq]
  generalize (lg_sl ([.ref (d 0)]) ++ List.replicate (1 - (lg_sl ([.ref (d 0)])).length) Slot.unset).toArray = ls at hl ⊢
  have hl : lv_has ls 1 [(0, .ref (d 0))] := hl
  rw [← hav]
  unfold mX3_requireRoom at h
  obtain ⟨rs1, rr1, at1, fa1, ra1, Z, hF1⟩ := Z
  refine lv_aload_n C0.1.1 C0.1.2.1 dX3_requireRoom_0 rfl (lv_at hl 0 rfl) ?_
  refine g_get (ci := 5) (v := .ref (d 1)) (T := TX3) (N := 9) C0.1 Z 0 rfl rfl 0 (by decide) kX3_requireRoom_in3 kX3_requireRoom_f14 rfl rfl dX3_requireRoom_1 ?_
  refine g_getN (ci := 2) (v := .int dc) (T := TX0) (N := 2) (host := RX3) C0.1 Z 1 rfl rfl 1 (by decide) kX3_requireRoom_in0 (hN.1 _ (List.mem_of_getElem? (i := 14) rfl)) rfl rfl dX3_requireRoom_4 ?_
  refine lv_bipush (v := 15) C0.1.1 C0.1.2.1 dX3_requireRoom_7 (by decide +kernel) ?_
  refine lv_icmp_lt (tgt := 22) C0.1.1 C0.1.2.1 dX3_requireRoom_9 (by decide) (fun hc => ?_) (fun hc => ?_)
  · replace h := (if_pos hc).symm.trans h
    refine W.widen (k := 1) (n := 6) (Nat.le_of_ble_eq_true rfl) (Nat.le_of_ble_eq_true rfl) ?_
    exact hret _ _ _ _ h ⟨rs1, rr1, at1, fa1, ra1, Z, hF1⟩ dX3_requireRoom_22
  · replace h := (if_neg hc).symm.trans h
    exact x_throw (text := "the draft is full") xOk_3 C0 hxt hlf hN hT Z.2.2.2.1 (List.mem_of_getElem? (i := 9) rfl) kX3_requireRoom_x93a kX3_requireRoom_x93b kX3_requireRoom_x93c hl.1 dX3_requireRoom_12 dX3_requireRoom_15 dX3_requireRoom_16 dX3_requireRoom_18 dX3_requireRoom_21 ⟨Nat.le_of_ble_eq_true rfl, Nat.le_of_ble_eq_true rfl, Nat.le_of_ble_eq_true rfl, Nat.le_of_ble_eq_true rfl⟩ (Nat.le_of_ble_eq_true rfl) (Nat.le_of_ble_eq_true rfl) (fun t hvm hz hq => hxc 3  _ _ t (by decide) h ⟨rs1, rr1, at1, fa1, ra1, Z, hF1⟩ hvm hz hq)
/-! X3_requireLayer -/
abbrev rmX3_requireLayer : Room := { frames := 6, cells := 1, slots := 6, locals := 92 }
theorem kX3_requireLayer_in3 : ∀ w ∈ wsX30, w ∈ wsX3_requireLayer := by decide +kernel
theorem kX3_requireLayer_f110 : Cond.fieldLink RX3 110 "GoalseekOffice" "openLayers" "I" ∈ wsX3_requireLayer := by decide +kernel
theorem kX3_requireLayer_x93a : Cond.classLink RX3 93 "java/lang/IllegalStateException" ∈ wsX3_requireLayer := by decide +kernel
theorem kX3_requireLayer_x93b : Cond.initialized "java/lang/IllegalStateException" ∈ wsX3_requireLayer := by decide +kernel
theorem kX3_requireLayer_x93c : ∀ w ∈ (vx_atS RX3 97 "java/lang/IllegalStateException" ["java/lang/RuntimeException", "java/lang/Exception"]).filter goodWord, w ∈ wsX3_requireLayer := by decide +kernel
def mX3_requireLayer (N : Nat) (ol : Int32) : Option (Nat) := (if 0 < ol then some 0 else some 3)
set_option maxRecDepth 20000 in
set_option maxHeartbeats 4000000 in
theorem zX3_requireLayer (l : Launch) (hlf : l.stackTraces = false) (D : va_G) (cyI cyJ cyO : ClassId) (A : Nat → Prop) (bs : Nat) (hA : ∀ q, bs ≤ q → A q) (P : List Nat) (g : Nat → va_E) (d : Nat → Nat) (eA : Nat) (ol : Int32) (fd : Int32) (dc : Int32) (ds : Nat → Int32) (fw : Nat → Int32) (fn : Nat → Nat) (ff : Nat → Nat → Int32) (qw : Nat → Int32) (qn : Nat → Nat) (qf : Nat → Nat → Int32) (va : Nat → Int64) (tr : Nat → Int64) (N : Nat)  (res : Nat) (h : mX3_requireLayer N ol = some res) : vx_Met l yX3_requireLayer wsX3_requireLayer rmX3_requireLayer (va_Pc [.ref (d 0)] (dP (dW D cyI cyJ cyO A bs P g d eA (d 5) (d 6) ol fd dc ds fw fn ff qw qn qf va tr) A)) (va_Qv (fun (_ : Unit) => res = 0) (fun (u : Unit) U => dW D cyI cyJ cyO A bs P g d eA (d 5) (d 6) ol fd dc ds fw fn ff qw qn qf va tr U) A) (vx_X (S := Unit) (fun _ => True) (fun E u t => res ≠ 0 ∧ E = exN res ∧ dW D cyI cyJ cyO A bs P g d eA (d 5) (d 6) ol fd dc ds fw fn ff qw qn qf va tr t) A) 1 6 A := by
  refine vx_ofW (cc := cX3_requireLayer) (maxL := 1) (ret := none) (by decide) rfl ?_
  intro p e s m args below meth c s₁ B hml hxt hv
  obtain ⟨hav, hv⟩ := hv
  obtain ⟨hv, hN, hT⟩ := hv
  have C0 : gC p m meth c cX3_requireLayer 1 none s args wsX3_requireLayer RX3 := ⟨⟨B.exec, B.bytes, hml, findClass_of_methodNamed B.named, atoms_spec (ws := wsX3_requireLayer) B.pre⟩, B.returns, B.notSynchronized⟩
  have Z := dZ_start hA hv
  have hret : ∀ (H : Heap) (locs : List Loc) (pc : Nat) (ls : Array Slot), some 0 = some res → dZ D cyI cyJ cyO A bs P g d eA (d 5) (d 6) ol fd dc ds fw fn ff qw qn qf va tr s H locs → decode cX3_requireLayer pc = .ok (.return_, 1) → W p l e rmX3_requireLayer s m args below meth c H locs 1 6 (vx_MQ below (va_Qv (fun (_ : Unit) => res = 0) (fun (u : Unit) U => dW D cyI cyJ cyO A bs P g d eA (d 5) (d 6) ol fd dc ds fw fn ff qw qn qf va tr U) A) (vx_X (S := Unit) (fun _ => True) (fun E u t => res ≠ 0 ∧ E = exN res ∧ dW D cyI cyJ cyO A bs P g d eA (d 5) (d 6) ol fd dc ds fw fn ff qw qn qf va tr t) A) args s 1 6 A) (F0 m pc ls []) := by
    intro H locs pc ls h Z hd
    replace h := Option.some.inj h
    subst h
    exact vx_ret (W.vret C0.1.1 C0.1.2.1 C0.2.1 (fun t ht hW => ⟨⟨(), rfl, rfl, dZ_end Z ht hW⟩, va_S.F (dZ_S Z) ht⟩) (dZ_S Z).2.2 hd C0.2.2)
  have hxc : ∀ (k : Nat) (H : Heap) (locs : List Loc) (t : State), k ≠ 0 → some k = some res → dZ D cyI cyJ cyO A bs P g d eA (d 5) (d 6) ol fd dc ds fw fn ff qw qn qf va tr s H locs → s.vm.Alike t.vm → H.size ≤ t.heap.size → (∀ q : Nat, q < H.size → t.heap[q]? = H[q]?) → (vx_X (S := Unit) (fun _ => True) (fun E u t => res ≠ 0 ∧ E = exN res ∧ dW D cyI cyJ cyO A bs P g d eA (d 5) (d 6) ol fd dc ds fw fn ff qw qn qf va tr t) A) (exN k) s t := by
    intro k H locs t hk h Z hvm hz hq
    replace h := Option.some.inj h
    subst h
    exact ⟨(), trivial, ⟨hk, rfl, dW_grow Z hvm hz hq⟩, vaF_grow (dZ_S Z) hz hq⟩
  have hl := lv_entry ([.ref (d 0)]) (n := 1) (Nat.le_of_ble_eq_true rfl)
  rw [hav, lg_entry_eq]
  generalize (lg_sl ([.ref (d 0)]) ++ List.replicate (1 - (lg_sl ([.ref (d 0)])).length) Slot.unset).toArray = ls at hl ⊢
  have hl : lv_has ls 1 [(0, .ref (d 0))] := hl
  rw [← hav]
  unfold mX3_requireLayer at h
  obtain ⟨rs1, rr1, at1, fa1, ra1, Z, hF1⟩ := Z
  refine lv_aload_n C0.1.1 C0.1.2.1 dX3_requireLayer_0 rfl (lv_at hl 0 rfl) ?_
  refine g_get (ci := 5) (v := .int ol) (T := TX3) (N := 9) C0.1 Z 0 rfl rfl 7 (by decide) kX3_requireLayer_in3 kX3_requireLayer_f110 rfl rfl dX3_requireLayer_1 ?_
  refine lv_if_gt (tgt := 17) C0.1.1 C0.1.2.1 dX3_requireLayer_4 (by decide) (fun hc => ?_) (fun hc => ?_)
  · replace h := (if_pos hc).symm.trans h
    refine W.widen (k := 1) (n := 6) (Nat.le_of_ble_eq_true rfl) (Nat.le_of_ble_eq_true rfl) ?_
    exact hret _ _ _ _ h ⟨rs1, rr1, at1, fa1, ra1, Z, hF1⟩ dX3_requireLayer_17
  · replace h := (if_neg hc).symm.trans h
    exact x_throw (text := "no layer is open") xOk_3 C0 hxt hlf hN hT Z.2.2.2.1 (List.mem_of_getElem? (i := 10) rfl) kX3_requireLayer_x93a kX3_requireLayer_x93b kX3_requireLayer_x93c hl.1 dX3_requireLayer_7 dX3_requireLayer_10 dX3_requireLayer_11 dX3_requireLayer_13 dX3_requireLayer_16 ⟨Nat.le_of_ble_eq_true rfl, Nat.le_of_ble_eq_true rfl, Nat.le_of_ble_eq_true rfl, Nat.le_of_ble_eq_true rfl⟩ (Nat.le_of_ble_eq_true rfl) (Nat.le_of_ble_eq_true rfl) (fun t hvm hz hq => hxc 3  _ _ t (by decide) h ⟨rs1, rr1, at1, fa1, ra1, Z, hF1⟩ hvm hz hq)
/-! X3_number -/
abbrev rmX3_number : Room := { frames := 7, cells := 2, slots := 12, locals := 112 }
theorem kX3_number_in3 : ∀ w ∈ wsX30, w ∈ wsX3_number := by decide +kernel
theorem kX3_number_f14 : Cond.fieldLink RX3 14 "GoalseekOffice" "draft" "LGoalseekOffice$Draft;" ∈ wsX3_number := by decide +kernel
theorem kX3_number_iniRX0 : Cond.initialized RX0 ∈ wsX3_number := by decide +kernel
theorem kX3_number_insX0_write : Cond.instanceMethod yX0_write ∈ wsX3_number := by decide +kernel
theorem kX3_number_selX0_write : Cond.selects RX0 yX0_write yX0_write ∈ wsX3_number := by decide +kernel
def mX3_number (N : Nat) (dc : Int32) (ds : Nat → Int32) (p0 : Int32) : Option (Nat × Int32 × Int32 × (Nat → Int32)) := ((mX3_requireNumber N p0).bind fun x2 => (if x2 = 0 then ((mX3_requireRoom N dc).bind fun x4 => (if x4 = 0 then ((mX0_write N dc ds ((36 : Int32) + p0)).bind fun x7 => some (0, x7.1, x7.2.1, x7.2.2)) else some (x4, 0, dc, ds))) else some (x2, 0, dc, ds)))
set_option maxRecDepth 20000 in
set_option maxHeartbeats 4000000 in
theorem zX3_number (l : Launch) (hlf : l.stackTraces = false) (D : va_G) (cyI cyJ cyO : ClassId) (A : Nat → Prop) (bs : Nat) (hA : ∀ q, bs ≤ q → A q) (P : List Nat) (g : Nat → va_E) (d : Nat → Nat) (eA : Nat) (ol : Int32) (fd : Int32) (dc : Int32) (ds : Nat → Int32) (fw : Nat → Int32) (fn : Nat → Nat) (ff : Nat → Nat → Int32) (qw : Nat → Int32) (qn : Nat → Nat) (qf : Nat → Nat → Int32) (va : Nat → Int64) (tr : Nat → Int64) (N : Nat) (p0 : Int32) (res : Nat × Int32 × Int32 × (Nat → Int32)) (h : mX3_number N dc ds p0 = some res) : vx_Met l yX3_number wsX3_number rmX3_number (va_Pc [.ref (d 0), .int p0] (dP (dW D cyI cyJ cyO A bs P g d eA (d 5) (d 6) ol fd dc ds fw fn ff qw qn qf va tr) A)) (va_Qi (fun (r : Int32) (u : Int32 × (Nat → Int32)) => res.1 = 0 ∧ res.2.1 = r ∧ res.2.2 = u) (fun (u : Int32 × (Nat → Int32)) U => dW D cyI cyJ cyO A bs P g d eA (d 5) (d 6) ol fd u.1 u.2 fw fn ff qw qn qf va tr U) A) (vx_X (S := Int32 × (Nat → Int32)) (fun _ => True) (fun E u t => res.1 ≠ 0 ∧ E = exN res.1 ∧ res.2.2 = u ∧ dW D cyI cyJ cyO A bs P g d eA (d 5) (d 6) ol fd u.1 u.2 fw fn ff qw qn qf va tr t) A) 2 12 A := by
  refine vx_ofW (cc := cX3_number) (maxL := 2) (ret := (some .int)) (by decide) rfl ?_
  intro p e s m args below meth c s₁ B hml hxt hv
  obtain ⟨hav, hv⟩ := hv
  obtain ⟨hv, hN, hT⟩ := hv
  have C0 : gC p m meth c cX3_number 2 (some .int) s args wsX3_number RX3 := ⟨⟨B.exec, B.bytes, hml, findClass_of_methodNamed B.named, atoms_spec (ws := wsX3_number) B.pre⟩, B.returns, B.notSynchronized⟩
  have Z := dZ_start hA hv
  have hret : ∀ (r : Int32) (dc_r : Int32) (ds_r : Nat → Int32) (H : Heap) (locs : List Loc) (pc : Nat) (ls : Array Slot), some (0, r, dc_r, ds_r) = some res → dZ D cyI cyJ cyO A bs P g d eA (d 5) (d 6) ol fd dc_r ds_r fw fn ff qw qn qf va tr s H locs → decode cX3_number pc = .ok (.ireturn, 1) → W p l e rmX3_number s m args below meth c H locs 2 12 (vx_MQ below (va_Qi (fun (r : Int32) (u : Int32 × (Nat → Int32)) => res.1 = 0 ∧ res.2.1 = r ∧ res.2.2 = u) (fun (u : Int32 × (Nat → Int32)) U => dW D cyI cyJ cyO A bs P g d eA (d 5) (d 6) ol fd u.1 u.2 fw fn ff qw qn qf va tr U) A) (vx_X (S := Int32 × (Nat → Int32)) (fun _ => True) (fun E u t => res.1 ≠ 0 ∧ E = exN res.1 ∧ res.2.2 = u ∧ dW D cyI cyJ cyO A bs P g d eA (d 5) (d 6) ol fd u.1 u.2 fw fn ff qw qn qf va tr t) A) args s 2 12 A) (F0 m pc ls [.int r]) := by
    intro r dc_r ds_r H locs pc ls h Z hd
    replace h := Option.some.inj h
    subst h
    exact vx_ret (W.iret C0.1.1 C0.1.2.1 C0.2.1 (fun t ht hW => ⟨⟨r, (dc_r, ds_r), rfl, ⟨rfl, rfl, rfl⟩, dZ_end Z ht hW⟩, va_S.F (dZ_S Z) ht⟩) (dZ_S Z).2.2 hd C0.2.2)
  have hxc : ∀ (k : Nat) (dc_r : Int32) (ds_r : Nat → Int32) (H : Heap) (locs : List Loc) (t : State), k ≠ 0 → some (k, 0, dc_r, ds_r) = some res → dZ D cyI cyJ cyO A bs P g d eA (d 5) (d 6) ol fd dc_r ds_r fw fn ff qw qn qf va tr s H locs → s.vm.Alike t.vm → H.size ≤ t.heap.size → (∀ q : Nat, q < H.size → t.heap[q]? = H[q]?) → (vx_X (S := Int32 × (Nat → Int32)) (fun _ => True) (fun E u t => res.1 ≠ 0 ∧ E = exN res.1 ∧ res.2.2 = u ∧ dW D cyI cyJ cyO A bs P g d eA (d 5) (d 6) ol fd u.1 u.2 fw fn ff qw qn qf va tr t) A) (exN k) s t := by
    intro k dc_r ds_r H locs t hk h Z hvm hz hq
    replace h := Option.some.inj h
    subst h
    exact ⟨(dc_r, ds_r), trivial, ⟨hk, rfl, rfl, dW_grow Z hvm hz hq⟩, vaF_grow (dZ_S Z) hz hq⟩
  have hl := lv_entry ([.ref (d 0), .int p0]) (n := 2) (Nat.le_of_ble_eq_true rfl)
  rw [hav, lg_entry_eq]
  generalize (lg_sl ([.ref (d 0), .int p0]) ++ List.replicate (2 - (lg_sl ([.ref (d 0), .int p0])).length) Slot.unset).toArray = ls at hl ⊢
  have hl : lv_has ls 2 [(0, .ref (d 0)), (1, .int p0)] := hl
  rw [← hav]
  unfold mX3_number at h
  obtain ⟨rs1, rr1, at1, fa1, ra1, Z, hF1⟩ := Z
  refine lv_iload_n C0.1.1 C0.1.2.1 dX3_number_0 rfl (lv_at hl 1 rfl) ?_
  obtain ⟨x2, hx3, h⟩ := g_bd h
  refine x_xcallv (vx_runS (As := [.int p0]) (rest := []) C0.1 (zX3_requireNumber l hlf D cyI cyJ cyO A bs Z.2.2.2.2.2 (XD d cyI cyJ cyO eA (d 5) (d 6) rs1 rr1 at1 fa1 ra1 ol fd dc ds va tr ++ va_pl P g) N p0 x2 hx3) (va_cwS 1 C0.1.2.2.2.2 gX3_number_X3_requireNumber rfl rfl rfl (by decide +kernel) ⟨Nat.le_of_ble_eq_true rfl, Nat.le_of_ble_eq_true rfl⟩) ⟨gP_blind, gP_pre Z hN hT _⟩ rfl rfl hl.1 rfl (lv_room (Nat.le_of_ble_eq_true rfl)) dX3_number_1 ⟨Nat.le_of_ble_eq_true rfl, Nat.le_of_ble_eq_true rfl⟩) Z.2.2.2.1 (fun u t H1 locs1 ht hvm hB hS => g_post Z ht hvm hB hS) (fun E ce q9 u t H locs ht hvm _ hB hS h1 h2 h3 => ?_) (fun u H locs hw Z => ?_)
  · obtain ⟨hk, rfl, hB⟩ := hB
    replace h := (if_neg hk).symm.trans h
    exact vx_out (fun x hx => (hxt x hx).elim) C0.2.2 h1 h2 h3 (fun t1 ht1 hvm1 => hxc x2 dc ds _ _ t1 hk h (⟨rs1, rr1, at1, fa1, ra1, g_post Z ht hvm hB hS, hF1⟩) hvm1 (by rw [ht1]; exact Nat.le_refl _) (fun q _ => by rw [ht1])) hS.2.2 (Nat.le_of_ble_eq_true rfl) (Nat.le_of_ble_eq_true rfl)
  replace h := (if_pos hw).symm.trans h
  refine lv_aload_n C0.1.1 C0.1.2.1 dX3_number_4 rfl (lv_at hl 0 rfl) ?_
  obtain ⟨x4, hx5, h⟩ := g_bd h
  refine x_xcallv (vx_runV (b := d 0) (C := RX3) (As := []) (rest := []) C0.1 (zX3_requireRoom l hlf D cyI cyJ cyO A bs Z.2.2.2.2.2 P g d eA ol fd dc ds fw fn ff qw qn qf va tr N x4 hx5) (cwV 0 C0.1.2.2.2.2 gX3_number_X3_requireRoom rfl rfl rfl (by decide +kernel) ⟨Nat.le_of_ble_eq_true rfl, Nat.le_of_ble_eq_true rfl⟩) ⟨dP_blind, va_recv Z.2.1 Z.1 (ci := 5) (q0 := 0) rfl rfl, dP_pre ⟨rs1, rr1, at1, fa1, ra1, Z, hF1⟩ hN hT _⟩ rfl rfl hl.1 rfl (lv_room (Nat.le_of_ble_eq_true rfl)) dX3_number_5 ⟨Nat.le_of_ble_eq_true rfl, Nat.le_of_ble_eq_true rfl⟩) Z.2.2.2.1 (fun u t H1 locs1 ht hvm hB hS => dW_post Z ht hvm hB hS) (fun E ce q9 u t H locs ht hvm _ hB hS h1 h2 h3 => ?_) (fun u H locs hw Z => ?_)
  · obtain ⟨hk, rfl, hB⟩ := hB
    replace h := (if_neg hk).symm.trans h
    exact vx_out (fun x hx => (hxt x hx).elim) C0.2.2 h1 h2 h3 (fun t1 ht1 hvm1 => hxc x4 dc ds _ _ t1 hk h (dW_post Z ht hvm hB hS) hvm1 (by rw [ht1]; exact Nat.le_refl _) (fun q _ => by rw [ht1])) hS.2.2 (Nat.le_of_ble_eq_true rfl) (Nat.le_of_ble_eq_true rfl)
  replace h := (if_pos hw).symm.trans h
  obtain ⟨rs6, rr6, at6, fa6, ra6, Z, hF6⟩ := Z
  refine lv_aload_n C0.1.1 C0.1.2.1 dX3_number_8 rfl (lv_at hl 0 rfl) ?_
  refine g_get (ci := 5) (v := .ref (d 1)) (T := TX3) (N := 9) C0.1 Z 0 rfl rfl 0 (by decide) kX3_number_in3 kX3_number_f14 rfl rfl dX3_number_9 ?_
  refine lv_bipush (v := 36) C0.1.1 C0.1.2.1 dX3_number_12 (by decide +kernel) ?_
  refine lv_iload_n C0.1.1 C0.1.2.1 dX3_number_14 rfl (lv_at hl 1 rfl) ?_
  refine lv_iadd C0.1.1 C0.1.2.1 dX3_number_15 ?_
  obtain ⟨x7, hx8, h⟩ := g_bd h
  refine x_calli (va_runVN (b := d 1) (C := RX0) (As := [.int ((36 : Int32) + p0)]) (rest := []) C0.1 (zX0_write l D cyI cyJ cyO A bs Z.2.2.2.2.2 P g d eA ol fd dc ds fw fn ff qw qn qf va tr N ((36 : Int32) + p0) x7 hx8) ⟨va_cnB 1 C0.1.2.2.2.2 gX3_number_X0_write_n55 rfl rfl rfl (hN.1 _ (List.mem_of_getElem? (i := 8) rfl)) (C0.1.2.2.2.2 _ kX3_number_iniRX0) (by decide +kernel) ⟨Nat.le_of_ble_eq_true rfl, Nat.le_of_ble_eq_true rfl⟩, C0.1.2.2.2.2 _ kX3_number_insX0_write, C0.1.2.2.2.2 _ kX3_number_selX0_write⟩ ⟨dP_blind, va_recv Z.2.1 Z.1 (ci := 2) (q0 := 1) rfl rfl, dP_pre ⟨rs6, rr6, at6, fa6, ra6, Z, hF6⟩ hN hT _⟩ rfl rfl hl.1 rfl (lv_room (Nat.le_of_ble_eq_true rfl)) dX3_number_16 ⟨Nat.le_of_ble_eq_true rfl, Nat.le_of_ble_eq_true rfl⟩) Z.2.2.2.1 (fun u t H1 locs1 ht hvm hB hS => dW_post Z ht hvm hB hS) (fun r u H locs hw Z => ?_)
  obtain ⟨rfl, rfl⟩ := hw
  obtain ⟨rs9, rr9, at9, fa9, ra9, Z, hF9⟩ := Z
  exact hret x7.1 x7.2.1 x7.2.2 _ _ _ _ h ⟨rs9, rr9, at9, fa9, ra9, Z, hF9⟩ dX3_number_19
/-! X3_cell -/
abbrev rmX3_cell : Room := { frames := 7, cells := 2, slots := 12, locals := 112 }
theorem kX3_cell_in3 : ∀ w ∈ wsX30, w ∈ wsX3_cell := by decide +kernel
theorem kX3_cell_f14 : Cond.fieldLink RX3 14 "GoalseekOffice" "draft" "LGoalseekOffice$Draft;" ∈ wsX3_cell := by decide +kernel
theorem kX3_cell_iniRX0 : Cond.initialized RX0 ∈ wsX3_cell := by decide +kernel
theorem kX3_cell_insX0_write : Cond.instanceMethod yX0_write ∈ wsX3_cell := by decide +kernel
theorem kX3_cell_selX0_write : Cond.selects RX0 yX0_write yX0_write ∈ wsX3_cell := by decide +kernel
def mX3_cell (N : Nat) (dc : Int32) (ds : Nat → Int32) (p0 : Int32) : Option (Nat × Int32 × Int32 × (Nat → Int32)) := ((mX3_requireCell N p0).bind fun x2 => (if x2 = 0 then ((mX3_requireRoom N dc).bind fun x4 => (if x4 = 0 then ((mX0_write N dc ds ((6 : Int32) + p0)).bind fun x7 => some (0, x7.1, x7.2.1, x7.2.2)) else some (x4, 0, dc, ds))) else some (x2, 0, dc, ds)))
set_option maxRecDepth 20000 in
set_option maxHeartbeats 4000000 in
theorem zX3_cell (l : Launch) (hlf : l.stackTraces = false) (D : va_G) (cyI cyJ cyO : ClassId) (A : Nat → Prop) (bs : Nat) (hA : ∀ q, bs ≤ q → A q) (P : List Nat) (g : Nat → va_E) (d : Nat → Nat) (eA : Nat) (ol : Int32) (fd : Int32) (dc : Int32) (ds : Nat → Int32) (fw : Nat → Int32) (fn : Nat → Nat) (ff : Nat → Nat → Int32) (qw : Nat → Int32) (qn : Nat → Nat) (qf : Nat → Nat → Int32) (va : Nat → Int64) (tr : Nat → Int64) (N : Nat) (p0 : Int32) (res : Nat × Int32 × Int32 × (Nat → Int32)) (h : mX3_cell N dc ds p0 = some res) : vx_Met l yX3_cell wsX3_cell rmX3_cell (va_Pc [.ref (d 0), .int p0] (dP (dW D cyI cyJ cyO A bs P g d eA (d 5) (d 6) ol fd dc ds fw fn ff qw qn qf va tr) A)) (va_Qi (fun (r : Int32) (u : Int32 × (Nat → Int32)) => res.1 = 0 ∧ res.2.1 = r ∧ res.2.2 = u) (fun (u : Int32 × (Nat → Int32)) U => dW D cyI cyJ cyO A bs P g d eA (d 5) (d 6) ol fd u.1 u.2 fw fn ff qw qn qf va tr U) A) (vx_X (S := Int32 × (Nat → Int32)) (fun _ => True) (fun E u t => res.1 ≠ 0 ∧ E = exN res.1 ∧ res.2.2 = u ∧ dW D cyI cyJ cyO A bs P g d eA (d 5) (d 6) ol fd u.1 u.2 fw fn ff qw qn qf va tr t) A) 2 12 A := by
  refine vx_ofW (cc := cX3_cell) (maxL := 2) (ret := (some .int)) (by decide) rfl ?_
  intro p e s m args below meth c s₁ B hml hxt hv
  obtain ⟨hav, hv⟩ := hv
  obtain ⟨hv, hN, hT⟩ := hv
  have C0 : gC p m meth c cX3_cell 2 (some .int) s args wsX3_cell RX3 := ⟨⟨B.exec, B.bytes, hml, findClass_of_methodNamed B.named, atoms_spec (ws := wsX3_cell) B.pre⟩, B.returns, B.notSynchronized⟩
  have Z := dZ_start hA hv
  have hret : ∀ (r : Int32) (dc_r : Int32) (ds_r : Nat → Int32) (H : Heap) (locs : List Loc) (pc : Nat) (ls : Array Slot), some (0, r, dc_r, ds_r) = some res → dZ D cyI cyJ cyO A bs P g d eA (d 5) (d 6) ol fd dc_r ds_r fw fn ff qw qn qf va tr s H locs → decode cX3_cell pc = .ok (.ireturn, 1) → W p l e rmX3_cell s m args below meth c H locs 2 12 (vx_MQ below (va_Qi (fun (r : Int32) (u : Int32 × (Nat → Int32)) => res.1 = 0 ∧ res.2.1 = r ∧ res.2.2 = u) (fun (u : Int32 × (Nat → Int32)) U => dW D cyI cyJ cyO A bs P g d eA (d 5) (d 6) ol fd u.1 u.2 fw fn ff qw qn qf va tr U) A) (vx_X (S := Int32 × (Nat → Int32)) (fun _ => True) (fun E u t => res.1 ≠ 0 ∧ E = exN res.1 ∧ res.2.2 = u ∧ dW D cyI cyJ cyO A bs P g d eA (d 5) (d 6) ol fd u.1 u.2 fw fn ff qw qn qf va tr t) A) args s 2 12 A) (F0 m pc ls [.int r]) := by
    intro r dc_r ds_r H locs pc ls h Z hd
    replace h := Option.some.inj h
    subst h
    exact vx_ret (W.iret C0.1.1 C0.1.2.1 C0.2.1 (fun t ht hW => ⟨⟨r, (dc_r, ds_r), rfl, ⟨rfl, rfl, rfl⟩, dZ_end Z ht hW⟩, va_S.F (dZ_S Z) ht⟩) (dZ_S Z).2.2 hd C0.2.2)
  have hxc : ∀ (k : Nat) (dc_r : Int32) (ds_r : Nat → Int32) (H : Heap) (locs : List Loc) (t : State), k ≠ 0 → some (k, 0, dc_r, ds_r) = some res → dZ D cyI cyJ cyO A bs P g d eA (d 5) (d 6) ol fd dc_r ds_r fw fn ff qw qn qf va tr s H locs → s.vm.Alike t.vm → H.size ≤ t.heap.size → (∀ q : Nat, q < H.size → t.heap[q]? = H[q]?) → (vx_X (S := Int32 × (Nat → Int32)) (fun _ => True) (fun E u t => res.1 ≠ 0 ∧ E = exN res.1 ∧ res.2.2 = u ∧ dW D cyI cyJ cyO A bs P g d eA (d 5) (d 6) ol fd u.1 u.2 fw fn ff qw qn qf va tr t) A) (exN k) s t := by
    intro k dc_r ds_r H locs t hk h Z hvm hz hq
    replace h := Option.some.inj h
    subst h
    exact ⟨(dc_r, ds_r), trivial, ⟨hk, rfl, rfl, dW_grow Z hvm hz hq⟩, vaF_grow (dZ_S Z) hz hq⟩
  have hl := lv_entry ([.ref (d 0), .int p0]) (n := 2) (Nat.le_of_ble_eq_true rfl)
  rw [hav, lg_entry_eq]
  generalize (lg_sl ([.ref (d 0), .int p0]) ++ List.replicate (2 - (lg_sl ([.ref (d 0), .int p0])).length) Slot.unset).toArray = ls at hl ⊢
  have hl : lv_has ls 2 [(0, .ref (d 0)), (1, .int p0)] := hl
  rw [← hav]
  unfold mX3_cell at h
  obtain ⟨rs1, rr1, at1, fa1, ra1, Z, hF1⟩ := Z
  refine lv_iload_n C0.1.1 C0.1.2.1 dX3_cell_0 rfl (lv_at hl 1 rfl) ?_
  obtain ⟨x2, hx3, h⟩ := g_bd h
  refine x_xcallv (vx_runS (As := [.int p0]) (rest := []) C0.1 (zX3_requireCell l hlf D cyI cyJ cyO A bs Z.2.2.2.2.2 (XD d cyI cyJ cyO eA (d 5) (d 6) rs1 rr1 at1 fa1 ra1 ol fd dc ds va tr ++ va_pl P g) N p0 x2 hx3) (va_cwS 1 C0.1.2.2.2.2 gX3_cell_X3_requireCell rfl rfl rfl (by decide +kernel) ⟨Nat.le_of_ble_eq_true rfl, Nat.le_of_ble_eq_true rfl⟩) ⟨gP_blind, gP_pre Z hN hT _⟩ rfl rfl hl.1 rfl (lv_room (Nat.le_of_ble_eq_true rfl)) dX3_cell_1 ⟨Nat.le_of_ble_eq_true rfl, Nat.le_of_ble_eq_true rfl⟩) Z.2.2.2.1 (fun u t H1 locs1 ht hvm hB hS => g_post Z ht hvm hB hS) (fun E ce q9 u t H locs ht hvm _ hB hS h1 h2 h3 => ?_) (fun u H locs hw Z => ?_)
  · obtain ⟨hk, rfl, hB⟩ := hB
    replace h := (if_neg hk).symm.trans h
    exact vx_out (fun x hx => (hxt x hx).elim) C0.2.2 h1 h2 h3 (fun t1 ht1 hvm1 => hxc x2 dc ds _ _ t1 hk h (⟨rs1, rr1, at1, fa1, ra1, g_post Z ht hvm hB hS, hF1⟩) hvm1 (by rw [ht1]; exact Nat.le_refl _) (fun q _ => by rw [ht1])) hS.2.2 (Nat.le_of_ble_eq_true rfl) (Nat.le_of_ble_eq_true rfl)
  replace h := (if_pos hw).symm.trans h
  refine lv_aload_n C0.1.1 C0.1.2.1 dX3_cell_4 rfl (lv_at hl 0 rfl) ?_
  obtain ⟨x4, hx5, h⟩ := g_bd h
  refine x_xcallv (vx_runV (b := d 0) (C := RX3) (As := []) (rest := []) C0.1 (zX3_requireRoom l hlf D cyI cyJ cyO A bs Z.2.2.2.2.2 P g d eA ol fd dc ds fw fn ff qw qn qf va tr N x4 hx5) (cwV 0 C0.1.2.2.2.2 gX3_cell_X3_requireRoom rfl rfl rfl (by decide +kernel) ⟨Nat.le_of_ble_eq_true rfl, Nat.le_of_ble_eq_true rfl⟩) ⟨dP_blind, va_recv Z.2.1 Z.1 (ci := 5) (q0 := 0) rfl rfl, dP_pre ⟨rs1, rr1, at1, fa1, ra1, Z, hF1⟩ hN hT _⟩ rfl rfl hl.1 rfl (lv_room (Nat.le_of_ble_eq_true rfl)) dX3_cell_5 ⟨Nat.le_of_ble_eq_true rfl, Nat.le_of_ble_eq_true rfl⟩) Z.2.2.2.1 (fun u t H1 locs1 ht hvm hB hS => dW_post Z ht hvm hB hS) (fun E ce q9 u t H locs ht hvm _ hB hS h1 h2 h3 => ?_) (fun u H locs hw Z => ?_)
  · obtain ⟨hk, rfl, hB⟩ := hB
    replace h := (if_neg hk).symm.trans h
    exact vx_out (fun x hx => (hxt x hx).elim) C0.2.2 h1 h2 h3 (fun t1 ht1 hvm1 => hxc x4 dc ds _ _ t1 hk h (dW_post Z ht hvm hB hS) hvm1 (by rw [ht1]; exact Nat.le_refl _) (fun q _ => by rw [ht1])) hS.2.2 (Nat.le_of_ble_eq_true rfl) (Nat.le_of_ble_eq_true rfl)
  replace h := (if_pos hw).symm.trans h
  obtain ⟨rs6, rr6, at6, fa6, ra6, Z, hF6⟩ := Z
  refine lv_aload_n C0.1.1 C0.1.2.1 dX3_cell_8 rfl (lv_at hl 0 rfl) ?_
  refine g_get (ci := 5) (v := .ref (d 1)) (T := TX3) (N := 9) C0.1 Z 0 rfl rfl 0 (by decide) kX3_cell_in3 kX3_cell_f14 rfl rfl dX3_cell_9 ?_
  refine lv_bipush (v := 6) C0.1.1 C0.1.2.1 dX3_cell_12 (by decide +kernel) ?_
  refine lv_iload_n C0.1.1 C0.1.2.1 dX3_cell_14 rfl (lv_at hl 1 rfl) ?_
  refine lv_iadd C0.1.1 C0.1.2.1 dX3_cell_15 ?_
  obtain ⟨x7, hx8, h⟩ := g_bd h
  refine x_calli (va_runVN (b := d 1) (C := RX0) (As := [.int ((6 : Int32) + p0)]) (rest := []) C0.1 (zX0_write l D cyI cyJ cyO A bs Z.2.2.2.2.2 P g d eA ol fd dc ds fw fn ff qw qn qf va tr N ((6 : Int32) + p0) x7 hx8) ⟨va_cnB 1 C0.1.2.2.2.2 gX3_cell_X0_write_n55 rfl rfl rfl (hN.1 _ (List.mem_of_getElem? (i := 8) rfl)) (C0.1.2.2.2.2 _ kX3_cell_iniRX0) (by decide +kernel) ⟨Nat.le_of_ble_eq_true rfl, Nat.le_of_ble_eq_true rfl⟩, C0.1.2.2.2.2 _ kX3_cell_insX0_write, C0.1.2.2.2.2 _ kX3_cell_selX0_write⟩ ⟨dP_blind, va_recv Z.2.1 Z.1 (ci := 2) (q0 := 1) rfl rfl, dP_pre ⟨rs6, rr6, at6, fa6, ra6, Z, hF6⟩ hN hT _⟩ rfl rfl hl.1 rfl (lv_room (Nat.le_of_ble_eq_true rfl)) dX3_cell_16 ⟨Nat.le_of_ble_eq_true rfl, Nat.le_of_ble_eq_true rfl⟩) Z.2.2.2.1 (fun u t H1 locs1 ht hvm hB hS => dW_post Z ht hvm hB hS) (fun r u H locs hw Z => ?_)
  obtain ⟨rfl, rfl⟩ := hw
  obtain ⟨rs9, rr9, at9, fa9, ra9, Z, hF9⟩ := Z
  exact hret x7.1 x7.2.1 x7.2.2 _ _ _ _ h ⟨rs9, rr9, at9, fa9, ra9, Z, hF9⟩ dX3_cell_19
/-! X3_sign -/
abbrev rmX3_sign : Room := { frames := 7, cells := 1, slots := 6, locals := 112 }
theorem kX3_sign_x62a : Cond.classLink RX3 62 "java/lang/IllegalArgumentException" ∈ wsX3_sign := by decide +kernel
theorem kX3_sign_x62b : Cond.initialized "java/lang/IllegalArgumentException" ∈ wsX3_sign := by decide +kernel
theorem kX3_sign_x62c : ∀ w ∈ (vx_atS RX3 66 "java/lang/IllegalArgumentException" ["java/lang/RuntimeException", "java/lang/Exception"]).filter goodWord, w ∈ wsX3_sign := by decide +kernel
theorem kX3_sign_in3 : ∀ w ∈ wsX30, w ∈ wsX3_sign := by decide +kernel
theorem kX3_sign_f14 : Cond.fieldLink RX3 14 "GoalseekOffice" "draft" "LGoalseekOffice$Draft;" ∈ wsX3_sign := by decide +kernel
theorem kX3_sign_iniRX0 : Cond.initialized RX0 ∈ wsX3_sign := by decide +kernel
theorem kX3_sign_insX0_write : Cond.instanceMethod yX0_write ∈ wsX3_sign := by decide +kernel
theorem kX3_sign_selX0_write : Cond.selects RX0 yX0_write yX0_write ∈ wsX3_sign := by decide +kernel
def mX3_sign_9 (N : Nat) (dc : Int32) (ds : Nat → Int32) : Option (Nat × Int32 × Int32 × (Nat → Int32)) := some (2, 0, dc, ds)
def mX3_sign (N : Nat) (dc : Int32) (ds : Nat → Int32) (p0 : Int32) : Option (Nat × Int32 × Int32 × (Nat → Int32)) := (if p0 < 0 then mX3_sign_9 N dc ds else (if p0 ≤ (5 : Int32) then ((mX3_requireRoom N dc).bind fun x3 => (if x3 = 0 then ((mX0_write N dc ds p0).bind fun x6 => some (0, x6.1, x6.2.1, x6.2.2)) else some (x3, 0, dc, ds))) else mX3_sign_9 N dc ds))
set_option maxRecDepth 20000 in
set_option maxHeartbeats 4000000 in
theorem wX3_sign_9 {p : Program} {l : Launch} {e : Env} {s : State} {m : MethodId} {args : Array Value} {below : List Frame} {meth : Method} {c : Code} {D : va_G} {cyI cyJ cyO : ClassId} {A : Nat → Prop} {bs : Nat} {P : List Nat} {g : Nat → va_E} {d : Nat → Nat} {eA : Nat} {Qc : Array Value → State → Outcome → State → Prop} {XC : String → State → State → Prop} {ol : Int32} {fd : Int32} {fw : Nat → Int32} {fn : Nat → Nat} {ff : Nat → Nat → Int32} {qw : Nat → Int32} {qn : Nat → Nat} {qf : Nat → Nat → Int32} {va : Nat → Int64} {tr : Nat → Int64} {N : Nat} {res : Nat × Int32 × Int32 × (Nat → Int32)} (C0 : gC p m meth c cX3_sign 2 (some .int) s args wsX3_sign RX3) (hN : dN s) (hT : dT A s) (hxt : ∀ x ∈ c.exceptionTable.toList, False) (hlf : l.stackTraces = false) (hret : ∀ (r : Int32) (dc_r : Int32) (ds_r : Nat → Int32) (H : Heap) (locs : List Loc) (pc : Nat) (ls : Array Slot), some (0, r, dc_r, ds_r) = some res → dZ D cyI cyJ cyO A bs P g d eA (d 5) (d 6) ol fd dc_r ds_r fw fn ff qw qn qf va tr s H locs → decode cX3_sign pc = .ok (.ireturn, 1) → W p l e rmX3_sign s m args below meth c H locs 1 6 (vx_MQ below Qc XC args s 1 6 A) (F0 m pc ls [.int r])) (hxc : ∀ (k : Nat) (dc_r : Int32) (ds_r : Nat → Int32) (H : Heap) (locs : List Loc) (t : State), k ≠ 0 → some (k, 0, dc_r, ds_r) = some res → dZ D cyI cyJ cyO A bs P g d eA (d 5) (d 6) ol fd dc_r ds_r fw fn ff qw qn qf va tr s H locs → s.vm.Alike t.vm → H.size ≤ t.heap.size → (∀ q : Nat, q < H.size → t.heap[q]? = H[q]?) → XC (exN k) s t)  : ∀ (dc : Int32) (ds : Nat → Int32) (H : Heap) (locs : List Loc) (ls : Array Slot), mX3_sign_9 N dc ds = some res → dZ D cyI cyJ cyO A bs P g d eA (d 5) (d 6) ol fd dc ds fw fn ff qw qn qf va tr s H locs → lv_has ls 2 [] → W p l e rmX3_sign s m args below meth c H locs 0 0 (vx_MQ below Qc XC args s 1 6 A) (F0 m 9 ls []) := by
  intro dc ds H locs ls h Z hl
  unfold mX3_sign_9 at h
  obtain ⟨rs1, rr1, at1, fa1, ra1, Z, hF1⟩ := Z
  exact x_throw (text := "the code is out of range") xOk_2 C0 hxt hlf hN hT Z.2.2.2.1 (List.mem_of_getElem? (i := 11) rfl) kX3_sign_x62a kX3_sign_x62b kX3_sign_x62c hl.1 dX3_sign_9 dX3_sign_12 dX3_sign_13 dX3_sign_15 dX3_sign_18 ⟨Nat.le_of_ble_eq_true rfl, Nat.le_of_ble_eq_true rfl, Nat.le_of_ble_eq_true rfl, Nat.le_of_ble_eq_true rfl⟩ (Nat.le_of_ble_eq_true rfl) (Nat.le_of_ble_eq_true rfl) (fun t hvm hz hq => hxc 2 dc ds _ _ t (by decide) h ⟨rs1, rr1, at1, fa1, ra1, Z, hF1⟩ hvm hz hq)
set_option maxRecDepth 20000 in
set_option maxHeartbeats 4000000 in
theorem zX3_sign (l : Launch) (hlf : l.stackTraces = false) (D : va_G) (cyI cyJ cyO : ClassId) (A : Nat → Prop) (bs : Nat) (hA : ∀ q, bs ≤ q → A q) (P : List Nat) (g : Nat → va_E) (d : Nat → Nat) (eA : Nat) (ol : Int32) (fd : Int32) (dc : Int32) (ds : Nat → Int32) (fw : Nat → Int32) (fn : Nat → Nat) (ff : Nat → Nat → Int32) (qw : Nat → Int32) (qn : Nat → Nat) (qf : Nat → Nat → Int32) (va : Nat → Int64) (tr : Nat → Int64) (N : Nat) (p0 : Int32) (res : Nat × Int32 × Int32 × (Nat → Int32)) (h : mX3_sign N dc ds p0 = some res) : vx_Met l yX3_sign wsX3_sign rmX3_sign (va_Pc [.ref (d 0), .int p0] (dP (dW D cyI cyJ cyO A bs P g d eA (d 5) (d 6) ol fd dc ds fw fn ff qw qn qf va tr) A)) (va_Qi (fun (r : Int32) (u : Int32 × (Nat → Int32)) => res.1 = 0 ∧ res.2.1 = r ∧ res.2.2 = u) (fun (u : Int32 × (Nat → Int32)) U => dW D cyI cyJ cyO A bs P g d eA (d 5) (d 6) ol fd u.1 u.2 fw fn ff qw qn qf va tr U) A) (vx_X (S := Int32 × (Nat → Int32)) (fun _ => True) (fun E u t => res.1 ≠ 0 ∧ E = exN res.1 ∧ res.2.2 = u ∧ dW D cyI cyJ cyO A bs P g d eA (d 5) (d 6) ol fd u.1 u.2 fw fn ff qw qn qf va tr t) A) 1 6 A := by
  refine vx_ofW (cc := cX3_sign) (maxL := 2) (ret := (some .int)) (by decide) rfl ?_
  intro p e s m args below meth c s₁ B hml hxt hv
  obtain ⟨hav, hv⟩ := hv
  obtain ⟨hv, hN, hT⟩ := hv
  have C0 : gC p m meth c cX3_sign 2 (some .int) s args wsX3_sign RX3 := ⟨⟨B.exec, B.bytes, hml, findClass_of_methodNamed B.named, atoms_spec (ws := wsX3_sign) B.pre⟩, B.returns, B.notSynchronized⟩
  have Z := dZ_start hA hv
  have hret : ∀ (r : Int32) (dc_r : Int32) (ds_r : Nat → Int32) (H : Heap) (locs : List Loc) (pc : Nat) (ls : Array Slot), some (0, r, dc_r, ds_r) = some res → dZ D cyI cyJ cyO A bs P g d eA (d 5) (d 6) ol fd dc_r ds_r fw fn ff qw qn qf va tr s H locs → decode cX3_sign pc = .ok (.ireturn, 1) → W p l e rmX3_sign s m args below meth c H locs 1 6 (vx_MQ below (va_Qi (fun (r : Int32) (u : Int32 × (Nat → Int32)) => res.1 = 0 ∧ res.2.1 = r ∧ res.2.2 = u) (fun (u : Int32 × (Nat → Int32)) U => dW D cyI cyJ cyO A bs P g d eA (d 5) (d 6) ol fd u.1 u.2 fw fn ff qw qn qf va tr U) A) (vx_X (S := Int32 × (Nat → Int32)) (fun _ => True) (fun E u t => res.1 ≠ 0 ∧ E = exN res.1 ∧ res.2.2 = u ∧ dW D cyI cyJ cyO A bs P g d eA (d 5) (d 6) ol fd u.1 u.2 fw fn ff qw qn qf va tr t) A) args s 1 6 A) (F0 m pc ls [.int r]) := by
    intro r dc_r ds_r H locs pc ls h Z hd
    replace h := Option.some.inj h
    subst h
    exact vx_ret (W.iret C0.1.1 C0.1.2.1 C0.2.1 (fun t ht hW => ⟨⟨r, (dc_r, ds_r), rfl, ⟨rfl, rfl, rfl⟩, dZ_end Z ht hW⟩, va_S.F (dZ_S Z) ht⟩) (dZ_S Z).2.2 hd C0.2.2)
  have hxc : ∀ (k : Nat) (dc_r : Int32) (ds_r : Nat → Int32) (H : Heap) (locs : List Loc) (t : State), k ≠ 0 → some (k, 0, dc_r, ds_r) = some res → dZ D cyI cyJ cyO A bs P g d eA (d 5) (d 6) ol fd dc_r ds_r fw fn ff qw qn qf va tr s H locs → s.vm.Alike t.vm → H.size ≤ t.heap.size → (∀ q : Nat, q < H.size → t.heap[q]? = H[q]?) → (vx_X (S := Int32 × (Nat → Int32)) (fun _ => True) (fun E u t => res.1 ≠ 0 ∧ E = exN res.1 ∧ res.2.2 = u ∧ dW D cyI cyJ cyO A bs P g d eA (d 5) (d 6) ol fd u.1 u.2 fw fn ff qw qn qf va tr t) A) (exN k) s t := by
    intro k dc_r ds_r H locs t hk h Z hvm hz hq
    replace h := Option.some.inj h
    subst h
    exact ⟨(dc_r, ds_r), trivial, ⟨hk, rfl, rfl, dW_grow Z hvm hz hq⟩, vaF_grow (dZ_S Z) hz hq⟩
  have hl := lv_entry ([.ref (d 0), .int p0]) (n := 2) (Nat.le_of_ble_eq_true rfl)
  rw [hav, lg_entry_eq]
  generalize (lg_sl ([.ref (d 0), .int p0]) ++ List.replicate (2 - (lg_sl ([.ref (d 0), .int p0])).length) Slot.unset).toArray = ls at hl ⊢
  have hl : lv_has ls 2 [(0, .ref (d 0)), (1, .int p0)] := hl
  rw [← hav]
  unfold mX3_sign at h
  obtain ⟨rs2, rr2, at2, fa2, ra2, Z, hF2⟩ := Z
  refine lv_iload_n C0.1.1 C0.1.2.1 dX3_sign_0 rfl (lv_at hl 1 rfl) ?_
  refine lv_if_lt (tgt := 9) C0.1.1 C0.1.2.1 dX3_sign_1 (by decide) (fun hc => ?_) (fun hc => ?_)
  · replace h := (if_pos hc).symm.trans h
    exact wX3_sign_9 (N := N) C0 hN hT hxt hlf hret hxc dc ds _ _ _ h ⟨rs2, rr2, at2, fa2, ra2, Z, hF2⟩ (lv_sub hl [] rfl)
  · replace h := (if_neg hc).symm.trans h
    refine lv_iload_n C0.1.1 C0.1.2.1 dX3_sign_4 rfl (lv_at hl 1 rfl) ?_
    refine lv_iconst (v := 5) C0.1.1 C0.1.2.1 dX3_sign_5 (by decide) ?_
    refine lv_icmp_le (tgt := 19) C0.1.1 C0.1.2.1 dX3_sign_6 (by decide) (fun hc => ?_) (fun hc => ?_)
    · replace h := (if_pos hc).symm.trans h
      refine lv_aload_n C0.1.1 C0.1.2.1 dX3_sign_19 rfl (lv_at hl 0 rfl) ?_
      obtain ⟨x3, hx4, h⟩ := g_bd h
      refine x_xcallv (vx_runV (b := d 0) (C := RX3) (As := []) (rest := []) C0.1 (zX3_requireRoom l hlf D cyI cyJ cyO A bs Z.2.2.2.2.2 P g d eA ol fd dc ds fw fn ff qw qn qf va tr N x3 hx4) (cwV 0 C0.1.2.2.2.2 gX3_sign_X3_requireRoom rfl rfl rfl (by decide +kernel) ⟨Nat.le_of_ble_eq_true rfl, Nat.le_of_ble_eq_true rfl⟩) ⟨dP_blind, va_recv Z.2.1 Z.1 (ci := 5) (q0 := 0) rfl rfl, dP_pre ⟨rs2, rr2, at2, fa2, ra2, Z, hF2⟩ hN hT _⟩ rfl rfl hl.1 rfl (lv_room (Nat.le_of_ble_eq_true rfl)) dX3_sign_20 ⟨Nat.le_of_ble_eq_true rfl, Nat.le_of_ble_eq_true rfl⟩) Z.2.2.2.1 (fun u t H1 locs1 ht hvm hB hS => dW_post Z ht hvm hB hS) (fun E ce q9 u t H locs ht hvm _ hB hS h1 h2 h3 => ?_) (fun u H locs hw Z => ?_)
      · obtain ⟨hk, rfl, hB⟩ := hB
        replace h := (if_neg hk).symm.trans h
        exact vx_out (fun x hx => (hxt x hx).elim) C0.2.2 h1 h2 h3 (fun t1 ht1 hvm1 => hxc x3 dc ds _ _ t1 hk h (dW_post Z ht hvm hB hS) hvm1 (by rw [ht1]; exact Nat.le_refl _) (fun q _ => by rw [ht1])) hS.2.2 (Nat.le_of_ble_eq_true rfl) (Nat.le_of_ble_eq_true rfl)
      replace h := (if_pos hw).symm.trans h
      obtain ⟨rs5, rr5, at5, fa5, ra5, Z, hF5⟩ := Z
      refine lv_aload_n C0.1.1 C0.1.2.1 dX3_sign_23 rfl (lv_at hl 0 rfl) ?_
      refine g_get (ci := 5) (v := .ref (d 1)) (T := TX3) (N := 9) C0.1 Z 0 rfl rfl 0 (by decide) kX3_sign_in3 kX3_sign_f14 rfl rfl dX3_sign_24 ?_
      refine lv_iload_n C0.1.1 C0.1.2.1 dX3_sign_27 rfl (lv_at hl 1 rfl) ?_
      obtain ⟨x6, hx7, h⟩ := g_bd h
      refine x_calli (va_runVN (b := d 1) (C := RX0) (As := [.int p0]) (rest := []) C0.1 (zX0_write l D cyI cyJ cyO A bs Z.2.2.2.2.2 P g d eA ol fd dc ds fw fn ff qw qn qf va tr N p0 x6 hx7) ⟨va_cnB 1 C0.1.2.2.2.2 gX3_sign_X0_write_n55 rfl rfl rfl (hN.1 _ (List.mem_of_getElem? (i := 8) rfl)) (C0.1.2.2.2.2 _ kX3_sign_iniRX0) (by decide +kernel) ⟨Nat.le_of_ble_eq_true rfl, Nat.le_of_ble_eq_true rfl⟩, C0.1.2.2.2.2 _ kX3_sign_insX0_write, C0.1.2.2.2.2 _ kX3_sign_selX0_write⟩ ⟨dP_blind, va_recv Z.2.1 Z.1 (ci := 2) (q0 := 1) rfl rfl, dP_pre ⟨rs5, rr5, at5, fa5, ra5, Z, hF5⟩ hN hT _⟩ rfl rfl hl.1 rfl (lv_room (Nat.le_of_ble_eq_true rfl)) dX3_sign_28 ⟨Nat.le_of_ble_eq_true rfl, Nat.le_of_ble_eq_true rfl⟩) Z.2.2.2.1 (fun u t H1 locs1 ht hvm hB hS => dW_post Z ht hvm hB hS) (fun r u H locs hw Z => ?_)
      obtain ⟨rfl, rfl⟩ := hw
      obtain ⟨rs8, rr8, at8, fa8, ra8, Z, hF8⟩ := Z
      exact hret x6.1 x6.2.1 x6.2.2 _ _ _ _ h ⟨rs8, rr8, at8, fa8, ra8, Z, hF8⟩ dX3_sign_31
    · replace h := (if_neg hc).symm.trans h
      exact wX3_sign_9 (N := N) C0 hN hT hxt hlf hret hxc dc ds _ _ _ h ⟨rs2, rr2, at2, fa2, ra2, Z, hF2⟩ (lv_sub hl [] rfl)
/-! X3_wipe -/
abbrev rmX3_wipe : Room := { frames := 0, cells := 0, slots := 0, locals := 0 }
theorem kX3_wipe_in3 : ∀ w ∈ wsX30, w ∈ wsX3_wipe := by decide +kernel
theorem kX3_wipe_f14 : Cond.fieldLink RX3 14 "GoalseekOffice" "draft" "LGoalseekOffice$Draft;" ∈ wsX3_wipe := by decide +kernel
theorem kX3_wipe_in0 : ∀ w ∈ wsX00, w ∈ wsX3_wipe := by decide +kernel
def mX3_wipe (N : Nat) (dc : Int32) : Option (Int32 × Int32) := some (dc, (0 : Int32))
set_option maxRecDepth 20000 in
set_option maxHeartbeats 4000000 in
theorem zX3_wipe (l : Launch) (D : va_G) (cyI cyJ cyO : ClassId) (A : Nat → Prop) (bs : Nat) (hA : ∀ q, bs ≤ q → A q) (P : List Nat) (g : Nat → va_E) (d : Nat → Nat) (eA : Nat) (ol : Int32) (fd : Int32) (dc : Int32) (ds : Nat → Int32) (fw : Nat → Int32) (fn : Nat → Nat) (ff : Nat → Nat → Int32) (qw : Nat → Int32) (qn : Nat → Nat) (qf : Nat → Nat → Int32) (va : Nat → Int64) (tr : Nat → Int64) (N : Nat)  (res : Int32 × Int32) (h : mX3_wipe N dc = some res) : Met l yX3_wipe wsX3_wipe rmX3_wipe (va_Pc [.ref (d 0)] (dP (dW D cyI cyJ cyO A bs P g d eA (d 5) (d 6) ol fd dc ds fw fn ff qw qn qf va tr) A)) (va_Qi (fun (r : Int32) (u : Int32) => res.1 = r ∧ res.2 = u) (fun (u : Int32) U => dW D cyI cyJ cyO A bs P g d eA (d 5) (d 6) ol fd u ds fw fn ff qw qn qf va tr U) A)  0 0 A := by
  refine Met.ofW (cc := cX3_wipe) (maxL := 2) (ret := (some .int)) (by decide) rfl ?_
  intro p e s m args below meth c s₁ B hml hv
  obtain ⟨hav, hv⟩ := hv
  obtain ⟨hv, hN, hT⟩ := hv
  have C0 : gC p m meth c cX3_wipe 2 (some .int) s args wsX3_wipe RX3 := ⟨⟨B.exec, B.bytes, hml, findClass_of_methodNamed B.named, atoms_spec (ws := wsX3_wipe) B.pre⟩, B.returns, B.notSynchronized⟩
  have Z := dZ_start hA hv
  have hret : ∀ (r : Int32) (dc_r : Int32) (H : Heap) (locs : List Loc) (pc : Nat) (ls : Array Slot), some (r, dc_r) = some res → dZ D cyI cyJ cyO A bs P g d eA (d 5) (d 6) ol fd dc_r ds fw fn ff qw qn qf va tr s H locs → decode cX3_wipe pc = .ok (.ireturn, 1) → W p l e rmX3_wipe s m args below meth c H locs 0 0 (MQ below (va_Qi (fun (r : Int32) (u : Int32) => res.1 = r ∧ res.2 = u) (fun (u : Int32) U => dW D cyI cyJ cyO A bs P g d eA (d 5) (d 6) ol fd u ds fw fn ff qw qn qf va tr U) A) args s 0 0 A) (F0 m pc ls [.int r]) := by
    intro r dc_r H locs pc ls h Z hd
    replace h := Option.some.inj h
    subst h
    exact W.iret C0.1.1 C0.1.2.1 C0.2.1 (fun t ht hW => ⟨⟨r, dc_r, rfl, ⟨rfl, rfl⟩, dZ_end Z ht hW⟩, va_S.F (dZ_S Z) ht⟩) (dZ_S Z).2.2 hd C0.2.2
  have hl := lv_entry ([.ref (d 0)]) (n := 2) (Nat.le_of_ble_eq_true rfl)
  rw [hav, lg_entry_eq]
  generalize (lg_sl ([.ref (d 0)]) ++ List.replicate (2 - (lg_sl ([.ref (d 0)])).length) Slot.unset).toArray = ls at hl ⊢
  have hl : lv_has ls 2 [(0, .ref (d 0))] := hl
  rw [← hav]
  unfold mX3_wipe at h
  obtain ⟨rs1, rr1, at1, fa1, ra1, Z, hF1⟩ := Z
  refine lv_aload_n C0.1.1 C0.1.2.1 dX3_wipe_0 rfl (lv_at hl 0 rfl) ?_
  refine g_get (ci := 5) (v := .ref (d 1)) (T := TX3) (N := 9) C0.1 Z 0 rfl rfl 0 (by decide) kX3_wipe_in3 kX3_wipe_f14 rfl rfl dX3_wipe_1 ?_
  refine g_getN (ci := 2) (v := .int dc) (T := TX0) (N := 2) (host := RX3) C0.1 Z 1 rfl rfl 1 (by decide) kX3_wipe_in0 (hN.1 _ (List.mem_of_getElem? (i := 14) rfl)) rfl rfl dX3_wipe_4 ?_
  refine lv_istore_n (lv' := [(1, .int dc), (0, .ref (d 0))]) C0.1.1 C0.1.2.1 dX3_wipe_7 rfl hl (by decide) rfl (fun ls hl => ?_)
  refine lv_aload_n C0.1.1 C0.1.2.1 dX3_wipe_8 rfl (lv_at hl 1 rfl) ?_
  refine g_get (ci := 5) (v := .ref (d 1)) (T := TX3) (N := 9) C0.1 Z 0 rfl rfl 0 (by decide) kX3_wipe_in3 kX3_wipe_f14 rfl rfl dX3_wipe_9 ?_
  refine lv_iconst (v := 0) C0.1.1 C0.1.2.1 dX3_wipe_12 (by decide) ?_
  refine g_putN (ci := 2) (v := .int (0 : Int32)) (T := TX0) (N := 2) (host := RX3) (ws' := (XD d cyI cyJ cyO eA (d 5) (d 6) rs1 rr1 at1 fa1 ra1 ol fd (0 : Int32) ds va tr ++ va_pl P g)) C0.1 Z 1 rfl rfl 1 (by decide) kX3_wipe_in0 (hN.1 _ (List.mem_of_getElem? (i := 14) rfl)) rfl tyX0 tyX0_ok nmX0 rfl rfl rfl (Nat.le_of_ble_eq_true rfl) dX3_wipe_13 rfl (fun H locs Z => ?_)
  refine lv_iload_n C0.1.1 C0.1.2.1 dX3_wipe_16 rfl (lv_at hl 0 rfl) ?_
  exact hret dc (0 : Int32) _ _ _ _ h ⟨rs1, rr1, at1, fa1, ra1, Z, hF1⟩ dX3_wipe_17
/-! X3_fault -/
abbrev rmX3_fault : Room := { frames := 1, cells := 0, slots := 0, locals := 24 }
theorem kX3_fault_in3 : ∀ w ∈ wsX30, w ∈ wsX3_fault := by decide +kernel
theorem kX3_fault_f14 : Cond.fieldLink RX3 14 "GoalseekOffice" "draft" "LGoalseekOffice$Draft;" ∈ wsX3_fault := by decide +kernel
theorem kX3_fault_iniRX0 : Cond.initialized RX0 ∈ wsX3_fault := by decide +kernel
theorem kX3_fault_insX0_faultPlace : Cond.instanceMethod yX0_faultPlace ∈ wsX3_fault := by decide +kernel
theorem kX3_fault_selX0_faultPlace : Cond.selects RX0 yX0_faultPlace yX0_faultPlace ∈ wsX3_fault := by decide +kernel
def mX3_fault (N : Nat) (dc : Int32) (ds : Nat → Int32) : Option (Int32) := ((mX0_faultPlace N dc ds).bind fun x2 => some x2)
set_option maxRecDepth 20000 in
set_option maxHeartbeats 4000000 in
theorem zX3_fault (l : Launch) (D : va_G) (cyI cyJ cyO : ClassId) (A : Nat → Prop) (bs : Nat) (hA : ∀ q, bs ≤ q → A q) (P : List Nat) (g : Nat → va_E) (d : Nat → Nat) (eA : Nat) (ol : Int32) (fd : Int32) (dc : Int32) (ds : Nat → Int32) (fw : Nat → Int32) (fn : Nat → Nat) (ff : Nat → Nat → Int32) (qw : Nat → Int32) (qn : Nat → Nat) (qf : Nat → Nat → Int32) (va : Nat → Int64) (tr : Nat → Int64) (N : Nat)  (res : Int32) (h : mX3_fault N dc ds = some res) : Met l yX3_fault wsX3_fault rmX3_fault (va_Pc [.ref (d 0)] (dP (dW D cyI cyJ cyO A bs P g d eA (d 5) (d 6) ol fd dc ds fw fn ff qw qn qf va tr) A)) (va_Qi (fun (r : Int32) (_ : Unit) => res = r) (fun (u : Unit) U => dW D cyI cyJ cyO A bs P g d eA (d 5) (d 6) ol fd dc ds fw fn ff qw qn qf va tr U) A)  0 0 A := by
  refine Met.ofW (cc := cX3_fault) (maxL := 1) (ret := (some .int)) (by decide) rfl ?_
  intro p e s m args below meth c s₁ B hml hv
  obtain ⟨hav, hv⟩ := hv
  obtain ⟨hv, hN, hT⟩ := hv
  have C0 : gC p m meth c cX3_fault 1 (some .int) s args wsX3_fault RX3 := ⟨⟨B.exec, B.bytes, hml, findClass_of_methodNamed B.named, atoms_spec (ws := wsX3_fault) B.pre⟩, B.returns, B.notSynchronized⟩
  have Z := dZ_start hA hv
  have hret : ∀ (r : Int32) (H : Heap) (locs : List Loc) (pc : Nat) (ls : Array Slot), some r = some res → dZ D cyI cyJ cyO A bs P g d eA (d 5) (d 6) ol fd dc ds fw fn ff qw qn qf va tr s H locs → decode cX3_fault pc = .ok (.ireturn, 1) → W p l e rmX3_fault s m args below meth c H locs 0 0 (MQ below (va_Qi (fun (r : Int32) (_ : Unit) => res = r) (fun (u : Unit) U => dW D cyI cyJ cyO A bs P g d eA (d 5) (d 6) ol fd dc ds fw fn ff qw qn qf va tr U) A) args s 0 0 A) (F0 m pc ls [.int r]) := by
    intro r H locs pc ls h Z hd
    replace h := Option.some.inj h
    subst h
    exact W.iret C0.1.1 C0.1.2.1 C0.2.1 (fun t ht hW => ⟨⟨r, (), rfl, rfl, dZ_end Z ht hW⟩, va_S.F (dZ_S Z) ht⟩) (dZ_S Z).2.2 hd C0.2.2
  have hl := lv_entry ([.ref (d 0)]) (n := 1) (Nat.le_of_ble_eq_true rfl)
  rw [hav, lg_entry_eq]
  generalize (lg_sl ([.ref (d 0)]) ++ List.replicate (1 - (lg_sl ([.ref (d 0)])).length) Slot.unset).toArray = ls at hl ⊢
  have hl : lv_has ls 1 [(0, .ref (d 0))] := hl
  rw [← hav]
  unfold mX3_fault at h
  obtain ⟨rs1, rr1, at1, fa1, ra1, Z, hF1⟩ := Z
  refine lv_aload_n C0.1.1 C0.1.2.1 dX3_fault_0 rfl (lv_at hl 0 rfl) ?_
  refine g_get (ci := 5) (v := .ref (d 1)) (T := TX3) (N := 9) C0.1 Z 0 rfl rfl 0 (by decide) kX3_fault_in3 kX3_fault_f14 rfl rfl dX3_fault_1 ?_
  obtain ⟨x2, hx3, h⟩ := g_bd h
  refine x_calli (va_runVN (b := d 1) (C := RX0) (As := []) (rest := []) C0.1 (zX0_faultPlace l D cyI cyJ cyO A bs Z.2.2.2.2.2 P g d eA ol fd dc ds fw fn ff qw qn qf va tr N x2 hx3) ⟨va_cnB 0 C0.1.2.2.2.2 gX3_fault_X0_faultPlace_n73 rfl rfl rfl (hN.1 _ (List.mem_of_getElem? (i := 9) rfl)) (C0.1.2.2.2.2 _ kX3_fault_iniRX0) (by decide +kernel) ⟨Nat.le_of_ble_eq_true rfl, Nat.le_of_ble_eq_true rfl⟩, C0.1.2.2.2.2 _ kX3_fault_insX0_faultPlace, C0.1.2.2.2.2 _ kX3_fault_selX0_faultPlace⟩ ⟨dP_blind, va_recv Z.2.1 Z.1 (ci := 2) (q0 := 1) rfl rfl, dP_pre ⟨rs1, rr1, at1, fa1, ra1, Z, hF1⟩ hN hT _⟩ rfl rfl hl.1 rfl (lv_room (Nat.le_of_ble_eq_true rfl)) dX3_fault_4 ⟨Nat.le_of_ble_eq_true rfl, Nat.le_of_ble_eq_true rfl⟩) Z.2.2.2.1 (fun u t H1 locs1 ht hvm hB hS => dW_post Z ht hvm hB hS) (fun r u H locs hw Z => ?_)
  subst hw
  obtain ⟨rs4, rr4, at4, fa4, ra4, Z, hF4⟩ := Z
  exact hret x2 _ _ _ _ h ⟨rs4, rr4, at4, fa4, ra4, Z, hF4⟩ dX3_fault_7
/-! X3_layers -/
abbrev rmX3_layers : Room := { frames := 0, cells := 0, slots := 0, locals := 0 }
theorem kX3_layers_in3 : ∀ w ∈ wsX30, w ∈ wsX3_layers := by decide +kernel
theorem kX3_layers_f110 : Cond.fieldLink RX3 110 "GoalseekOffice" "openLayers" "I" ∈ wsX3_layers := by decide +kernel
def mX3_layers (N : Nat) (ol : Int32) : Option (Int32) := some ol
set_option maxRecDepth 20000 in
set_option maxHeartbeats 4000000 in
theorem zX3_layers (l : Launch) (D : va_G) (cyI cyJ cyO : ClassId) (A : Nat → Prop) (bs : Nat) (hA : ∀ q, bs ≤ q → A q) (P : List Nat) (g : Nat → va_E) (d : Nat → Nat) (eA : Nat) (ol : Int32) (fd : Int32) (dc : Int32) (ds : Nat → Int32) (fw : Nat → Int32) (fn : Nat → Nat) (ff : Nat → Nat → Int32) (qw : Nat → Int32) (qn : Nat → Nat) (qf : Nat → Nat → Int32) (va : Nat → Int64) (tr : Nat → Int64) (N : Nat)  (res : Int32) (h : mX3_layers N ol = some res) : Met l yX3_layers wsX3_layers rmX3_layers (va_Pc [.ref (d 0)] (dP (dW D cyI cyJ cyO A bs P g d eA (d 5) (d 6) ol fd dc ds fw fn ff qw qn qf va tr) A)) (va_Qi (fun (r : Int32) (_ : Unit) => res = r) (fun (u : Unit) U => dW D cyI cyJ cyO A bs P g d eA (d 5) (d 6) ol fd dc ds fw fn ff qw qn qf va tr U) A)  0 0 A := by
  refine Met.ofW (cc := cX3_layers) (maxL := 1) (ret := (some .int)) (by decide) rfl ?_
  intro p e s m args below meth c s₁ B hml hv
  obtain ⟨hav, hv⟩ := hv
  obtain ⟨hv, hN, hT⟩ := hv
  have C0 : gC p m meth c cX3_layers 1 (some .int) s args wsX3_layers RX3 := ⟨⟨B.exec, B.bytes, hml, findClass_of_methodNamed B.named, atoms_spec (ws := wsX3_layers) B.pre⟩, B.returns, B.notSynchronized⟩
  have Z := dZ_start hA hv
  have hret : ∀ (r : Int32) (H : Heap) (locs : List Loc) (pc : Nat) (ls : Array Slot), some r = some res → dZ D cyI cyJ cyO A bs P g d eA (d 5) (d 6) ol fd dc ds fw fn ff qw qn qf va tr s H locs → decode cX3_layers pc = .ok (.ireturn, 1) → W p l e rmX3_layers s m args below meth c H locs 0 0 (MQ below (va_Qi (fun (r : Int32) (_ : Unit) => res = r) (fun (u : Unit) U => dW D cyI cyJ cyO A bs P g d eA (d 5) (d 6) ol fd dc ds fw fn ff qw qn qf va tr U) A) args s 0 0 A) (F0 m pc ls [.int r]) := by
    intro r H locs pc ls h Z hd
    replace h := Option.some.inj h
    subst h
    exact W.iret C0.1.1 C0.1.2.1 C0.2.1 (fun t ht hW => ⟨⟨r, (), rfl, rfl, dZ_end Z ht hW⟩, va_S.F (dZ_S Z) ht⟩) (dZ_S Z).2.2 hd C0.2.2
  have hl := lv_entry ([.ref (d 0)]) (n := 1) (Nat.le_of_ble_eq_true rfl)
  rw [hav, lg_entry_eq]
  generalize (lg_sl ([.ref (d 0)]) ++ List.replicate (1 - (lg_sl ([.ref (d 0)])).length) Slot.unset).toArray = ls at hl ⊢
  have hl : lv_has ls 1 [(0, .ref (d 0))] := hl
  rw [← hav]
  unfold mX3_layers at h
  obtain ⟨rs1, rr1, at1, fa1, ra1, Z, hF1⟩ := Z
  refine lv_aload_n C0.1.1 C0.1.2.1 dX3_layers_0 rfl (lv_at hl 0 rfl) ?_
  refine g_get (ci := 5) (v := .int ol) (T := TX3) (N := 9) C0.1 Z 0 rfl rfl 7 (by decide) kX3_layers_in3 kX3_layers_f110 rfl rfl dX3_layers_1 ?_
  exact hret ol _ _ _ _ h ⟨rs1, rr1, at1, fa1, ra1, Z, hF1⟩ dX3_layers_4
/-! X3_drafted -/
abbrev rmX3_drafted : Room := { frames := 0, cells := 0, slots := 0, locals := 0 }
theorem kX3_drafted_in3 : ∀ w ∈ wsX30, w ∈ wsX3_drafted := by decide +kernel
theorem kX3_drafted_f14 : Cond.fieldLink RX3 14 "GoalseekOffice" "draft" "LGoalseekOffice$Draft;" ∈ wsX3_drafted := by decide +kernel
theorem kX3_drafted_in0 : ∀ w ∈ wsX00, w ∈ wsX3_drafted := by decide +kernel
def mX3_drafted (N : Nat) (dc : Int32) : Option (Int32) := some dc
set_option maxRecDepth 20000 in
set_option maxHeartbeats 4000000 in
theorem zX3_drafted (l : Launch) (D : va_G) (cyI cyJ cyO : ClassId) (A : Nat → Prop) (bs : Nat) (hA : ∀ q, bs ≤ q → A q) (P : List Nat) (g : Nat → va_E) (d : Nat → Nat) (eA : Nat) (ol : Int32) (fd : Int32) (dc : Int32) (ds : Nat → Int32) (fw : Nat → Int32) (fn : Nat → Nat) (ff : Nat → Nat → Int32) (qw : Nat → Int32) (qn : Nat → Nat) (qf : Nat → Nat → Int32) (va : Nat → Int64) (tr : Nat → Int64) (N : Nat)  (res : Int32) (h : mX3_drafted N dc = some res) : Met l yX3_drafted wsX3_drafted rmX3_drafted (va_Pc [.ref (d 0)] (dP (dW D cyI cyJ cyO A bs P g d eA (d 5) (d 6) ol fd dc ds fw fn ff qw qn qf va tr) A)) (va_Qi (fun (r : Int32) (_ : Unit) => res = r) (fun (u : Unit) U => dW D cyI cyJ cyO A bs P g d eA (d 5) (d 6) ol fd dc ds fw fn ff qw qn qf va tr U) A)  0 0 A := by
  refine Met.ofW (cc := cX3_drafted) (maxL := 1) (ret := (some .int)) (by decide) rfl ?_
  intro p e s m args below meth c s₁ B hml hv
  obtain ⟨hav, hv⟩ := hv
  obtain ⟨hv, hN, hT⟩ := hv
  have C0 : gC p m meth c cX3_drafted 1 (some .int) s args wsX3_drafted RX3 := ⟨⟨B.exec, B.bytes, hml, findClass_of_methodNamed B.named, atoms_spec (ws := wsX3_drafted) B.pre⟩, B.returns, B.notSynchronized⟩
  have Z := dZ_start hA hv
  have hret : ∀ (r : Int32) (H : Heap) (locs : List Loc) (pc : Nat) (ls : Array Slot), some r = some res → dZ D cyI cyJ cyO A bs P g d eA (d 5) (d 6) ol fd dc ds fw fn ff qw qn qf va tr s H locs → decode cX3_drafted pc = .ok (.ireturn, 1) → W p l e rmX3_drafted s m args below meth c H locs 0 0 (MQ below (va_Qi (fun (r : Int32) (_ : Unit) => res = r) (fun (u : Unit) U => dW D cyI cyJ cyO A bs P g d eA (d 5) (d 6) ol fd dc ds fw fn ff qw qn qf va tr U) A) args s 0 0 A) (F0 m pc ls [.int r]) := by
    intro r H locs pc ls h Z hd
    replace h := Option.some.inj h
    subst h
    exact W.iret C0.1.1 C0.1.2.1 C0.2.1 (fun t ht hW => ⟨⟨r, (), rfl, rfl, dZ_end Z ht hW⟩, va_S.F (dZ_S Z) ht⟩) (dZ_S Z).2.2 hd C0.2.2
  have hl := lv_entry ([.ref (d 0)]) (n := 1) (Nat.le_of_ble_eq_true rfl)
  rw [hav, lg_entry_eq]
  generalize (lg_sl ([.ref (d 0)]) ++ List.replicate (1 - (lg_sl ([.ref (d 0)])).length) Slot.unset).toArray = ls at hl ⊢
  have hl : lv_has ls 1 [(0, .ref (d 0))] := hl
  rw [← hav]
  unfold mX3_drafted at h
  obtain ⟨rs1, rr1, at1, fa1, ra1, Z, hF1⟩ := Z
  refine lv_aload_n C0.1.1 C0.1.2.1 dX3_drafted_0 rfl (lv_at hl 0 rfl) ?_
  refine g_get (ci := 5) (v := .ref (d 1)) (T := TX3) (N := 9) C0.1 Z 0 rfl rfl 0 (by decide) kX3_drafted_in3 kX3_drafted_f14 rfl rfl dX3_drafted_1 ?_
  refine g_getN (ci := 2) (v := .int dc) (T := TX0) (N := 2) (host := RX3) C0.1 Z 1 rfl rfl 1 (by decide) kX3_drafted_in0 (hN.1 _ (List.mem_of_getElem? (i := 14) rfl)) rfl rfl dX3_drafted_4 ?_
  exact hret dc _ _ _ _ h ⟨rs1, rr1, at1, fa1, ra1, Z, hF1⟩ dX3_drafted_7
/-! X3_faulty -/
abbrev rmX3_faulty : Room := { frames := 0, cells := 0, slots := 0, locals := 0 }
theorem kX3_faulty_in3 : ∀ w ∈ wsX30, w ∈ wsX3_faulty := by decide +kernel
theorem kX3_faulty_f41 : Cond.fieldLink RX3 41 "GoalseekOffice" "values" "[J" ∈ wsX3_faulty := by decide +kernel
theorem kX3_faulty_c151 : Cond.constantLong RX3 151 (-9223372036854775808) ∈ wsX3_faulty := by decide +kernel
def mX3_faulty_26 (N : Nat) (va : Nat → Int64) (r4 : Int32 → Int32 → Option (Int32)) (v1 : Int32) (v2 : Int32) : Option (Int32) := r4 v1 (v2 + (1 : Int32))
def mX3_faulty_4_b (N : Nat) (va : Nat → Int64) (r4 : Int32 → Int32 → Option (Int32)) (v1 : Int32) (v2 : Int32) : Option (Int32) := (if (30 : Int32) ≤ v2 then some v1 else (if v2 < 0 ∨ 30 ≤ v2.toNatClampNeg then none else (if (lg_cmp (va v2.toNatClampNeg) (-9223372036854775808 : Int64)) = 0 then mX3_faulty_26 N va r4 (v1 + (1 : Int32)) v2 else mX3_faulty_26 N va r4 v1 v2)))
def mX3_faulty_4 (N : Nat) (va : Nat → Int64) : Nat → Int32 → Int32 → Option (Int32)
  | 0 => fun _ _ => none
  | n_ + 1 => fun v1 v2 => mX3_faulty_4_b N va (mX3_faulty_4 N va n_) v1 v2
def mX3_faulty (N : Nat) (va : Nat → Int64) : Option (Int32) := mX3_faulty_4 N va N (0 : Int32) (0 : Int32)
set_option maxRecDepth 20000 in
set_option maxHeartbeats 4000000 in
theorem wX3_faulty_26 {p : Program} {l : Launch} {e : Env} {s : State} {m : MethodId} {args : Array Value} {below : List Frame} {meth : Method} {c : Code} {D : va_G} {cyI cyJ cyO : ClassId} {A : Nat → Prop} {bs : Nat} {P : List Nat} {g : Nat → va_E} {d : Nat → Nat} {eA : Nat} {Q : State → Prop} {ol : Int32} {fd : Int32} {dc : Int32} {ds : Nat → Int32} {fw : Nat → Int32} {fn : Nat → Nat} {ff : Nat → Nat → Int32} {qw : Nat → Int32} {qn : Nat → Nat} {qf : Nat → Nat → Int32} {va : Nat → Int64} {tr : Nat → Int64} {N : Nat} {res : Int32} (C0 : gC p m meth c cX3_faulty 3 (some .int) s args wsX3_faulty RX3) (hN : dN s) (hT : dT A s) (hret : ∀ (r : Int32) (H : Heap) (locs : List Loc) (pc : Nat) (ls : Array Slot), some r = some res → dZ D cyI cyJ cyO A bs P g d eA (d 5) (d 6) ol fd dc ds fw fn ff qw qn qf va tr s H locs → decode cX3_faulty pc = .ok (.ireturn, 1) → W p l e rmX3_faulty s m args below meth c H locs 0 0 Q (F0 m pc ls [.int r])) {r4 : Int32 → Int32 → Option (Int32)} (hr4 : ∀ (v1 : Int32) (v2 : Int32) (H : Heap) (locs : List Loc) (ls : Array Slot), r4 v1 v2 = some res → dZ D cyI cyJ cyO A bs P g d eA (d 5) (d 6) ol fd dc ds fw fn ff qw qn qf va tr s H locs → lv_has ls 3 [(0, .ref (d 0)), (1, .int v1), (2, .int v2)] → W p l e rmX3_faulty s m args below meth c H locs 0 0 Q (F0 m 4 ls [])) : ∀ (v1 : Int32) (v2 : Int32) (H : Heap) (locs : List Loc) (ls : Array Slot), mX3_faulty_26 N va r4 v1 v2 = some res → dZ D cyI cyJ cyO A bs P g d eA (d 5) (d 6) ol fd dc ds fw fn ff qw qn qf va tr s H locs → lv_has ls 3 [(0, .ref (d 0)), (1, .int v1), (2, .int v2)] → W p l e rmX3_faulty s m args below meth c H locs 0 0 Q (F0 m 26 ls []) := by
  intro v1 v2 H locs ls h Z hl
  unfold mX3_faulty_26 at h
  obtain ⟨rs1, rr1, at1, fa1, ra1, Z, hF1⟩ := Z
  refine lv_iinc (v := v2 + (1 : Int32)) (lv' := [(2, .int (v2 + (1 : Int32))), (0, .ref (d 0)), (1, .int v1)]) C0.1.1 C0.1.2.1 dX3_faulty_26 hl (k := 2) rfl rfl (by decide) rfl (fun ls hl => ?_)
  refine lv_goto (tgt := 4) C0.1.1 C0.1.2.1 dX3_faulty_29 (by decide) ?_
  exact hr4 v1 (v2 + (1 : Int32)) _ _ _ h ⟨rs1, rr1, at1, fa1, ra1, Z, hF1⟩ (lv_sub hl [1, 2, 0] rfl)
set_option maxRecDepth 20000 in
set_option maxHeartbeats 4000000 in
theorem wX3_faulty_4_b {p : Program} {l : Launch} {e : Env} {s : State} {m : MethodId} {args : Array Value} {below : List Frame} {meth : Method} {c : Code} {D : va_G} {cyI cyJ cyO : ClassId} {A : Nat → Prop} {bs : Nat} {P : List Nat} {g : Nat → va_E} {d : Nat → Nat} {eA : Nat} {Q : State → Prop} {ol : Int32} {fd : Int32} {dc : Int32} {ds : Nat → Int32} {fw : Nat → Int32} {fn : Nat → Nat} {ff : Nat → Nat → Int32} {qw : Nat → Int32} {qn : Nat → Nat} {qf : Nat → Nat → Int32} {va : Nat → Int64} {tr : Nat → Int64} {N : Nat} {res : Int32} (C0 : gC p m meth c cX3_faulty 3 (some .int) s args wsX3_faulty RX3) (hN : dN s) (hT : dT A s) (hret : ∀ (r : Int32) (H : Heap) (locs : List Loc) (pc : Nat) (ls : Array Slot), some r = some res → dZ D cyI cyJ cyO A bs P g d eA (d 5) (d 6) ol fd dc ds fw fn ff qw qn qf va tr s H locs → decode cX3_faulty pc = .ok (.ireturn, 1) → W p l e rmX3_faulty s m args below meth c H locs 0 0 Q (F0 m pc ls [.int r])) {r4 : Int32 → Int32 → Option (Int32)} (hr4 : ∀ (v1 : Int32) (v2 : Int32) (H : Heap) (locs : List Loc) (ls : Array Slot), r4 v1 v2 = some res → dZ D cyI cyJ cyO A bs P g d eA (d 5) (d 6) ol fd dc ds fw fn ff qw qn qf va tr s H locs → lv_has ls 3 [(0, .ref (d 0)), (1, .int v1), (2, .int v2)] → W p l e rmX3_faulty s m args below meth c H locs 0 0 Q (F0 m 4 ls [])) : ∀ (v1 : Int32) (v2 : Int32) (H : Heap) (locs : List Loc) (ls : Array Slot), mX3_faulty_4_b N va r4 v1 v2 = some res → dZ D cyI cyJ cyO A bs P g d eA (d 5) (d 6) ol fd dc ds fw fn ff qw qn qf va tr s H locs → lv_has ls 3 [(0, .ref (d 0)), (1, .int v1), (2, .int v2)] → W p l e rmX3_faulty s m args below meth c H locs 0 0 Q (F0 m 4 ls []) := by
  intro v1 v2 H locs ls h Z hl
  unfold mX3_faulty_4_b at h
  obtain ⟨rs2, rr2, at2, fa2, ra2, Z, hF2⟩ := Z
  refine lv_iload_n C0.1.1 C0.1.2.1 dX3_faulty_4 rfl (lv_at hl 2 rfl) ?_
  refine lv_bipush (v := 30) C0.1.1 C0.1.2.1 dX3_faulty_5 (by decide +kernel) ?_
  refine lv_icmp_ge (tgt := 32) C0.1.1 C0.1.2.1 dX3_faulty_7 (by decide) (fun hc => ?_) (fun hc => ?_)
  · replace h := (if_pos hc).symm.trans h
    refine lv_iload_n C0.1.1 C0.1.2.1 dX3_faulty_32 rfl (lv_at hl 1 rfl) ?_
    exact hret v1 _ _ _ _ h ⟨rs2, rr2, at2, fa2, ra2, Z, hF2⟩ dX3_faulty_33
  · replace h := (if_neg hc).symm.trans h
    refine lv_aload_n C0.1.1 C0.1.2.1 dX3_faulty_10 rfl (lv_at hl 0 rfl) ?_
    refine g_get (ci := 5) (v := .ref (d 5)) (T := TX3) (N := 9) C0.1 Z 0 rfl rfl 5 (by decide) kX3_faulty_in3 kX3_faulty_f41 rfl rfl dX3_faulty_11 ?_
    refine lv_iload_n C0.1.1 C0.1.2.1 dX3_faulty_14 rfl (lv_at hl 2 rfl) ?_
    obtain ⟨hi3, h⟩ := g_ni h
    refine g_lald (f := va) (n := 30) C0.1 Z 5 1 rfl rfl hi3 dX3_faulty_15 ?_
    refine lv_ldc2 C0.1.1 C0.1.2.1 C0.1.2.2.2.1 (C0.1.2.2.2.2 _ kX3_faulty_c151) dX3_faulty_16 ?_
    refine W.lcmp C0.1.1 C0.1.2.1 dX3_faulty_19 ?_
    refine lv_if_ne (tgt := 26) C0.1.1 C0.1.2.1 dX3_faulty_20 (by decide) (fun hc => ?_) (fun hc => ?_)
    · replace h := (if_neg hc).symm.trans h
      exact wX3_faulty_26 (N := N) C0 hN hT hret hr4 v1 v2 _ _ _ h ⟨rs2, rr2, at2, fa2, ra2, Z, hF2⟩ (lv_sub hl [0, 1, 2] rfl)
    · replace h := (if_pos hc).symm.trans h
      refine lv_iinc (v := v1 + (1 : Int32)) (lv' := [(1, .int (v1 + (1 : Int32))), (0, .ref (d 0)), (2, .int v2)]) C0.1.1 C0.1.2.1 dX3_faulty_23 hl (k := 1) rfl rfl (by decide) rfl (fun ls hl => ?_)
      exact wX3_faulty_26 (N := N) C0 hN hT hret hr4 (v1 + (1 : Int32)) v2 _ _ _ h ⟨rs2, rr2, at2, fa2, ra2, Z, hF2⟩ (lv_sub hl [1, 0, 2] rfl)
theorem wX3_faulty_4 {p : Program} {l : Launch} {e : Env} {s : State} {m : MethodId} {args : Array Value} {below : List Frame} {meth : Method} {c : Code} {D : va_G} {cyI cyJ cyO : ClassId} {A : Nat → Prop} {bs : Nat} {P : List Nat} {g : Nat → va_E} {d : Nat → Nat} {eA : Nat} {Q : State → Prop} {ol : Int32} {fd : Int32} {dc : Int32} {ds : Nat → Int32} {fw : Nat → Int32} {fn : Nat → Nat} {ff : Nat → Nat → Int32} {qw : Nat → Int32} {qn : Nat → Nat} {qf : Nat → Nat → Int32} {va : Nat → Int64} {tr : Nat → Int64} {N : Nat} {res : Int32} (C0 : gC p m meth c cX3_faulty 3 (some .int) s args wsX3_faulty RX3) (hN : dN s) (hT : dT A s) (hret : ∀ (r : Int32) (H : Heap) (locs : List Loc) (pc : Nat) (ls : Array Slot), some r = some res → dZ D cyI cyJ cyO A bs P g d eA (d 5) (d 6) ol fd dc ds fw fn ff qw qn qf va tr s H locs → decode cX3_faulty pc = .ok (.ireturn, 1) → W p l e rmX3_faulty s m args below meth c H locs 0 0 Q (F0 m pc ls [.int r]))  : ∀ (n_ : Nat), ∀ (v1 : Int32) (v2 : Int32) (H : Heap) (locs : List Loc) (ls : Array Slot), mX3_faulty_4 N va n_ v1 v2 = some res → dZ D cyI cyJ cyO A bs P g d eA (d 5) (d 6) ol fd dc ds fw fn ff qw qn qf va tr s H locs → lv_has ls 3 [(0, .ref (d 0)), (1, .int v1), (2, .int v2)] → W p l e rmX3_faulty s m args below meth c H locs 0 0 Q (F0 m 4 ls []) := by
  intro n_
  induction n_ with
  | zero => intro _ _ _ _ _ h; cases h
  | succ n_ ih => exact wX3_faulty_4_b (N := N) C0 hN hT hret ih
set_option maxRecDepth 20000 in
set_option maxHeartbeats 4000000 in
theorem zX3_faulty (l : Launch) (D : va_G) (cyI cyJ cyO : ClassId) (A : Nat → Prop) (bs : Nat) (hA : ∀ q, bs ≤ q → A q) (P : List Nat) (g : Nat → va_E) (d : Nat → Nat) (eA : Nat) (ol : Int32) (fd : Int32) (dc : Int32) (ds : Nat → Int32) (fw : Nat → Int32) (fn : Nat → Nat) (ff : Nat → Nat → Int32) (qw : Nat → Int32) (qn : Nat → Nat) (qf : Nat → Nat → Int32) (va : Nat → Int64) (tr : Nat → Int64) (N : Nat)  (res : Int32) (h : mX3_faulty N va = some res) : Met l yX3_faulty wsX3_faulty rmX3_faulty (va_Pc [.ref (d 0)] (dP (dW D cyI cyJ cyO A bs P g d eA (d 5) (d 6) ol fd dc ds fw fn ff qw qn qf va tr) A)) (va_Qi (fun (r : Int32) (_ : Unit) => res = r) (fun (u : Unit) U => dW D cyI cyJ cyO A bs P g d eA (d 5) (d 6) ol fd dc ds fw fn ff qw qn qf va tr U) A)  0 0 A := by
  refine Met.ofW (cc := cX3_faulty) (maxL := 3) (ret := (some .int)) (by decide) rfl ?_
  intro p e s m args below meth c s₁ B hml hv
  obtain ⟨hav, hv⟩ := hv
  obtain ⟨hv, hN, hT⟩ := hv
  have C0 : gC p m meth c cX3_faulty 3 (some .int) s args wsX3_faulty RX3 := ⟨⟨B.exec, B.bytes, hml, findClass_of_methodNamed B.named, atoms_spec (ws := wsX3_faulty) B.pre⟩, B.returns, B.notSynchronized⟩
  have Z := dZ_start hA hv
  have hret : ∀ (r : Int32) (H : Heap) (locs : List Loc) (pc : Nat) (ls : Array Slot), some r = some res → dZ D cyI cyJ cyO A bs P g d eA (d 5) (d 6) ol fd dc ds fw fn ff qw qn qf va tr s H locs → decode cX3_faulty pc = .ok (.ireturn, 1) → W p l e rmX3_faulty s m args below meth c H locs 0 0 (MQ below (va_Qi (fun (r : Int32) (_ : Unit) => res = r) (fun (u : Unit) U => dW D cyI cyJ cyO A bs P g d eA (d 5) (d 6) ol fd dc ds fw fn ff qw qn qf va tr U) A) args s 0 0 A) (F0 m pc ls [.int r]) := by
    intro r H locs pc ls h Z hd
    replace h := Option.some.inj h
    subst h
    exact W.iret C0.1.1 C0.1.2.1 C0.2.1 (fun t ht hW => ⟨⟨r, (), rfl, rfl, dZ_end Z ht hW⟩, va_S.F (dZ_S Z) ht⟩) (dZ_S Z).2.2 hd C0.2.2
  have hl := lv_entry ([.ref (d 0)]) (n := 3) (Nat.le_of_ble_eq_true rfl)
  rw [hav, lg_entry_eq]
  generalize (lg_sl ([.ref (d 0)]) ++ List.replicate (3 - (lg_sl ([.ref (d 0)])).length) Slot.unset).toArray = ls at hl ⊢
  have hl : lv_has ls 3 [(0, .ref (d 0))] := hl
  rw [← hav]
  unfold mX3_faulty at h
  obtain ⟨rs4, rr4, at4, fa4, ra4, Z, hF4⟩ := Z
  refine lv_iconst (v := 0) C0.1.1 C0.1.2.1 dX3_faulty_0 (by decide) ?_
  refine lv_istore_n (lv' := [(1, .int (0 : Int32)), (0, .ref (d 0))]) C0.1.1 C0.1.2.1 dX3_faulty_1 rfl hl (by decide) rfl (fun ls hl => ?_)
  refine lv_iconst (v := 0) C0.1.1 C0.1.2.1 dX3_faulty_2 (by decide) ?_
  refine lv_istore_n (lv' := [(2, .int (0 : Int32)), (1, .int (0 : Int32)), (0, .ref (d 0))]) C0.1.1 C0.1.2.1 dX3_faulty_3 rfl hl (by decide) rfl (fun ls hl => ?_)
  exact wX3_faulty_4 (N := N) C0 hN hT hret N (0 : Int32) (0 : Int32) _ _ _ h ⟨rs4, rr4, at4, fa4, ra4, Z, hF4⟩ (lv_sub hl [2, 1, 0] rfl)
/-! X3_foundAnew -/
abbrev rmX3_foundAnew : Room := { frames := 0, cells := 0, slots := 0, locals := 0 }
theorem kX3_foundAnew_in3 : ∀ w ∈ wsX30, w ∈ wsX3_foundAnew := by decide +kernel
theorem kX3_foundAnew_f153 : Cond.fieldLink RX3 153 "GoalseekOffice" "found" "I" ∈ wsX3_foundAnew := by decide +kernel
def mX3_foundAnew (N : Nat) (fd : Int32) : Option (Int32) := some fd
set_option maxRecDepth 20000 in
set_option maxHeartbeats 4000000 in
theorem zX3_foundAnew (l : Launch) (D : va_G) (cyI cyJ cyO : ClassId) (A : Nat → Prop) (bs : Nat) (hA : ∀ q, bs ≤ q → A q) (P : List Nat) (g : Nat → va_E) (d : Nat → Nat) (eA : Nat) (ol : Int32) (fd : Int32) (dc : Int32) (ds : Nat → Int32) (fw : Nat → Int32) (fn : Nat → Nat) (ff : Nat → Nat → Int32) (qw : Nat → Int32) (qn : Nat → Nat) (qf : Nat → Nat → Int32) (va : Nat → Int64) (tr : Nat → Int64) (N : Nat)  (res : Int32) (h : mX3_foundAnew N fd = some res) : Met l yX3_foundAnew wsX3_foundAnew rmX3_foundAnew (va_Pc [.ref (d 0)] (dP (dW D cyI cyJ cyO A bs P g d eA (d 5) (d 6) ol fd dc ds fw fn ff qw qn qf va tr) A)) (va_Qi (fun (r : Int32) (_ : Unit) => res = r) (fun (u : Unit) U => dW D cyI cyJ cyO A bs P g d eA (d 5) (d 6) ol fd dc ds fw fn ff qw qn qf va tr U) A)  0 0 A := by
  refine Met.ofW (cc := cX3_foundAnew) (maxL := 1) (ret := (some .int)) (by decide) rfl ?_
  intro p e s m args below meth c s₁ B hml hv
  obtain ⟨hav, hv⟩ := hv
  obtain ⟨hv, hN, hT⟩ := hv
  have C0 : gC p m meth c cX3_foundAnew 1 (some .int) s args wsX3_foundAnew RX3 := ⟨⟨B.exec, B.bytes, hml, findClass_of_methodNamed B.named, atoms_spec (ws := wsX3_foundAnew) B.pre⟩, B.returns, B.notSynchronized⟩
  have Z := dZ_start hA hv
  have hret : ∀ (r : Int32) (H : Heap) (locs : List Loc) (pc : Nat) (ls : Array Slot), some r = some res → dZ D cyI cyJ cyO A bs P g d eA (d 5) (d 6) ol fd dc ds fw fn ff qw qn qf va tr s H locs → decode cX3_foundAnew pc = .ok (.ireturn, 1) → W p l e rmX3_foundAnew s m args below meth c H locs 0 0 (MQ below (va_Qi (fun (r : Int32) (_ : Unit) => res = r) (fun (u : Unit) U => dW D cyI cyJ cyO A bs P g d eA (d 5) (d 6) ol fd dc ds fw fn ff qw qn qf va tr U) A) args s 0 0 A) (F0 m pc ls [.int r]) := by
    intro r H locs pc ls h Z hd
    replace h := Option.some.inj h
    subst h
    exact W.iret C0.1.1 C0.1.2.1 C0.2.1 (fun t ht hW => ⟨⟨r, (), rfl, rfl, dZ_end Z ht hW⟩, va_S.F (dZ_S Z) ht⟩) (dZ_S Z).2.2 hd C0.2.2
  have hl := lv_entry ([.ref (d 0)]) (n := 1) (Nat.le_of_ble_eq_true rfl)
  rw [hav, lg_entry_eq]
  generalize (lg_sl ([.ref (d 0)]) ++ List.replicate (1 - (lg_sl ([.ref (d 0)])).length) Slot.unset).toArray = ls at hl ⊢
  have hl : lv_has ls 1 [(0, .ref (d 0))] := hl
  rw [← hav]
  unfold mX3_foundAnew at h
  obtain ⟨rs1, rr1, at1, fa1, ra1, Z, hF1⟩ := Z
  refine lv_aload_n C0.1.1 C0.1.2.1 dX3_foundAnew_0 rfl (lv_at hl 0 rfl) ?_
  refine g_get (ci := 5) (v := .int fd) (T := TX3) (N := 9) C0.1 Z 0 rfl rfl 8 (by decide) kX3_foundAnew_in3 kX3_foundAnew_f153 rfl rfl dX3_foundAnew_1 ?_
  exact hret fd _ _ _ _ h ⟨rs1, rr1, at1, fa1, ra1, Z, hF1⟩ dX3_foundAnew_4
/-! X3_value -/
abbrev rmX3_value : Room := { frames := 7, cells := 2, slots := 12, locals := 113 }
theorem kX3_value_in3 : ∀ w ∈ wsX30, w ∈ wsX3_value := by decide +kernel
theorem kX3_value_f41 : Cond.fieldLink RX3 41 "GoalseekOffice" "values" "[J" ∈ wsX3_value := by decide +kernel
def mX3_value (N : Nat) (va : Nat → Int64) (p0 : Int32) : Option (Nat × Int64) := ((mX3_requireCell N p0).bind fun x2 => (if x2 = 0 then (if p0 < 0 ∨ 30 ≤ p0.toNatClampNeg then none else ((mX3_requireValue N (va p0.toNatClampNeg)).bind fun x5 => (if x5 = 0 then (if p0 < 0 ∨ 30 ≤ p0.toNatClampNeg then none else some (0, (va p0.toNatClampNeg))) else some (x5, 0)))) else some (x2, 0)))
set_option maxRecDepth 20000 in
set_option maxHeartbeats 4000000 in
theorem zX3_value (l : Launch) (hlf : l.stackTraces = false) (D : va_G) (cyI cyJ cyO : ClassId) (A : Nat → Prop) (bs : Nat) (hA : ∀ q, bs ≤ q → A q) (P : List Nat) (g : Nat → va_E) (d : Nat → Nat) (eA : Nat) (ol : Int32) (fd : Int32) (dc : Int32) (ds : Nat → Int32) (fw : Nat → Int32) (fn : Nat → Nat) (ff : Nat → Nat → Int32) (qw : Nat → Int32) (qn : Nat → Nat) (qf : Nat → Nat → Int32) (va : Nat → Int64) (tr : Nat → Int64) (N : Nat) (p0 : Int32) (res : Nat × Int64) (h : mX3_value N va p0 = some res) : vx_Met l yX3_value wsX3_value rmX3_value (va_Pc [.ref (d 0), .int p0] (dP (dW D cyI cyJ cyO A bs P g d eA (d 5) (d 6) ol fd dc ds fw fn ff qw qn qf va tr) A)) (va_Ql (fun (r : Int64) (_ : Unit) => res.1 = 0 ∧ res.2 = r) (fun (u : Unit) U => dW D cyI cyJ cyO A bs P g d eA (d 5) (d 6) ol fd dc ds fw fn ff qw qn qf va tr U) A) (vx_X (S := Unit) (fun _ => True) (fun E u t => res.1 ≠ 0 ∧ E = exN res.1 ∧ dW D cyI cyJ cyO A bs P g d eA (d 5) (d 6) ol fd dc ds fw fn ff qw qn qf va tr t) A) 2 12 A := by
  refine vx_ofW (cc := cX3_value) (maxL := 2) (ret := (some .long)) (by decide) rfl ?_
  intro p e s m args below meth c s₁ B hml hxt hv
  obtain ⟨hav, hv⟩ := hv
  obtain ⟨hv, hN, hT⟩ := hv
  have C0 : gC p m meth c cX3_value 2 (some .long) s args wsX3_value RX3 := ⟨⟨B.exec, B.bytes, hml, findClass_of_methodNamed B.named, atoms_spec (ws := wsX3_value) B.pre⟩, B.returns, B.notSynchronized⟩
  have Z := dZ_start hA hv
  have hret : ∀ (r : Int64) (H : Heap) (locs : List Loc) (pc : Nat) (ls : Array Slot), some (0, r) = some res → dZ D cyI cyJ cyO A bs P g d eA (d 5) (d 6) ol fd dc ds fw fn ff qw qn qf va tr s H locs → decode cX3_value pc = .ok (.lreturn, 1) → W p l e rmX3_value s m args below meth c H locs 2 12 (vx_MQ below (va_Ql (fun (r : Int64) (_ : Unit) => res.1 = 0 ∧ res.2 = r) (fun (u : Unit) U => dW D cyI cyJ cyO A bs P g d eA (d 5) (d 6) ol fd dc ds fw fn ff qw qn qf va tr U) A) (vx_X (S := Unit) (fun _ => True) (fun E u t => res.1 ≠ 0 ∧ E = exN res.1 ∧ dW D cyI cyJ cyO A bs P g d eA (d 5) (d 6) ol fd dc ds fw fn ff qw qn qf va tr t) A) args s 2 12 A) (F0 m pc ls [.long r]) := by
    intro r H locs pc ls h Z hd
    replace h := Option.some.inj h
    subst h
    exact vx_ret (W.lret C0.1.1 C0.1.2.1 C0.2.1 (fun t ht hW => ⟨⟨r, (), rfl, ⟨rfl, rfl⟩, dZ_end Z ht hW⟩, va_S.F (dZ_S Z) ht⟩) (dZ_S Z).2.2 hd C0.2.2)
  have hxc : ∀ (k : Nat) (H : Heap) (locs : List Loc) (t : State), k ≠ 0 → some (k, 0) = some res → dZ D cyI cyJ cyO A bs P g d eA (d 5) (d 6) ol fd dc ds fw fn ff qw qn qf va tr s H locs → s.vm.Alike t.vm → H.size ≤ t.heap.size → (∀ q : Nat, q < H.size → t.heap[q]? = H[q]?) → (vx_X (S := Unit) (fun _ => True) (fun E u t => res.1 ≠ 0 ∧ E = exN res.1 ∧ dW D cyI cyJ cyO A bs P g d eA (d 5) (d 6) ol fd dc ds fw fn ff qw qn qf va tr t) A) (exN k) s t := by
    intro k H locs t hk h Z hvm hz hq
    replace h := Option.some.inj h
    subst h
    exact ⟨(), trivial, ⟨hk, rfl, dW_grow Z hvm hz hq⟩, vaF_grow (dZ_S Z) hz hq⟩
  have hl := lv_entry ([.ref (d 0), .int p0]) (n := 2) (Nat.le_of_ble_eq_true rfl)
  rw [hav, lg_entry_eq]
  generalize (lg_sl ([.ref (d 0), .int p0]) ++ List.replicate (2 - (lg_sl ([.ref (d 0), .int p0])).length) Slot.unset).toArray = ls at hl ⊢
  have hl : lv_has ls 2 [(0, .ref (d 0)), (1, .int p0)] := hl
  rw [← hav]
  unfold mX3_value at h
  obtain ⟨rs1, rr1, at1, fa1, ra1, Z, hF1⟩ := Z
  refine lv_iload_n C0.1.1 C0.1.2.1 dX3_value_0 rfl (lv_at hl 1 rfl) ?_
  obtain ⟨x2, hx3, h⟩ := g_bd h
  refine x_xcallv (vx_runS (As := [.int p0]) (rest := []) C0.1 (zX3_requireCell l hlf D cyI cyJ cyO A bs Z.2.2.2.2.2 (XD d cyI cyJ cyO eA (d 5) (d 6) rs1 rr1 at1 fa1 ra1 ol fd dc ds va tr ++ va_pl P g) N p0 x2 hx3) (va_cwS 1 C0.1.2.2.2.2 gX3_value_X3_requireCell rfl rfl rfl (by decide +kernel) ⟨Nat.le_of_ble_eq_true rfl, Nat.le_of_ble_eq_true rfl⟩) ⟨gP_blind, gP_pre Z hN hT _⟩ rfl rfl hl.1 rfl (lv_room (Nat.le_of_ble_eq_true rfl)) dX3_value_1 ⟨Nat.le_of_ble_eq_true rfl, Nat.le_of_ble_eq_true rfl⟩) Z.2.2.2.1 (fun u t H1 locs1 ht hvm hB hS => g_post Z ht hvm hB hS) (fun E ce q9 u t H locs ht hvm _ hB hS h1 h2 h3 => ?_) (fun u H locs hw Z => ?_)
  · obtain ⟨hk, rfl, hB⟩ := hB
    replace h := (if_neg hk).symm.trans h
    exact vx_out (fun x hx => (hxt x hx).elim) C0.2.2 h1 h2 h3 (fun t1 ht1 hvm1 => hxc x2  _ _ t1 hk h (⟨rs1, rr1, at1, fa1, ra1, g_post Z ht hvm hB hS, hF1⟩) hvm1 (by rw [ht1]; exact Nat.le_refl _) (fun q _ => by rw [ht1])) hS.2.2 (Nat.le_of_ble_eq_true rfl) (Nat.le_of_ble_eq_true rfl)
  replace h := (if_pos hw).symm.trans h
  refine lv_aload_n C0.1.1 C0.1.2.1 dX3_value_4 rfl (lv_at hl 0 rfl) ?_
  refine g_get (ci := 5) (v := .ref (d 5)) (T := TX3) (N := 9) C0.1 Z 0 rfl rfl 5 (by decide) kX3_value_in3 kX3_value_f41 rfl rfl dX3_value_5 ?_
  refine lv_iload_n C0.1.1 C0.1.2.1 dX3_value_8 rfl (lv_at hl 1 rfl) ?_
  obtain ⟨hi4, h⟩ := g_ni h
  refine g_lald (f := va) (n := 30) C0.1 Z 5 1 rfl rfl hi4 dX3_value_9 ?_
  obtain ⟨x5, hx6, h⟩ := g_bd h
  refine x_xcallv (vx_runS (As := [.long (va p0.toNatClampNeg)]) (rest := []) C0.1 (zX3_requireValue l hlf D cyI cyJ cyO A bs Z.2.2.2.2.2 (XD d cyI cyJ cyO eA (d 5) (d 6) rs1 rr1 at1 fa1 ra1 ol fd dc ds va tr ++ va_pl P g) N (va p0.toNatClampNeg) x5 hx6) (va_cwS 1 C0.1.2.2.2.2 gX3_value_X3_requireValue rfl rfl rfl (by decide +kernel) ⟨Nat.le_of_ble_eq_true rfl, Nat.le_of_ble_eq_true rfl⟩) ⟨gP_blind, gP_pre Z hN hT _⟩ rfl rfl hl.1 rfl (lv_room (Nat.le_of_ble_eq_true rfl)) dX3_value_10 ⟨Nat.le_of_ble_eq_true rfl, Nat.le_of_ble_eq_true rfl⟩) Z.2.2.2.1 (fun u t H1 locs1 ht hvm hB hS => g_post Z ht hvm hB hS) (fun E ce q9 u t H locs ht hvm _ hB hS h1 h2 h3 => ?_) (fun u H locs hw Z => ?_)
  · obtain ⟨hk, rfl, hB⟩ := hB
    replace h := (if_neg hk).symm.trans h
    exact vx_out (fun x hx => (hxt x hx).elim) C0.2.2 h1 h2 h3 (fun t1 ht1 hvm1 => hxc x5  _ _ t1 hk h (⟨rs1, rr1, at1, fa1, ra1, g_post Z ht hvm hB hS, hF1⟩) hvm1 (by rw [ht1]; exact Nat.le_refl _) (fun q _ => by rw [ht1])) hS.2.2 (Nat.le_of_ble_eq_true rfl) (Nat.le_of_ble_eq_true rfl)
  replace h := (if_pos hw).symm.trans h
  refine lv_aload_n C0.1.1 C0.1.2.1 dX3_value_13 rfl (lv_at hl 0 rfl) ?_
  refine g_get (ci := 5) (v := .ref (d 5)) (T := TX3) (N := 9) C0.1 Z 0 rfl rfl 5 (by decide) kX3_value_in3 kX3_value_f41 rfl rfl dX3_value_14 ?_
  refine lv_iload_n C0.1.1 C0.1.2.1 dX3_value_17 rfl (lv_at hl 1 rfl) ?_
  obtain ⟨hi7, h⟩ := g_ni h
  refine g_lald (f := va) (n := 30) C0.1 Z 5 1 rfl rfl hi7 dX3_value_18 ?_
  exact hret (va p0.toNatClampNeg) _ _ _ _ h ⟨rs1, rr1, at1, fa1, ra1, Z, hF1⟩ dX3_value_19
/-! X3_signs -/
abbrev rmX3_signs : Room := { frames := 7, cells := 1, slots := 6, locals := 112 }
theorem kX3_signs_in3 : ∀ w ∈ wsX30, w ∈ wsX3_signs := by decide +kernel
theorem kX3_signs_f34 : Cond.fieldLink RX3 34 "GoalseekOffice" "formulas" "[LGoalseekOffice$Formula;" ∈ wsX3_signs := by decide +kernel
theorem kX3_signs_in1 : ∀ w ∈ wsX10, w ∈ wsX3_signs := by decide +kernel
def mX3_signs (N : Nat) (fw : Nat → Int32) (fn : Nat → Nat) (ff : Nat → Nat → Int32) (p0 : Int32) : Option (Nat × Int32) := ((mX3_requireCell N p0).bind fun x2 => (if x2 = 0 then (if p0 < 0 ∨ 30 ≤ p0.toNatClampNeg then none else some (0, (nI (fn p0.toNatClampNeg)))) else some (x2, 0)))
set_option maxRecDepth 20000 in
set_option maxHeartbeats 4000000 in
theorem zX3_signs (l : Launch) (hlf : l.stackTraces = false) (D : va_G) (cyI cyJ cyO : ClassId) (A : Nat → Prop) (bs : Nat) (hA : ∀ q, bs ≤ q → A q) (P : List Nat) (g : Nat → va_E) (d : Nat → Nat) (eA : Nat) (ol : Int32) (fd : Int32) (dc : Int32) (ds : Nat → Int32) (fw : Nat → Int32) (fn : Nat → Nat) (ff : Nat → Nat → Int32) (qw : Nat → Int32) (qn : Nat → Nat) (qf : Nat → Nat → Int32) (va : Nat → Int64) (tr : Nat → Int64) (N : Nat) (p0 : Int32) (res : Nat × Int32) (h : mX3_signs N fw fn ff p0 = some res) : vx_Met l yX3_signs wsX3_signs rmX3_signs (va_Pc [.ref (d 0), .int p0] (dP (dW D cyI cyJ cyO A bs P g d eA (d 5) (d 6) ol fd dc ds fw fn ff qw qn qf va tr) A)) (va_Qi (fun (r : Int32) (_ : Unit) => res.1 = 0 ∧ res.2 = r) (fun (u : Unit) U => dW D cyI cyJ cyO A bs P g d eA (d 5) (d 6) ol fd dc ds fw fn ff qw qn qf va tr U) A) (vx_X (S := Unit) (fun _ => True) (fun E u t => res.1 ≠ 0 ∧ E = exN res.1 ∧ dW D cyI cyJ cyO A bs P g d eA (d 5) (d 6) ol fd dc ds fw fn ff qw qn qf va tr t) A) 1 6 A := by
  refine vx_ofW (cc := cX3_signs) (maxL := 2) (ret := (some .int)) (by decide) rfl ?_
  intro p e s m args below meth c s₁ B hml hxt hv
  obtain ⟨hav, hv⟩ := hv
  obtain ⟨hv, hN, hT⟩ := hv
  have C0 : gC p m meth c cX3_signs 2 (some .int) s args wsX3_signs RX3 := ⟨⟨B.exec, B.bytes, hml, findClass_of_methodNamed B.named, atoms_spec (ws := wsX3_signs) B.pre⟩, B.returns, B.notSynchronized⟩
  have Z := dZ_start hA hv
  have hret : ∀ (r : Int32) (H : Heap) (locs : List Loc) (pc : Nat) (ls : Array Slot), some (0, r) = some res → dZ D cyI cyJ cyO A bs P g d eA (d 5) (d 6) ol fd dc ds fw fn ff qw qn qf va tr s H locs → decode cX3_signs pc = .ok (.ireturn, 1) → W p l e rmX3_signs s m args below meth c H locs 1 6 (vx_MQ below (va_Qi (fun (r : Int32) (_ : Unit) => res.1 = 0 ∧ res.2 = r) (fun (u : Unit) U => dW D cyI cyJ cyO A bs P g d eA (d 5) (d 6) ol fd dc ds fw fn ff qw qn qf va tr U) A) (vx_X (S := Unit) (fun _ => True) (fun E u t => res.1 ≠ 0 ∧ E = exN res.1 ∧ dW D cyI cyJ cyO A bs P g d eA (d 5) (d 6) ol fd dc ds fw fn ff qw qn qf va tr t) A) args s 1 6 A) (F0 m pc ls [.int r]) := by
    intro r H locs pc ls h Z hd
    replace h := Option.some.inj h
    subst h
    exact vx_ret (W.iret C0.1.1 C0.1.2.1 C0.2.1 (fun t ht hW => ⟨⟨r, (), rfl, ⟨rfl, rfl⟩, dZ_end Z ht hW⟩, va_S.F (dZ_S Z) ht⟩) (dZ_S Z).2.2 hd C0.2.2)
  have hxc : ∀ (k : Nat) (H : Heap) (locs : List Loc) (t : State), k ≠ 0 → some (k, 0) = some res → dZ D cyI cyJ cyO A bs P g d eA (d 5) (d 6) ol fd dc ds fw fn ff qw qn qf va tr s H locs → s.vm.Alike t.vm → H.size ≤ t.heap.size → (∀ q : Nat, q < H.size → t.heap[q]? = H[q]?) → (vx_X (S := Unit) (fun _ => True) (fun E u t => res.1 ≠ 0 ∧ E = exN res.1 ∧ dW D cyI cyJ cyO A bs P g d eA (d 5) (d 6) ol fd dc ds fw fn ff qw qn qf va tr t) A) (exN k) s t := by
    intro k H locs t hk h Z hvm hz hq
    replace h := Option.some.inj h
    subst h
    exact ⟨(), trivial, ⟨hk, rfl, dW_grow Z hvm hz hq⟩, vaF_grow (dZ_S Z) hz hq⟩
  have hl := lv_entry ([.ref (d 0), .int p0]) (n := 2) (Nat.le_of_ble_eq_true rfl)
  rw [hav, lg_entry_eq]
  generalize (lg_sl ([.ref (d 0), .int p0]) ++ List.replicate (2 - (lg_sl ([.ref (d 0), .int p0])).length) Slot.unset).toArray = ls at hl ⊢
  have hl : lv_has ls 2 [(0, .ref (d 0)), (1, .int p0)] := hl
  rw [← hav]
  unfold mX3_signs at h
  obtain ⟨rs1, rr1, at1, fa1, ra1, Z, hF1⟩ := Z
  refine lv_iload_n C0.1.1 C0.1.2.1 dX3_signs_0 rfl (lv_at hl 1 rfl) ?_
  obtain ⟨x2, hx3, h⟩ := g_bd h
  refine x_xcallv (vx_runS (As := [.int p0]) (rest := []) C0.1 (zX3_requireCell l hlf D cyI cyJ cyO A bs Z.2.2.2.2.2 (XD d cyI cyJ cyO eA (d 5) (d 6) rs1 rr1 at1 fa1 ra1 ol fd dc ds va tr ++ va_pl P g) N p0 x2 hx3) (va_cwS 1 C0.1.2.2.2.2 gX3_signs_X3_requireCell rfl rfl rfl (by decide +kernel) ⟨Nat.le_of_ble_eq_true rfl, Nat.le_of_ble_eq_true rfl⟩) ⟨gP_blind, gP_pre Z hN hT _⟩ rfl rfl hl.1 rfl (lv_room (Nat.le_of_ble_eq_true rfl)) dX3_signs_1 ⟨Nat.le_of_ble_eq_true rfl, Nat.le_of_ble_eq_true rfl⟩) Z.2.2.2.1 (fun u t H1 locs1 ht hvm hB hS => g_post Z ht hvm hB hS) (fun E ce q9 u t H locs ht hvm _ hB hS h1 h2 h3 => ?_) (fun u H locs hw Z => ?_)
  · obtain ⟨hk, rfl, hB⟩ := hB
    replace h := (if_neg hk).symm.trans h
    exact vx_out (fun x hx => (hxt x hx).elim) C0.2.2 h1 h2 h3 (fun t1 ht1 hvm1 => hxc x2  _ _ t1 hk h (⟨rs1, rr1, at1, fa1, ra1, g_post Z ht hvm hB hS, hF1⟩) hvm1 (by rw [ht1]; exact Nat.le_refl _) (fun q _ => by rw [ht1])) hS.2.2 (Nat.le_of_ble_eq_true rfl) (Nat.le_of_ble_eq_true rfl)
  replace h := (if_pos hw).symm.trans h
  refine lv_aload_n C0.1.1 C0.1.2.1 dX3_signs_4 rfl (lv_at hl 0 rfl) ?_
  refine g_get (ci := 5) (v := .ref (d 3)) (T := TX3) (N := 9) C0.1 Z 0 rfl rfl 3 (by decide) kX3_signs_in3 kX3_signs_f34 rfl rfl dX3_signs_5 ?_
  refine lv_iload_n C0.1.1 C0.1.2.1 dX3_signs_8 rfl (lv_at hl 1 rfl) ?_
  obtain ⟨hi4, h⟩ := g_ni h
  refine d_aldF C0.1 Z hF1 hi4 dX3_signs_9 (fun hb_5 => ?_)
  refine d_fsigns (host := RX3) C0.1 Z hb_5 kX3_signs_in1 (hN.1 _ (List.mem_of_getElem? (i := 13) rfl)) dX3_signs_10 (fun sa6 hs7 => ?_)
  refine d_alen C0.1 Z hs7 dX3_signs_13 ?_
  exact hret (nI (fn p0.toNatClampNeg)) _ _ _ _ h ⟨rs1, rr1, at1, fa1, ra1, Z, hF1⟩ dX3_signs_14
/-! X3_open -/
abbrev rmX3_open : Room := { frames := 6, cells := 1, slots := 6, locals := 92 }
theorem kX3_open_in3 : ∀ w ∈ wsX30, w ∈ wsX3_open := by decide +kernel
theorem kX3_open_f110 : Cond.fieldLink RX3 110 "GoalseekOffice" "openLayers" "I" ∈ wsX3_open := by decide +kernel
theorem kX3_open_f38 : Cond.fieldLink RX3 38 "GoalseekOffice" "remembered" "[LGoalseekOffice$Formula;" ∈ wsX3_open := by decide +kernel
theorem kX3_open_f34 : Cond.fieldLink RX3 34 "GoalseekOffice" "formulas" "[LGoalseekOffice$Formula;" ∈ wsX3_open := by decide +kernel
theorem kX3_open_x93a : Cond.classLink RX3 93 "java/lang/IllegalStateException" ∈ wsX3_open := by decide +kernel
theorem kX3_open_x93b : Cond.initialized "java/lang/IllegalStateException" ∈ wsX3_open := by decide +kernel
theorem kX3_open_x93c : ∀ w ∈ (vx_atS RX3 97 "java/lang/IllegalStateException" ["java/lang/RuntimeException", "java/lang/Exception"]).filter goodWord, w ∈ wsX3_open := by decide +kernel
def mX3_open_28_b (N : Nat) (fw : Nat → Int32) (fn : Nat → Nat) (ff : Nat → Nat → Int32) (r28 : Int32 → (Nat → Int32) → (Nat → Nat) → (Nat → Nat → Int32) → Int32 → Int32 → Option (Nat × Int32 × Int32 × (Nat → Int32) × (Nat → Nat) × (Nat → Nat → Int32))) (ol : Int32) (qw : Nat → Int32) (qn : Nat → Nat) (qf : Nat → Nat → Int32) (v1 : Int32) (v2 : Int32) : Option (Nat × Int32 × Int32 × (Nat → Int32) × (Nat → Nat) × (Nat → Nat → Int32)) := (if (30 : Int32) ≤ v2 then some (0, (ol + (1 : Int32)), (ol + (1 : Int32)), qw, qn, qf) else (if v2 < 0 ∨ 30 ≤ v2.toNatClampNeg then none else (if (v1 + v2) < 0 ∨ 120 ≤ (v1 + v2).toNatClampNeg then none else r28 ol (va_up qw (v1 + v2).toNatClampNeg (fw v2.toNatClampNeg)) (va_up qn (v1 + v2).toNatClampNeg (fn v2.toNatClampNeg)) (va_up qf (v1 + v2).toNatClampNeg (ff v2.toNatClampNeg)) v1 (v2 + (1 : Int32)))))
def mX3_open_28 (N : Nat) (fw : Nat → Int32) (fn : Nat → Nat) (ff : Nat → Nat → Int32) : Nat → Int32 → (Nat → Int32) → (Nat → Nat) → (Nat → Nat → Int32) → Int32 → Int32 → Option (Nat × Int32 × Int32 × (Nat → Int32) × (Nat → Nat) × (Nat → Nat → Int32))
  | 0 => fun _ _ _ _ _ _ => none
  | n_ + 1 => fun ol qw qn qf v1 v2 => mX3_open_28_b N fw fn ff (mX3_open_28 N fw fn ff n_) ol qw qn qf v1 v2
def mX3_open (N : Nat) (fw : Nat → Int32) (fn : Nat → Nat) (ff : Nat → Nat → Int32) (ol : Int32) (qw : Nat → Int32) (qn : Nat → Nat) (qf : Nat → Nat → Int32) : Option (Nat × Int32 × Int32 × (Nat → Int32) × (Nat → Nat) × (Nat → Nat → Int32)) := (if ol < (4 : Int32) then mX3_open_28 N fw fn ff N ol qw qn qf (ol * (30 : Int32)) (0 : Int32) else some (3, 0, ol, qw, qn, qf))
set_option maxRecDepth 20000 in
set_option maxHeartbeats 4000000 in
theorem wX3_open_28_b {p : Program} {l : Launch} {e : Env} {s : State} {m : MethodId} {args : Array Value} {below : List Frame} {meth : Method} {c : Code} {D : va_G} {cyI cyJ cyO : ClassId} {A : Nat → Prop} {bs : Nat} {P : List Nat} {g : Nat → va_E} {d : Nat → Nat} {eA : Nat} {Qc : Array Value → State → Outcome → State → Prop} {XC : String → State → State → Prop} {fd : Int32} {dc : Int32} {ds : Nat → Int32} {fw : Nat → Int32} {fn : Nat → Nat} {ff : Nat → Nat → Int32} {va : Nat → Int64} {tr : Nat → Int64} {N : Nat} {res : Nat × Int32 × Int32 × (Nat → Int32) × (Nat → Nat) × (Nat → Nat → Int32)} (C0 : gC p m meth c cX3_open 3 (some .int) s args wsX3_open RX3) (hN : dN s) (hT : dT A s) (hxt : ∀ x ∈ c.exceptionTable.toList, False) (hlf : l.stackTraces = false) (hret : ∀ (r : Int32) (ol_r : Int32) (qw_r : Nat → Int32) (qn_r : Nat → Nat) (qf_r : Nat → Nat → Int32) (H : Heap) (locs : List Loc) (pc : Nat) (ls : Array Slot), some (0, r, ol_r, qw_r, qn_r, qf_r) = some res → dZ D cyI cyJ cyO A bs P g d eA (d 5) (d 6) ol_r fd dc ds fw fn ff qw_r qn_r qf_r va tr s H locs → decode cX3_open pc = .ok (.ireturn, 1) → W p l e rmX3_open s m args below meth c H locs 1 6 (vx_MQ below Qc XC args s 1 6 A) (F0 m pc ls [.int r])) (hxc : ∀ (k : Nat) (ol_r : Int32) (qw_r : Nat → Int32) (qn_r : Nat → Nat) (qf_r : Nat → Nat → Int32) (H : Heap) (locs : List Loc) (t : State), k ≠ 0 → some (k, 0, ol_r, qw_r, qn_r, qf_r) = some res → dZ D cyI cyJ cyO A bs P g d eA (d 5) (d 6) ol_r fd dc ds fw fn ff qw_r qn_r qf_r va tr s H locs → s.vm.Alike t.vm → H.size ≤ t.heap.size → (∀ q : Nat, q < H.size → t.heap[q]? = H[q]?) → XC (exN k) s t) {r28 : Int32 → (Nat → Int32) → (Nat → Nat) → (Nat → Nat → Int32) → Int32 → Int32 → Option (Nat × Int32 × Int32 × (Nat → Int32) × (Nat → Nat) × (Nat → Nat → Int32))} (hr28 : ∀ (ol : Int32) (qw : Nat → Int32) (qn : Nat → Nat) (qf : Nat → Nat → Int32) (v1 : Int32) (v2 : Int32) (H : Heap) (locs : List Loc) (ls : Array Slot), r28 ol qw qn qf v1 v2 = some res → dZ D cyI cyJ cyO A bs P g d eA (d 5) (d 6) ol fd dc ds fw fn ff qw qn qf va tr s H locs → lv_has ls 3 [(0, .ref (d 0)), (1, .int v1), (2, .int v2)] → W p l e rmX3_open s m args below meth c H locs 0 0 (vx_MQ below Qc XC args s 1 6 A) (F0 m 28 ls [])) : ∀ (ol : Int32) (qw : Nat → Int32) (qn : Nat → Nat) (qf : Nat → Nat → Int32) (v1 : Int32) (v2 : Int32) (H : Heap) (locs : List Loc) (ls : Array Slot), mX3_open_28_b N fw fn ff r28 ol qw qn qf v1 v2 = some res → dZ D cyI cyJ cyO A bs P g d eA (d 5) (d 6) ol fd dc ds fw fn ff qw qn qf va tr s H locs → lv_has ls 3 [(0, .ref (d 0)), (1, .int v1), (2, .int v2)] → W p l e rmX3_open s m args below meth c H locs 0 0 (vx_MQ below Qc XC args s 1 6 A) (F0 m 28 ls []) := by
  intro ol qw qn qf v1 v2 H locs ls h Z hl
  unfold mX3_open_28_b at h
  obtain ⟨rs1, rr1, at1, fa1, ra1, Z, hF1⟩ := Z
  refine lv_iload_n C0.1.1 C0.1.2.1 dX3_open_28 rfl (lv_at hl 2 rfl) ?_
  refine lv_bipush (v := 30) C0.1.1 C0.1.2.1 dX3_open_29 (by decide +kernel) ?_
  refine lv_icmp_ge (tgt := 54) C0.1.1 C0.1.2.1 dX3_open_31 (by decide) (fun hc => ?_) (fun hc => ?_)
  · replace h := (if_pos hc).symm.trans h
    refine lv_aload_n C0.1.1 C0.1.2.1 dX3_open_54 rfl (lv_at hl 0 rfl) ?_
    refine lv_dup C0.1.1 C0.1.2.1 dX3_open_55 rfl ?_
    refine g_get (ci := 5) (v := .int ol) (T := TX3) (N := 9) C0.1 Z 0 rfl rfl 7 (by decide) kX3_open_in3 kX3_open_f110 rfl rfl dX3_open_56 ?_
    refine lv_iconst (v := 1) C0.1.1 C0.1.2.1 dX3_open_59 (by decide) ?_
    refine lv_iadd C0.1.1 C0.1.2.1 dX3_open_60 ?_
    refine g_put (ci := 5) (v := .int (ol + (1 : Int32))) (T := TX3) (N := 9) (ws' := (XD d cyI cyJ cyO eA (d 5) (d 6) rs1 rr1 at1 fa1 ra1 (ol + (1 : Int32)) fd dc ds va tr ++ va_pl P g)) C0.1 Z 0 rfl rfl 7 (by decide) kX3_open_in3 kX3_open_f110 rfl tyX3 tyX3_ok nmX3 rfl rfl rfl (Nat.le_of_ble_eq_true rfl) dX3_open_61 rfl (fun H locs Z => ?_)
    refine lv_aload_n C0.1.1 C0.1.2.1 dX3_open_64 rfl (lv_at hl 0 rfl) ?_
    refine g_get (ci := 5) (v := .int (ol + (1 : Int32))) (T := TX3) (N := 9) C0.1 Z 0 rfl rfl 7 (by decide) kX3_open_in3 kX3_open_f110 rfl rfl dX3_open_65 ?_
    refine W.widen (k := 1) (n := 6) (Nat.le_of_ble_eq_true rfl) (Nat.le_of_ble_eq_true rfl) ?_
    exact hret (ol + (1 : Int32)) (ol + (1 : Int32)) qw qn qf _ _ _ _ h ⟨rs1, rr1, at1, fa1, ra1, Z, hF1⟩ dX3_open_68
  · replace h := (if_neg hc).symm.trans h
    refine lv_aload_n C0.1.1 C0.1.2.1 dX3_open_34 rfl (lv_at hl 0 rfl) ?_
    refine g_get (ci := 5) (v := .ref (d 4)) (T := TX3) (N := 9) C0.1 Z 0 rfl rfl 4 (by decide) kX3_open_in3 kX3_open_f38 rfl rfl dX3_open_35 ?_
    refine lv_iload_n C0.1.1 C0.1.2.1 dX3_open_38 rfl (lv_at hl 1 rfl) ?_
    refine lv_iload_n C0.1.1 C0.1.2.1 dX3_open_39 rfl (lv_at hl 2 rfl) ?_
    refine lv_iadd C0.1.1 C0.1.2.1 dX3_open_40 ?_
    refine lv_aload_n C0.1.1 C0.1.2.1 dX3_open_41 rfl (lv_at hl 0 rfl) ?_
    refine g_get (ci := 5) (v := .ref (d 3)) (T := TX3) (N := 9) C0.1 Z 0 rfl rfl 3 (by decide) kX3_open_in3 kX3_open_f34 rfl rfl dX3_open_42 ?_
    refine lv_iload_n C0.1.1 C0.1.2.1 dX3_open_45 rfl (lv_at hl 2 rfl) ?_
    obtain ⟨hi2, h⟩ := g_ni h
    refine d_aldF C0.1 Z hF1 hi2 dX3_open_46 (fun hb_3 => ?_)
    obtain ⟨hi4, h⟩ := g_ni h
    refine d_astR C0.1 Z hF1 hb_3 hi4 dX3_open_47 (fun H locs Z hF_5 => ?_)
    refine lv_iinc (v := v2 + (1 : Int32)) (lv' := [(2, .int (v2 + (1 : Int32))), (0, .ref (d 0)), (1, .int v1)]) C0.1.1 C0.1.2.1 dX3_open_48 hl (k := 2) rfl rfl (by decide) rfl (fun ls hl => ?_)
    refine lv_goto (tgt := 28) C0.1.1 C0.1.2.1 dX3_open_51 (by decide) ?_
    exact hr28 ol (va_up qw (v1 + v2).toNatClampNeg (fw v2.toNatClampNeg)) (va_up qn (v1 + v2).toNatClampNeg (fn v2.toNatClampNeg)) (va_up qf (v1 + v2).toNatClampNeg (ff v2.toNatClampNeg)) v1 (v2 + (1 : Int32)) _ _ _ h ⟨rs1, rr1, at1, fa1, (va_up ra1 (v1 + v2).toNatClampNeg (fa1 v2.toNatClampNeg)), Z, hF_5⟩ (lv_sub hl [1, 2, 0] rfl)
theorem wX3_open_28 {p : Program} {l : Launch} {e : Env} {s : State} {m : MethodId} {args : Array Value} {below : List Frame} {meth : Method} {c : Code} {D : va_G} {cyI cyJ cyO : ClassId} {A : Nat → Prop} {bs : Nat} {P : List Nat} {g : Nat → va_E} {d : Nat → Nat} {eA : Nat} {Qc : Array Value → State → Outcome → State → Prop} {XC : String → State → State → Prop} {fd : Int32} {dc : Int32} {ds : Nat → Int32} {fw : Nat → Int32} {fn : Nat → Nat} {ff : Nat → Nat → Int32} {va : Nat → Int64} {tr : Nat → Int64} {N : Nat} {res : Nat × Int32 × Int32 × (Nat → Int32) × (Nat → Nat) × (Nat → Nat → Int32)} (C0 : gC p m meth c cX3_open 3 (some .int) s args wsX3_open RX3) (hN : dN s) (hT : dT A s) (hxt : ∀ x ∈ c.exceptionTable.toList, False) (hlf : l.stackTraces = false) (hret : ∀ (r : Int32) (ol_r : Int32) (qw_r : Nat → Int32) (qn_r : Nat → Nat) (qf_r : Nat → Nat → Int32) (H : Heap) (locs : List Loc) (pc : Nat) (ls : Array Slot), some (0, r, ol_r, qw_r, qn_r, qf_r) = some res → dZ D cyI cyJ cyO A bs P g d eA (d 5) (d 6) ol_r fd dc ds fw fn ff qw_r qn_r qf_r va tr s H locs → decode cX3_open pc = .ok (.ireturn, 1) → W p l e rmX3_open s m args below meth c H locs 1 6 (vx_MQ below Qc XC args s 1 6 A) (F0 m pc ls [.int r])) (hxc : ∀ (k : Nat) (ol_r : Int32) (qw_r : Nat → Int32) (qn_r : Nat → Nat) (qf_r : Nat → Nat → Int32) (H : Heap) (locs : List Loc) (t : State), k ≠ 0 → some (k, 0, ol_r, qw_r, qn_r, qf_r) = some res → dZ D cyI cyJ cyO A bs P g d eA (d 5) (d 6) ol_r fd dc ds fw fn ff qw_r qn_r qf_r va tr s H locs → s.vm.Alike t.vm → H.size ≤ t.heap.size → (∀ q : Nat, q < H.size → t.heap[q]? = H[q]?) → XC (exN k) s t)  : ∀ (n_ : Nat), ∀ (ol : Int32) (qw : Nat → Int32) (qn : Nat → Nat) (qf : Nat → Nat → Int32) (v1 : Int32) (v2 : Int32) (H : Heap) (locs : List Loc) (ls : Array Slot), mX3_open_28 N fw fn ff n_ ol qw qn qf v1 v2 = some res → dZ D cyI cyJ cyO A bs P g d eA (d 5) (d 6) ol fd dc ds fw fn ff qw qn qf va tr s H locs → lv_has ls 3 [(0, .ref (d 0)), (1, .int v1), (2, .int v2)] → W p l e rmX3_open s m args below meth c H locs 0 0 (vx_MQ below Qc XC args s 1 6 A) (F0 m 28 ls []) := by
  intro n_
  induction n_ with
  | zero => intro _ _ _ _ _ _ _ _ _ h; cases h
  | succ n_ ih => exact wX3_open_28_b (N := N) C0 hN hT hxt hlf hret hxc ih
set_option maxRecDepth 20000 in
set_option maxHeartbeats 4000000 in
theorem zX3_open (l : Launch) (hlf : l.stackTraces = false) (D : va_G) (cyI cyJ cyO : ClassId) (A : Nat → Prop) (bs : Nat) (hA : ∀ q, bs ≤ q → A q) (P : List Nat) (g : Nat → va_E) (d : Nat → Nat) (eA : Nat) (ol : Int32) (fd : Int32) (dc : Int32) (ds : Nat → Int32) (fw : Nat → Int32) (fn : Nat → Nat) (ff : Nat → Nat → Int32) (qw : Nat → Int32) (qn : Nat → Nat) (qf : Nat → Nat → Int32) (va : Nat → Int64) (tr : Nat → Int64) (N : Nat)  (res : Nat × Int32 × Int32 × (Nat → Int32) × (Nat → Nat) × (Nat → Nat → Int32)) (h : mX3_open N fw fn ff ol qw qn qf = some res) : vx_Met l yX3_open wsX3_open rmX3_open (va_Pc [.ref (d 0)] (dP (dW D cyI cyJ cyO A bs P g d eA (d 5) (d 6) ol fd dc ds fw fn ff qw qn qf va tr) A)) (va_Qi (fun (r : Int32) (u : Int32 × (Nat → Int32) × (Nat → Nat) × (Nat → Nat → Int32)) => res.1 = 0 ∧ res.2.1 = r ∧ res.2.2 = u) (fun (u : Int32 × (Nat → Int32) × (Nat → Nat) × (Nat → Nat → Int32)) U => dW D cyI cyJ cyO A bs P g d eA (d 5) (d 6) u.1 fd dc ds fw fn ff u.2.1 u.2.2.1 u.2.2.2 va tr U) A) (vx_X (S := Int32 × (Nat → Int32) × (Nat → Nat) × (Nat → Nat → Int32)) (fun _ => True) (fun E u t => res.1 ≠ 0 ∧ E = exN res.1 ∧ res.2.2 = u ∧ dW D cyI cyJ cyO A bs P g d eA (d 5) (d 6) u.1 fd dc ds fw fn ff u.2.1 u.2.2.1 u.2.2.2 va tr t) A) 1 6 A := by
  refine vx_ofW (cc := cX3_open) (maxL := 3) (ret := (some .int)) (by decide) rfl ?_
  intro p e s m args below meth c s₁ B hml hxt hv
  obtain ⟨hav, hv⟩ := hv
  obtain ⟨hv, hN, hT⟩ := hv
  have C0 : gC p m meth c cX3_open 3 (some .int) s args wsX3_open RX3 := ⟨⟨B.exec, B.bytes, hml, findClass_of_methodNamed B.named, atoms_spec (ws := wsX3_open) B.pre⟩, B.returns, B.notSynchronized⟩
  have Z := dZ_start hA hv
  have hret : ∀ (r : Int32) (ol_r : Int32) (qw_r : Nat → Int32) (qn_r : Nat → Nat) (qf_r : Nat → Nat → Int32) (H : Heap) (locs : List Loc) (pc : Nat) (ls : Array Slot), some (0, r, ol_r, qw_r, qn_r, qf_r) = some res → dZ D cyI cyJ cyO A bs P g d eA (d 5) (d 6) ol_r fd dc ds fw fn ff qw_r qn_r qf_r va tr s H locs → decode cX3_open pc = .ok (.ireturn, 1) → W p l e rmX3_open s m args below meth c H locs 1 6 (vx_MQ below (va_Qi (fun (r : Int32) (u : Int32 × (Nat → Int32) × (Nat → Nat) × (Nat → Nat → Int32)) => res.1 = 0 ∧ res.2.1 = r ∧ res.2.2 = u) (fun (u : Int32 × (Nat → Int32) × (Nat → Nat) × (Nat → Nat → Int32)) U => dW D cyI cyJ cyO A bs P g d eA (d 5) (d 6) u.1 fd dc ds fw fn ff u.2.1 u.2.2.1 u.2.2.2 va tr U) A) (vx_X (S := Int32 × (Nat → Int32) × (Nat → Nat) × (Nat → Nat → Int32)) (fun _ => True) (fun E u t => res.1 ≠ 0 ∧ E = exN res.1 ∧ res.2.2 = u ∧ dW D cyI cyJ cyO A bs P g d eA (d 5) (d 6) u.1 fd dc ds fw fn ff u.2.1 u.2.2.1 u.2.2.2 va tr t) A) args s 1 6 A) (F0 m pc ls [.int r]) := by
    intro r ol_r qw_r qn_r qf_r H locs pc ls h Z hd
    replace h := Option.some.inj h
    subst h
    exact vx_ret (W.iret C0.1.1 C0.1.2.1 C0.2.1 (fun t ht hW => ⟨⟨r, (ol_r, qw_r, qn_r, qf_r), rfl, ⟨rfl, rfl, rfl⟩, dZ_end Z ht hW⟩, va_S.F (dZ_S Z) ht⟩) (dZ_S Z).2.2 hd C0.2.2)
  have hxc : ∀ (k : Nat) (ol_r : Int32) (qw_r : Nat → Int32) (qn_r : Nat → Nat) (qf_r : Nat → Nat → Int32) (H : Heap) (locs : List Loc) (t : State), k ≠ 0 → some (k, 0, ol_r, qw_r, qn_r, qf_r) = some res → dZ D cyI cyJ cyO A bs P g d eA (d 5) (d 6) ol_r fd dc ds fw fn ff qw_r qn_r qf_r va tr s H locs → s.vm.Alike t.vm → H.size ≤ t.heap.size → (∀ q : Nat, q < H.size → t.heap[q]? = H[q]?) → (vx_X (S := Int32 × (Nat → Int32) × (Nat → Nat) × (Nat → Nat → Int32)) (fun _ => True) (fun E u t => res.1 ≠ 0 ∧ E = exN res.1 ∧ res.2.2 = u ∧ dW D cyI cyJ cyO A bs P g d eA (d 5) (d 6) u.1 fd dc ds fw fn ff u.2.1 u.2.2.1 u.2.2.2 va tr t) A) (exN k) s t := by
    intro k ol_r qw_r qn_r qf_r H locs t hk h Z hvm hz hq
    replace h := Option.some.inj h
    subst h
    exact ⟨(ol_r, qw_r, qn_r, qf_r), trivial, ⟨hk, rfl, rfl, dW_grow Z hvm hz hq⟩, vaF_grow (dZ_S Z) hz hq⟩
  have hl := lv_entry ([.ref (d 0)]) (n := 3) (Nat.le_of_ble_eq_true rfl)
  rw [hav, lg_entry_eq]
  generalize (lg_sl ([.ref (d 0)]) ++ List.replicate (3 - (lg_sl ([.ref (d 0)])).length) Slot.unset).toArray = ls at hl ⊢
  have hl : lv_has ls 3 [(0, .ref (d 0))] := hl
  rw [← hav]
  unfold mX3_open at h
  obtain ⟨rs6, rr6, at6, fa6, ra6, Z, hF6⟩ := Z
  refine lv_aload_n C0.1.1 C0.1.2.1 dX3_open_0 rfl (lv_at hl 0 rfl) ?_
  refine g_get (ci := 5) (v := .int ol) (T := TX3) (N := 9) C0.1 Z 0 rfl rfl 7 (by decide) kX3_open_in3 kX3_open_f110 rfl rfl dX3_open_1 ?_
  refine lv_iconst (v := 4) C0.1.1 C0.1.2.1 dX3_open_4 (by decide) ?_
  refine lv_icmp_lt (tgt := 18) C0.1.1 C0.1.2.1 dX3_open_5 (by decide) (fun hc => ?_) (fun hc => ?_)
  · replace h := (if_pos hc).symm.trans h
    refine lv_aload_n C0.1.1 C0.1.2.1 dX3_open_18 rfl (lv_at hl 0 rfl) ?_
    refine g_get (ci := 5) (v := .int ol) (T := TX3) (N := 9) C0.1 Z 0 rfl rfl 7 (by decide) kX3_open_in3 kX3_open_f110 rfl rfl dX3_open_19 ?_
    refine lv_bipush (v := 30) C0.1.1 C0.1.2.1 dX3_open_22 (by decide +kernel) ?_
    refine lv_imul C0.1.1 C0.1.2.1 dX3_open_24 ?_
    refine lv_istore_n (lv' := [(1, .int (ol * (30 : Int32))), (0, .ref (d 0))]) C0.1.1 C0.1.2.1 dX3_open_25 rfl hl (by decide) rfl (fun ls hl => ?_)
    refine lv_iconst (v := 0) C0.1.1 C0.1.2.1 dX3_open_26 (by decide) ?_
    refine lv_istore_n (lv' := [(2, .int (0 : Int32)), (1, .int (ol * (30 : Int32))), (0, .ref (d 0))]) C0.1.1 C0.1.2.1 dX3_open_27 rfl hl (by decide) rfl (fun ls hl => ?_)
    exact wX3_open_28 (N := N) C0 hN hT hxt hlf hret hxc N ol qw qn qf (ol * (30 : Int32)) (0 : Int32) _ _ _ h ⟨rs6, rr6, at6, fa6, ra6, Z, hF6⟩ (lv_sub hl [2, 1, 0] rfl)
  · replace h := (if_neg hc).symm.trans h
    exact x_throw (text := "no more layers can be opened") xOk_3 C0 hxt hlf hN hT Z.2.2.2.1 (List.mem_of_getElem? (i := 0) rfl) kX3_open_x93a kX3_open_x93b kX3_open_x93c hl.1 dX3_open_8 dX3_open_11 dX3_open_12 dX3_open_14 dX3_open_17 ⟨Nat.le_of_ble_eq_true rfl, Nat.le_of_ble_eq_true rfl, Nat.le_of_ble_eq_true rfl, Nat.le_of_ble_eq_true rfl⟩ (Nat.le_of_ble_eq_true rfl) (Nat.le_of_ble_eq_true rfl) (fun t hvm hz hq => hxc 3 ol qw qn qf _ _ t (by decide) h ⟨rs6, rr6, at6, fa6, ra6, Z, hF6⟩ hvm hz hq)
/-! X3_keep -/
abbrev rmX3_keep : Room := { frames := 7, cells := 1, slots := 6, locals := 112 }
theorem kX3_keep_in3 : ∀ w ∈ wsX30, w ∈ wsX3_keep := by decide +kernel
theorem kX3_keep_f110 : Cond.fieldLink RX3 110 "GoalseekOffice" "openLayers" "I" ∈ wsX3_keep := by decide +kernel
def mX3_keep (N : Nat) (ol : Int32) : Option (Nat × Int32 × Int32) := ((mX3_requireLayer N ol).bind fun x2 => (if x2 = 0 then some (0, (ol - (1 : Int32)), (ol - (1 : Int32))) else some (x2, 0, ol)))
set_option maxRecDepth 20000 in
set_option maxHeartbeats 4000000 in
theorem zX3_keep (l : Launch) (hlf : l.stackTraces = false) (D : va_G) (cyI cyJ cyO : ClassId) (A : Nat → Prop) (bs : Nat) (hA : ∀ q, bs ≤ q → A q) (P : List Nat) (g : Nat → va_E) (d : Nat → Nat) (eA : Nat) (ol : Int32) (fd : Int32) (dc : Int32) (ds : Nat → Int32) (fw : Nat → Int32) (fn : Nat → Nat) (ff : Nat → Nat → Int32) (qw : Nat → Int32) (qn : Nat → Nat) (qf : Nat → Nat → Int32) (va : Nat → Int64) (tr : Nat → Int64) (N : Nat)  (res : Nat × Int32 × Int32) (h : mX3_keep N ol = some res) : vx_Met l yX3_keep wsX3_keep rmX3_keep (va_Pc [.ref (d 0)] (dP (dW D cyI cyJ cyO A bs P g d eA (d 5) (d 6) ol fd dc ds fw fn ff qw qn qf va tr) A)) (va_Qi (fun (r : Int32) (u : Int32) => res.1 = 0 ∧ res.2.1 = r ∧ res.2.2 = u) (fun (u : Int32) U => dW D cyI cyJ cyO A bs P g d eA (d 5) (d 6) u fd dc ds fw fn ff qw qn qf va tr U) A) (vx_X (S := Int32) (fun _ => True) (fun E u t => res.1 ≠ 0 ∧ E = exN res.1 ∧ res.2.2 = u ∧ dW D cyI cyJ cyO A bs P g d eA (d 5) (d 6) u fd dc ds fw fn ff qw qn qf va tr t) A) 1 6 A := by
  refine vx_ofW (cc := cX3_keep) (maxL := 1) (ret := (some .int)) (by decide) rfl ?_
  intro p e s m args below meth c s₁ B hml hxt hv
  obtain ⟨hav, hv⟩ := hv
  obtain ⟨hv, hN, hT⟩ := hv
  have C0 : gC p m meth c cX3_keep 1 (some .int) s args wsX3_keep RX3 := ⟨⟨B.exec, B.bytes, hml, findClass_of_methodNamed B.named, atoms_spec (ws := wsX3_keep) B.pre⟩, B.returns, B.notSynchronized⟩
  have Z := dZ_start hA hv
  have hret : ∀ (r : Int32) (ol_r : Int32) (H : Heap) (locs : List Loc) (pc : Nat) (ls : Array Slot), some (0, r, ol_r) = some res → dZ D cyI cyJ cyO A bs P g d eA (d 5) (d 6) ol_r fd dc ds fw fn ff qw qn qf va tr s H locs → decode cX3_keep pc = .ok (.ireturn, 1) → W p l e rmX3_keep s m args below meth c H locs 1 6 (vx_MQ below (va_Qi (fun (r : Int32) (u : Int32) => res.1 = 0 ∧ res.2.1 = r ∧ res.2.2 = u) (fun (u : Int32) U => dW D cyI cyJ cyO A bs P g d eA (d 5) (d 6) u fd dc ds fw fn ff qw qn qf va tr U) A) (vx_X (S := Int32) (fun _ => True) (fun E u t => res.1 ≠ 0 ∧ E = exN res.1 ∧ res.2.2 = u ∧ dW D cyI cyJ cyO A bs P g d eA (d 5) (d 6) u fd dc ds fw fn ff qw qn qf va tr t) A) args s 1 6 A) (F0 m pc ls [.int r]) := by
    intro r ol_r H locs pc ls h Z hd
    replace h := Option.some.inj h
    subst h
    exact vx_ret (W.iret C0.1.1 C0.1.2.1 C0.2.1 (fun t ht hW => ⟨⟨r, ol_r, rfl, ⟨rfl, rfl, rfl⟩, dZ_end Z ht hW⟩, va_S.F (dZ_S Z) ht⟩) (dZ_S Z).2.2 hd C0.2.2)
  have hxc : ∀ (k : Nat) (ol_r : Int32) (H : Heap) (locs : List Loc) (t : State), k ≠ 0 → some (k, 0, ol_r) = some res → dZ D cyI cyJ cyO A bs P g d eA (d 5) (d 6) ol_r fd dc ds fw fn ff qw qn qf va tr s H locs → s.vm.Alike t.vm → H.size ≤ t.heap.size → (∀ q : Nat, q < H.size → t.heap[q]? = H[q]?) → (vx_X (S := Int32) (fun _ => True) (fun E u t => res.1 ≠ 0 ∧ E = exN res.1 ∧ res.2.2 = u ∧ dW D cyI cyJ cyO A bs P g d eA (d 5) (d 6) u fd dc ds fw fn ff qw qn qf va tr t) A) (exN k) s t := by
    intro k ol_r H locs t hk h Z hvm hz hq
    replace h := Option.some.inj h
    subst h
    exact ⟨ol_r, trivial, ⟨hk, rfl, rfl, dW_grow Z hvm hz hq⟩, vaF_grow (dZ_S Z) hz hq⟩
  have hl := lv_entry ([.ref (d 0)]) (n := 1) (Nat.le_of_ble_eq_true rfl)
  rw [hav, lg_entry_eq]
  generalize (lg_sl ([.ref (d 0)]) ++ List.replicate (1 - (lg_sl ([.ref (d 0)])).length) Slot.unset).toArray = ls at hl ⊢
  have hl : lv_has ls 1 [(0, .ref (d 0))] := hl
  rw [← hav]
  unfold mX3_keep at h
  obtain ⟨rs1, rr1, at1, fa1, ra1, Z, hF1⟩ := Z
  refine lv_aload_n C0.1.1 C0.1.2.1 dX3_keep_0 rfl (lv_at hl 0 rfl) ?_
  obtain ⟨x2, hx3, h⟩ := g_bd h
  refine x_xcallv (vx_runV (b := d 0) (C := RX3) (As := []) (rest := []) C0.1 (zX3_requireLayer l hlf D cyI cyJ cyO A bs Z.2.2.2.2.2 P g d eA ol fd dc ds fw fn ff qw qn qf va tr N x2 hx3) (cwV 0 C0.1.2.2.2.2 gX3_keep_X3_requireLayer rfl rfl rfl (by decide +kernel) ⟨Nat.le_of_ble_eq_true rfl, Nat.le_of_ble_eq_true rfl⟩) ⟨dP_blind, va_recv Z.2.1 Z.1 (ci := 5) (q0 := 0) rfl rfl, dP_pre ⟨rs1, rr1, at1, fa1, ra1, Z, hF1⟩ hN hT _⟩ rfl rfl hl.1 rfl (lv_room (Nat.le_of_ble_eq_true rfl)) dX3_keep_1 ⟨Nat.le_of_ble_eq_true rfl, Nat.le_of_ble_eq_true rfl⟩) Z.2.2.2.1 (fun u t H1 locs1 ht hvm hB hS => dW_post Z ht hvm hB hS) (fun E ce q9 u t H locs ht hvm _ hB hS h1 h2 h3 => ?_) (fun u H locs hw Z => ?_)
  · obtain ⟨hk, rfl, hB⟩ := hB
    replace h := (if_neg hk).symm.trans h
    exact vx_out (fun x hx => (hxt x hx).elim) C0.2.2 h1 h2 h3 (fun t1 ht1 hvm1 => hxc x2 ol _ _ t1 hk h (dW_post Z ht hvm hB hS) hvm1 (by rw [ht1]; exact Nat.le_refl _) (fun q _ => by rw [ht1])) hS.2.2 (Nat.le_of_ble_eq_true rfl) (Nat.le_of_ble_eq_true rfl)
  replace h := (if_pos hw).symm.trans h
  obtain ⟨rs4, rr4, at4, fa4, ra4, Z, hF4⟩ := Z
  refine lv_aload_n C0.1.1 C0.1.2.1 dX3_keep_4 rfl (lv_at hl 0 rfl) ?_
  refine lv_dup C0.1.1 C0.1.2.1 dX3_keep_5 rfl ?_
  refine g_get (ci := 5) (v := .int ol) (T := TX3) (N := 9) C0.1 Z 0 rfl rfl 7 (by decide) kX3_keep_in3 kX3_keep_f110 rfl rfl dX3_keep_6 ?_
  refine lv_iconst (v := 1) C0.1.1 C0.1.2.1 dX3_keep_9 (by decide) ?_
  refine lv_isub C0.1.1 C0.1.2.1 dX3_keep_10 ?_
  refine g_put (ci := 5) (v := .int (ol - (1 : Int32))) (T := TX3) (N := 9) (ws' := (XD d cyI cyJ cyO eA (d 5) (d 6) rs4 rr4 at4 fa4 ra4 (ol - (1 : Int32)) fd dc ds va tr ++ va_pl P g)) C0.1 Z 0 rfl rfl 7 (by decide) kX3_keep_in3 kX3_keep_f110 rfl tyX3 tyX3_ok nmX3 rfl rfl rfl (Nat.le_of_ble_eq_true rfl) dX3_keep_11 rfl (fun H locs Z => ?_)
  refine lv_aload_n C0.1.1 C0.1.2.1 dX3_keep_14 rfl (lv_at hl 0 rfl) ?_
  refine g_get (ci := 5) (v := .int (ol - (1 : Int32))) (T := TX3) (N := 9) C0.1 Z 0 rfl rfl 7 (by decide) kX3_keep_in3 kX3_keep_f110 rfl rfl dX3_keep_15 ?_
  exact hret (ol - (1 : Int32)) (ol - (1 : Int32)) _ _ _ _ h ⟨rs4, rr4, at4, fa4, ra4, Z, hF4⟩ dX3_keep_18
