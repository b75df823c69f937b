/-! X4_thrown -/
abbrev rmX4_thrown : Room := { frames := 0, cells := 0, slots := 0, locals := 0 }
theorem kX4_thrown_f38 : Cond.fieldLink RX4 38 "GoalseekOfficeModel" "thrown" "I" ∈ wsX4_thrown := by decide +kernel
theorem kX4_thrown_in : ∀ w ∈ wsX40, w ∈ wsX4_thrown := by decide +kernel
def mX4_thrown (N : Nat) (th : Int32) : Option (Int32) := some (th)
set_option maxRecDepth 20000 in
set_option maxHeartbeats 4000000 in
theorem zX4_thrown (l : Launch) (D : va_G) (cyI cyJ cyO : ClassId) (A : Nat → Prop) (bs : Nat) (hA : ∀ q, bs ≤ q → A q) (a : Nat → Nat) (Y : va_W) (th : Int32) (df : Int32) (la : Int32) (fo : Int32) (he : Int32) (wt : Int32) (br : Int32) (dr : Nat → Int32) (fm : Nat → Int32) (sz : Nat → Int32) (om : Nat → Int32) (os : Nat → Int32) (st : Nat → Int32) (wa : Nat → Int32) (va : Nat → Int64) (sk : Nat → Int64) (N : Nat)  (res : Int32) (h : mX4_thrown N th = some res) : Met l yX4_thrown wsX4_thrown rmX4_thrown (va_Pc [.ref (a 0)] (gW D (gT cyI cyJ cyO) (XM a cyI cyJ th df la fo he wt br dr fm sz om os st wa va sk ++ Y) A bs)) (va_Qi (fun (r : Int32) (_ : Unit) => res = r) (fun (u : Unit) U => gW D (gT cyI cyJ cyO) (XM a cyI cyJ th df la fo he wt br dr fm sz om os st wa va sk ++ Y) A bs U) A) 0 0 A := by
  refine Met.ofW (cc := cX4_thrown) (maxL := 1) (ret := (some .int)) (by decide) rfl ?_
  intro p e s m args below meth c s₁ B hml hv
  obtain ⟨hav, hv⟩ := hv
  have C0 : gC p m meth c cX4_thrown 1 (some .int) s args wsX4_thrown RX4 := ⟨⟨B.exec, B.bytes, hml, findClass_of_methodNamed B.named, atoms_spec (ws := wsX4_thrown) B.pre⟩, B.returns, B.notSynchronized⟩
  have Z := g_start hA hv
  have hret : ∀ (r : Int32) (H : Heap) (locs : List Loc) (pc : Nat) (ls : Array Slot), some r = some res → gZ D (gT cyI cyJ cyO) (XM a cyI cyJ th df la fo he wt br dr fm sz om os st wa va sk ++ Y) A bs s H locs → decode cX4_thrown pc = .ok (.ireturn, 1) → W p l e rmX4_thrown s m args below meth c H locs 0 0 (MQ below (va_Qi (fun (r : Int32) (_ : Unit) => res = r) (fun (u : Unit) U => gW D (gT cyI cyJ cyO) (XM a cyI cyJ th df la fo he wt br dr fm sz om os st wa va sk ++ Y) A bs U) A) args s 0 0 A) (F0 m pc ls [.int r]) := by
    intro r H locs pc ls h Z hd
    replace h := Option.some.inj h
    exact W.iret C0.1.1 C0.1.2.1 C0.2.1 (fun t ht hW => ⟨⟨r, (()), rfl, h.symm, g_end Z ht hW⟩, Z.2.2.2.1.F ht⟩) Z.2.2.2.1.2.2 hd C0.2.2
  have hl := lv_entry ([.ref (a 0)]) (n := 1) (Nat.le_of_ble_eq_true rfl)
  rw [hav, lg_entry_eq]
  generalize (lg_sl ([.ref (a 0)]) ++ List.replicate (1 - (lg_sl ([.ref (a 0)])).length) Slot.unset).toArray = ls at hl ⊢
  have hl : lv_has ls 1 [(0, .ref (a 0))] := hl
  rw [← hav]
  unfold mX4_thrown at h
  refine lv_aload_n C0.1.1 C0.1.2.1 dX4_thrown_0 rfl (lv_at hl 0 rfl) ?_
  refine g_get (ci := 6) (v := .int th) (T := TX4) (N := 16) C0.1 Z 0 rfl rfl 0 (by decide) kX4_thrown_in kX4_thrown_f38 rfl rfl dX4_thrown_1 ?_
  exact hret th _ _ _ _ h Z dX4_thrown_4
/-! X4_holds -/
abbrev rmX4_holds : Room := { frames := 0, cells := 0, slots := 0, locals := 0 }
theorem kX4_holds_f38 : Cond.fieldLink RX4 38 "GoalseekOfficeModel" "thrown" "I" ∈ wsX4_holds := by decide +kernel
theorem kX4_holds_in : ∀ w ∈ wsX40, w ∈ wsX4_holds := by decide +kernel
def mX4_holds_14 (N : Nat) (th : Int32) (s0 : Int32) : Option (Int32 × Int32) := (if (s0 = 0 ∨ s0 = 1) then some (s0, th) else none)
def mX4_holds (N : Nat) (th : Int32) (p0 : Int32) : Option (Int32 × Int32) := (if p0 = 0 then mX4_holds_14 N p0 (1 : Int32) else mX4_holds_14 N p0 (0 : Int32))
set_option maxRecDepth 20000 in
set_option maxHeartbeats 4000000 in
theorem wX4_holds_14 {p : Program} {l : Launch} {e : Env} {s : State} {m : MethodId} {args : Array Value} {below : List Frame} {meth : Method} {c : Code} {Q : State → Prop} {D : va_G} {cyI cyJ cyO : ClassId} {A : Nat → Prop} {bs : Nat} {a : Nat → Nat} {Y : va_W} {df : Int32} {la : Int32} {fo : Int32} {he : Int32} {wt : Int32} {br : Int32} {dr : Nat → Int32} {fm : Nat → Int32} {sz : Nat → Int32} {om : Nat → Int32} {os : Nat → Int32} {st : Nat → Int32} {wa : Nat → Int32} {va : Nat → Int64} {sk : Nat → Int64} {N : Nat} {res : Int32 × Int32} (C0 : gC p m meth c cX4_holds 2 (some .boolean) s args wsX4_holds RX4) (hret : ∀ (r : Int32) (th_r : Int32) (H : Heap) (locs : List Loc) (pc : Nat) (ls : Array Slot), (r = 0 ∨ r = 1) → some (r, th_r) = some res → gZ D (gT cyI cyJ cyO) (XM a cyI cyJ th_r df la fo he wt br dr fm sz om os st wa va sk ++ Y) A bs s H locs → decode cX4_holds pc = .ok (.ireturn, 1) → W p l e rmX4_holds s m args below meth c H locs 0 0 Q (F0 m pc ls [.int r]))  : ∀ (th : Int32) (s0 : Int32) (H : Heap) (locs : List Loc) (ls : Array Slot), mX4_holds_14 N th s0 = some res → gZ D (gT cyI cyJ cyO) (XM a cyI cyJ th df la fo he wt br dr fm sz om os st wa va sk ++ Y) A bs s H locs → lv_has ls 2 [] → W p l e rmX4_holds s m args below meth c H locs 0 0 Q (F0 m 14 ls [.int s0]) := by
  intro th s0 H locs ls h Z hl
  unfold mX4_holds_14 at h
  obtain ⟨hn1, h⟩ := g_yi h
  exact hret s0 th _ _ _ _ hn1 h Z dX4_holds_14
set_option maxRecDepth 20000 in
set_option maxHeartbeats 4000000 in
theorem zX4_holds (l : Launch) (D : va_G) (cyI cyJ cyO : ClassId) (A : Nat → Prop) (bs : Nat) (hA : ∀ q, bs ≤ q → A q) (a : Nat → Nat) (Y : va_W) (th : Int32) (df : Int32) (la : Int32) (fo : Int32) (he : Int32) (wt : Int32) (br : Int32) (dr : Nat → Int32) (fm : Nat → Int32) (sz : Nat → Int32) (om : Nat → Int32) (os : Nat → Int32) (st : Nat → Int32) (wa : Nat → Int32) (va : Nat → Int64) (sk : Nat → Int64) (N : Nat) (p0 : Int32) (res : Int32 × Int32) (h : mX4_holds N th p0 = some res) : Met l yX4_holds wsX4_holds rmX4_holds (va_Pc [.ref (a 0), .int p0] (gW D (gT cyI cyJ cyO) (XM a cyI cyJ th df la fo he wt br dr fm sz om os st wa va sk ++ Y) A bs)) (va_Qi (fun (r : Int32) (u : Int32) => res.1 = r ∧ res.2 = u) (fun (u : Int32) U => gW D (gT cyI cyJ cyO) (XM a cyI cyJ u df la fo he wt br dr fm sz om os st wa va sk ++ Y) A bs U) A) 0 0 A := by
  refine Met.ofW (cc := cX4_holds) (maxL := 2) (ret := (some .boolean)) (by decide) rfl ?_
  intro p e s m args below meth c s₁ B hml hv
  obtain ⟨hav, hv⟩ := hv
  have C0 : gC p m meth c cX4_holds 2 (some .boolean) s args wsX4_holds RX4 := ⟨⟨B.exec, B.bytes, hml, findClass_of_methodNamed B.named, atoms_spec (ws := wsX4_holds) B.pre⟩, B.returns, B.notSynchronized⟩
  have Z := g_start hA hv
  have hret : ∀ (r : Int32) (th_r : Int32) (H : Heap) (locs : List Loc) (pc : Nat) (ls : Array Slot), (r = 0 ∨ r = 1) → some (r, th_r) = some res → gZ D (gT cyI cyJ cyO) (XM a cyI cyJ th_r df la fo he wt br dr fm sz om os st wa va sk ++ Y) A bs s H locs → decode cX4_holds pc = .ok (.ireturn, 1) → W p l e rmX4_holds s m args below meth c H locs 0 0 (MQ below (va_Qi (fun (r : Int32) (u : Int32) => res.1 = r ∧ res.2 = u) (fun (u : Int32) U => gW D (gT cyI cyJ cyO) (XM a cyI cyJ u df la fo he wt br dr fm sz om os st wa va sk ++ Y) A bs U) A) args s 0 0 A) (F0 m pc ls [.int r]) := by
    intro r th_r H locs pc ls hb h Z hd
    replace h := Option.some.inj h
    exact W.zret C0.1.1 C0.1.2.1 C0.2.1 (g_nb hb) (fun t ht hW => ⟨⟨r, (th_r), rfl, ⟨congrArg Prod.fst h.symm, congrArg Prod.snd h.symm⟩, g_end Z ht hW⟩, Z.2.2.2.1.F ht⟩) Z.2.2.2.1.2.2 hd C0.2.2
  have hl := lv_entry ([.ref (a 0), .int p0]) (n := 2) (Nat.le_of_ble_eq_true rfl)
  rw [hav, lg_entry_eq]
  generalize (lg_sl ([.ref (a 0), .int p0]) ++ List.replicate (2 - (lg_sl ([.ref (a 0), .int p0])).length) Slot.unset).toArray = ls at hl ⊢
  have hl : lv_has ls 2 [(0, .ref (a 0)), (1, .int p0)] := hl
  rw [← hav]
  unfold mX4_holds at h
  refine lv_aload_n C0.1.1 C0.1.2.1 dX4_holds_0 rfl (lv_at hl 0 rfl) ?_
  refine lv_iload_n C0.1.1 C0.1.2.1 dX4_holds_1 rfl (lv_at hl 1 rfl) ?_
  refine g_put (ci := 6) (v := .int p0) (T := TX4) (N := 16) (ws' := (XM a cyI cyJ p0 df la fo he wt br dr fm sz om os st wa va sk ++ Y)) C0.1 Z 0 rfl rfl 0 (by decide) kX4_holds_in kX4_holds_f38 rfl tyX4 tyX4_ok nmX4 rfl rfl rfl (Nat.le_of_ble_eq_true rfl) dX4_holds_2 rfl (fun H locs Z => ?_)
  refine lv_iload_n C0.1.1 C0.1.2.1 dX4_holds_5 rfl (lv_at hl 1 rfl) ?_
  refine lv_if_ne (tgt := 13) C0.1.1 C0.1.2.1 dX4_holds_6 (by decide) (fun hc => ?_) (fun hc => ?_)
  · replace h := (if_neg hc).symm.trans h
    refine lv_iconst (v := 0) C0.1.1 C0.1.2.1 dX4_holds_13 (by decide) ?_
    exact wX4_holds_14 (N := N) C0 hret p0 (0 : Int32) _ _ _ h Z (lv_sub hl [] rfl)
  · replace h := (if_pos hc).symm.trans h
    refine lv_iconst (v := 1) C0.1.1 C0.1.2.1 dX4_holds_9 (by decide) ?_
    refine lv_goto (tgt := 14) C0.1.1 C0.1.2.1 dX4_holds_10 (by decide) ?_
    exact wX4_holds_14 (N := N) C0 hret p0 (1 : Int32) _ _ _ h Z (lv_sub hl [] rfl)
/-! X4_in -/
abbrev rmX4_in : Room := { frames := 0, cells := 0, slots := 0, locals := 0 }
def mX4_in_15 (N : Nat) (s0 : Int32) : Option (Int32) := (if (s0 = 0 ∨ s0 = 1) then some (s0) else none)
def mX4_in_14 (N : Nat) : Option (Int32) := mX4_in_15 N (0 : Int32)
def mX4_in (N : Nat) (p0 : Int32) (p1 : Int32) (p2 : Int32) : Option (Int32) := (if p0 < p1 then mX4_in_14 N else (if p2 < p0 then mX4_in_14 N else mX4_in_15 N (1 : Int32)))
set_option maxRecDepth 20000 in
set_option maxHeartbeats 4000000 in
theorem wX4_in_15 {p : Program} {l : Launch} {e : Env} {s : State} {m : MethodId} {args : Array Value} {below : List Frame} {meth : Method} {c : Code} {Q : State → Prop} {D : va_G} {cyI cyJ cyO : ClassId} {A : Nat → Prop} {bs : Nat} {ws : va_W} {N : Nat} {res : Int32} (C0 : gC p m meth c cX4_in 3 (some .boolean) s args wsX4_in RX4) (hret : ∀ (r : Int32) (H : Heap) (locs : List Loc) (pc : Nat) (ls : Array Slot), (r = 0 ∨ r = 1) → some r = some res → gZ D (gT cyI cyJ cyO) ws A bs s H locs → decode cX4_in pc = .ok (.ireturn, 1) → W p l e rmX4_in s m args below meth c H locs 0 0 Q (F0 m pc ls [.int r]))  : ∀ (s0 : Int32) (H : Heap) (locs : List Loc) (ls : Array Slot), mX4_in_15 N s0 = some res → gZ D (gT cyI cyJ cyO) ws A bs s H locs → lv_has ls 3 [] → W p l e rmX4_in s m args below meth c H locs 0 0 Q (F0 m 15 ls [.int s0]) := by
  intro s0 H locs ls h Z hl
  unfold mX4_in_15 at h
  obtain ⟨hn1, h⟩ := g_yi h
  exact hret s0 _ _ _ _ hn1 h Z dX4_in_15
set_option maxRecDepth 20000 in
set_option maxHeartbeats 4000000 in
theorem wX4_in_14 {p : Program} {l : Launch} {e : Env} {s : State} {m : MethodId} {args : Array Value} {below : List Frame} {meth : Method} {c : Code} {Q : State → Prop} {D : va_G} {cyI cyJ cyO : ClassId} {A : Nat → Prop} {bs : Nat} {ws : va_W} {N : Nat} {res : Int32} (C0 : gC p m meth c cX4_in 3 (some .boolean) s args wsX4_in RX4) (hret : ∀ (r : Int32) (H : Heap) (locs : List Loc) (pc : Nat) (ls : Array Slot), (r = 0 ∨ r = 1) → some r = some res → gZ D (gT cyI cyJ cyO) ws A bs s H locs → decode cX4_in pc = .ok (.ireturn, 1) → W p l e rmX4_in s m args below meth c H locs 0 0 Q (F0 m pc ls [.int r]))  : ∀ (H : Heap) (locs : List Loc) (ls : Array Slot), mX4_in_14 N = some res → gZ D (gT cyI cyJ cyO) ws A bs s H locs → lv_has ls 3 [] → W p l e rmX4_in s m args below meth c H locs 0 0 Q (F0 m 14 ls []) := by
  intro  H locs ls h Z hl
  unfold mX4_in_14 at h
  refine lv_iconst (v := 0) C0.1.1 C0.1.2.1 dX4_in_14 (by decide) ?_
  exact wX4_in_15 (N := N) C0 hret (0 : Int32) _ _ _ h Z (lv_sub hl [] rfl)
set_option maxRecDepth 20000 in
set_option maxHeartbeats 4000000 in
theorem zX4_in (l : Launch) (D : va_G) (cyI cyJ cyO : ClassId) (A : Nat → Prop) (bs : Nat) (hA : ∀ q, bs ≤ q → A q) (ws : va_W) (N : Nat) (p0 : Int32) (p1 : Int32) (p2 : Int32) (res : Int32) (h : mX4_in N p0 p1 p2 = some res) : Met l yX4_in wsX4_in rmX4_in (va_Pc [.int p0, .int p1, .int p2] (gW D (gT cyI cyJ cyO) ws A bs)) (va_Qi (fun (r : Int32) (_ : Unit) => res = r) (fun (u : Unit) U => gW D (gT cyI cyJ cyO) ws A bs U) A) 0 0 A := by
  refine Met.ofW (cc := cX4_in) (maxL := 3) (ret := (some .boolean)) (by decide) rfl ?_
  intro p e s m args below meth c s₁ B hml hv
  obtain ⟨hav, hv⟩ := hv
  have C0 : gC p m meth c cX4_in 3 (some .boolean) s args wsX4_in RX4 := ⟨⟨B.exec, B.bytes, hml, findClass_of_methodNamed B.named, atoms_spec (ws := wsX4_in) B.pre⟩, B.returns, B.notSynchronized⟩
  have Z := g_start hA hv
  have hret : ∀ (r : Int32) (H : Heap) (locs : List Loc) (pc : Nat) (ls : Array Slot), (r = 0 ∨ r = 1) → some r = some res → gZ D (gT cyI cyJ cyO) ws A bs s H locs → decode cX4_in pc = .ok (.ireturn, 1) → W p l e rmX4_in s m args below meth c H locs 0 0 (MQ below (va_Qi (fun (r : Int32) (_ : Unit) => res = r) (fun (u : Unit) U => gW D (gT cyI cyJ cyO) ws A bs U) A) args s 0 0 A) (F0 m pc ls [.int r]) := by
    intro r H locs pc ls hb h Z hd
    replace h := Option.some.inj h
    exact W.zret C0.1.1 C0.1.2.1 C0.2.1 (g_nb hb) (fun t ht hW => ⟨⟨r, (()), rfl, h.symm, g_end Z ht hW⟩, Z.2.2.2.1.F ht⟩) Z.2.2.2.1.2.2 hd C0.2.2
  have hl := lv_entry ([.int p0, .int p1, .int p2]) (n := 3) (Nat.le_of_ble_eq_true rfl)
  rw [hav, lg_entry_eq]
  generalize (lg_sl ([.int p0, .int p1, .int p2]) ++ List.replicate (3 - (lg_sl ([.int p0, .int p1, .int p2])).length) Slot.unset).toArray = ls at hl ⊢
  have hl : lv_has ls 3 [(0, .int p0), (1, .int p1), (2, .int p2)] := hl
  rw [← hav]
  unfold mX4_in at h
  refine lv_iload_n C0.1.1 C0.1.2.1 dX4_in_0 rfl (lv_at hl 0 rfl) ?_
  refine lv_iload_n C0.1.1 C0.1.2.1 dX4_in_1 rfl (lv_at hl 1 rfl) ?_
  refine lv_icmp_lt (tgt := 14) C0.1.1 C0.1.2.1 dX4_in_2 (by decide) (fun hc => ?_) (fun hc => ?_)
  · replace h := (if_pos hc).symm.trans h
    exact wX4_in_14 (N := N) C0 hret  _ _ _ h Z (lv_sub hl [] rfl)
  · replace h := (if_neg hc).symm.trans h
    refine lv_iload_n C0.1.1 C0.1.2.1 dX4_in_5 rfl (lv_at hl 0 rfl) ?_
    refine lv_iload_n C0.1.1 C0.1.2.1 dX4_in_6 rfl (lv_at hl 2 rfl) ?_
    refine lv_icmp_gt (tgt := 14) C0.1.1 C0.1.2.1 dX4_in_7 (by decide) (fun hc => ?_) (fun hc => ?_)
    · replace h := (if_pos hc).symm.trans h
      exact wX4_in_14 (N := N) C0 hret  _ _ _ h Z (lv_sub hl [] rfl)
    · replace h := (if_neg hc).symm.trans h
      refine lv_iconst (v := 1) C0.1.1 C0.1.2.1 dX4_in_10 (by decide) ?_
      refine lv_goto (tgt := 15) C0.1.1 C0.1.2.1 dX4_in_11 (by decide) ?_
      exact wX4_in_15 (N := N) C0 hret (1 : Int32) _ _ _ h Z (lv_sub hl [] rfl)
/-! X4_isCell -/
abbrev rmX4_isCell : Room := { frames := 1, cells := 0, slots := 0, locals := 22 }
def mX4_isCell (N : Nat) (p0 : Int32) : Option (Int32) := ((mX4_in N p0 (0 : Int32) (29 : Int32)).bind fun x1 => (if (x1 = 0 ∨ x1 = 1) then some (x1) else none))
set_option maxRecDepth 20000 in
set_option maxHeartbeats 4000000 in
theorem zX4_isCell (l : Launch) (D : va_G) (cyI cyJ cyO : ClassId) (A : Nat → Prop) (bs : Nat) (hA : ∀ q, bs ≤ q → A q) (ws : va_W) (N : Nat) (p0 : Int32) (res : Int32) (h : mX4_isCell N p0 = some res) : Met l yX4_isCell wsX4_isCell rmX4_isCell (va_Pc [.int p0] (gW D (gT cyI cyJ cyO) ws A bs)) (va_Qi (fun (r : Int32) (_ : Unit) => res = r) (fun (u : Unit) U => gW D (gT cyI cyJ cyO) ws A bs U) A) 0 0 A := by
  refine Met.ofW (cc := cX4_isCell) (maxL := 1) (ret := (some .boolean)) (by decide) rfl ?_
  intro p e s m args below meth c s₁ B hml hv
  obtain ⟨hav, hv⟩ := hv
  have C0 : gC p m meth c cX4_isCell 1 (some .boolean) s args wsX4_isCell RX4 := ⟨⟨B.exec, B.bytes, hml, findClass_of_methodNamed B.named, atoms_spec (ws := wsX4_isCell) B.pre⟩, B.returns, B.notSynchronized⟩
  have Z := g_start hA hv
  have hret : ∀ (r : Int32) (H : Heap) (locs : List Loc) (pc : Nat) (ls : Array Slot), (r = 0 ∨ r = 1) → some r = some res → gZ D (gT cyI cyJ cyO) ws A bs s H locs → decode cX4_isCell pc = .ok (.ireturn, 1) → W p l e rmX4_isCell s m args below meth c H locs 0 0 (MQ below (va_Qi (fun (r : Int32) (_ : Unit) => res = r) (fun (u : Unit) U => gW D (gT cyI cyJ cyO) ws A bs U) A) args s 0 0 A) (F0 m pc ls [.int r]) := by
    intro r H locs pc ls hb h Z hd
    replace h := Option.some.inj h
    exact W.zret C0.1.1 C0.1.2.1 C0.2.1 (g_nb hb) (fun t ht hW => ⟨⟨r, (()), rfl, h.symm, g_end Z ht hW⟩, Z.2.2.2.1.F ht⟩) Z.2.2.2.1.2.2 hd C0.2.2
  have hl := lv_entry ([.int p0]) (n := 1) (Nat.le_of_ble_eq_true rfl)
  rw [hav, lg_entry_eq]
  generalize (lg_sl ([.int p0]) ++ List.replicate (1 - (lg_sl ([.int p0])).length) Slot.unset).toArray = ls at hl ⊢
  have hl : lv_has ls 1 [(0, .int p0)] := hl
  rw [← hav]
  unfold mX4_isCell at h
  refine lv_iload_n C0.1.1 C0.1.2.1 dX4_isCell_0 rfl (lv_at hl 0 rfl) ?_
  refine lv_iconst (v := 0) C0.1.1 C0.1.2.1 dX4_isCell_1 (by decide) ?_
  refine lv_bipush (v := 29) C0.1.1 C0.1.2.1 dX4_isCell_2 (by decide +kernel) ?_
  obtain ⟨x1, hx2, h⟩ := g_bd h
  refine g_callSi (As := [.int p0, .int (0 : Int32), .int (29 : Int32)]) (rest := []) (ws' := (fun (u : Unit) => ws)) C0.1 Z (zX4_in l D cyI cyJ cyO A bs Z.2.2.2.2.2 ws N p0 (0 : Int32) (29 : Int32) x1 hx2) (va_cwS 3 C0.1.2.2.2.2 gX4_isCell_X4_in rfl rfl rfl (by decide +kernel) ⟨Nat.le_of_ble_eq_true rfl, Nat.le_of_ble_eq_true rfl⟩) rfl hl.1 rfl (Nat.le_of_ble_eq_true rfl) dX4_isCell_4 ⟨Nat.zero_le _, Nat.zero_le _⟩ (fun r u H locs hw Z => ?_)
  subst hw
  obtain ⟨hn3, h⟩ := g_yi h
  exact hret x1 _ _ _ _ hn3 h Z dX4_isCell_7
/-! X4_writes -/
abbrev rmX4_writes : Room := { frames := 0, cells := 0, slots := 0, locals := 0 }
theorem kX4_writes_f7 : Cond.fieldLink RX4 7 "GoalseekOfficeModel" "draft" "[I" ∈ wsX4_writes := by decide +kernel
theorem kX4_writes_in : ∀ w ∈ wsX40, w ∈ wsX4_writes := by decide +kernel
theorem kX4_writes_f46 : Cond.fieldLink RX4 46 "GoalseekOfficeModel" "drafted" "I" ∈ wsX4_writes := by decide +kernel
def mX4_writes (N : Nat) (df : Int32) (dr : Nat → Int32) (p0 : Int32) : Option (Int32 × Int32 × (Nat → Int32)) := (if df < 0 ∨ 15 ≤ df.toNatClampNeg then none else some ((df + (1 : Int32)), (df + (1 : Int32)), (upd dr df.toNatClampNeg p0)))
set_option maxRecDepth 20000 in
set_option maxHeartbeats 4000000 in
theorem zX4_writes (l : Launch) (D : va_G) (cyI cyJ cyO : ClassId) (A : Nat → Prop) (bs : Nat) (hA : ∀ q, bs ≤ q → A q) (a : Nat → Nat) (Y : va_W) (th : Int32) (df : Int32) (la : Int32) (fo : Int32) (he : Int32) (wt : Int32) (br : Int32) (dr : Nat → Int32) (fm : Nat → Int32) (sz : Nat → Int32) (om : Nat → Int32) (os : Nat → Int32) (st : Nat → Int32) (wa : Nat → Int32) (va : Nat → Int64) (sk : Nat → Int64) (N : Nat) (p0 : Int32) (res : Int32 × Int32 × (Nat → Int32)) (h : mX4_writes N df dr p0 = some res) : Met l yX4_writes wsX4_writes rmX4_writes (va_Pc [.ref (a 0), .int p0] (gW D (gT cyI cyJ cyO) (XM a cyI cyJ th df la fo he wt br dr fm sz om os st wa va sk ++ Y) A bs)) (va_Qi (fun (r : Int32) (u : Int32 × (Nat → Int32)) => res.1 = r ∧ res.2 = u) (fun (u : Int32 × (Nat → Int32)) U => gW D (gT cyI cyJ cyO) (XM a cyI cyJ th u.1 la fo he wt br u.2 fm sz om os st wa va sk ++ Y) A bs U) A) 0 0 A := by
  refine Met.ofW (cc := cX4_writes) (maxL := 2) (ret := (some .int)) (by decide) rfl ?_
  intro p e s m args below meth c s₁ B hml hv
  obtain ⟨hav, hv⟩ := hv
  have C0 : gC p m meth c cX4_writes 2 (some .int) s args wsX4_writes RX4 := ⟨⟨B.exec, B.bytes, hml, findClass_of_methodNamed B.named, atoms_spec (ws := wsX4_writes) B.pre⟩, B.returns, B.notSynchronized⟩
  have Z := g_start hA hv
  have hret : ∀ (r : Int32) (df_r : Int32) (dr_r : Nat → Int32) (H : Heap) (locs : List Loc) (pc : Nat) (ls : Array Slot), some (r, df_r, dr_r) = some res → gZ D (gT cyI cyJ cyO) (XM a cyI cyJ th df_r la fo he wt br dr_r fm sz om os st wa va sk ++ Y) A bs s H locs → decode cX4_writes pc = .ok (.ireturn, 1) → W p l e rmX4_writes s m args below meth c H locs 0 0 (MQ below (va_Qi (fun (r : Int32) (u : Int32 × (Nat → Int32)) => res.1 = r ∧ res.2 = u) (fun (u : Int32 × (Nat → Int32)) U => gW D (gT cyI cyJ cyO) (XM a cyI cyJ th u.1 la fo he wt br u.2 fm sz om os st wa va sk ++ Y) A bs U) A) args s 0 0 A) (F0 m pc ls [.int r]) := by
    intro r df_r dr_r H locs pc ls h Z hd
    replace h := Option.some.inj h
    exact W.iret C0.1.1 C0.1.2.1 C0.2.1 (fun t ht hW => ⟨⟨r, (df_r, dr_r), rfl, ⟨congrArg Prod.fst h.symm, congrArg Prod.snd h.symm⟩, g_end Z ht hW⟩, Z.2.2.2.1.F ht⟩) Z.2.2.2.1.2.2 hd C0.2.2
  have hl := lv_entry ([.ref (a 0), .int p0]) (n := 2) (Nat.le_of_ble_eq_true rfl)
  rw [hav, lg_entry_eq]
  generalize (lg_sl ([.ref (a 0), .int p0]) ++ List.replicate (2 - (lg_sl ([.ref (a 0), .int p0])).length) Slot.unset).toArray = ls at hl ⊢
  have hl : lv_has ls 2 [(0, .ref (a 0)), (1, .int p0)] := hl
  rw [← hav]
  unfold mX4_writes at h
  refine lv_aload_n C0.1.1 C0.1.2.1 dX4_writes_0 rfl (lv_at hl 0 rfl) ?_
  refine g_get (ci := 6) (v := .ref (a 1)) (T := TX4) (N := 16) C0.1 Z 0 rfl rfl 1 (by decide) kX4_writes_in kX4_writes_f7 rfl rfl dX4_writes_1 ?_
  refine lv_aload_n C0.1.1 C0.1.2.1 dX4_writes_4 rfl (lv_at hl 0 rfl) ?_
  refine g_get (ci := 6) (v := .int df) (T := TX4) (N := 16) C0.1 Z 0 rfl rfl 2 (by decide) kX4_writes_in kX4_writes_f46 rfl rfl dX4_writes_5 ?_
  refine lv_iload_n C0.1.1 C0.1.2.1 dX4_writes_8 rfl (lv_at hl 1 rfl) ?_
  obtain ⟨hi1, h⟩ := g_ni h
  refine g_iast (f := dr) (n := 15) (ws' := (XM a cyI cyJ th df la fo he wt br (upd dr df.toNatClampNeg p0) fm sz om os st wa va sk ++ Y)) C0.1 Z 1 0 rfl rfl hi1 dX4_writes_9 rfl (fun H locs Z => ?_)
  refine lv_aload_n C0.1.1 C0.1.2.1 dX4_writes_10 rfl (lv_at hl 0 rfl) ?_
  refine lv_dup C0.1.1 C0.1.2.1 dX4_writes_11 rfl ?_
  refine g_get (ci := 6) (v := .int df) (T := TX4) (N := 16) C0.1 Z 0 rfl rfl 2 (by decide) kX4_writes_in kX4_writes_f46 rfl rfl dX4_writes_12 ?_
  refine lv_iconst (v := 1) C0.1.1 C0.1.2.1 dX4_writes_15 (by decide) ?_
  refine lv_iadd C0.1.1 C0.1.2.1 dX4_writes_16 ?_
  refine g_put (ci := 6) (v := .int (df + (1 : Int32))) (T := TX4) (N := 16) (ws' := (XM a cyI cyJ th (df + (1 : Int32)) la fo he wt br (upd dr df.toNatClampNeg p0) fm sz om os st wa va sk ++ Y)) C0.1 Z 0 rfl rfl 2 (by decide) kX4_writes_in kX4_writes_f46 rfl tyX4 tyX4_ok nmX4 rfl rfl rfl (Nat.le_of_ble_eq_true rfl) dX4_writes_17 rfl (fun H locs Z => ?_)
  refine lv_aload_n C0.1.1 C0.1.2.1 dX4_writes_20 rfl (lv_at hl 0 rfl) ?_
  refine g_get (ci := 6) (v := .int (df + (1 : Int32))) (T := TX4) (N := 16) C0.1 Z 0 rfl rfl 2 (by decide) kX4_writes_in kX4_writes_f46 rfl rfl dX4_writes_21 ?_
  exact hret (df + (1 : Int32)) (df + (1 : Int32)) (upd dr df.toNatClampNeg p0) _ _ _ _ h Z dX4_writes_24
