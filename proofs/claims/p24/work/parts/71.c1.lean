/-! constructors: rows of making, in any world; Draft, Reckoner -/
theorem up_K {s : State} {args : Array Value} {D : va_G} (h : va_K D vwCl [] s) (hI : (Cond.arrayClass .int).before args s = true) (hJ : (Cond.arrayClass .long).before args s = true) (hO : (Cond.arrayOver (.object "GoalseekOffice$Formula")).before args s = true) : ∃ cyI cyJ cyO, va_K D vwCl (gT cyI cyJ cyO) s := by
  obtain ⟨cI, kI, pI, i1, i2, i3⟩ := Cond.arrayClass_spec hI
  obtain ⟨cJ, kJ, pJ, j1, j2, j3⟩ := Cond.arrayClass_spec hJ
  obtain ⟨pO, cO, kO, o1, o2, o3, o4, o5⟩ := Cond.arrayOver_spec hO
  refine ⟨cI, cJ, cO, h.1, fun k x hx => ?_⟩
  rcases k with _ | _ | _ | k
  · cases hx
    exact ⟨fun n z => ⟨fun k h => (by cases h), kI, i2, pI, i3⟩, i1⟩
  · cases hx
    exact ⟨fun n z => ⟨fun k h => (by cases h), kJ, j2, pJ, j3⟩, j1⟩
  · cases hx
    exact ⟨fun n z => ⟨fun k h => (by cases h), kO, o3, pO, o4⟩, kO, pO, o3, o4, o1, o5⟩
  · cases hx
section MK
variable {p : Program} {l : Launch} {e : Env} {R : Room} {s : State} {m : MethodId} {args : Array Value} {below : List Frame} {meth : Method} {c : Code} {H : Heap} {locs : List Loc} {cells slots : Nat} {Q : State → Prop}
variable {cc : ByteArray} {pc : Nat} {ls : Array Slot} {rest st0 : List Value} {D : va_G} {A : Nat → Prop} {a bs nL : Nat} {ws ws' : va_W} {own : String} {Ts : List Cond} {cyI cyJ cyO : ClassId}
theorem g_cyJ {cA : ClassId} (hK : va_K D vwCl (gT cyI cyJ cyO ++ [(cA, .long)]) s) : cA = cyJ := by
  have h0 := (hK.2 1 (cyJ, .long) rfl).2
  have h3 := (hK.2 3 (cA, .long) rfl).2
  exact Option.some.inj (h3.symm.trans h0)
theorem g_cyO {cA : ClassId} (hK : va_K D vwCl (gT cyI cyJ cyO ++ [(cA, .object "GoalseekOffice$Formula")]) s) : cA = cyO := by
  obtain ⟨_, _, _, _, _, h0⟩ := (hK.2 2 (cyO, .object "GoalseekOffice$Formula") rfl).2
  obtain ⟨_, _, _, _, _, h3⟩ := (hK.2 3 (cA, .object "GoalseekOffice$Formula") rfl).2
  exact Option.some.inj (h3.symm.trans h0)
theorem g_newI (C0 : CallFix p m c cc nL s args Ts own) (harr : Cond.arrayClass .int ∈ Ts) (Z : gZ D (gT cyI cyJ cyO) ws A bs s H locs) {i : Int32} {N' : Nat} (hn : ¬ i < 0) (hN : i.toNatClampNeg = N') (hby : N' * 4 ≤ 536870912) (hc : cells + 1 ≤ R.cells) (hs : slots + N' ≤ R.slots) (hdg : decode cc pc = .ok (.newarray .int, 2))
    (kk : ∀ (q : Nat) (H1 : Heap), gZ D (gT cyI cyJ cyO) (ws ++ [(q, .inl (cyI, N', .inl (fun _ => 0)))]) A bs s H1 locs → W p l e R s m args below meth c H1 locs (cells + 1) (slots + N') Q (F0 m (pc + 2) ls (.ref q :: rest))) : W p l e R s m args below meth c H locs cells slots Q (F0 m pc ls (.int i :: rest)) := by
  refine va_newa (atype := .int) C0.1 C0.2.1 (C0.2.2.2.2 _ harr) rfl Z.2.1 Z.1 Z.2.2.1 Z.2.2.2.1 (fun q h => Z.2.2.2.2.2 q (Nat.le_trans Z.2.2.2.2.1 h)) (a0 := (N', .inl (fun _ => 0))) (fun cA => rfl) hn hN hby hc hs hdg (fun q cA H1 hK hP hD hS => ?_)
  have e1 : cA = cyI := g_cyI hK 0 rfl
  subst e1
  exact kk q H1 ⟨hP, Z.2.1, hD, hS, Z.2.2.2.2⟩
theorem g_newL (C0 : CallFix p m c cc nL s args Ts own) (harr : Cond.arrayClass .long ∈ Ts) (Z : gZ D (gT cyI cyJ cyO) ws A bs s H locs) {i : Int32} {N' : Nat} (hn : ¬ i < 0) (hN : i.toNatClampNeg = N') (hby : N' * 8 ≤ 536870912) (hc : cells + 1 ≤ R.cells) (hs : slots + N' ≤ R.slots) (hdg : decode cc pc = .ok (.newarray .long, 2))
    (kk : ∀ (q : Nat) (H1 : Heap), gZ D (gT cyI cyJ cyO) (ws ++ [(q, .inl (cyJ, N', .inr (.inl (fun _ => 0))))]) A bs s H1 locs → W p l e R s m args below meth c H1 locs (cells + 1) (slots + N') Q (F0 m (pc + 2) ls (.ref q :: rest))) : W p l e R s m args below meth c H locs cells slots Q (F0 m pc ls (.int i :: rest)) := by
  refine va_newa (atype := .long) C0.1 C0.2.1 (C0.2.2.2.2 _ harr) rfl Z.2.1 Z.1 Z.2.2.1 Z.2.2.2.1 (fun q h => Z.2.2.2.2.2 q (Nat.le_trans Z.2.2.2.2.1 h)) (a0 := (N', .inr (.inl (fun _ => 0)))) (fun cA => rfl) hn hN hby hc hs hdg (fun q cA H1 hK hP hD hS => ?_)
  have e1 : cA = cyJ := g_cyJ hK
  subst e1
  exact kk q H1 ⟨hP, Z.2.1, hD, hS, Z.2.2.2.2⟩
theorem g_newO (C0 : CallFix p m c cc nL s args Ts own) (hO : va_AO "GoalseekOffice$Formula" s) {index : Nat} (hcl : Cond.classLink own index "GoalseekOffice$Formula" ∈ Ts) (Z : gZ D (gT cyI cyJ cyO) ws A bs s H locs) {i : Int32} {N' : Nat} (hn : ¬ i < 0) (hN : i.toNatClampNeg = N') (hby : N' * 4 ≤ 536870912) (hc : cells + 1 ≤ R.cells) (hs : slots + N' ≤ R.slots) (hdg : decode cc pc = .ok (.anewarray index, 3))
    (kk : ∀ (q : Nat) (H1 : Heap), gZ D (gT cyI cyJ cyO) (ws ++ [(q, .inl (cyO, N', .inr (.inr (.inr (.inr (fun _ => none))))))]) A bs s H1 locs → W p l e R s m args below meth c H1 locs (cells + 1) (slots + N') Q (F0 m (pc + 3) ls (.ref q :: rest))) : W p l e R s m args below meth c H locs cells slots Q (F0 m pc ls (.int i :: rest)) := by
  refine va_newq C0.1 C0.2.1 C0.2.2.2.1 (C0.2.2.2.2 _ hcl) hO Z.2.1 Z.1 Z.2.2.1 Z.2.2.2.1 (fun q h => Z.2.2.2.2.2 q (Nat.le_trans Z.2.2.2.2.1 h)) hn hN hby hc hs hdg (fun q cA H1 hK hP hD hS => ?_)
  have e1 : cA = cyO := g_cyO hK
  subst e1
  exact kk q H1 ⟨hP, Z.2.1, hD, hS, Z.2.2.2.2⟩
theorem g_new (C0 : CallFix p m c cc nL s args Ts own) {C : String} {T : u_T} {N ci index : Nat} (hin : ∀ w ∈ u_ws C T N, w ∈ Ts) (ty : Nat → FieldType) (hty : ∀ k, k < N → parseFieldDescriptor (T k).2.2.1 = some (ty k)) (h1 : Cond.classLink own index C ∈ Ts) (h2 : Cond.instantiable C N ∈ Ts) (h3 : Cond.initialized C ∈ Ts) (hcl : vwCl[ci]? = some (C, T, N)) {fs : List Value} (hfs : ∀ j, j < N → defaultValue (ty j) = vp_V fs j) (Z : gZ D (gT cyI cyJ cyO) ws A bs s H locs) (hc : cells + 1 ≤ R.cells) (hs : slots + N ≤ R.slots) (hdg : decode cc pc = .ok (.new index, 3))
    (kk : ∀ (q : Nat) (H1 : Heap), gZ D (gT cyI cyJ cyO) (ws ++ [(q, .inr (ci, fs))]) A bs s H1 locs → W p l e R s m args below meth c H1 locs (cells + 1) (slots + N) Q (F0 m (pc + 3) ls (.ref q :: rest))) : W p l e R s m args below meth c H locs cells slots Q (F0 m pc ls rest) :=
  va_new C0.1 C0.2.1 C0.2.2.2.2 hin ty hty C0.2.2.2.1 (C0.2.2.2.2 _ h1) (C0.2.2.2.2 _ h2) (C0.2.2.2.2 _ h3) Z.2.1 Z.1 Z.2.2.1 Z.2.2.2.1 (fun q h => Z.2.2.2.2.2 q (Nat.le_trans Z.2.2.2.2.1 h)) hcl hfs hc hs hdg (fun q H1 hP hD hS => kk q H1 ⟨hP, Z.2.1, hD, hS, Z.2.2.2.2⟩)
theorem g_putF (C0 : CallFix p m c cc nL s args Ts own) (hnm0 : meth.name = "<init>") (Z : gZ D (gT cyI cyJ cyO) ws A bs s H locs) (q0 : Nat) {ci : Nat} {fs : List Value} (he : ws[q0]? = some (a, .inr (ci, fs))) {C ref : String} {T : u_T} {N : Nat} (hc : vwCl[ci]? = some (C, T, N)) (k : Nat) (hk : k < N) (hin : ∀ w ∈ u_ws C T N, w ∈ Ts) {index : Nat} (hlink : Cond.fieldLink own index ref (T k).2.1 (T k).2.2.1 ∈ Ts) (href : (T k).1 = ref) (hown : (T k).1 = own) (ty0 : Nat → FieldType) (hty : ∀ k, k < N → parseFieldDescriptor (T k).2.2.1 = some (ty0 k)) (hnm : ∀ a, a < N → ∀ b, b < N → a ≠ b → (T a).2.1 ≠ (T b).2.1) (hfin : (T k).2.2.2 = true) {v : Value} (hn : narrow (ty0 k) v = v) (hfit : fits (ty0 k) v = true) (hl : k < fs.length) (hdg : decode cc pc = .ok (.putfield index, 3)) (hws : ws.set q0 (a, .inr (ci, fs.set k v)) = ws')
    (kk : ∀ (H1 : Heap) (locs1 : List Loc), gZ D (gT cyI cyJ cyO) ws' A bs s H1 locs1 → W p l e R s m args below meth c H1 locs1 cells slots Q (F0 m (pc + 3) ls rest)) : W p l e R s m args below meth c H locs cells slots Q (F0 m pc ls (v :: .ref a :: rest)) := by
  subst href
  subst hws
  exact va_putF C0.1 C0.2.1 C0.2.2.2.2 hin ty0 hty hnm C0.2.2.2.1 Z.2.1 Z.1 Z.2.2.1 Z.2.2.2.1 q0 he hc k hk (C0.2.2.2.2 _ hlink) (fun _ h => h) hfin hnm0 hown (hty k hk) hn hfit hl hdg (fun H1 locs1 h1 h2 h3 => kk H1 locs1 ⟨h1, Z.2.1, h2, h3, Z.2.2.2.2⟩)
end MK
abbrev rmX0_init : Room := { frames := 1, cells := 1, slots := 15, locals := 40 }
theorem kX0_init_in : ∀ w ∈ wsX00, w ∈ wsX0_init := by decide +kernel
theorem kX0_init_1 : Cond.arrayClass .int ∈ wsX0_init := by decide +kernel
theorem kX0_init_9 : Cond.fieldLink RX0 9 "GoalseekOffice$Draft" "signs" "[I" ∈ wsX0_init := by decide +kernel
theorem kX0_init_o1 : Cond.methodLink RX0 3 objectInit ∈ wsX0_init := by decide +kernel
theorem kX0_init_o2 : Cond.instanceMethod objectInit ∈ wsX0_init := by decide +kernel
theorem kX0_init_o3 : Cond.code objectInit ⟨#[0xb1]⟩ 1 none ∈ wsX0_init := by decide +kernel
set_option maxRecDepth 20000 in
set_option maxHeartbeats 4000000 in
/-- Draft() -/
theorem zX0_init (l : Launch) (D : va_G) (cyI cyJ cyO : ClassId) (A : Nat → Prop) (bs : Nat) (hA : ∀ q, bs ≤ q → A q) (x : Nat × va_E) (b : Nat) : Met l yX0_init wsX0_init rmX0_init (va_Pc [.ref b] (fun U => gW D (gT cyI cyJ cyO) [x, (b, .inr (2, [.null, .int 0]))] A bs U ∧ dN U)) (va_Qv (fun (_ : Nat) => True) (fun (q : Nat) U => gW D (gT cyI cyJ cyO) [x, (b, .inr (2, [.ref q, .int 0])), (q, .inl (cyI, 15, .inl (fun _ => 0)))] A bs U) A) 1 15 A := by
  refine Met.ofW (cc := cX0_init) (maxL := 1) (ret := none) (by decide) rfl ?_
  intro p e s m args below meth c s₁ B hml hv
  obtain ⟨hav, hv, hN⟩ := hv
  have C0 : gC p m meth c cX0_init 1 none s args wsX0_init RX0 := ⟨⟨B.exec, B.bytes, hml, findClass_of_methodNamed B.named, atoms_spec (ws := wsX0_init) B.pre⟩, B.returns, B.notSynchronized⟩
  have hnm : meth.name = "<init>" := (name_of_methodNamed B.named B.method).1
  have Z := g_start hA hv
  have hl := lv_entry ([.ref b]) (n := 1) (Nat.le_of_ble_eq_true rfl)
  rw [hav, lg_entry_eq]
  generalize (lg_sl ([.ref b]) ++ List.replicate (1 - (lg_sl ([.ref b])).length) Slot.unset).toArray = ls at hl ⊢
  have hl : lv_has ls 1 [(0, .ref b)] := hl
  rw [← hav]
  refine lv_aload_n C0.1.1 C0.1.2.1 dX0_init_0 rfl (lv_at hl 0 rfl) ?_
  refine W.objInit C0.1.1 C0.1.2.1 C0.1.2.2.2.1 (C0.1.2.2.2.2 _ kX0_init_o1) (C0.1.2.2.2.2 _ kX0_init_o2) (C0.1.2.2.2.2 _ kX0_init_o3) rfl (hl.1.trans C0.1.2.2.1.symm) rfl dX0_init_1 (Nat.le_of_ble_eq_true rfl) (Nat.le_of_ble_eq_true rfl) ?_
  refine W.eq (g2 := F0 m 4 ls []) rfl ?_
  refine lv_aload_n C0.1.1 C0.1.2.1 dX0_init_4 rfl (lv_at hl 0 rfl) ?_
  refine lv_bipush (v := 15) C0.1.1 C0.1.2.1 dX0_init_5 (by decide +kernel) ?_
  refine g_newI C0.1 kX0_init_1 Z (N' := 15) (by decide) rfl (Nat.le_of_ble_eq_true rfl) (Nat.le_of_ble_eq_true rfl) (Nat.le_of_ble_eq_true rfl) dX0_init_7 (fun q H Z => ?_)
  refine g_putF C0.1 hnm Z 1 (ci := 2) rfl rfl 0 (by decide) kX0_init_in kX0_init_9 rfl rfl tyX0 tyX0_ok nmX0 rfl (by rfl) (by rfl) (Nat.le_of_ble_eq_true rfl) dX0_init_9 rfl (fun H locs Z => ?_)
  exact W.vret C0.1.1 C0.1.2.1 C0.2.1 (fun t ht hW => ⟨⟨q, rfl, trivial, g_end Z ht hW⟩, va_S.F Z.2.2.2.1 ht⟩) Z.2.2.2.1.2.2 dX0_init_12 C0.2.2
abbrev rmX2_init : Room := { frames := 1, cells := 2, slots := 0, locals := 40 }
theorem kX2_init_in : ∀ w ∈ wsX20, w ∈ wsX2_init := by decide +kernel
theorem kX2_init_1 : Cond.arrayClass .int ∈ wsX2_init := by decide +kernel
theorem kX2_init_2 : Cond.arrayClass .long ∈ wsX2_init := by decide +kernel
theorem kX2_init_9 : Cond.fieldLink RX2 9 "GoalseekOffice$Reckoner" "signs" "[I" ∈ wsX2_init := by decide +kernel
theorem kX2_init_15 : Cond.fieldLink RX2 15 "GoalseekOffice$Reckoner" "row" "[J" ∈ wsX2_init := by decide +kernel
theorem kX2_init_o1 : Cond.methodLink RX2 3 objectInit ∈ wsX2_init := by decide +kernel
theorem kX2_init_o2 : Cond.instanceMethod objectInit ∈ wsX2_init := by decide +kernel
theorem kX2_init_o3 : Cond.code objectInit ⟨#[0xb1]⟩ 1 none ∈ wsX2_init := by decide +kernel
set_option maxRecDepth 20000 in
set_option maxHeartbeats 4000000 in
/-- Reckoner() -/
theorem zX2_init (l : Launch) (D : va_G) (cyI cyJ cyO : ClassId) (A : Nat → Prop) (bs : Nat) (hA : ∀ q, bs ≤ q → A q) (x1 x2 x3 : Nat × va_E) (b : Nat) : Met l yX2_init wsX2_init rmX2_init (va_Pc [.ref b] (fun U => gW D (gT cyI cyJ cyO) [x1, x2, x3, (b, .inr (4, [.null, .null, .int 0]))] A bs U ∧ dN U)) (va_Qv (fun (_ : Nat × Nat) => True) (fun (q : Nat × Nat) U => gW D (gT cyI cyJ cyO) [x1, x2, x3, (b, .inr (4, [.ref q.1, .ref q.2, .int 0])), (q.1, .inl (cyI, 0, .inl (fun _ => 0))), (q.2, .inl (cyJ, 0, .inr (.inl (fun _ => 0))))] A bs U) A) 2 0 A := by
  refine Met.ofW (cc := cX2_init) (maxL := 1) (ret := none) (by decide) rfl ?_
  intro p e s m args below meth c s₁ B hml hv
  obtain ⟨hav, hv, hN⟩ := hv
  have C0 : gC p m meth c cX2_init 1 none s args wsX2_init RX2 := ⟨⟨B.exec, B.bytes, hml, findClass_of_methodNamed B.named, atoms_spec (ws := wsX2_init) B.pre⟩, B.returns, B.notSynchronized⟩
  have hnm : meth.name = "<init>" := (name_of_methodNamed B.named B.method).1
  have Z := g_start hA hv
  have hl := lv_entry ([.ref b]) (n := 1) (Nat.le_of_ble_eq_true rfl)
  rw [hav, lg_entry_eq]
  generalize (lg_sl ([.ref b]) ++ List.replicate (1 - (lg_sl ([.ref b])).length) Slot.unset).toArray = ls at hl ⊢
  have hl : lv_has ls 1 [(0, .ref b)] := hl
  rw [← hav]
  refine lv_aload_n C0.1.1 C0.1.2.1 dX2_init_0 rfl (lv_at hl 0 rfl) ?_
  refine W.objInit C0.1.1 C0.1.2.1 C0.1.2.2.2.1 (C0.1.2.2.2.2 _ kX2_init_o1) (C0.1.2.2.2.2 _ kX2_init_o2) (C0.1.2.2.2.2 _ kX2_init_o3) rfl (hl.1.trans C0.1.2.2.1.symm) rfl dX2_init_1 (Nat.le_of_ble_eq_true rfl) (Nat.le_of_ble_eq_true rfl) ?_
  refine W.eq (g2 := F0 m 4 ls []) rfl ?_
  refine lv_aload_n C0.1.1 C0.1.2.1 dX2_init_4 rfl (lv_at hl 0 rfl) ?_
  refine lv_iconst (v := 0) C0.1.1 C0.1.2.1 dX2_init_5 (by decide) ?_
  refine g_newI C0.1 kX2_init_1 Z (N' := 0) (by decide) rfl (Nat.le_of_ble_eq_true rfl) (Nat.le_of_ble_eq_true rfl) (Nat.le_of_ble_eq_true rfl) dX2_init_6 (fun q1 H Z => ?_)
  refine g_put C0.1 Z 3 (ci := 4) rfl rfl 0 (by decide) kX2_init_in kX2_init_9 rfl tyX2 tyX2_ok nmX2 rfl (by rfl) (by rfl) (Nat.le_of_ble_eq_true rfl) dX2_init_8 rfl (fun H locs Z => ?_)
  refine lv_aload_n C0.1.1 C0.1.2.1 dX2_init_11 rfl (lv_at hl 0 rfl) ?_
  refine lv_iconst (v := 0) C0.1.1 C0.1.2.1 dX2_init_12 (by decide) ?_
  refine g_newL C0.1 kX2_init_2 Z (N' := 0) (by decide) rfl (Nat.le_of_ble_eq_true rfl) (Nat.le_of_ble_eq_true rfl) (Nat.le_of_ble_eq_true rfl) dX2_init_13 (fun q2 H Z => ?_)
  refine g_put C0.1 Z 3 (ci := 4) rfl rfl 1 (by decide) kX2_init_in kX2_init_15 rfl tyX2 tyX2_ok nmX2 rfl (by rfl) (by rfl) (Nat.le_of_ble_eq_true rfl) dX2_init_15 rfl (fun H locs Z => ?_)
  exact W.vret C0.1.1 C0.1.2.1 C0.2.1 (fun t ht hW => ⟨⟨(q1, q2), rfl, trivial, g_end Z ht hW⟩, va_S.F Z.2.2.2.1 ht⟩) Z.2.2.2.1.2.2 dX2_init_18 C0.2.2
