/-! X3_namedByAny -/
abbrev rmX3_namedByAny : Room := { frames := 1, cells := 0, slots := 0, locals := 21 }
theorem kX3_namedByAny_in3 : ∀ w ∈ wsX30, w ∈ wsX3_namedByAny := by decide +kernel
theorem kX3_namedByAny_f34 : Cond.fieldLink RX3 34 "GoalseekOffice" "formulas" "[LGoalseekOffice$Formula;" ∈ wsX3_namedByAny := by decide +kernel
theorem kX3_namedByAny_in1 : ∀ w ∈ wsX10, w ∈ wsX3_namedByAny := by decide +kernel
def mX3_namedByAny_30 (N : Nat) (fw : Nat → Int32) (fn : Nat → Nat) (ff : Nat → Nat → Int32) (r4 : Int32 → Int32 → Int32 → Option (Int32)) (v1 : Int32) (v2 : Int32) (v3 : Int32) : Option (Int32) := r4 v1 v2 (v3 + (1 : Int32))
def mX3_namedByAny_4_b (N : Nat) (fw : Nat → Int32) (fn : Nat → Nat) (ff : Nat → Nat → Int32) (r4 : Int32 → Int32 → Int32 → Option (Int32)) (v1 : Int32) (v2 : Int32) (v3 : Int32) : Option (Int32) := (if (30 : Int32) ≤ v3 then some v2 else ((mX3_holds N v1 v3).bind fun x3 => (if x3 = 0 then mX3_namedByAny_30 N fw fn ff r4 v1 v2 v3 else (if v3 < 0 ∨ 30 ≤ v3.toNatClampNeg then none else mX3_namedByAny_30 N fw fn ff r4 v1 (v2 ||| (fw v3.toNatClampNeg)) v3))))
def mX3_namedByAny_4 (N : Nat) (fw : Nat → Int32) (fn : Nat → Nat) (ff : Nat → Nat → Int32) : Nat → Int32 → Int32 → Int32 → Option (Int32)
  | 0 => fun _ _ _ => none
  | n_ + 1 => fun v1 v2 v3 => mX3_namedByAny_4_b N fw fn ff (mX3_namedByAny_4 N fw fn ff n_) v1 v2 v3
def mX3_namedByAny (N : Nat) (fw : Nat → Int32) (fn : Nat → Nat) (ff : Nat → Nat → Int32) (p0 : Int32) : Option (Int32) := mX3_namedByAny_4 N fw fn ff N p0 (0 : Int32) (0 : Int32)
set_option maxRecDepth 20000 in
set_option maxHeartbeats 4000000 in
theorem wX3_namedByAny_30 {p : Program} {l : Launch} {e : Env} {s : State} {m : MethodId} {args : Array Value} {below : List Frame} {meth : Method} {c : Code} {D : va_G} {cyI cyJ cyO : ClassId} {A : Nat → Prop} {bs : Nat} {P : List Nat} {g : Nat → va_E} {d : Nat → Nat} {eA : Nat} {Q : State → Prop} {ol : Int32} {fd : Int32} {dc : Int32} {ds : Nat → Int32} {fw : Nat → Int32} {fn : Nat → Nat} {ff : Nat → Nat → Int32} {qw : Nat → Int32} {qn : Nat → Nat} {qf : Nat → Nat → Int32} {va : Nat → Int64} {tr : Nat → Int64} {N : Nat} {res : Int32} (C0 : gC p m meth c cX3_namedByAny 4 (some .int) s args wsX3_namedByAny RX3) (hN : dN s) (hT : dT A s) (hret : ∀ (r : Int32) (H : Heap) (locs : List Loc) (pc : Nat) (ls : Array Slot), some r = some res → dZ D cyI cyJ cyO A bs P g d eA (d 5) (d 6) ol fd dc ds fw fn ff qw qn qf va tr s H locs → decode cX3_namedByAny pc = .ok (.ireturn, 1) → W p l e rmX3_namedByAny s m args below meth c H locs 0 0 Q (F0 m pc ls [.int r])) {r4 : Int32 → Int32 → Int32 → Option (Int32)} (hr4 : ∀ (v1 : Int32) (v2 : Int32) (v3 : Int32) (H : Heap) (locs : List Loc) (ls : Array Slot), r4 v1 v2 v3 = some res → dZ D cyI cyJ cyO A bs P g d eA (d 5) (d 6) ol fd dc ds fw fn ff qw qn qf va tr s H locs → lv_has ls 4 [(0, .ref (d 0)), (1, .int v1), (2, .int v2), (3, .int v3)] → W p l e rmX3_namedByAny s m args below meth c H locs 0 0 Q (F0 m 4 ls [])) : ∀ (v1 : Int32) (v2 : Int32) (v3 : Int32) (H : Heap) (locs : List Loc) (ls : Array Slot), mX3_namedByAny_30 N fw fn ff r4 v1 v2 v3 = some res → dZ D cyI cyJ cyO A bs P g d eA (d 5) (d 6) ol fd dc ds fw fn ff qw qn qf va tr s H locs → lv_has ls 4 [(0, .ref (d 0)), (1, .int v1), (2, .int v2), (3, .int v3)] → W p l e rmX3_namedByAny s m args below meth c H locs 0 0 Q (F0 m 30 ls []) := by
  intro v1 v2 v3 H locs ls h Z hl
  unfold mX3_namedByAny_30 at h
  obtain ⟨rs1, rr1, at1, fa1, ra1, Z, hF1⟩ := Z
  refine lv_iinc (v := v3 + (1 : Int32)) (lv' := [(3, .int (v3 + (1 : Int32))), (0, .ref (d 0)), (1, .int v1), (2, .int v2)]) C0.1.1 C0.1.2.1 dX3_namedByAny_30 hl (k := 3) rfl rfl (by decide) rfl (fun ls hl => ?_)
  refine lv_goto (tgt := 4) C0.1.1 C0.1.2.1 dX3_namedByAny_33 (by decide) ?_
  exact hr4 v1 v2 (v3 + (1 : Int32)) _ _ _ h ⟨rs1, rr1, at1, fa1, ra1, Z, hF1⟩ (lv_sub hl [1, 2, 3, 0] rfl)
set_option maxRecDepth 20000 in
set_option maxHeartbeats 4000000 in
theorem wX3_namedByAny_4_b {p : Program} {l : Launch} {e : Env} {s : State} {m : MethodId} {args : Array Value} {below : List Frame} {meth : Method} {c : Code} {D : va_G} {cyI cyJ cyO : ClassId} {A : Nat → Prop} {bs : Nat} {P : List Nat} {g : Nat → va_E} {d : Nat → Nat} {eA : Nat} {Q : State → Prop} {ol : Int32} {fd : Int32} {dc : Int32} {ds : Nat → Int32} {fw : Nat → Int32} {fn : Nat → Nat} {ff : Nat → Nat → Int32} {qw : Nat → Int32} {qn : Nat → Nat} {qf : Nat → Nat → Int32} {va : Nat → Int64} {tr : Nat → Int64} {N : Nat} {res : Int32} (C0 : gC p m meth c cX3_namedByAny 4 (some .int) s args wsX3_namedByAny RX3) (hN : dN s) (hT : dT A s) (hret : ∀ (r : Int32) (H : Heap) (locs : List Loc) (pc : Nat) (ls : Array Slot), some r = some res → dZ D cyI cyJ cyO A bs P g d eA (d 5) (d 6) ol fd dc ds fw fn ff qw qn qf va tr s H locs → decode cX3_namedByAny pc = .ok (.ireturn, 1) → W p l e rmX3_namedByAny s m args below meth c H locs 0 0 Q (F0 m pc ls [.int r])) {r4 : Int32 → Int32 → Int32 → Option (Int32)} (hr4 : ∀ (v1 : Int32) (v2 : Int32) (v3 : Int32) (H : Heap) (locs : List Loc) (ls : Array Slot), r4 v1 v2 v3 = some res → dZ D cyI cyJ cyO A bs P g d eA (d 5) (d 6) ol fd dc ds fw fn ff qw qn qf va tr s H locs → lv_has ls 4 [(0, .ref (d 0)), (1, .int v1), (2, .int v2), (3, .int v3)] → W p l e rmX3_namedByAny s m args below meth c H locs 0 0 Q (F0 m 4 ls [])) : ∀ (v1 : Int32) (v2 : Int32) (v3 : Int32) (H : Heap) (locs : List Loc) (ls : Array Slot), mX3_namedByAny_4_b N fw fn ff r4 v1 v2 v3 = some res → dZ D cyI cyJ cyO A bs P g d eA (d 5) (d 6) ol fd dc ds fw fn ff qw qn qf va tr s H locs → lv_has ls 4 [(0, .ref (d 0)), (1, .int v1), (2, .int v2), (3, .int v3)] → W p l e rmX3_namedByAny s m args below meth c H locs 0 0 Q (F0 m 4 ls []) := by
  intro v1 v2 v3 H locs ls h Z hl
  unfold mX3_namedByAny_4_b at h
  obtain ⟨rs2, rr2, at2, fa2, ra2, Z, hF2⟩ := Z
  refine lv_iload_n C0.1.1 C0.1.2.1 dX3_namedByAny_4 rfl (lv_at hl 3 rfl) ?_
  refine lv_bipush (v := 30) C0.1.1 C0.1.2.1 dX3_namedByAny_5 (by decide +kernel) ?_
  refine lv_icmp_ge (tgt := 36) C0.1.1 C0.1.2.1 dX3_namedByAny_7 (by decide) (fun hc => ?_) (fun hc => ?_)
  · replace h := (if_pos hc).symm.trans h
    refine lv_iload_n C0.1.1 C0.1.2.1 dX3_namedByAny_36 rfl (lv_at hl 2 rfl) ?_
    exact hret v2 _ _ _ _ h ⟨rs2, rr2, at2, fa2, ra2, Z, hF2⟩ dX3_namedByAny_37
  · replace h := (if_neg hc).symm.trans h
    refine lv_iload_n C0.1.1 C0.1.2.1 dX3_namedByAny_10 rfl (lv_at hl 1 rfl) ?_
    refine lv_iload_n C0.1.1 C0.1.2.1 dX3_namedByAny_11 rfl (lv_at hl 3 rfl) ?_
    obtain ⟨x3, hx4, h⟩ := g_bd h
    refine x_calli (va_runS (As := [.int v1, .int v3]) (rest := []) C0.1 (zX3_holds l D cyI cyJ cyO A bs Z.2.2.2.2.2 (XD d cyI cyJ cyO eA (d 5) (d 6) rs2 rr2 at2 fa2 ra2 ol fd dc ds va tr ++ va_pl P g) N v1 v3 x3 hx4) (va_cwS 2 C0.1.2.2.2.2 gX3_namedByAny_X3_holds rfl rfl rfl (by decide +kernel) ⟨Nat.le_of_ble_eq_true rfl, Nat.le_of_ble_eq_true rfl⟩) ⟨g_blind, g_pre Z _⟩ rfl rfl hl.1 rfl (lv_room (Nat.le_of_ble_eq_true rfl)) dX3_namedByAny_12 ⟨Nat.le_of_ble_eq_true rfl, Nat.le_of_ble_eq_true rfl⟩) Z.2.2.2.1 (fun u t H1 locs1 ht hvm hB hS => g_post Z ht hvm hB hS) (fun r u H locs hw Z => ?_)
    subst hw
    refine lv_if_eq (tgt := 30) C0.1.1 C0.1.2.1 dX3_namedByAny_15 (by decide) (fun hc => ?_) (fun hc => ?_)
    · replace h := (if_pos hc).symm.trans h
      exact wX3_namedByAny_30 (N := N) C0 hN hT hret hr4 v1 v2 v3 _ _ _ h ⟨rs2, rr2, at2, fa2, ra2, Z, hF2⟩ (lv_sub hl [0, 1, 2, 3] rfl)
    · replace h := (if_neg hc).symm.trans h
      refine lv_iload_n C0.1.1 C0.1.2.1 dX3_namedByAny_18 rfl (lv_at hl 2 rfl) ?_
      refine lv_aload_n C0.1.1 C0.1.2.1 dX3_namedByAny_19 rfl (lv_at hl 0 rfl) ?_
      refine g_get (ci := 5) (v := .ref (d 3)) (T := TX3) (N := 9) C0.1 Z 0 rfl rfl 3 (by decide) kX3_namedByAny_in3 kX3_namedByAny_f34 rfl rfl dX3_namedByAny_20 ?_
      refine lv_iload_n C0.1.1 C0.1.2.1 dX3_namedByAny_23 rfl (lv_at hl 3 rfl) ?_
      obtain ⟨hi5, h⟩ := g_ni h
      refine d_aldF C0.1 Z hF2 hi5 dX3_namedByAny_24 (fun hb_6 => ?_)
      refine d_named (host := RX3) C0.1 Z hb_6 kX3_namedByAny_in1 (hN.1 _ (List.mem_of_getElem? (i := 15) rfl)) dX3_namedByAny_25 ?_
      refine lv_ior C0.1.1 C0.1.2.1 dX3_namedByAny_28 ?_
      refine lv_istore_n (lv' := [(2, .int (v2 ||| (fw v3.toNatClampNeg))), (0, .ref (d 0)), (1, .int v1), (3, .int v3)]) C0.1.1 C0.1.2.1 dX3_namedByAny_29 rfl hl (by decide) rfl (fun ls hl => ?_)
      exact wX3_namedByAny_30 (N := N) C0 hN hT hret hr4 v1 (v2 ||| (fw v3.toNatClampNeg)) v3 _ _ _ h ⟨rs2, rr2, at2, fa2, ra2, Z, hF2⟩ (lv_sub hl [1, 2, 0, 3] rfl)
theorem wX3_namedByAny_4 {p : Program} {l : Launch} {e : Env} {s : State} {m : MethodId} {args : Array Value} {below : List Frame} {meth : Method} {c : Code} {D : va_G} {cyI cyJ cyO : ClassId} {A : Nat → Prop} {bs : Nat} {P : List Nat} {g : Nat → va_E} {d : Nat → Nat} {eA : Nat} {Q : State → Prop} {ol : Int32} {fd : Int32} {dc : Int32} {ds : Nat → Int32} {fw : Nat → Int32} {fn : Nat → Nat} {ff : Nat → Nat → Int32} {qw : Nat → Int32} {qn : Nat → Nat} {qf : Nat → Nat → Int32} {va : Nat → Int64} {tr : Nat → Int64} {N : Nat} {res : Int32} (C0 : gC p m meth c cX3_namedByAny 4 (some .int) s args wsX3_namedByAny RX3) (hN : dN s) (hT : dT A s) (hret : ∀ (r : Int32) (H : Heap) (locs : List Loc) (pc : Nat) (ls : Array Slot), some r = some res → dZ D cyI cyJ cyO A bs P g d eA (d 5) (d 6) ol fd dc ds fw fn ff qw qn qf va tr s H locs → decode cX3_namedByAny pc = .ok (.ireturn, 1) → W p l e rmX3_namedByAny s m args below meth c H locs 0 0 Q (F0 m pc ls [.int r]))  : ∀ (n_ : Nat), ∀ (v1 : Int32) (v2 : Int32) (v3 : Int32) (H : Heap) (locs : List Loc) (ls : Array Slot), mX3_namedByAny_4 N fw fn ff n_ v1 v2 v3 = some res → dZ D cyI cyJ cyO A bs P g d eA (d 5) (d 6) ol fd dc ds fw fn ff qw qn qf va tr s H locs → lv_has ls 4 [(0, .ref (d 0)), (1, .int v1), (2, .int v2), (3, .int v3)] → W p l e rmX3_namedByAny s m args below meth c H locs 0 0 Q (F0 m 4 ls []) := by
  intro n_
  induction n_ with
  | zero => intro _ _ _ _ _ _ h; cases h
  | succ n_ ih => exact wX3_namedByAny_4_b (N := N) C0 hN hT hret ih
set_option maxRecDepth 20000 in
set_option maxHeartbeats 4000000 in
theorem zX3_namedByAny (l : Launch) (D : va_G) (cyI cyJ cyO : ClassId) (A : Nat → Prop) (bs : Nat) (hA : ∀ q, bs ≤ q → A q) (P : List Nat) (g : Nat → va_E) (d : Nat → Nat) (eA : Nat) (ol : Int32) (fd : Int32) (dc : Int32) (ds : Nat → Int32) (fw : Nat → Int32) (fn : Nat → Nat) (ff : Nat → Nat → Int32) (qw : Nat → Int32) (qn : Nat → Nat) (qf : Nat → Nat → Int32) (va : Nat → Int64) (tr : Nat → Int64) (N : Nat) (p0 : Int32) (res : Int32) (h : mX3_namedByAny N fw fn ff p0 = some res) : Met l yX3_namedByAny wsX3_namedByAny rmX3_namedByAny (va_Pc [.ref (d 0), .int p0] (dP (dW D cyI cyJ cyO A bs P g d eA (d 5) (d 6) ol fd dc ds fw fn ff qw qn qf va tr) A)) (va_Qi (fun (r : Int32) (_ : Unit) => res = r) (fun (u : Unit) U => dW D cyI cyJ cyO A bs P g d eA (d 5) (d 6) ol fd dc ds fw fn ff qw qn qf va tr U) A)  0 0 A := by
  refine Met.ofW (cc := cX3_namedByAny) (maxL := 4) (ret := (some .int)) (by decide) rfl ?_
  intro p e s m args below meth c s₁ B hml hv
  obtain ⟨hav, hv⟩ := hv
  obtain ⟨hv, hN, hT⟩ := hv
  have C0 : gC p m meth c cX3_namedByAny 4 (some .int) s args wsX3_namedByAny RX3 := ⟨⟨B.exec, B.bytes, hml, findClass_of_methodNamed B.named, atoms_spec (ws := wsX3_namedByAny) B.pre⟩, B.returns, B.notSynchronized⟩
  have Z := dZ_start hA hv
  have hret : ∀ (r : Int32) (H : Heap) (locs : List Loc) (pc : Nat) (ls : Array Slot), some r = some res → dZ D cyI cyJ cyO A bs P g d eA (d 5) (d 6) ol fd dc ds fw fn ff qw qn qf va tr s H locs → decode cX3_namedByAny pc = .ok (.ireturn, 1) → W p l e rmX3_namedByAny s m args below meth c H locs 0 0 (MQ below (va_Qi (fun (r : Int32) (_ : Unit) => res = r) (fun (u : Unit) U => dW D cyI cyJ cyO A bs P g d eA (d 5) (d 6) ol fd dc ds fw fn ff qw qn qf va tr U) A) args s 0 0 A) (F0 m pc ls [.int r]) := by
    intro r H locs pc ls h Z hd
    replace h := Option.some.inj h
    subst h
    exact W.iret C0.1.1 C0.1.2.1 C0.2.1 (fun t ht hW => ⟨⟨r, (), rfl, rfl, dZ_end Z ht hW⟩, va_S.F (dZ_S Z) ht⟩) (dZ_S Z).2.2 hd C0.2.2
  have hl := lv_entry ([.ref (d 0), .int p0]) (n := 4) (Nat.le_of_ble_eq_true rfl)
  rw [hav, lg_entry_eq]
  generalize (lg_sl ([.ref (d 0), .int p0]) ++ List.replicate (4 - (lg_sl ([.ref (d 0), .int p0])).length) Slot.unset).toArray = ls at hl ⊢
  have hl : lv_has ls 4 [(0, .ref (d 0)), (1, .int p0)] := hl
  rw [← hav]
  unfold mX3_namedByAny at h
  obtain ⟨rs7, rr7, at7, fa7, ra7, Z, hF7⟩ := Z
  refine lv_iconst (v := 0) C0.1.1 C0.1.2.1 dX3_namedByAny_0 (by decide) ?_
  refine lv_istore_n (lv' := [(2, .int (0 : Int32)), (0, .ref (d 0)), (1, .int p0)]) C0.1.1 C0.1.2.1 dX3_namedByAny_1 rfl hl (by decide) rfl (fun ls hl => ?_)
  refine lv_iconst (v := 0) C0.1.1 C0.1.2.1 dX3_namedByAny_2 (by decide) ?_
  refine lv_istore_n (lv' := [(3, .int (0 : Int32)), (2, .int (0 : Int32)), (0, .ref (d 0)), (1, .int p0)]) C0.1.1 C0.1.2.1 dX3_namedByAny_3 rfl hl (by decide) rfl (fun ls hl => ?_)
  exact wX3_namedByAny_4 (N := N) C0 hN hT hret N p0 (0 : Int32) (0 : Int32) _ _ _ h ⟨rs7, rr7, at7, fa7, ra7, Z, hF7⟩ (lv_sub hl [2, 3, 1, 0] rfl)
/-! X3_withDependencies -/
abbrev rmX3_withDependencies : Room := { frames := 2, cells := 0, slots := 0, locals := 44 }
def mX3_withDependencies_35 (N : Nat) (fw : Nat → Int32) (fn : Nat → Nat) (ff : Nat → Nat → Int32) (v2 : Int32) : Option (Int32) := some v2
def mX3_withDependencies_7_b (N : Nat) (fw : Nat → Int32) (fn : Nat → Nat) (ff : Nat → Nat → Int32) (r7 : Int32 → Int32 → Int32 → Option (Int32)) (v2 : Int32) (v3 : Int32) (v4 : Int32) : Option (Int32) := (if (30 : Int32) ≤ v4 then mX3_withDependencies_35 N fw fn ff v2 else (if v2 = v3 then mX3_withDependencies_35 N fw fn ff v2 else ((mX3_namedByAny N fw fn ff v2).bind fun x3 => r7 (v2 ||| x3) v2 (v4 + (1 : Int32)))))
def mX3_withDependencies_7 (N : Nat) (fw : Nat → Int32) (fn : Nat → Nat) (ff : Nat → Nat → Int32) : Nat → Int32 → Int32 → Int32 → Option (Int32)
  | 0 => fun _ _ _ => none
  | n_ + 1 => fun v2 v3 v4 => mX3_withDependencies_7_b N fw fn ff (mX3_withDependencies_7 N fw fn ff n_) v2 v3 v4
def mX3_withDependencies (N : Nat) (fw : Nat → Int32) (fn : Nat → Nat) (ff : Nat → Nat → Int32) (p0 : Int32) : Option (Int32) := mX3_withDependencies_7 N fw fn ff N p0 (0 : Int32) (0 : Int32)
set_option maxRecDepth 20000 in
set_option maxHeartbeats 4000000 in
theorem wX3_withDependencies_35 {p : Program} {l : Launch} {e : Env} {s : State} {m : MethodId} {args : Array Value} {below : List Frame} {meth : Method} {c : Code} {D : va_G} {cyI cyJ cyO : ClassId} {A : Nat → Prop} {bs : Nat} {P : List Nat} {g : Nat → va_E} {d : Nat → Nat} {eA : Nat} {Q : State → Prop} {ol : Int32} {fd : Int32} {dc : Int32} {ds : Nat → Int32} {fw : Nat → Int32} {fn : Nat → Nat} {ff : Nat → Nat → Int32} {qw : Nat → Int32} {qn : Nat → Nat} {qf : Nat → Nat → Int32} {va : Nat → Int64} {tr : Nat → Int64} {N : Nat} {res : Int32} (C0 : gC p m meth c cX3_withDependencies 5 (some .int) s args wsX3_withDependencies RX3) (hN : dN s) (hT : dT A s) (hret : ∀ (r : Int32) (H : Heap) (locs : List Loc) (pc : Nat) (ls : Array Slot), some r = some res → dZ D cyI cyJ cyO A bs P g d eA (d 5) (d 6) ol fd dc ds fw fn ff qw qn qf va tr s H locs → decode cX3_withDependencies pc = .ok (.ireturn, 1) → W p l e rmX3_withDependencies s m args below meth c H locs 0 0 Q (F0 m pc ls [.int r]))  : ∀ (v2 : Int32) (H : Heap) (locs : List Loc) (ls : Array Slot), mX3_withDependencies_35 N fw fn ff v2 = some res → dZ D cyI cyJ cyO A bs P g d eA (d 5) (d 6) ol fd dc ds fw fn ff qw qn qf va tr s H locs → lv_has ls 5 [(2, .int v2)] → W p l e rmX3_withDependencies s m args below meth c H locs 0 0 Q (F0 m 35 ls []) := by
  intro v2 H locs ls h Z hl
  unfold mX3_withDependencies_35 at h
  obtain ⟨rs1, rr1, at1, fa1, ra1, Z, hF1⟩ := Z
  refine lv_iload_n C0.1.1 C0.1.2.1 dX3_withDependencies_35 rfl (lv_at hl 0 rfl) ?_
  exact hret v2 _ _ _ _ h ⟨rs1, rr1, at1, fa1, ra1, Z, hF1⟩ dX3_withDependencies_36
set_option maxRecDepth 20000 in
set_option maxHeartbeats 4000000 in
theorem wX3_withDependencies_7_b {p : Program} {l : Launch} {e : Env} {s : State} {m : MethodId} {args : Array Value} {below : List Frame} {meth : Method} {c : Code} {D : va_G} {cyI cyJ cyO : ClassId} {A : Nat → Prop} {bs : Nat} {P : List Nat} {g : Nat → va_E} {d : Nat → Nat} {eA : Nat} {Q : State → Prop} {ol : Int32} {fd : Int32} {dc : Int32} {ds : Nat → Int32} {fw : Nat → Int32} {fn : Nat → Nat} {ff : Nat → Nat → Int32} {qw : Nat → Int32} {qn : Nat → Nat} {qf : Nat → Nat → Int32} {va : Nat → Int64} {tr : Nat → Int64} {N : Nat} {res : Int32} (C0 : gC p m meth c cX3_withDependencies 5 (some .int) s args wsX3_withDependencies RX3) (hN : dN s) (hT : dT A s) (hret : ∀ (r : Int32) (H : Heap) (locs : List Loc) (pc : Nat) (ls : Array Slot), some r = some res → dZ D cyI cyJ cyO A bs P g d eA (d 5) (d 6) ol fd dc ds fw fn ff qw qn qf va tr s H locs → decode cX3_withDependencies pc = .ok (.ireturn, 1) → W p l e rmX3_withDependencies s m args below meth c H locs 0 0 Q (F0 m pc ls [.int r])) {r7 : Int32 → Int32 → Int32 → Option (Int32)} (hr7 : ∀ (v2 : Int32) (v3 : Int32) (v4 : Int32) (H : Heap) (locs : List Loc) (ls : Array Slot), r7 v2 v3 v4 = some res → dZ D cyI cyJ cyO A bs P g d eA (d 5) (d 6) ol fd dc ds fw fn ff qw qn qf va tr s H locs → lv_has ls 5 [(0, .ref (d 0)), (2, .int v2), (3, .int v3), (4, .int v4)] → W p l e rmX3_withDependencies s m args below meth c H locs 0 0 Q (F0 m 7 ls [])) : ∀ (v2 : Int32) (v3 : Int32) (v4 : Int32) (H : Heap) (locs : List Loc) (ls : Array Slot), mX3_withDependencies_7_b N fw fn ff r7 v2 v3 v4 = some res → dZ D cyI cyJ cyO A bs P g d eA (d 5) (d 6) ol fd dc ds fw fn ff qw qn qf va tr s H locs → lv_has ls 5 [(0, .ref (d 0)), (2, .int v2), (3, .int v3), (4, .int v4)] → W p l e rmX3_withDependencies s m args below meth c H locs 0 0 Q (F0 m 7 ls []) := by
  intro v2 v3 v4 H locs ls h Z hl
  unfold mX3_withDependencies_7_b at h
  obtain ⟨rs2, rr2, at2, fa2, ra2, Z, hF2⟩ := Z
  refine lv_iload C0.1.1 C0.1.2.1 dX3_withDependencies_7 (lv_at hl 3 rfl) ?_
  refine lv_bipush (v := 30) C0.1.1 C0.1.2.1 dX3_withDependencies_9 (by decide +kernel) ?_
  refine lv_icmp_ge (tgt := 35) C0.1.1 C0.1.2.1 dX3_withDependencies_11 (by decide) (fun hc => ?_) (fun hc => ?_)
  · replace h := (if_pos hc).symm.trans h
    exact wX3_withDependencies_35 (N := N) C0 hN hT hret v2 _ _ _ h ⟨rs2, rr2, at2, fa2, ra2, Z, hF2⟩ (lv_sub hl [1] rfl)
  · replace h := (if_neg hc).symm.trans h
    refine lv_iload_n C0.1.1 C0.1.2.1 dX3_withDependencies_14 rfl (lv_at hl 1 rfl) ?_
    refine lv_iload_n C0.1.1 C0.1.2.1 dX3_withDependencies_15 rfl (lv_at hl 2 rfl) ?_
    refine lv_icmp_eq (tgt := 35) C0.1.1 C0.1.2.1 dX3_withDependencies_16 (by decide) (fun hc => ?_) (fun hc => ?_)
    · replace h := (if_pos hc).symm.trans h
      exact wX3_withDependencies_35 (N := N) C0 hN hT hret v2 _ _ _ h ⟨rs2, rr2, at2, fa2, ra2, Z, hF2⟩ (lv_sub hl [1] rfl)
    · replace h := (if_neg hc).symm.trans h
      refine lv_iload_n C0.1.1 C0.1.2.1 dX3_withDependencies_19 rfl (lv_at hl 1 rfl) ?_
      refine lv_istore_n (lv' := [(3, .int v2), (0, .ref (d 0)), (2, .int v2), (4, .int v4)]) C0.1.1 C0.1.2.1 dX3_withDependencies_20 rfl hl (by decide) rfl (fun ls hl => ?_)
      refine lv_iload_n C0.1.1 C0.1.2.1 dX3_withDependencies_21 rfl (lv_at hl 2 rfl) ?_
      refine lv_aload_n C0.1.1 C0.1.2.1 dX3_withDependencies_22 rfl (lv_at hl 1 rfl) ?_
      refine lv_iload_n C0.1.1 C0.1.2.1 dX3_withDependencies_23 rfl (lv_at hl 2 rfl) ?_
      obtain ⟨x3, hx4, h⟩ := g_bd h
      refine x_calli (va_runV (b := d 0) (C := RX3) (As := [.int v2]) (rest := [.int v2]) C0.1 (zX3_namedByAny l D cyI cyJ cyO A bs Z.2.2.2.2.2 P g d eA ol fd dc ds fw fn ff qw qn qf va tr N v2 x3 hx4) (cwV 1 C0.1.2.2.2.2 gX3_withDependencies_X3_namedByAny rfl rfl rfl (by decide +kernel) ⟨Nat.le_of_ble_eq_true rfl, Nat.le_of_ble_eq_true rfl⟩) ⟨dP_blind, va_recv Z.2.1 Z.1 (ci := 5) (q0 := 0) rfl rfl, dP_pre ⟨rs2, rr2, at2, fa2, ra2, Z, hF2⟩ hN hT _⟩ rfl rfl hl.1 rfl (lv_room (Nat.le_of_ble_eq_true rfl)) dX3_withDependencies_24 ⟨Nat.le_of_ble_eq_true rfl, Nat.le_of_ble_eq_true rfl⟩) Z.2.2.2.1 (fun u t H1 locs1 ht hvm hB hS => dW_post Z ht hvm hB hS) (fun r u H locs hw Z => ?_)
      subst hw
      obtain ⟨rs5, rr5, at5, fa5, ra5, Z, hF5⟩ := Z
      refine lv_ior C0.1.1 C0.1.2.1 dX3_withDependencies_27 ?_
      refine lv_istore_n (lv' := [(2, .int (v2 ||| x3)), (3, .int v2), (0, .ref (d 0)), (4, .int v4)]) C0.1.1 C0.1.2.1 dX3_withDependencies_28 rfl hl (by decide) rfl (fun ls hl => ?_)
      refine lv_iinc (v := v4 + (1 : Int32)) (lv' := [(4, .int (v4 + (1 : Int32))), (2, .int (v2 ||| x3)), (3, .int v2), (0, .ref (d 0))]) C0.1.1 C0.1.2.1 dX3_withDependencies_29 hl (k := 3) rfl rfl (by decide) rfl (fun ls hl => ?_)
      refine lv_goto (tgt := 7) C0.1.1 C0.1.2.1 dX3_withDependencies_32 (by decide) ?_
      exact hr7 (v2 ||| x3) v2 (v4 + (1 : Int32)) _ _ _ h ⟨rs5, rr5, at5, fa5, ra5, Z, hF5⟩ (lv_sub hl [3, 1, 2, 0] rfl)
theorem wX3_withDependencies_7 {p : Program} {l : Launch} {e : Env} {s : State} {m : MethodId} {args : Array Value} {below : List Frame} {meth : Method} {c : Code} {D : va_G} {cyI cyJ cyO : ClassId} {A : Nat → Prop} {bs : Nat} {P : List Nat} {g : Nat → va_E} {d : Nat → Nat} {eA : Nat} {Q : State → Prop} {ol : Int32} {fd : Int32} {dc : Int32} {ds : Nat → Int32} {fw : Nat → Int32} {fn : Nat → Nat} {ff : Nat → Nat → Int32} {qw : Nat → Int32} {qn : Nat → Nat} {qf : Nat → Nat → Int32} {va : Nat → Int64} {tr : Nat → Int64} {N : Nat} {res : Int32} (C0 : gC p m meth c cX3_withDependencies 5 (some .int) s args wsX3_withDependencies RX3) (hN : dN s) (hT : dT A s) (hret : ∀ (r : Int32) (H : Heap) (locs : List Loc) (pc : Nat) (ls : Array Slot), some r = some res → dZ D cyI cyJ cyO A bs P g d eA (d 5) (d 6) ol fd dc ds fw fn ff qw qn qf va tr s H locs → decode cX3_withDependencies pc = .ok (.ireturn, 1) → W p l e rmX3_withDependencies s m args below meth c H locs 0 0 Q (F0 m pc ls [.int r]))  : ∀ (n_ : Nat), ∀ (v2 : Int32) (v3 : Int32) (v4 : Int32) (H : Heap) (locs : List Loc) (ls : Array Slot), mX3_withDependencies_7 N fw fn ff n_ v2 v3 v4 = some res → dZ D cyI cyJ cyO A bs P g d eA (d 5) (d 6) ol fd dc ds fw fn ff qw qn qf va tr s H locs → lv_has ls 5 [(0, .ref (d 0)), (2, .int v2), (3, .int v3), (4, .int v4)] → W p l e rmX3_withDependencies s m args below meth c H locs 0 0 Q (F0 m 7 ls []) := by
  intro n_
  induction n_ with
  | zero => intro _ _ _ _ _ _ h; cases h
  | succ n_ ih => exact wX3_withDependencies_7_b (N := N) C0 hN hT hret ih
set_option maxRecDepth 20000 in
set_option maxHeartbeats 4000000 in
theorem zX3_withDependencies (l : Launch) (D : va_G) (cyI cyJ cyO : ClassId) (A : Nat → Prop) (bs : Nat) (hA : ∀ q, bs ≤ q → A q) (P : List Nat) (g : Nat → va_E) (d : Nat → Nat) (eA : Nat) (ol : Int32) (fd : Int32) (dc : Int32) (ds : Nat → Int32) (fw : Nat → Int32) (fn : Nat → Nat) (ff : Nat → Nat → Int32) (qw : Nat → Int32) (qn : Nat → Nat) (qf : Nat → Nat → Int32) (va : Nat → Int64) (tr : Nat → Int64) (N : Nat) (p0 : Int32) (res : Int32) (h : mX3_withDependencies N fw fn ff p0 = some res) : Met l yX3_withDependencies wsX3_withDependencies rmX3_withDependencies (va_Pc [.ref (d 0), .int p0] (dP (dW D cyI cyJ cyO A bs P g d eA (d 5) (d 6) ol fd dc ds fw fn ff qw qn qf va tr) A)) (va_Qi (fun (r : Int32) (_ : Unit) => res = r) (fun (u : Unit) U => dW D cyI cyJ cyO A bs P g d eA (d 5) (d 6) ol fd dc ds fw fn ff qw qn qf va tr U) A)  0 0 A := by
  refine Met.ofW (cc := cX3_withDependencies) (maxL := 5) (ret := (some .int)) (by decide) rfl ?_
  intro p e s m args below meth c s₁ B hml hv
  obtain ⟨hav, hv⟩ := hv
  obtain ⟨hv, hN, hT⟩ := hv
  have C0 : gC p m meth c cX3_withDependencies 5 (some .int) s args wsX3_withDependencies RX3 := ⟨⟨B.exec, B.bytes, hml, findClass_of_methodNamed B.named, atoms_spec (ws := wsX3_withDependencies) B.pre⟩, B.returns, B.notSynchronized⟩
  have Z := dZ_start hA hv
  have hret : ∀ (r : Int32) (H : Heap) (locs : List Loc) (pc : Nat) (ls : Array Slot), some r = some res → dZ D cyI cyJ cyO A bs P g d eA (d 5) (d 6) ol fd dc ds fw fn ff qw qn qf va tr s H locs → decode cX3_withDependencies pc = .ok (.ireturn, 1) → W p l e rmX3_withDependencies s m args below meth c H locs 0 0 (MQ below (va_Qi (fun (r : Int32) (_ : Unit) => res = r) (fun (u : Unit) U => dW D cyI cyJ cyO A bs P g d eA (d 5) (d 6) ol fd dc ds fw fn ff qw qn qf va tr U) A) args s 0 0 A) (F0 m pc ls [.int r]) := by
    intro r H locs pc ls h Z hd
    replace h := Option.some.inj h
    subst h
    exact W.iret C0.1.1 C0.1.2.1 C0.2.1 (fun t ht hW => ⟨⟨r, (), rfl, rfl, dZ_end Z ht hW⟩, va_S.F (dZ_S Z) ht⟩) (dZ_S Z).2.2 hd C0.2.2
  have hl := lv_entry ([.ref (d 0), .int p0]) (n := 5) (Nat.le_of_ble_eq_true rfl)
  rw [hav, lg_entry_eq]
  generalize (lg_sl ([.ref (d 0), .int p0]) ++ List.replicate (5 - (lg_sl ([.ref (d 0), .int p0])).length) Slot.unset).toArray = ls at hl ⊢
  have hl : lv_has ls 5 [(0, .ref (d 0)), (1, .int p0)] := hl
  rw [← hav]
  unfold mX3_withDependencies at h
  obtain ⟨rs6, rr6, at6, fa6, ra6, Z, hF6⟩ := Z
  refine lv_iload_n C0.1.1 C0.1.2.1 dX3_withDependencies_0 rfl (lv_at hl 1 rfl) ?_
  refine lv_istore_n (lv' := [(2, .int p0), (0, .ref (d 0)), (1, .int p0)]) C0.1.1 C0.1.2.1 dX3_withDependencies_1 rfl hl (by decide) rfl (fun ls hl => ?_)
  refine lv_iconst (v := 0) C0.1.1 C0.1.2.1 dX3_withDependencies_2 (by decide) ?_
  refine lv_istore_n (lv' := [(3, .int (0 : Int32)), (2, .int p0), (0, .ref (d 0)), (1, .int p0)]) C0.1.1 C0.1.2.1 dX3_withDependencies_3 rfl hl (by decide) rfl (fun ls hl => ?_)
  refine lv_iconst (v := 0) C0.1.1 C0.1.2.1 dX3_withDependencies_4 (by decide) ?_
  refine lv_istore (lv' := [(4, .int (0 : Int32)), (3, .int (0 : Int32)), (2, .int p0), (0, .ref (d 0)), (1, .int p0)]) C0.1.1 C0.1.2.1 dX3_withDependencies_5 hl (by decide) rfl (fun ls hl => ?_)
  exact wX3_withDependencies_7 (N := N) C0 hN hT hret N p0 (0 : Int32) (0 : Int32) _ _ _ h ⟨rs6, rr6, at6, fa6, ra6, Z, hF6⟩ (lv_sub hl [3, 2, 1, 0] rfl)
/-! X3_withDependents -/
abbrev rmX3_withDependents : Room := { frames := 1, cells := 0, slots := 0, locals := 20 }
theorem kX3_withDependents_in3 : ∀ w ∈ wsX30, w ∈ wsX3_withDependents := by decide +kernel
theorem kX3_withDependents_f34 : Cond.fieldLink RX3 34 "GoalseekOffice" "formulas" "[LGoalseekOffice$Formula;" ∈ wsX3_withDependents := by decide +kernel
theorem kX3_withDependents_in1 : ∀ w ∈ wsX10, w ∈ wsX3_withDependents := by decide +kernel
def mX3_withDependents_66 (N : Nat) (fw : Nat → Int32) (fn : Nat → Nat) (ff : Nat → Nat → Int32) (v2 : Int32) : Option (Int32) := some v2
def mX3_withDependents_54 (N : Nat) (fw : Nat → Int32) (fn : Nat → Nat) (ff : Nat → Nat → Int32) (r7 : Int32 → Int32 → Int32 → Option (Int32)) (r24 : Int32 → Int32 → Int32 → Int32 → Option (Int32)) (v2 : Int32) (v3 : Int32) (v4 : Int32) (v5 : Int32) : Option (Int32) := r24 v2 v3 v4 (v5 + (1 : Int32))
def mX3_withDependents_24_b (N : Nat) (fw : Nat → Int32) (fn : Nat → Nat) (ff : Nat → Nat → Int32) (r7 : Int32 → Int32 → Int32 → Option (Int32)) (r24 : Int32 → Int32 → Int32 → Int32 → Option (Int32)) (v2 : Int32) (v3 : Int32) (v4 : Int32) (v5 : Int32) : Option (Int32) := (if (30 : Int32) ≤ v5 then r7 v2 v3 (v4 + (1 : Int32)) else (if v5 < 0 ∨ 30 ≤ v5.toNatClampNeg then none else (if ((fw v5.toNatClampNeg) &&& v2) = 0 then mX3_withDependents_54 N fw fn ff r7 r24 v2 v3 v4 v5 else ((mX3_only N v5).bind fun x6 => mX3_withDependents_54 N fw fn ff r7 r24 (v2 ||| x6) v3 v4 v5))))
def mX3_withDependents_24 (N : Nat) (fw : Nat → Int32) (fn : Nat → Nat) (ff : Nat → Nat → Int32) (r7 : Int32 → Int32 → Int32 → Option (Int32)) : Nat → Int32 → Int32 → Int32 → Int32 → Option (Int32)
  | 0 => fun _ _ _ _ => none
  | n_ + 1 => fun v2 v3 v4 v5 => mX3_withDependents_24_b N fw fn ff r7 (mX3_withDependents_24 N fw fn ff r7 n_) v2 v3 v4 v5
def mX3_withDependents_7_b (N : Nat) (fw : Nat → Int32) (fn : Nat → Nat) (ff : Nat → Nat → Int32) (r7 : Int32 → Int32 → Int32 → Option (Int32)) (v2 : Int32) (v3 : Int32) (v4 : Int32) : Option (Int32) := (if (30 : Int32) ≤ v4 then mX3_withDependents_66 N fw fn ff v2 else (if v2 = v3 then mX3_withDependents_66 N fw fn ff v2 else mX3_withDependents_24 N fw fn ff r7 N v2 v2 v4 (0 : Int32)))
def mX3_withDependents_7 (N : Nat) (fw : Nat → Int32) (fn : Nat → Nat) (ff : Nat → Nat → Int32) : Nat → Int32 → Int32 → Int32 → Option (Int32)
  | 0 => fun _ _ _ => none
  | n_ + 1 => fun v2 v3 v4 => mX3_withDependents_7_b N fw fn ff (mX3_withDependents_7 N fw fn ff n_) v2 v3 v4
def mX3_withDependents (N : Nat) (fw : Nat → Int32) (fn : Nat → Nat) (ff : Nat → Nat → Int32) (p0 : Int32) : Option (Int32) := mX3_withDependents_7 N fw fn ff N p0 (0 : Int32) (0 : Int32)
set_option maxRecDepth 20000 in
set_option maxHeartbeats 4000000 in
theorem wX3_withDependents_66 {p : Program} {l : Launch} {e : Env} {s : State} {m : MethodId} {args : Array Value} {below : List Frame} {meth : Method} {c : Code} {D : va_G} {cyI cyJ cyO : ClassId} {A : Nat → Prop} {bs : Nat} {P : List Nat} {g : Nat → va_E} {d : Nat → Nat} {eA : Nat} {Q : State → Prop} {ol : Int32} {fd : Int32} {dc : Int32} {ds : Nat → Int32} {fw : Nat → Int32} {fn : Nat → Nat} {ff : Nat → Nat → Int32} {qw : Nat → Int32} {qn : Nat → Nat} {qf : Nat → Nat → Int32} {va : Nat → Int64} {tr : Nat → Int64} {N : Nat} {res : Int32} (C0 : gC p m meth c cX3_withDependents 6 (some .int) s args wsX3_withDependents RX3) (hN : dN s) (hT : dT A s) (hret : ∀ (r : Int32) (H : Heap) (locs : List Loc) (pc : Nat) (ls : Array Slot), some r = some res → dZ D cyI cyJ cyO A bs P g d eA (d 5) (d 6) ol fd dc ds fw fn ff qw qn qf va tr s H locs → decode cX3_withDependents pc = .ok (.ireturn, 1) → W p l e rmX3_withDependents s m args below meth c H locs 0 0 Q (F0 m pc ls [.int r]))  : ∀ (v2 : Int32) (H : Heap) (locs : List Loc) (ls : Array Slot), mX3_withDependents_66 N fw fn ff v2 = some res → dZ D cyI cyJ cyO A bs P g d eA (d 5) (d 6) ol fd dc ds fw fn ff qw qn qf va tr s H locs → lv_has ls 6 [(2, .int v2)] → W p l e rmX3_withDependents s m args below meth c H locs 0 0 Q (F0 m 66 ls []) := by
  intro v2 H locs ls h Z hl
  unfold mX3_withDependents_66 at h
  obtain ⟨rs1, rr1, at1, fa1, ra1, Z, hF1⟩ := Z
  refine lv_iload_n C0.1.1 C0.1.2.1 dX3_withDependents_66 rfl (lv_at hl 0 rfl) ?_
  exact hret v2 _ _ _ _ h ⟨rs1, rr1, at1, fa1, ra1, Z, hF1⟩ dX3_withDependents_67
set_option maxRecDepth 20000 in
set_option maxHeartbeats 4000000 in
theorem wX3_withDependents_54 {p : Program} {l : Launch} {e : Env} {s : State} {m : MethodId} {args : Array Value} {below : List Frame} {meth : Method} {c : Code} {D : va_G} {cyI cyJ cyO : ClassId} {A : Nat → Prop} {bs : Nat} {P : List Nat} {g : Nat → va_E} {d : Nat → Nat} {eA : Nat} {Q : State → Prop} {ol : Int32} {fd : Int32} {dc : Int32} {ds : Nat → Int32} {fw : Nat → Int32} {fn : Nat → Nat} {ff : Nat → Nat → Int32} {qw : Nat → Int32} {qn : Nat → Nat} {qf : Nat → Nat → Int32} {va : Nat → Int64} {tr : Nat → Int64} {N : Nat} {res : Int32} (C0 : gC p m meth c cX3_withDependents 6 (some .int) s args wsX3_withDependents RX3) (hN : dN s) (hT : dT A s) (hret : ∀ (r : Int32) (H : Heap) (locs : List Loc) (pc : Nat) (ls : Array Slot), some r = some res → dZ D cyI cyJ cyO A bs P g d eA (d 5) (d 6) ol fd dc ds fw fn ff qw qn qf va tr s H locs → decode cX3_withDependents pc = .ok (.ireturn, 1) → W p l e rmX3_withDependents s m args below meth c H locs 0 0 Q (F0 m pc ls [.int r])) {r7 : Int32 → Int32 → Int32 → Option (Int32)} (hr7 : ∀ (v2 : Int32) (v3 : Int32) (v4 : Int32) (H : Heap) (locs : List Loc) (ls : Array Slot), r7 v2 v3 v4 = some res → dZ D cyI cyJ cyO A bs P g d eA (d 5) (d 6) ol fd dc ds fw fn ff qw qn qf va tr s H locs → lv_has ls 6 [(0, .ref (d 0)), (2, .int v2), (3, .int v3), (4, .int v4)] → W p l e rmX3_withDependents s m args below meth c H locs 0 0 Q (F0 m 7 ls [])) {r24 : Int32 → Int32 → Int32 → Int32 → Option (Int32)} (hr24 : ∀ (v2 : Int32) (v3 : Int32) (v4 : Int32) (v5 : Int32) (H : Heap) (locs : List Loc) (ls : Array Slot), r24 v2 v3 v4 v5 = some res → dZ D cyI cyJ cyO A bs P g d eA (d 5) (d 6) ol fd dc ds fw fn ff qw qn qf va tr s H locs → lv_has ls 6 [(0, .ref (d 0)), (2, .int v2), (3, .int v3), (4, .int v4), (5, .int v5)] → W p l e rmX3_withDependents s m args below meth c H locs 0 0 Q (F0 m 24 ls [])) : ∀ (v2 : Int32) (v3 : Int32) (v4 : Int32) (v5 : Int32) (H : Heap) (locs : List Loc) (ls : Array Slot), mX3_withDependents_54 N fw fn ff r7 r24 v2 v3 v4 v5 = some res → dZ D cyI cyJ cyO A bs P g d eA (d 5) (d 6) ol fd dc ds fw fn ff qw qn qf va tr s H locs → lv_has ls 6 [(0, .ref (d 0)), (2, .int v2), (3, .int v3), (4, .int v4), (5, .int v5)] → W p l e rmX3_withDependents s m args below meth c H locs 0 0 Q (F0 m 54 ls []) := by
  intro v2 v3 v4 v5 H locs ls h Z hl
  unfold mX3_withDependents_54 at h
  obtain ⟨rs2, rr2, at2, fa2, ra2, Z, hF2⟩ := Z
  refine lv_iinc (v := v5 + (1 : Int32)) (lv' := [(5, .int (v5 + (1 : Int32))), (0, .ref (d 0)), (2, .int v2), (3, .int v3), (4, .int v4)]) C0.1.1 C0.1.2.1 dX3_withDependents_54 hl (k := 4) rfl rfl (by decide) rfl (fun ls hl => ?_)
  refine lv_goto (tgt := 24) C0.1.1 C0.1.2.1 dX3_withDependents_57 (by decide) ?_
  exact hr24 v2 v3 v4 (v5 + (1 : Int32)) _ _ _ h ⟨rs2, rr2, at2, fa2, ra2, Z, hF2⟩ (lv_sub hl [1, 2, 3, 4, 0] rfl)
set_option maxRecDepth 20000 in
set_option maxHeartbeats 4000000 in
theorem wX3_withDependents_24_b {p : Program} {l : Launch} {e : Env} {s : State} {m : MethodId} {args : Array Value} {below : List Frame} {meth : Method} {c : Code} {D : va_G} {cyI cyJ cyO : ClassId} {A : Nat → Prop} {bs : Nat} {P : List Nat} {g : Nat → va_E} {d : Nat → Nat} {eA : Nat} {Q : State → Prop} {ol : Int32} {fd : Int32} {dc : Int32} {ds : Nat → Int32} {fw : Nat → Int32} {fn : Nat → Nat} {ff : Nat → Nat → Int32} {qw : Nat → Int32} {qn : Nat → Nat} {qf : Nat → Nat → Int32} {va : Nat → Int64} {tr : Nat → Int64} {N : Nat} {res : Int32} (C0 : gC p m meth c cX3_withDependents 6 (some .int) s args wsX3_withDependents RX3) (hN : dN s) (hT : dT A s) (hret : ∀ (r : Int32) (H : Heap) (locs : List Loc) (pc : Nat) (ls : Array Slot), some r = some res → dZ D cyI cyJ cyO A bs P g d eA (d 5) (d 6) ol fd dc ds fw fn ff qw qn qf va tr s H locs → decode cX3_withDependents pc = .ok (.ireturn, 1) → W p l e rmX3_withDependents s m args below meth c H locs 0 0 Q (F0 m pc ls [.int r])) {r7 : Int32 → Int32 → Int32 → Option (Int32)} (hr7 : ∀ (v2 : Int32) (v3 : Int32) (v4 : Int32) (H : Heap) (locs : List Loc) (ls : Array Slot), r7 v2 v3 v4 = some res → dZ D cyI cyJ cyO A bs P g d eA (d 5) (d 6) ol fd dc ds fw fn ff qw qn qf va tr s H locs → lv_has ls 6 [(0, .ref (d 0)), (2, .int v2), (3, .int v3), (4, .int v4)] → W p l e rmX3_withDependents s m args below meth c H locs 0 0 Q (F0 m 7 ls [])) {r24 : Int32 → Int32 → Int32 → Int32 → Option (Int32)} (hr24 : ∀ (v2 : Int32) (v3 : Int32) (v4 : Int32) (v5 : Int32) (H : Heap) (locs : List Loc) (ls : Array Slot), r24 v2 v3 v4 v5 = some res → dZ D cyI cyJ cyO A bs P g d eA (d 5) (d 6) ol fd dc ds fw fn ff qw qn qf va tr s H locs → lv_has ls 6 [(0, .ref (d 0)), (2, .int v2), (3, .int v3), (4, .int v4), (5, .int v5)] → W p l e rmX3_withDependents s m args below meth c H locs 0 0 Q (F0 m 24 ls [])) : ∀ (v2 : Int32) (v3 : Int32) (v4 : Int32) (v5 : Int32) (H : Heap) (locs : List Loc) (ls : Array Slot), mX3_withDependents_24_b N fw fn ff r7 r24 v2 v3 v4 v5 = some res → dZ D cyI cyJ cyO A bs P g d eA (d 5) (d 6) ol fd dc ds fw fn ff qw qn qf va tr s H locs → lv_has ls 6 [(0, .ref (d 0)), (2, .int v2), (3, .int v3), (4, .int v4), (5, .int v5)] → W p l e rmX3_withDependents s m args below meth c H locs 0 0 Q (F0 m 24 ls []) := by
  intro v2 v3 v4 v5 H locs ls h Z hl
  unfold mX3_withDependents_24_b at h
  obtain ⟨rs3, rr3, at3, fa3, ra3, Z, hF3⟩ := Z
  refine lv_iload C0.1.1 C0.1.2.1 dX3_withDependents_24 (lv_at hl 4 rfl) ?_
  refine lv_bipush (v := 30) C0.1.1 C0.1.2.1 dX3_withDependents_26 (by decide +kernel) ?_
  refine lv_icmp_ge (tgt := 60) C0.1.1 C0.1.2.1 dX3_withDependents_28 (by decide) (fun hc => ?_) (fun hc => ?_)
  · replace h := (if_pos hc).symm.trans h
    refine lv_iinc (v := v4 + (1 : Int32)) (lv' := [(4, .int (v4 + (1 : Int32))), (0, .ref (d 0)), (2, .int v2), (3, .int v3), (5, .int v5)]) C0.1.1 C0.1.2.1 dX3_withDependents_60 hl (k := 3) rfl rfl (by decide) rfl (fun ls hl => ?_)
    refine lv_goto (tgt := 7) C0.1.1 C0.1.2.1 dX3_withDependents_63 (by decide) ?_
    exact hr7 v2 v3 (v4 + (1 : Int32)) _ _ _ h ⟨rs3, rr3, at3, fa3, ra3, Z, hF3⟩ (lv_sub hl [1, 2, 3, 0] rfl)
  · replace h := (if_neg hc).symm.trans h
    refine lv_aload_n C0.1.1 C0.1.2.1 dX3_withDependents_31 rfl (lv_at hl 0 rfl) ?_
    refine g_get (ci := 5) (v := .ref (d 3)) (T := TX3) (N := 9) C0.1 Z 0 rfl rfl 3 (by decide) kX3_withDependents_in3 kX3_withDependents_f34 rfl rfl dX3_withDependents_32 ?_
    refine lv_iload C0.1.1 C0.1.2.1 dX3_withDependents_35 (lv_at hl 4 rfl) ?_
    obtain ⟨hi4, h⟩ := g_ni h
    refine d_aldF C0.1 Z hF3 hi4 dX3_withDependents_37 (fun hb_5 => ?_)
    refine d_named (host := RX3) C0.1 Z hb_5 kX3_withDependents_in1 (hN.1 _ (List.mem_of_getElem? (i := 15) rfl)) dX3_withDependents_38 ?_
    refine lv_iload_n C0.1.1 C0.1.2.1 dX3_withDependents_41 rfl (lv_at hl 1 rfl) ?_
    refine lv_iand C0.1.1 C0.1.2.1 dX3_withDependents_42 ?_
    refine lv_if_eq (tgt := 54) C0.1.1 C0.1.2.1 dX3_withDependents_43 (by decide) (fun hc => ?_) (fun hc => ?_)
    · replace h := (if_pos hc).symm.trans h
      exact wX3_withDependents_54 (N := N) C0 hN hT hret hr7 hr24 v2 v3 v4 v5 _ _ _ h ⟨rs3, rr3, at3, fa3, ra3, Z, hF3⟩ (lv_sub hl [0, 1, 2, 3, 4] rfl)
    · replace h := (if_neg hc).symm.trans h
      refine lv_iload_n C0.1.1 C0.1.2.1 dX3_withDependents_46 rfl (lv_at hl 1 rfl) ?_
      refine lv_iload C0.1.1 C0.1.2.1 dX3_withDependents_47 (lv_at hl 4 rfl) ?_
      obtain ⟨x6, hx7, h⟩ := g_bd h
      refine x_calli (va_runS (As := [.int v5]) (rest := [.int v2]) C0.1 (zX3_only l D cyI cyJ cyO A bs Z.2.2.2.2.2 (XD d cyI cyJ cyO eA (d 5) (d 6) rs3 rr3 at3 fa3 ra3 ol fd dc ds va tr ++ va_pl P g) N v5 x6 hx7) (va_cwS 1 C0.1.2.2.2.2 gX3_withDependents_X3_only rfl rfl rfl (by decide +kernel) ⟨Nat.le_of_ble_eq_true rfl, Nat.le_of_ble_eq_true rfl⟩) ⟨g_blind, g_pre Z _⟩ rfl rfl hl.1 rfl (lv_room (Nat.le_of_ble_eq_true rfl)) dX3_withDependents_49 ⟨Nat.le_of_ble_eq_true rfl, Nat.le_of_ble_eq_true rfl⟩) Z.2.2.2.1 (fun u t H1 locs1 ht hvm hB hS => g_post Z ht hvm hB hS) (fun r u H locs hw Z => ?_)
      subst hw
      refine lv_ior C0.1.1 C0.1.2.1 dX3_withDependents_52 ?_
      refine lv_istore_n (lv' := [(2, .int (v2 ||| x6)), (0, .ref (d 0)), (3, .int v3), (4, .int v4), (5, .int v5)]) C0.1.1 C0.1.2.1 dX3_withDependents_53 rfl hl (by decide) rfl (fun ls hl => ?_)
      exact wX3_withDependents_54 (N := N) C0 hN hT hret hr7 hr24 (v2 ||| x6) v3 v4 v5 _ _ _ h ⟨rs3, rr3, at3, fa3, ra3, Z, hF3⟩ (lv_sub hl [1, 0, 2, 3, 4] rfl)
theorem wX3_withDependents_24 {p : Program} {l : Launch} {e : Env} {s : State} {m : MethodId} {args : Array Value} {below : List Frame} {meth : Method} {c : Code} {D : va_G} {cyI cyJ cyO : ClassId} {A : Nat → Prop} {bs : Nat} {P : List Nat} {g : Nat → va_E} {d : Nat → Nat} {eA : Nat} {Q : State → Prop} {ol : Int32} {fd : Int32} {dc : Int32} {ds : Nat → Int32} {fw : Nat → Int32} {fn : Nat → Nat} {ff : Nat → Nat → Int32} {qw : Nat → Int32} {qn : Nat → Nat} {qf : Nat → Nat → Int32} {va : Nat → Int64} {tr : Nat → Int64} {N : Nat} {res : Int32} (C0 : gC p m meth c cX3_withDependents 6 (some .int) s args wsX3_withDependents RX3) (hN : dN s) (hT : dT A s) (hret : ∀ (r : Int32) (H : Heap) (locs : List Loc) (pc : Nat) (ls : Array Slot), some r = some res → dZ D cyI cyJ cyO A bs P g d eA (d 5) (d 6) ol fd dc ds fw fn ff qw qn qf va tr s H locs → decode cX3_withDependents pc = .ok (.ireturn, 1) → W p l e rmX3_withDependents s m args below meth c H locs 0 0 Q (F0 m pc ls [.int r])) {r7 : Int32 → Int32 → Int32 → Option (Int32)} (hr7 : ∀ (v2 : Int32) (v3 : Int32) (v4 : Int32) (H : Heap) (locs : List Loc) (ls : Array Slot), r7 v2 v3 v4 = some res → dZ D cyI cyJ cyO A bs P g d eA (d 5) (d 6) ol fd dc ds fw fn ff qw qn qf va tr s H locs → lv_has ls 6 [(0, .ref (d 0)), (2, .int v2), (3, .int v3), (4, .int v4)] → W p l e rmX3_withDependents s m args below meth c H locs 0 0 Q (F0 m 7 ls [])) : ∀ (n_ : Nat), ∀ (v2 : Int32) (v3 : Int32) (v4 : Int32) (v5 : Int32) (H : Heap) (locs : List Loc) (ls : Array Slot), mX3_withDependents_24 N fw fn ff r7 n_ v2 v3 v4 v5 = some res → dZ D cyI cyJ cyO A bs P g d eA (d 5) (d 6) ol fd dc ds fw fn ff qw qn qf va tr s H locs → lv_has ls 6 [(0, .ref (d 0)), (2, .int v2), (3, .int v3), (4, .int v4), (5, .int v5)] → W p l e rmX3_withDependents s m args below meth c H locs 0 0 Q (F0 m 24 ls []) := by
  intro n_
  induction n_ with
  | zero => intro _ _ _ _ _ _ _ h; cases h
  | succ n_ ih => exact wX3_withDependents_24_b (N := N) C0 hN hT hret hr7 ih
set_option maxRecDepth 20000 in
set_option maxHeartbeats 4000000 in
theorem wX3_withDependents_7_b {p : Program} {l : Launch} {e : Env} {s : State} {m : MethodId} {args : Array Value} {below : List Frame} {meth : Method} {c : Code} {D : va_G} {cyI cyJ cyO : ClassId} {A : Nat → Prop} {bs : Nat} {P : List Nat} {g : Nat → va_E} {d : Nat → Nat} {eA : Nat} {Q : State → Prop} {ol : Int32} {fd : Int32} {dc : Int32} {ds : Nat → Int32} {fw : Nat → Int32} {fn : Nat → Nat} {ff : Nat → Nat → Int32} {qw : Nat → Int32} {qn : Nat → Nat} {qf : Nat → Nat → Int32} {va : Nat → Int64} {tr : Nat → Int64} {N : Nat} {res : Int32} (C0 : gC p m meth c cX3_withDependents 6 (some .int) s args wsX3_withDependents RX3) (hN : dN s) (hT : dT A s) (hret : ∀ (r : Int32) (H : Heap) (locs : List Loc) (pc : Nat) (ls : Array Slot), some r = some res → dZ D cyI cyJ cyO A bs P g d eA (d 5) (d 6) ol fd dc ds fw fn ff qw qn qf va tr s H locs → decode cX3_withDependents pc = .ok (.ireturn, 1) → W p l e rmX3_withDependents s m args below meth c H locs 0 0 Q (F0 m pc ls [.int r])) {r7 : Int32 → Int32 → Int32 → Option (Int32)} (hr7 : ∀ (v2 : Int32) (v3 : Int32) (v4 : Int32) (H : Heap) (locs : List Loc) (ls : Array Slot), r7 v2 v3 v4 = some res → dZ D cyI cyJ cyO A bs P g d eA (d 5) (d 6) ol fd dc ds fw fn ff qw qn qf va tr s H locs → lv_has ls 6 [(0, .ref (d 0)), (2, .int v2), (3, .int v3), (4, .int v4)] → W p l e rmX3_withDependents s m args below meth c H locs 0 0 Q (F0 m 7 ls [])) : ∀ (v2 : Int32) (v3 : Int32) (v4 : Int32) (H : Heap) (locs : List Loc) (ls : Array Slot), mX3_withDependents_7_b N fw fn ff r7 v2 v3 v4 = some res → dZ D cyI cyJ cyO A bs P g d eA (d 5) (d 6) ol fd dc ds fw fn ff qw qn qf va tr s H locs → lv_has ls 6 [(0, .ref (d 0)), (2, .int v2), (3, .int v3), (4, .int v4)] → W p l e rmX3_withDependents s m args below meth c H locs 0 0 Q (F0 m 7 ls []) := by
  intro v2 v3 v4 H locs ls h Z hl
  unfold mX3_withDependents_7_b at h
  obtain ⟨rs8, rr8, at8, fa8, ra8, Z, hF8⟩ := Z
  refine lv_iload C0.1.1 C0.1.2.1 dX3_withDependents_7 (lv_at hl 3 rfl) ?_
  refine lv_bipush (v := 30) C0.1.1 C0.1.2.1 dX3_withDependents_9 (by decide +kernel) ?_
  refine lv_icmp_ge (tgt := 66) C0.1.1 C0.1.2.1 dX3_withDependents_11 (by decide) (fun hc => ?_) (fun hc => ?_)
  · replace h := (if_pos hc).symm.trans h
    exact wX3_withDependents_66 (N := N) C0 hN hT hret v2 _ _ _ h ⟨rs8, rr8, at8, fa8, ra8, Z, hF8⟩ (lv_sub hl [1] rfl)
  · replace h := (if_neg hc).symm.trans h
    refine lv_iload_n C0.1.1 C0.1.2.1 dX3_withDependents_14 rfl (lv_at hl 1 rfl) ?_
    refine lv_iload_n C0.1.1 C0.1.2.1 dX3_withDependents_15 rfl (lv_at hl 2 rfl) ?_
    refine lv_icmp_eq (tgt := 66) C0.1.1 C0.1.2.1 dX3_withDependents_16 (by decide) (fun hc => ?_) (fun hc => ?_)
    · replace h := (if_pos hc).symm.trans h
      exact wX3_withDependents_66 (N := N) C0 hN hT hret v2 _ _ _ h ⟨rs8, rr8, at8, fa8, ra8, Z, hF8⟩ (lv_sub hl [1] rfl)
    · replace h := (if_neg hc).symm.trans h
      refine lv_iload_n C0.1.1 C0.1.2.1 dX3_withDependents_19 rfl (lv_at hl 1 rfl) ?_
      refine lv_istore_n (lv' := [(3, .int v2), (0, .ref (d 0)), (2, .int v2), (4, .int v4)]) C0.1.1 C0.1.2.1 dX3_withDependents_20 rfl hl (by decide) rfl (fun ls hl => ?_)
      refine lv_iconst (v := 0) C0.1.1 C0.1.2.1 dX3_withDependents_21 (by decide) ?_
      refine lv_istore (lv' := [(5, .int (0 : Int32)), (3, .int v2), (0, .ref (d 0)), (2, .int v2), (4, .int v4)]) C0.1.1 C0.1.2.1 dX3_withDependents_22 hl (by decide) rfl (fun ls hl => ?_)
      exact wX3_withDependents_24 (N := N) C0 hN hT hret hr7 N v2 v2 v4 (0 : Int32) _ _ _ h ⟨rs8, rr8, at8, fa8, ra8, Z, hF8⟩ (lv_sub hl [2, 3, 1, 4, 0] rfl)
theorem wX3_withDependents_7 {p : Program} {l : Launch} {e : Env} {s : State} {m : MethodId} {args : Array Value} {below : List Frame} {meth : Method} {c : Code} {D : va_G} {cyI cyJ cyO : ClassId} {A : Nat → Prop} {bs : Nat} {P : List Nat} {g : Nat → va_E} {d : Nat → Nat} {eA : Nat} {Q : State → Prop} {ol : Int32} {fd : Int32} {dc : Int32} {ds : Nat → Int32} {fw : Nat → Int32} {fn : Nat → Nat} {ff : Nat → Nat → Int32} {qw : Nat → Int32} {qn : Nat → Nat} {qf : Nat → Nat → Int32} {va : Nat → Int64} {tr : Nat → Int64} {N : Nat} {res : Int32} (C0 : gC p m meth c cX3_withDependents 6 (some .int) s args wsX3_withDependents RX3) (hN : dN s) (hT : dT A s) (hret : ∀ (r : Int32) (H : Heap) (locs : List Loc) (pc : Nat) (ls : Array Slot), some r = some res → dZ D cyI cyJ cyO A bs P g d eA (d 5) (d 6) ol fd dc ds fw fn ff qw qn qf va tr s H locs → decode cX3_withDependents pc = .ok (.ireturn, 1) → W p l e rmX3_withDependents s m args below meth c H locs 0 0 Q (F0 m pc ls [.int r]))  : ∀ (n_ : Nat), ∀ (v2 : Int32) (v3 : Int32) (v4 : Int32) (H : Heap) (locs : List Loc) (ls : Array Slot), mX3_withDependents_7 N fw fn ff n_ v2 v3 v4 = some res → dZ D cyI cyJ cyO A bs P g d eA (d 5) (d 6) ol fd dc ds fw fn ff qw qn qf va tr s H locs → lv_has ls 6 [(0, .ref (d 0)), (2, .int v2), (3, .int v3), (4, .int v4)] → W p l e rmX3_withDependents s m args below meth c H locs 0 0 Q (F0 m 7 ls []) := by
  intro n_
  induction n_ with
  | zero => intro _ _ _ _ _ _ h; cases h
  | succ n_ ih => exact wX3_withDependents_7_b (N := N) C0 hN hT hret ih
set_option maxRecDepth 20000 in
set_option maxHeartbeats 4000000 in
theorem zX3_withDependents (l : Launch) (D : va_G) (cyI cyJ cyO : ClassId) (A : Nat → Prop) (bs : Nat) (hA : ∀ q, bs ≤ q → A q) (P : List Nat) (g : Nat → va_E) (d : Nat → Nat) (eA : Nat) (ol : Int32) (fd : Int32) (dc : Int32) (ds : Nat → Int32) (fw : Nat → Int32) (fn : Nat → Nat) (ff : Nat → Nat → Int32) (qw : Nat → Int32) (qn : Nat → Nat) (qf : Nat → Nat → Int32) (va : Nat → Int64) (tr : Nat → Int64) (N : Nat) (p0 : Int32) (res : Int32) (h : mX3_withDependents N fw fn ff p0 = some res) : Met l yX3_withDependents wsX3_withDependents rmX3_withDependents (va_Pc [.ref (d 0), .int p0] (dP (dW D cyI cyJ cyO A bs P g d eA (d 5) (d 6) ol fd dc ds fw fn ff qw qn qf va tr) A)) (va_Qi (fun (r : Int32) (_ : Unit) => res = r) (fun (u : Unit) U => dW D cyI cyJ cyO A bs P g d eA (d 5) (d 6) ol fd dc ds fw fn ff qw qn qf va tr U) A)  0 0 A := by
  refine Met.ofW (cc := cX3_withDependents) (maxL := 6) (ret := (some .int)) (by decide) rfl ?_
  intro p e s m args below meth c s₁ B hml hv
  obtain ⟨hav, hv⟩ := hv
  obtain ⟨hv, hN, hT⟩ := hv
  have C0 : gC p m meth c cX3_withDependents 6 (some .int) s args wsX3_withDependents RX3 := ⟨⟨B.exec, B.bytes, hml, findClass_of_methodNamed B.named, atoms_spec (ws := wsX3_withDependents) B.pre⟩, B.returns, B.notSynchronized⟩
  have Z := dZ_start hA hv
  have hret : ∀ (r : Int32) (H : Heap) (locs : List Loc) (pc : Nat) (ls : Array Slot), some r = some res → dZ D cyI cyJ cyO A bs P g d eA (d 5) (d 6) ol fd dc ds fw fn ff qw qn qf va tr s H locs → decode cX3_withDependents pc = .ok (.ireturn, 1) → W p l e rmX3_withDependents s m args below meth c H locs 0 0 (MQ below (va_Qi (fun (r : Int32) (_ : Unit) => res = r) (fun (u : Unit) U => dW D cyI cyJ cyO A bs P g d eA (d 5) (d 6) ol fd dc ds fw fn ff qw qn qf va tr U) A) args s 0 0 A) (F0 m pc ls [.int r]) := by
    intro r H locs pc ls h Z hd
    replace h := Option.some.inj h
    subst h
    exact W.iret C0.1.1 C0.1.2.1 C0.2.1 (fun t ht hW => ⟨⟨r, (), rfl, rfl, dZ_end Z ht hW⟩, va_S.F (dZ_S Z) ht⟩) (dZ_S Z).2.2 hd C0.2.2
  have hl := lv_entry ([.ref (d 0), .int p0]) (n := 6) (Nat.le_of_ble_eq_true rfl)
  rw [hav, lg_entry_eq]
  generalize (lg_sl ([.ref (d 0), .int p0]) ++ List.replicate (6 - (lg_sl ([.ref (d 0), .int p0])).length) Slot.unset).toArray = ls at hl ⊢
  have hl : lv_has ls 6 [(0, .ref (d 0)), (1, .int p0)] := hl
  rw [← hav]
  unfold mX3_withDependents at h
  obtain ⟨rs9, rr9, at9, fa9, ra9, Z, hF9⟩ := Z
  refine lv_iload_n C0.1.1 C0.1.2.1 dX3_withDependents_0 rfl (lv_at hl 1 rfl) ?_
  refine lv_istore_n (lv' := [(2, .int p0), (0, .ref (d 0)), (1, .int p0)]) C0.1.1 C0.1.2.1 dX3_withDependents_1 rfl hl (by decide) rfl (fun ls hl => ?_)
  refine lv_iconst (v := 0) C0.1.1 C0.1.2.1 dX3_withDependents_2 (by decide) ?_
  refine lv_istore_n (lv' := [(3, .int (0 : Int32)), (2, .int p0), (0, .ref (d 0)), (1, .int p0)]) C0.1.1 C0.1.2.1 dX3_withDependents_3 rfl hl (by decide) rfl (fun ls hl => ?_)
  refine lv_iconst (v := 0) C0.1.1 C0.1.2.1 dX3_withDependents_4 (by decide) ?_
  refine lv_istore (lv' := [(4, .int (0 : Int32)), (3, .int (0 : Int32)), (2, .int p0), (0, .ref (d 0)), (1, .int p0)]) C0.1.1 C0.1.2.1 dX3_withDependents_5 hl (by decide) rfl (fun ls hl => ?_)
  exact wX3_withDependents_7 (N := N) C0 hN hT hret N p0 (0 : Int32) (0 : Int32) _ _ _ h ⟨rs9, rr9, at9, fa9, ra9, Z, hF9⟩ (lv_sub hl [3, 2, 1, 0] rfl)
/-! X3_level -/
abbrev rmX3_level : Room := { frames := 7, cells := 1, slots := 6, locals := 112 }
theorem kX3_level_in3 : ∀ w ∈ wsX30, w ∈ wsX3_level := by decide +kernel
theorem kX3_level_f34 : Cond.fieldLink RX3 34 "GoalseekOffice" "formulas" "[LGoalseekOffice$Formula;" ∈ wsX3_level := by decide +kernel
theorem kX3_level_in1 : ∀ w ∈ wsX10, w ∈ wsX3_level := by decide +kernel
def mX3_level_38 (N : Nat) (fw : Nat → Int32) (fn : Nat → Nat) (ff : Nat → Nat → Int32) (v2 : Int32) : Option (Nat × Int32) := some (0, v2)
def mX3_level_16_b (N : Nat) (fw : Nat → Int32) (fn : Nat → Nat) (ff : Nat → Nat → Int32) (r16 : Int32 → Int32 → Option (Nat × Int32)) (v2 : Int32) (v3 : Int32) : Option (Nat × Int32) := (if v3 = 0 then mX3_level_38 N fw fn ff v2 else (if (30 : Int32) ≤ v2 then mX3_level_38 N fw fn ff v2 else ((mX3_namedByAny N fw fn ff v3).bind fun x3 => r16 (v2 + (1 : Int32)) x3)))
def mX3_level_16 (N : Nat) (fw : Nat → Int32) (fn : Nat → Nat) (ff : Nat → Nat → Int32) : Nat → Int32 → Int32 → Option (Nat × Int32)
  | 0 => fun _ _ => none
  | n_ + 1 => fun v2 v3 => mX3_level_16_b N fw fn ff (mX3_level_16 N fw fn ff n_) v2 v3
def mX3_level (N : Nat) (fw : Nat → Int32) (fn : Nat → Nat) (ff : Nat → Nat → Int32) (p0 : Int32) : Option (Nat × Int32) := ((mX3_requireCell N p0).bind fun x7 => (if x7 = 0 then (if p0 < 0 ∨ 30 ≤ p0.toNatClampNeg then none else mX3_level_16 N fw fn ff N (0 : Int32) (fw p0.toNatClampNeg)) else some (x7, 0)))
set_option maxRecDepth 20000 in
set_option maxHeartbeats 4000000 in
theorem wX3_level_38 {p : Program} {l : Launch} {e : Env} {s : State} {m : MethodId} {args : Array Value} {below : List Frame} {meth : Method} {c : Code} {D : va_G} {cyI cyJ cyO : ClassId} {A : Nat → Prop} {bs : Nat} {P : List Nat} {g : Nat → va_E} {d : Nat → Nat} {eA : Nat} {Qc : Array Value → State → Outcome → State → Prop} {XC : String → State → State → Prop} {ol : Int32} {fd : Int32} {dc : Int32} {ds : Nat → Int32} {fw : Nat → Int32} {fn : Nat → Nat} {ff : Nat → Nat → Int32} {qw : Nat → Int32} {qn : Nat → Nat} {qf : Nat → Nat → Int32} {va : Nat → Int64} {tr : Nat → Int64} {N : Nat} {res : Nat × Int32} (C0 : gC p m meth c cX3_level 4 (some .int) s args wsX3_level RX3) (hN : dN s) (hT : dT A s) (hxt : ∀ x ∈ c.exceptionTable.toList, False) (hlf : l.stackTraces = false) (hret : ∀ (r : Int32) (H : Heap) (locs : List Loc) (pc : Nat) (ls : Array Slot), some (0, r) = some res → dZ D cyI cyJ cyO A bs P g d eA (d 5) (d 6) ol fd dc ds fw fn ff qw qn qf va tr s H locs → decode cX3_level pc = .ok (.ireturn, 1) → W p l e rmX3_level s m args below meth c H locs 1 6 (vx_MQ below Qc XC args s 1 6 A) (F0 m pc ls [.int r])) (hxc : ∀ (k : Nat) (H : Heap) (locs : List Loc) (t : State), k ≠ 0 → some (k, 0) = some res → dZ D cyI cyJ cyO A bs P g d eA (d 5) (d 6) ol fd dc ds fw fn ff qw qn qf va tr s H locs → s.vm.Alike t.vm → H.size ≤ t.heap.size → (∀ q : Nat, q < H.size → t.heap[q]? = H[q]?) → XC (exN k) s t)  : ∀ (v2 : Int32) (H : Heap) (locs : List Loc) (ls : Array Slot), mX3_level_38 N fw fn ff v2 = some res → dZ D cyI cyJ cyO A bs P g d eA (d 5) (d 6) ol fd dc ds fw fn ff qw qn qf va tr s H locs → lv_has ls 4 [(2, .int v2)] → W p l e rmX3_level s m args below meth c H locs 1 6 (vx_MQ below Qc XC args s 1 6 A) (F0 m 38 ls []) := by
  intro v2 H locs ls h Z hl
  unfold mX3_level_38 at h
  obtain ⟨rs1, rr1, at1, fa1, ra1, Z, hF1⟩ := Z
  refine lv_iload_n C0.1.1 C0.1.2.1 dX3_level_38 rfl (lv_at hl 0 rfl) ?_
  exact hret v2 _ _ _ _ h ⟨rs1, rr1, at1, fa1, ra1, Z, hF1⟩ dX3_level_39
set_option maxRecDepth 20000 in
set_option maxHeartbeats 4000000 in
theorem wX3_level_16_b {p : Program} {l : Launch} {e : Env} {s : State} {m : MethodId} {args : Array Value} {below : List Frame} {meth : Method} {c : Code} {D : va_G} {cyI cyJ cyO : ClassId} {A : Nat → Prop} {bs : Nat} {P : List Nat} {g : Nat → va_E} {d : Nat → Nat} {eA : Nat} {Qc : Array Value → State → Outcome → State → Prop} {XC : String → State → State → Prop} {ol : Int32} {fd : Int32} {dc : Int32} {ds : Nat → Int32} {fw : Nat → Int32} {fn : Nat → Nat} {ff : Nat → Nat → Int32} {qw : Nat → Int32} {qn : Nat → Nat} {qf : Nat → Nat → Int32} {va : Nat → Int64} {tr : Nat → Int64} {N : Nat} {res : Nat × Int32} (C0 : gC p m meth c cX3_level 4 (some .int) s args wsX3_level RX3) (hN : dN s) (hT : dT A s) (hxt : ∀ x ∈ c.exceptionTable.toList, False) (hlf : l.stackTraces = false) (hret : ∀ (r : Int32) (H : Heap) (locs : List Loc) (pc : Nat) (ls : Array Slot), some (0, r) = some res → dZ D cyI cyJ cyO A bs P g d eA (d 5) (d 6) ol fd dc ds fw fn ff qw qn qf va tr s H locs → decode cX3_level pc = .ok (.ireturn, 1) → W p l e rmX3_level s m args below meth c H locs 1 6 (vx_MQ below Qc XC args s 1 6 A) (F0 m pc ls [.int r])) (hxc : ∀ (k : Nat) (H : Heap) (locs : List Loc) (t : State), k ≠ 0 → some (k, 0) = some res → dZ D cyI cyJ cyO A bs P g d eA (d 5) (d 6) ol fd dc ds fw fn ff qw qn qf va tr s H locs → s.vm.Alike t.vm → H.size ≤ t.heap.size → (∀ q : Nat, q < H.size → t.heap[q]? = H[q]?) → XC (exN k) s t) {r16 : Int32 → Int32 → Option (Nat × Int32)} (hr16 : ∀ (v2 : Int32) (v3 : Int32) (H : Heap) (locs : List Loc) (ls : Array Slot), r16 v2 v3 = some res → dZ D cyI cyJ cyO A bs P g d eA (d 5) (d 6) ol fd dc ds fw fn ff qw qn qf va tr s H locs → lv_has ls 4 [(0, .ref (d 0)), (2, .int v2), (3, .int v3)] → W p l e rmX3_level s m args below meth c H locs 1 6 (vx_MQ below Qc XC args s 1 6 A) (F0 m 16 ls [])) : ∀ (v2 : Int32) (v3 : Int32) (H : Heap) (locs : List Loc) (ls : Array Slot), mX3_level_16_b N fw fn ff r16 v2 v3 = some res → dZ D cyI cyJ cyO A bs P g d eA (d 5) (d 6) ol fd dc ds fw fn ff qw qn qf va tr s H locs → lv_has ls 4 [(0, .ref (d 0)), (2, .int v2), (3, .int v3)] → W p l e rmX3_level s m args below meth c H locs 1 6 (vx_MQ below Qc XC args s 1 6 A) (F0 m 16 ls []) := by
  intro v2 v3 H locs ls h Z hl
  unfold mX3_level_16_b at h
  obtain ⟨rs2, rr2, at2, fa2, ra2, Z, hF2⟩ := Z
  refine lv_iload_n C0.1.1 C0.1.2.1 dX3_level_16 rfl (lv_at hl 2 rfl) ?_
  refine lv_if_eq (tgt := 38) C0.1.1 C0.1.2.1 dX3_level_17 (by decide) (fun hc => ?_) (fun hc => ?_)
  · replace h := (if_pos hc).symm.trans h
    exact wX3_level_38 (N := N) C0 hN hT hxt hlf hret hxc v2 _ _ _ h ⟨rs2, rr2, at2, fa2, ra2, Z, hF2⟩ (lv_sub hl [1] rfl)
  · replace h := (if_neg hc).symm.trans h
    refine lv_iload_n C0.1.1 C0.1.2.1 dX3_level_20 rfl (lv_at hl 1 rfl) ?_
    refine lv_bipush (v := 30) C0.1.1 C0.1.2.1 dX3_level_21 (by decide +kernel) ?_
    refine lv_icmp_ge (tgt := 38) C0.1.1 C0.1.2.1 dX3_level_23 (by decide) (fun hc => ?_) (fun hc => ?_)
    · replace h := (if_pos hc).symm.trans h
      exact wX3_level_38 (N := N) C0 hN hT hxt hlf hret hxc v2 _ _ _ h ⟨rs2, rr2, at2, fa2, ra2, Z, hF2⟩ (lv_sub hl [1] rfl)
    · replace h := (if_neg hc).symm.trans h
      refine lv_iinc (v := v2 + (1 : Int32)) (lv' := [(2, .int (v2 + (1 : Int32))), (0, .ref (d 0)), (3, .int v3)]) C0.1.1 C0.1.2.1 dX3_level_26 hl (k := 1) rfl rfl (by decide) rfl (fun ls hl => ?_)
      refine lv_aload_n C0.1.1 C0.1.2.1 dX3_level_29 rfl (lv_at hl 1 rfl) ?_
      refine lv_iload_n C0.1.1 C0.1.2.1 dX3_level_30 rfl (lv_at hl 2 rfl) ?_
      obtain ⟨x3, hx4, h⟩ := g_bd h
      refine x_calli (va_runV (b := d 0) (C := RX3) (As := [.int v3]) (rest := []) C0.1 (zX3_namedByAny l D cyI cyJ cyO A bs Z.2.2.2.2.2 P g d eA ol fd dc ds fw fn ff qw qn qf va tr N v3 x3 hx4) (cwV 1 C0.1.2.2.2.2 gX3_level_X3_namedByAny rfl rfl rfl (by decide +kernel) ⟨Nat.le_of_ble_eq_true rfl, Nat.le_of_ble_eq_true rfl⟩) ⟨dP_blind, va_recv Z.2.1 Z.1 (ci := 5) (q0 := 0) rfl rfl, dP_pre ⟨rs2, rr2, at2, fa2, ra2, Z, hF2⟩ hN hT _⟩ rfl rfl hl.1 rfl (lv_room (Nat.le_of_ble_eq_true rfl)) dX3_level_31 ⟨Nat.le_of_ble_eq_true rfl, Nat.le_of_ble_eq_true rfl⟩) Z.2.2.2.1 (fun u t H1 locs1 ht hvm hB hS => dW_post Z ht hvm hB hS) (fun r u H locs hw Z => ?_)
      subst hw
      obtain ⟨rs5, rr5, at5, fa5, ra5, Z, hF5⟩ := Z
      refine lv_istore_n (lv' := [(3, .int x3), (2, .int (v2 + (1 : Int32))), (0, .ref (d 0))]) C0.1.1 C0.1.2.1 dX3_level_34 rfl hl (by decide) rfl (fun ls hl => ?_)
      refine lv_goto (tgt := 16) C0.1.1 C0.1.2.1 dX3_level_35 (by decide) ?_
      exact hr16 (v2 + (1 : Int32)) x3 _ _ _ h ⟨rs5, rr5, at5, fa5, ra5, Z, hF5⟩ (lv_sub hl [2, 1, 0] rfl)
theorem wX3_level_16 {p : Program} {l : Launch} {e : Env} {s : State} {m : MethodId} {args : Array Value} {below : List Frame} {meth : Method} {c : Code} {D : va_G} {cyI cyJ cyO : ClassId} {A : Nat → Prop} {bs : Nat} {P : List Nat} {g : Nat → va_E} {d : Nat → Nat} {eA : Nat} {Qc : Array Value → State → Outcome → State → Prop} {XC : String → State → State → Prop} {ol : Int32} {fd : Int32} {dc : Int32} {ds : Nat → Int32} {fw : Nat → Int32} {fn : Nat → Nat} {ff : Nat → Nat → Int32} {qw : Nat → Int32} {qn : Nat → Nat} {qf : Nat → Nat → Int32} {va : Nat → Int64} {tr : Nat → Int64} {N : Nat} {res : Nat × Int32} (C0 : gC p m meth c cX3_level 4 (some .int) s args wsX3_level RX3) (hN : dN s) (hT : dT A s) (hxt : ∀ x ∈ c.exceptionTable.toList, False) (hlf : l.stackTraces = false) (hret : ∀ (r : Int32) (H : Heap) (locs : List Loc) (pc : Nat) (ls : Array Slot), some (0, r) = some res → dZ D cyI cyJ cyO A bs P g d eA (d 5) (d 6) ol fd dc ds fw fn ff qw qn qf va tr s H locs → decode cX3_level pc = .ok (.ireturn, 1) → W p l e rmX3_level s m args below meth c H locs 1 6 (vx_MQ below Qc XC args s 1 6 A) (F0 m pc ls [.int r])) (hxc : ∀ (k : Nat) (H : Heap) (locs : List Loc) (t : State), k ≠ 0 → some (k, 0) = some res → dZ D cyI cyJ cyO A bs P g d eA (d 5) (d 6) ol fd dc ds fw fn ff qw qn qf va tr s H locs → s.vm.Alike t.vm → H.size ≤ t.heap.size → (∀ q : Nat, q < H.size → t.heap[q]? = H[q]?) → XC (exN k) s t)  : ∀ (n_ : Nat), ∀ (v2 : Int32) (v3 : Int32) (H : Heap) (locs : List Loc) (ls : Array Slot), mX3_level_16 N fw fn ff n_ v2 v3 = some res → dZ D cyI cyJ cyO A bs P g d eA (d 5) (d 6) ol fd dc ds fw fn ff qw qn qf va tr s H locs → lv_has ls 4 [(0, .ref (d 0)), (2, .int v2), (3, .int v3)] → W p l e rmX3_level s m args below meth c H locs 1 6 (vx_MQ below Qc XC args s 1 6 A) (F0 m 16 ls []) := by
  intro n_
  induction n_ with
  | zero => intro _ _ _ _ _ h; cases h
  | succ n_ ih => exact wX3_level_16_b (N := N) C0 hN hT hxt hlf hret hxc ih
set_option maxRecDepth 20000 in
set_option maxHeartbeats 4000000 in
theorem zX3_level (l : Launch) (hlf : l.stackTraces = false) (D : va_G) (cyI cyJ cyO : ClassId) (A : Nat → Prop) (bs : Nat) (hA : ∀ q, bs ≤ q → A q) (P : List Nat) (g : Nat → va_E) (d : Nat → Nat) (eA : Nat) (ol : Int32) (fd : Int32) (dc : Int32) (ds : Nat → Int32) (fw : Nat → Int32) (fn : Nat → Nat) (ff : Nat → Nat → Int32) (qw : Nat → Int32) (qn : Nat → Nat) (qf : Nat → Nat → Int32) (va : Nat → Int64) (tr : Nat → Int64) (N : Nat) (p0 : Int32) (res : Nat × Int32) (h : mX3_level N fw fn ff p0 = some res) : vx_Met l yX3_level wsX3_level rmX3_level (va_Pc [.ref (d 0), .int p0] (dP (dW D cyI cyJ cyO A bs P g d eA (d 5) (d 6) ol fd dc ds fw fn ff qw qn qf va tr) A)) (va_Qi (fun (r : Int32) (_ : Unit) => res.1 = 0 ∧ res.2 = r) (fun (u : Unit) U => dW D cyI cyJ cyO A bs P g d eA (d 5) (d 6) ol fd dc ds fw fn ff qw qn qf va tr U) A) (vx_X (S := Unit) (fun _ => True) (fun E u t => res.1 ≠ 0 ∧ E = exN res.1 ∧ dW D cyI cyJ cyO A bs P g d eA (d 5) (d 6) ol fd dc ds fw fn ff qw qn qf va tr t) A) 1 6 A := by
  refine vx_ofW (cc := cX3_level) (maxL := 4) (ret := (some .int)) (by decide) rfl ?_
  intro p e s m args below meth c s₁ B hml hxt hv
  obtain ⟨hav, hv⟩ := hv
  obtain ⟨hv, hN, hT⟩ := hv
  have C0 : gC p m meth c cX3_level 4 (some .int) s args wsX3_level RX3 := ⟨⟨B.exec, B.bytes, hml, findClass_of_methodNamed B.named, atoms_spec (ws := wsX3_level) B.pre⟩, B.returns, B.notSynchronized⟩
  have Z := dZ_start hA hv
  have hret : ∀ (r : Int32) (H : Heap) (locs : List Loc) (pc : Nat) (ls : Array Slot), some (0, r) = some res → dZ D cyI cyJ cyO A bs P g d eA (d 5) (d 6) ol fd dc ds fw fn ff qw qn qf va tr s H locs → decode cX3_level pc = .ok (.ireturn, 1) → W p l e rmX3_level s m args below meth c H locs 1 6 (vx_MQ below (va_Qi (fun (r : Int32) (_ : Unit) => res.1 = 0 ∧ res.2 = r) (fun (u : Unit) U => dW D cyI cyJ cyO A bs P g d eA (d 5) (d 6) ol fd dc ds fw fn ff qw qn qf va tr U) A) (vx_X (S := Unit) (fun _ => True) (fun E u t => res.1 ≠ 0 ∧ E = exN res.1 ∧ dW D cyI cyJ cyO A bs P g d eA (d 5) (d 6) ol fd dc ds fw fn ff qw qn qf va tr t) A) args s 1 6 A) (F0 m pc ls [.int r]) := by
    intro r H locs pc ls h Z hd
    replace h := Option.some.inj h
    subst h
    exact vx_ret (W.iret C0.1.1 C0.1.2.1 C0.2.1 (fun t ht hW => ⟨⟨r, (), rfl, ⟨rfl, rfl⟩, dZ_end Z ht hW⟩, va_S.F (dZ_S Z) ht⟩) (dZ_S Z).2.2 hd C0.2.2)
  have hxc : ∀ (k : Nat) (H : Heap) (locs : List Loc) (t : State), k ≠ 0 → some (k, 0) = some res → dZ D cyI cyJ cyO A bs P g d eA (d 5) (d 6) ol fd dc ds fw fn ff qw qn qf va tr s H locs → s.vm.Alike t.vm → H.size ≤ t.heap.size → (∀ q : Nat, q < H.size → t.heap[q]? = H[q]?) → (vx_X (S := Unit) (fun _ => True) (fun E u t => res.1 ≠ 0 ∧ E = exN res.1 ∧ dW D cyI cyJ cyO A bs P g d eA (d 5) (d 6) ol fd dc ds fw fn ff qw qn qf va tr t) A) (exN k) s t := by
    intro k H locs t hk h Z hvm hz hq
    replace h := Option.some.inj h
    subst h
    exact ⟨(), trivial, ⟨hk, rfl, dW_grow Z hvm hz hq⟩, vaF_grow (dZ_S Z) hz hq⟩
  have hl := lv_entry ([.ref (d 0), .int p0]) (n := 4) (Nat.le_of_ble_eq_true rfl)
  rw [hav, lg_entry_eq]
  generalize (lg_sl ([.ref (d 0), .int p0]) ++ List.replicate (4 - (lg_sl ([.ref (d 0), .int p0])).length) Slot.unset).toArray = ls at hl ⊢
  have hl : lv_has ls 4 [(0, .ref (d 0)), (1, .int p0)] := hl
  rw [← hav]
  unfold mX3_level at h
  obtain ⟨rs6, rr6, at6, fa6, ra6, Z, hF6⟩ := Z
  refine lv_iload_n C0.1.1 C0.1.2.1 dX3_level_0 rfl (lv_at hl 1 rfl) ?_
  obtain ⟨x7, hx8, h⟩ := g_bd h
  refine x_xcallv (vx_runS (As := [.int p0]) (rest := []) C0.1 (zX3_requireCell l hlf D cyI cyJ cyO A bs Z.2.2.2.2.2 (XD d cyI cyJ cyO eA (d 5) (d 6) rs6 rr6 at6 fa6 ra6 ol fd dc ds va tr ++ va_pl P g) N p0 x7 hx8) (va_cwS 1 C0.1.2.2.2.2 gX3_level_X3_requireCell rfl rfl rfl (by decide +kernel) ⟨Nat.le_of_ble_eq_true rfl, Nat.le_of_ble_eq_true rfl⟩) ⟨gP_blind, gP_pre Z hN hT _⟩ rfl rfl hl.1 rfl (lv_room (Nat.le_of_ble_eq_true rfl)) dX3_level_1 ⟨Nat.le_of_ble_eq_true rfl, Nat.le_of_ble_eq_true rfl⟩) Z.2.2.2.1 (fun u t H1 locs1 ht hvm hB hS => g_post Z ht hvm hB hS) (fun E ce q9 u t H locs ht hvm _ hB hS h1 h2 h3 => ?_) (fun u H locs hw Z => ?_)
  · obtain ⟨hk, rfl, hB⟩ := hB
    replace h := (if_neg hk).symm.trans h
    exact vx_out (fun x hx => (hxt x hx).elim) C0.2.2 h1 h2 h3 (fun t1 ht1 hvm1 => hxc x7  _ _ t1 hk h (⟨rs6, rr6, at6, fa6, ra6, g_post Z ht hvm hB hS, hF6⟩) hvm1 (by rw [ht1]; exact Nat.le_refl _) (fun q _ => by rw [ht1])) hS.2.2 (Nat.le_of_ble_eq_true rfl) (Nat.le_of_ble_eq_true rfl)
  replace h := (if_pos hw).symm.trans h
  refine lv_iconst (v := 0) C0.1.1 C0.1.2.1 dX3_level_4 (by decide) ?_
  refine lv_istore_n (lv' := [(2, .int (0 : Int32)), (0, .ref (d 0)), (1, .int p0)]) C0.1.1 C0.1.2.1 dX3_level_5 rfl hl (by decide) rfl (fun ls hl => ?_)
  refine lv_aload_n C0.1.1 C0.1.2.1 dX3_level_6 rfl (lv_at hl 1 rfl) ?_
  refine g_get (ci := 5) (v := .ref (d 3)) (T := TX3) (N := 9) C0.1 Z 0 rfl rfl 3 (by decide) kX3_level_in3 kX3_level_f34 rfl rfl dX3_level_7 ?_
  refine lv_iload_n C0.1.1 C0.1.2.1 dX3_level_10 rfl (lv_at hl 2 rfl) ?_
  obtain ⟨hi9, h⟩ := g_ni h
  refine d_aldF C0.1 Z hF6 hi9 dX3_level_11 (fun hb_10 => ?_)
  refine d_named (host := RX3) C0.1 Z hb_10 kX3_level_in1 (hN.1 _ (List.mem_of_getElem? (i := 15) rfl)) dX3_level_12 ?_
  refine lv_istore_n (lv' := [(3, .int (fw p0.toNatClampNeg)), (2, .int (0 : Int32)), (0, .ref (d 0)), (1, .int p0)]) C0.1.1 C0.1.2.1 dX3_level_15 rfl hl (by decide) rfl (fun ls hl => ?_)
  exact wX3_level_16 (N := N) C0 hN hT hxt hlf hret hxc N (0 : Int32) (fw p0.toNatClampNeg) _ _ _ h ⟨rs6, rr6, at6, fa6, ra6, Z, hF6⟩ (lv_sub hl [2, 1, 0] rfl)
/-! X3_dependsOn -/
abbrev rmX3_dependsOn : Room := { frames := 3, cells := 0, slots := 0, locals := 68 }
def mX3_dependsOn_25 (N : Nat) (fw : Nat → Int32) (fn : Nat → Nat) (ff : Nat → Nat → Int32) (s0 : Int32) : Option (Int32) := (if (s0 = 0 ∨ s0 = 1) then some s0 else none)
def mX3_dependsOn_24 (N : Nat) (fw : Nat → Int32) (fn : Nat → Nat) (ff : Nat → Nat → Int32) : Option (Int32) := mX3_dependsOn_25 N fw fn ff (0 : Int32)
def mX3_dependsOn (N : Nat) (fw : Nat → Int32) (fn : Nat → Nat) (ff : Nat → Nat → Int32) (p0 : Int32) (p1 : Int32) : Option (Int32) := (if p0 = p1 then mX3_dependsOn_24 N fw fn ff else ((mX3_only N p0).bind fun x5 => ((mX3_withDependencies N fw fn ff x5).bind fun x7 => ((mX3_holds N x7 p1).bind fun x10 => (if x10 = 0 then mX3_dependsOn_24 N fw fn ff else mX3_dependsOn_25 N fw fn ff (1 : Int32))))))
set_option maxRecDepth 20000 in
set_option maxHeartbeats 4000000 in
theorem wX3_dependsOn_25 {p : Program} {l : Launch} {e : Env} {s : State} {m : MethodId} {args : Array Value} {below : List Frame} {meth : Method} {c : Code} {D : va_G} {cyI cyJ cyO : ClassId} {A : Nat → Prop} {bs : Nat} {P : List Nat} {g : Nat → va_E} {d : Nat → Nat} {eA : Nat} {Q : State → Prop} {ol : Int32} {fd : Int32} {dc : Int32} {ds : Nat → Int32} {fw : Nat → Int32} {fn : Nat → Nat} {ff : Nat → Nat → Int32} {qw : Nat → Int32} {qn : Nat → Nat} {qf : Nat → Nat → Int32} {va : Nat → Int64} {tr : Nat → Int64} {N : Nat} {res : Int32} (C0 : gC p m meth c cX3_dependsOn 3 (some .boolean) s args wsX3_dependsOn RX3) (hN : dN s) (hT : dT A s) (hret : ∀ (r : Int32) (H : Heap) (locs : List Loc) (pc : Nat) (ls : Array Slot), (r = 0 ∨ r = 1) → some r = some res → dZ D cyI cyJ cyO A bs P g d eA (d 5) (d 6) ol fd dc ds fw fn ff qw qn qf va tr s H locs → decode cX3_dependsOn pc = .ok (.ireturn, 1) → W p l e rmX3_dependsOn s m args below meth c H locs 0 0 Q (F0 m pc ls [.int r]))  : ∀ (s0 : Int32) (H : Heap) (locs : List Loc) (ls : Array Slot), mX3_dependsOn_25 N fw fn ff s0 = some res → dZ D cyI cyJ cyO A bs P g d eA (d 5) (d 6) ol fd dc ds fw fn ff qw qn qf va tr s H locs → lv_has ls 3 [] → W p l e rmX3_dependsOn s m args below meth c H locs 0 0 Q (F0 m 25 ls [.int s0]) := by
  intro s0 H locs ls h Z hl
  unfold mX3_dependsOn_25 at h
  obtain ⟨rs1, rr1, at1, fa1, ra1, Z, hF1⟩ := Z
  obtain ⟨hn2, h⟩ := g_yi h
  exact hret s0 _ _ _ _ hn2 h ⟨rs1, rr1, at1, fa1, ra1, Z, hF1⟩ dX3_dependsOn_25
set_option maxRecDepth 20000 in
set_option maxHeartbeats 4000000 in
theorem wX3_dependsOn_24 {p : Program} {l : Launch} {e : Env} {s : State} {m : MethodId} {args : Array Value} {below : List Frame} {meth : Method} {c : Code} {D : va_G} {cyI cyJ cyO : ClassId} {A : Nat → Prop} {bs : Nat} {P : List Nat} {g : Nat → va_E} {d : Nat → Nat} {eA : Nat} {Q : State → Prop} {ol : Int32} {fd : Int32} {dc : Int32} {ds : Nat → Int32} {fw : Nat → Int32} {fn : Nat → Nat} {ff : Nat → Nat → Int32} {qw : Nat → Int32} {qn : Nat → Nat} {qf : Nat → Nat → Int32} {va : Nat → Int64} {tr : Nat → Int64} {N : Nat} {res : Int32} (C0 : gC p m meth c cX3_dependsOn 3 (some .boolean) s args wsX3_dependsOn RX3) (hN : dN s) (hT : dT A s) (hret : ∀ (r : Int32) (H : Heap) (locs : List Loc) (pc : Nat) (ls : Array Slot), (r = 0 ∨ r = 1) → some r = some res → dZ D cyI cyJ cyO A bs P g d eA (d 5) (d 6) ol fd dc ds fw fn ff qw qn qf va tr s H locs → decode cX3_dependsOn pc = .ok (.ireturn, 1) → W p l e rmX3_dependsOn s m args below meth c H locs 0 0 Q (F0 m pc ls [.int r]))  : ∀ (H : Heap) (locs : List Loc) (ls : Array Slot), mX3_dependsOn_24 N fw fn ff = some res → dZ D cyI cyJ cyO A bs P g d eA (d 5) (d 6) ol fd dc ds fw fn ff qw qn qf va tr s H locs → lv_has ls 3 [] → W p l e rmX3_dependsOn s m args below meth c H locs 0 0 Q (F0 m 24 ls []) := by
  intro H locs ls h Z hl
  unfold mX3_dependsOn_24 at h
  obtain ⟨rs3, rr3, at3, fa3, ra3, Z, hF3⟩ := Z
  refine lv_iconst (v := 0) C0.1.1 C0.1.2.1 dX3_dependsOn_24 (by decide) ?_
  exact wX3_dependsOn_25 (N := N) C0 hN hT hret (0 : Int32) _ _ _ h ⟨rs3, rr3, at3, fa3, ra3, Z, hF3⟩ (lv_sub hl [] rfl)
set_option maxRecDepth 20000 in
set_option maxHeartbeats 4000000 in
theorem zX3_dependsOn (l : Launch) (D : va_G) (cyI cyJ cyO : ClassId) (A : Nat → Prop) (bs : Nat) (hA : ∀ q, bs ≤ q → A q) (P : List Nat) (g : Nat → va_E) (d : Nat → Nat) (eA : Nat) (ol : Int32) (fd : Int32) (dc : Int32) (ds : Nat → Int32) (fw : Nat → Int32) (fn : Nat → Nat) (ff : Nat → Nat → Int32) (qw : Nat → Int32) (qn : Nat → Nat) (qf : Nat → Nat → Int32) (va : Nat → Int64) (tr : Nat → Int64) (N : Nat) (p0 : Int32) (p1 : Int32) (res : Int32) (h : mX3_dependsOn N fw fn ff p0 p1 = some res) : Met l yX3_dependsOn wsX3_dependsOn rmX3_dependsOn (va_Pc [.ref (d 0), .int p0, .int p1] (dP (dW D cyI cyJ cyO A bs P g d eA (d 5) (d 6) ol fd dc ds fw fn ff qw qn qf va tr) A)) (va_Qi (fun (r : Int32) (_ : Unit) => res = r) (fun (u : Unit) U => dW D cyI cyJ cyO A bs P g d eA (d 5) (d 6) ol fd dc ds fw fn ff qw qn qf va tr U) A)  0 0 A := by
  refine Met.ofW (cc := cX3_dependsOn) (maxL := 3) (ret := (some .boolean)) (by decide) rfl ?_
  intro p e s m args below meth c s₁ B hml hv
  obtain ⟨hav, hv⟩ := hv
  obtain ⟨hv, hN, hT⟩ := hv
  have C0 : gC p m meth c cX3_dependsOn 3 (some .boolean) s args wsX3_dependsOn RX3 := ⟨⟨B.exec, B.bytes, hml, findClass_of_methodNamed B.named, atoms_spec (ws := wsX3_dependsOn) B.pre⟩, B.returns, B.notSynchronized⟩
  have Z := dZ_start hA hv
  have hret : ∀ (r : Int32) (H : Heap) (locs : List Loc) (pc : Nat) (ls : Array Slot), (r = 0 ∨ r = 1) → some r = some res → dZ D cyI cyJ cyO A bs P g d eA (d 5) (d 6) ol fd dc ds fw fn ff qw qn qf va tr s H locs → decode cX3_dependsOn pc = .ok (.ireturn, 1) → W p l e rmX3_dependsOn s m args below meth c H locs 0 0 (MQ below (va_Qi (fun (r : Int32) (_ : Unit) => res = r) (fun (u : Unit) U => dW D cyI cyJ cyO A bs P g d eA (d 5) (d 6) ol fd dc ds fw fn ff qw qn qf va tr U) A) args s 0 0 A) (F0 m pc ls [.int r]) := by
    intro r H locs pc ls hb9 h Z hd
    replace h := Option.some.inj h
    subst h
    exact W.zret C0.1.1 C0.1.2.1 C0.2.1 (g_nb hb9) (fun t ht hW => ⟨⟨r, (), rfl, rfl, dZ_end Z ht hW⟩, va_S.F (dZ_S Z) ht⟩) (dZ_S Z).2.2 hd C0.2.2
  have hl := lv_entry ([.ref (d 0), .int p0, .int p1]) (n := 3) (Nat.le_of_ble_eq_true rfl)
  rw [hav, lg_entry_eq]
  generalize (lg_sl ([.ref (d 0), .int p0, .int p1]) ++ List.replicate (3 - (lg_sl ([.ref (d 0), .int p0, .int p1])).length) Slot.unset).toArray = ls at hl ⊢
  have hl : lv_has ls 3 [(0, .ref (d 0)), (1, .int p0), (2, .int p1)] := hl
  rw [← hav]
  unfold mX3_dependsOn at h
  obtain ⟨rs4, rr4, at4, fa4, ra4, Z, hF4⟩ := Z
  refine lv_iload_n C0.1.1 C0.1.2.1 dX3_dependsOn_0 rfl (lv_at hl 1 rfl) ?_
  refine lv_iload_n C0.1.1 C0.1.2.1 dX3_dependsOn_1 rfl (lv_at hl 2 rfl) ?_
  refine lv_icmp_eq (tgt := 24) C0.1.1 C0.1.2.1 dX3_dependsOn_2 (by decide) (fun hc => ?_) (fun hc => ?_)
  · replace h := (if_pos hc).symm.trans h
    exact wX3_dependsOn_24 (N := N) C0 hN hT hret _ _ _ h ⟨rs4, rr4, at4, fa4, ra4, Z, hF4⟩ (lv_sub hl [] rfl)
  · replace h := (if_neg hc).symm.trans h
    refine lv_aload_n C0.1.1 C0.1.2.1 dX3_dependsOn_5 rfl (lv_at hl 0 rfl) ?_
    refine lv_iload_n C0.1.1 C0.1.2.1 dX3_dependsOn_6 rfl (lv_at hl 1 rfl) ?_
    obtain ⟨x5, hx6, h⟩ := g_bd h
    refine x_calli (va_runS (As := [.int p0]) (rest := [.ref (d 0)]) C0.1 (zX3_only l D cyI cyJ cyO A bs Z.2.2.2.2.2 (XD d cyI cyJ cyO eA (d 5) (d 6) rs4 rr4 at4 fa4 ra4 ol fd dc ds va tr ++ va_pl P g) N p0 x5 hx6) (va_cwS 1 C0.1.2.2.2.2 gX3_dependsOn_X3_only rfl rfl rfl (by decide +kernel) ⟨Nat.le_of_ble_eq_true rfl, Nat.le_of_ble_eq_true rfl⟩) ⟨g_blind, g_pre Z _⟩ rfl rfl hl.1 rfl (lv_room (Nat.le_of_ble_eq_true rfl)) dX3_dependsOn_7 ⟨Nat.le_of_ble_eq_true rfl, Nat.le_of_ble_eq_true rfl⟩) Z.2.2.2.1 (fun u t H1 locs1 ht hvm hB hS => g_post Z ht hvm hB hS) (fun r u H locs hw Z => ?_)
    subst hw
    obtain ⟨x7, hx8, h⟩ := g_bd h
    refine x_calli (va_runV (b := d 0) (C := RX3) (As := [.int x5]) (rest := []) C0.1 (zX3_withDependencies l D cyI cyJ cyO A bs Z.2.2.2.2.2 P g d eA ol fd dc ds fw fn ff qw qn qf va tr N x5 x7 hx8) (cwV 1 C0.1.2.2.2.2 gX3_dependsOn_X3_withDependencies rfl rfl rfl (by decide +kernel) ⟨Nat.le_of_ble_eq_true rfl, Nat.le_of_ble_eq_true rfl⟩) ⟨dP_blind, va_recv Z.2.1 Z.1 (ci := 5) (q0 := 0) rfl rfl, dP_pre ⟨rs4, rr4, at4, fa4, ra4, Z, hF4⟩ hN hT _⟩ rfl rfl hl.1 rfl (lv_room (Nat.le_of_ble_eq_true rfl)) dX3_dependsOn_10 ⟨Nat.le_of_ble_eq_true rfl, Nat.le_of_ble_eq_true rfl⟩) Z.2.2.2.1 (fun u t H1 locs1 ht hvm hB hS => dW_post Z ht hvm hB hS) (fun r u H locs hw Z => ?_)
    subst hw
    obtain ⟨rs9, rr9, at9, fa9, ra9, Z, hF9⟩ := Z
    refine lv_iload_n C0.1.1 C0.1.2.1 dX3_dependsOn_13 rfl (lv_at hl 2 rfl) ?_
    obtain ⟨x10, hx11, h⟩ := g_bd h
    refine x_calli (va_runS (As := [.int x7, .int p1]) (rest := []) C0.1 (zX3_holds l D cyI cyJ cyO A bs Z.2.2.2.2.2 (XD d cyI cyJ cyO eA (d 5) (d 6) rs9 rr9 at9 fa9 ra9 ol fd dc ds va tr ++ va_pl P g) N x7 p1 x10 hx11) (va_cwS 2 C0.1.2.2.2.2 gX3_dependsOn_X3_holds rfl rfl rfl (by decide +kernel) ⟨Nat.le_of_ble_eq_true rfl, Nat.le_of_ble_eq_true rfl⟩) ⟨g_blind, g_pre Z _⟩ rfl rfl hl.1 rfl (lv_room (Nat.le_of_ble_eq_true rfl)) dX3_dependsOn_14 ⟨Nat.le_of_ble_eq_true rfl, Nat.le_of_ble_eq_true rfl⟩) Z.2.2.2.1 (fun u t H1 locs1 ht hvm hB hS => g_post Z ht hvm hB hS) (fun r u H locs hw Z => ?_)
    subst hw
    refine lv_if_eq (tgt := 24) C0.1.1 C0.1.2.1 dX3_dependsOn_17 (by decide) (fun hc => ?_) (fun hc => ?_)
    · replace h := (if_pos hc).symm.trans h
      exact wX3_dependsOn_24 (N := N) C0 hN hT hret _ _ _ h ⟨rs9, rr9, at9, fa9, ra9, Z, hF9⟩ (lv_sub hl [] rfl)
    · replace h := (if_neg hc).symm.trans h
      refine lv_iconst (v := 1) C0.1.1 C0.1.2.1 dX3_dependsOn_20 (by decide) ?_
      refine lv_goto (tgt := 25) C0.1.1 C0.1.2.1 dX3_dependsOn_21 (by decide) ?_
      exact wX3_dependsOn_25 (N := N) C0 hN hT hret (1 : Int32) _ _ _ h ⟨rs9, rr9, at9, fa9, ra9, Z, hF9⟩ (lv_sub hl [] rfl)
/-! X3_depends -/
abbrev rmX3_depends : Room := { frames := 7, cells := 2, slots := 12, locals := 112 }
def mX3_depends (N : Nat) (fw : Nat → Int32) (fn : Nat → Nat) (ff : Nat → Nat → Int32) (p0 : Int32) (p1 : Int32) : Option (Nat × Int32) := ((mX3_requireCell N p0).bind fun x2 => (if x2 = 0 then ((mX3_requireCell N p1).bind fun x4 => (if x4 = 0 then ((mX3_dependsOn N fw fn ff p0 p1).bind fun x6 => (if (x6 = 0 ∨ x6 = 1) then some (0, x6) else none)) else some (x4, 0))) else some (x2, 0)))
set_option maxRecDepth 20000 in
set_option maxHeartbeats 4000000 in
theorem zX3_depends (l : Launch) (hlf : l.stackTraces = false) (D : va_G) (cyI cyJ cyO : ClassId) (A : Nat → Prop) (bs : Nat) (hA : ∀ q, bs ≤ q → A q) (P : List Nat) (g : Nat → va_E) (d : Nat → Nat) (eA : Nat) (ol : Int32) (fd : Int32) (dc : Int32) (ds : Nat → Int32) (fw : Nat → Int32) (fn : Nat → Nat) (ff : Nat → Nat → Int32) (qw : Nat → Int32) (qn : Nat → Nat) (qf : Nat → Nat → Int32) (va : Nat → Int64) (tr : Nat → Int64) (N : Nat) (p0 : Int32) (p1 : Int32) (res : Nat × Int32) (h : mX3_depends N fw fn ff p0 p1 = some res) : vx_Met l yX3_depends wsX3_depends rmX3_depends (va_Pc [.ref (d 0), .int p0, .int p1] (dP (dW D cyI cyJ cyO A bs P g d eA (d 5) (d 6) ol fd dc ds fw fn ff qw qn qf va tr) A)) (va_Qi (fun (r : Int32) (_ : Unit) => res.1 = 0 ∧ res.2 = r) (fun (u : Unit) U => dW D cyI cyJ cyO A bs P g d eA (d 5) (d 6) ol fd dc ds fw fn ff qw qn qf va tr U) A) (vx_X (S := Unit) (fun _ => True) (fun E u t => res.1 ≠ 0 ∧ E = exN res.1 ∧ dW D cyI cyJ cyO A bs P g d eA (d 5) (d 6) ol fd dc ds fw fn ff qw qn qf va tr t) A) 2 12 A := by
  refine vx_ofW (cc := cX3_depends) (maxL := 3) (ret := (some .boolean)) (by decide) rfl ?_
  intro p e s m args below meth c s₁ B hml hxt hv
  obtain ⟨hav, hv⟩ := hv
  obtain ⟨hv, hN, hT⟩ := hv
  have C0 : gC p m meth c cX3_depends 3 (some .boolean) s args wsX3_depends RX3 := ⟨⟨B.exec, B.bytes, hml, findClass_of_methodNamed B.named, atoms_spec (ws := wsX3_depends) B.pre⟩, B.returns, B.notSynchronized⟩
  have Z := dZ_start hA hv
  have hret : ∀ (r : Int32) (H : Heap) (locs : List Loc) (pc : Nat) (ls : Array Slot), (r = 0 ∨ r = 1) → some (0, r) = some res → dZ D cyI cyJ cyO A bs P g d eA (d 5) (d 6) ol fd dc ds fw fn ff qw qn qf va tr s H locs → decode cX3_depends pc = .ok (.ireturn, 1) → W p l e rmX3_depends s m args below meth c H locs 2 12 (vx_MQ below (va_Qi (fun (r : Int32) (_ : Unit) => res.1 = 0 ∧ res.2 = r) (fun (u : Unit) U => dW D cyI cyJ cyO A bs P g d eA (d 5) (d 6) ol fd dc ds fw fn ff qw qn qf va tr U) A) (vx_X (S := Unit) (fun _ => True) (fun E u t => res.1 ≠ 0 ∧ E = exN res.1 ∧ dW D cyI cyJ cyO A bs P g d eA (d 5) (d 6) ol fd dc ds fw fn ff qw qn qf va tr t) A) args s 2 12 A) (F0 m pc ls [.int r]) := by
    intro r H locs pc ls hb9 h Z hd
    replace h := Option.some.inj h
    subst h
    exact vx_ret (W.zret C0.1.1 C0.1.2.1 C0.2.1 (g_nb hb9) (fun t ht hW => ⟨⟨r, (), rfl, ⟨rfl, rfl⟩, dZ_end Z ht hW⟩, va_S.F (dZ_S Z) ht⟩) (dZ_S Z).2.2 hd C0.2.2)
  have hxc : ∀ (k : Nat) (H : Heap) (locs : List Loc) (t : State), k ≠ 0 → some (k, 0) = some res → dZ D cyI cyJ cyO A bs P g d eA (d 5) (d 6) ol fd dc ds fw fn ff qw qn qf va tr s H locs → s.vm.Alike t.vm → H.size ≤ t.heap.size → (∀ q : Nat, q < H.size → t.heap[q]? = H[q]?) → (vx_X (S := Unit) (fun _ => True) (fun E u t => res.1 ≠ 0 ∧ E = exN res.1 ∧ dW D cyI cyJ cyO A bs P g d eA (d 5) (d 6) ol fd dc ds fw fn ff qw qn qf va tr t) A) (exN k) s t := by
    intro k H locs t hk h Z hvm hz hq
    replace h := Option.some.inj h
    subst h
    exact ⟨(), trivial, ⟨hk, rfl, dW_grow Z hvm hz hq⟩, vaF_grow (dZ_S Z) hz hq⟩
  have hl := lv_entry ([.ref (d 0), .int p0, .int p1]) (n := 3) (Nat.le_of_ble_eq_true rfl)
  rw [hav, lg_entry_eq]
  generalize (lg_sl ([.ref (d 0), .int p0, .int p1]) ++ List.replicate (3 - (lg_sl ([.ref (d 0), .int p0, .int p1])).length) Slot.unset).toArray = ls at hl ⊢
  have hl : lv_has ls 3 [(0, .ref (d 0)), (1, .int p0), (2, .int p1)] := hl
  rw [← hav]
  unfold mX3_depends at h
  obtain ⟨rs1, rr1, at1, fa1, ra1, Z, hF1⟩ := Z
  refine lv_iload_n C0.1.1 C0.1.2.1 dX3_depends_0 rfl (lv_at hl 1 rfl) ?_
  obtain ⟨x2, hx3, h⟩ := g_bd h
  refine x_xcallv (vx_runS (As := [.int p0]) (rest := []) C0.1 (zX3_requireCell l hlf D cyI cyJ cyO A bs Z.2.2.2.2.2 (XD d cyI cyJ cyO eA (d 5) (d 6) rs1 rr1 at1 fa1 ra1 ol fd dc ds va tr ++ va_pl P g) N p0 x2 hx3) (va_cwS 1 C0.1.2.2.2.2 gX3_depends_X3_requireCell rfl rfl rfl (by decide +kernel) ⟨Nat.le_of_ble_eq_true rfl, Nat.le_of_ble_eq_true rfl⟩) ⟨gP_blind, gP_pre Z hN hT _⟩ rfl rfl hl.1 rfl (lv_room (Nat.le_of_ble_eq_true rfl)) dX3_depends_1 ⟨Nat.le_of_ble_eq_true rfl, Nat.le_of_ble_eq_true rfl⟩) Z.2.2.2.1 (fun u t H1 locs1 ht hvm hB hS => g_post Z ht hvm hB hS) (fun E ce q9 u t H locs ht hvm _ hB hS h1 h2 h3 => ?_) (fun u H locs hw Z => ?_)
  · obtain ⟨hk, rfl, hB⟩ := hB
    replace h := (if_neg hk).symm.trans h
    exact vx_out (fun x hx => (hxt x hx).elim) C0.2.2 h1 h2 h3 (fun t1 ht1 hvm1 => hxc x2  _ _ t1 hk h (⟨rs1, rr1, at1, fa1, ra1, g_post Z ht hvm hB hS, hF1⟩) hvm1 (by rw [ht1]; exact Nat.le_refl _) (fun q _ => by rw [ht1])) hS.2.2 (Nat.le_of_ble_eq_true rfl) (Nat.le_of_ble_eq_true rfl)
  replace h := (if_pos hw).symm.trans h
  refine lv_iload_n C0.1.1 C0.1.2.1 dX3_depends_4 rfl (lv_at hl 2 rfl) ?_
  obtain ⟨x4, hx5, h⟩ := g_bd h
  refine x_xcallv (vx_runS (As := [.int p1]) (rest := []) C0.1 (zX3_requireCell l hlf D cyI cyJ cyO A bs Z.2.2.2.2.2 (XD d cyI cyJ cyO eA (d 5) (d 6) rs1 rr1 at1 fa1 ra1 ol fd dc ds va tr ++ va_pl P g) N p1 x4 hx5) (va_cwS 1 C0.1.2.2.2.2 gX3_depends_X3_requireCell rfl rfl rfl (by decide +kernel) ⟨Nat.le_of_ble_eq_true rfl, Nat.le_of_ble_eq_true rfl⟩) ⟨gP_blind, gP_pre Z hN hT _⟩ rfl rfl hl.1 rfl (lv_room (Nat.le_of_ble_eq_true rfl)) dX3_depends_5 ⟨Nat.le_of_ble_eq_true rfl, Nat.le_of_ble_eq_true rfl⟩) Z.2.2.2.1 (fun u t H1 locs1 ht hvm hB hS => g_post Z ht hvm hB hS) (fun E ce q9 u t H locs ht hvm _ hB hS h1 h2 h3 => ?_) (fun u H locs hw Z => ?_)
  · obtain ⟨hk, rfl, hB⟩ := hB
    replace h := (if_neg hk).symm.trans h
    exact vx_out (fun x hx => (hxt x hx).elim) C0.2.2 h1 h2 h3 (fun t1 ht1 hvm1 => hxc x4  _ _ t1 hk h (⟨rs1, rr1, at1, fa1, ra1, g_post Z ht hvm hB hS, hF1⟩) hvm1 (by rw [ht1]; exact Nat.le_refl _) (fun q _ => by rw [ht1])) hS.2.2 (Nat.le_of_ble_eq_true rfl) (Nat.le_of_ble_eq_true rfl)
  replace h := (if_pos hw).symm.trans h
  refine lv_aload_n C0.1.1 C0.1.2.1 dX3_depends_8 rfl (lv_at hl 0 rfl) ?_
  refine lv_iload_n C0.1.1 C0.1.2.1 dX3_depends_9 rfl (lv_at hl 1 rfl) ?_
  refine lv_iload_n C0.1.1 C0.1.2.1 dX3_depends_10 rfl (lv_at hl 2 rfl) ?_
  obtain ⟨x6, hx7, h⟩ := g_bd h
  refine x_calli (va_runV (b := d 0) (C := RX3) (As := [.int p0, .int p1]) (rest := []) C0.1 (zX3_dependsOn l D cyI cyJ cyO A bs Z.2.2.2.2.2 P g d eA ol fd dc ds fw fn ff qw qn qf va tr N p0 p1 x6 hx7) (cwV 2 C0.1.2.2.2.2 gX3_depends_X3_dependsOn rfl rfl rfl (by decide +kernel) ⟨Nat.le_of_ble_eq_true rfl, Nat.le_of_ble_eq_true rfl⟩) ⟨dP_blind, va_recv Z.2.1 Z.1 (ci := 5) (q0 := 0) rfl rfl, dP_pre ⟨rs1, rr1, at1, fa1, ra1, Z, hF1⟩ hN hT _⟩ rfl rfl hl.1 rfl (lv_room (Nat.le_of_ble_eq_true rfl)) dX3_depends_11 ⟨Nat.le_of_ble_eq_true rfl, Nat.le_of_ble_eq_true rfl⟩) Z.2.2.2.1 (fun u t H1 locs1 ht hvm hB hS => dW_post Z ht hvm hB hS) (fun r u H locs hw Z => ?_)
  subst hw
  obtain ⟨rs8, rr8, at8, fa8, ra8, Z, hF8⟩ := Z
  obtain ⟨hn9, h⟩ := g_yi h
  exact hret x6 _ _ _ _ hn9 h ⟨rs8, rr8, at8, fa8, ra8, Z, hF8⟩ dX3_depends_14
