/-! X3_workOut -/
abbrev rmX3_workOut : Room := { frames := 59, cells := 0, slots := 0, locals := 1438 }
theorem kX3_workOut_in3 : ∀ w ∈ wsX30, w ∈ wsX3_workOut := by decide +kernel
theorem kX3_workOut_f34 : Cond.fieldLink RX3 34 "GoalseekOffice" "formulas" "[LGoalseekOffice$Formula;" ∈ wsX3_workOut := by decide +kernel
theorem kX3_workOut_in1 : ∀ w ∈ wsX10, w ∈ wsX3_workOut := by decide +kernel
theorem kX3_workOut_f21 : Cond.fieldLink RX3 21 "GoalseekOffice" "reckoner" "LGoalseekOffice$Reckoner;" ∈ wsX3_workOut := by decide +kernel
theorem kX3_workOut_iniRX2 : Cond.initialized RX2 ∈ wsX3_workOut := by decide +kernel
theorem kX3_workOut_insX2_take : Cond.instanceMethod yX2_take ∈ wsX3_workOut := by decide +kernel
theorem kX3_workOut_selX2_take : Cond.selects RX2 yX2_take yX2_take ∈ wsX3_workOut := by decide +kernel
theorem kX3_workOut_iniRX1 : Cond.initialized RX1 ∈ wsX3_workOut := by decide +kernel
theorem kX3_workOut_insX1_isEmpty : Cond.instanceMethod yX1_isEmpty ∈ wsX3_workOut := by decide +kernel
theorem kX3_workOut_selX1_isEmpty : Cond.selects RX1 yX1_isEmpty yX1_isEmpty ∈ wsX3_workOut := by decide +kernel
theorem kX3_workOut_insX2_sum : Cond.instanceMethod yX2_sum ∈ wsX3_workOut := by decide +kernel
theorem kX3_workOut_selX2_sum : Cond.selects RX2 yX2_sum yX2_sum ∈ wsX3_workOut := by decide +kernel
def mX3_workOut_110 (N : Nat) (fw : Nat → Int32) (fn : Nat → Nat) (ff : Nat → Nat → Int32) (va : Nat → Int64) : Option ((Nat → Int64)) := some va
def mX3_workOut_98 (N : Nat) (fw : Nat → Int32) (fn : Nat → Nat) (ff : Nat → Nat → Int32) (r5 : (Nat → Int64) → Int32 → Int32 → Option ((Nat → Int64))) (r19 : (Nat → Int64) → Int32 → Int32 → Int32 → Option ((Nat → Int64))) (va : Nat → Int64) (v3 : Int32) (v4 : Int32) (v5 : Int32) : Option ((Nat → Int64)) := r19 va v3 v4 (v5 + (1 : Int32))
def mX3_workOut_87 (N : Nat) (fw : Nat → Int32) (fn : Nat → Nat) (ff : Nat → Nat → Int32) (r5 : (Nat → Int64) → Int32 → Int32 → Option ((Nat → Int64))) (r19 : (Nat → Int64) → Int32 → Int32 → Int32 → Option ((Nat → Int64))) (va : Nat → Int64) (v3 : Int32) (v4 : Int32) (v5 : Int32) (s1 : Int32) (s2 : Int64) : Option ((Nat → Int64)) := (if s1 < 0 ∨ 30 ≤ s1.toNatClampNeg then none else ((mX3_only N v5).bind fun x5 => mX3_workOut_98 N fw fn ff r5 r19 (vp_updL va s1.toNatClampNeg s2) (v3 &&& (x5 ^^^ (-1 : Int32))) v4 v5))
def mX3_workOut_19_b (N : Nat) (fw : Nat → Int32) (fn : Nat → Nat) (ff : Nat → Nat → Int32) (r5 : (Nat → Int64) → Int32 → Int32 → Option ((Nat → Int64))) (r19 : (Nat → Int64) → Int32 → Int32 → Int32 → Option ((Nat → Int64))) (va : Nat → Int64) (v3 : Int32) (v4 : Int32) (v5 : Int32) : Option ((Nat → Int64)) := (if (30 : Int32) ≤ v5 then r5 va v3 (v4 + (1 : Int32)) else (if v5 < 0 ∨ 30 ≤ v5.toNatClampNeg then none else ((mX3_holds N v3 v5).bind fun x10 => (if x10 = 0 then mX3_workOut_98 N fw fn ff r5 r19 va v3 v4 v5 else (if ((fw v5.toNatClampNeg) &&& v3) = 0 then ((mX1_isEmpty N (fw v5.toNatClampNeg) (fn v5.toNatClampNeg) (ff v5.toNatClampNeg)).bind fun x14 => (if x14 = 0 then ((mX2_sum N 18 (fn v5.toNatClampNeg) (ff v5.toNatClampNeg) va (0 : Int32) (0 : Int32)).bind fun x20 => mX3_workOut_87 N fw fn ff r5 r19 va v3 v4 v5 v5 x20.1) else mX3_workOut_87 N fw fn ff r5 r19 va v3 v4 v5 v5 (0 : Int64))) else mX3_workOut_98 N fw fn ff r5 r19 va v3 v4 v5)))))
def mX3_workOut_19 (N : Nat) (fw : Nat → Int32) (fn : Nat → Nat) (ff : Nat → Nat → Int32) (r5 : (Nat → Int64) → Int32 → Int32 → Option ((Nat → Int64))) : Nat → (Nat → Int64) → Int32 → Int32 → Int32 → Option ((Nat → Int64))
  | 0 => fun _ _ _ _ => none
  | n_ + 1 => fun va v3 v4 v5 => mX3_workOut_19_b N fw fn ff r5 (mX3_workOut_19 N fw fn ff r5 n_) va v3 v4 v5
def mX3_workOut_5_b (N : Nat) (fw : Nat → Int32) (fn : Nat → Nat) (ff : Nat → Nat → Int32) (r5 : (Nat → Int64) → Int32 → Int32 → Option ((Nat → Int64))) (va : Nat → Int64) (v3 : Int32) (v4 : Int32) : Option ((Nat → Int64)) := (if (30 : Int32) ≤ v4 then mX3_workOut_110 N fw fn ff va else (if v3 = 0 then mX3_workOut_110 N fw fn ff va else mX3_workOut_19 N fw fn ff r5 N va v3 v4 (0 : Int32)))
def mX3_workOut_5 (N : Nat) (fw : Nat → Int32) (fn : Nat → Nat) (ff : Nat → Nat → Int32) : Nat → (Nat → Int64) → Int32 → Int32 → Option ((Nat → Int64))
  | 0 => fun _ _ _ => none
  | n_ + 1 => fun va v3 v4 => mX3_workOut_5_b N fw fn ff (mX3_workOut_5 N fw fn ff n_) va v3 v4
def mX3_workOut (N : Nat) (fw : Nat → Int32) (fn : Nat → Nat) (ff : Nat → Nat → Int32) (va : Nat → Int64) (p0 : Int32) : Option ((Nat → Int64)) := mX3_workOut_5 N fw fn ff N va p0 (0 : Int32)
set_option maxRecDepth 20000 in
set_option maxHeartbeats 4000000 in
theorem wX3_workOut_110 {p : Program} {l : Launch} {e : Env} {s : State} {m : MethodId} {args : Array Value} {below : List Frame} {meth : Method} {c : Code} {D : va_G} {cyI cyJ cyO : ClassId} {A : Nat → Prop} {bs : Nat} {P : List Nat} {g : Nat → va_E} {d : Nat → Nat} {eA vr vt : Nat} {Q : State → Prop} {ol : Int32} {fd : Int32} {dc : Int32} {ds : Nat → Int32} {fw : Nat → Int32} {fn : Nat → Nat} {ff : Nat → Nat → Int32} {qw : Nat → Int32} {qn : Nat → Nat} {qf : Nat → Nat → Int32} {tr : Nat → Int64} {N : Nat} {res : (Nat → Int64)} (C0 : gC p m meth c cX3_workOut 7 none s args wsX3_workOut RX3) (hN : dN s) (hT : dT A s) (hret : ∀ (va_r : Nat → Int64) (H : Heap) (locs : List Loc) (pc : Nat) (ls : Array Slot), some va_r = some res → dZ D cyI cyJ cyO A bs P g d eA vr vt ol fd dc ds fw fn ff qw qn qf va_r tr s H locs → decode cX3_workOut pc = .ok (.return_, 1) → W p l e rmX3_workOut s m args below meth c H locs 0 0 Q (F0 m pc ls []))  : ∀ (va : Nat → Int64) (H : Heap) (locs : List Loc) (ls : Array Slot), mX3_workOut_110 N fw fn ff va = some res → dZ D cyI cyJ cyO A bs P g d eA vr vt ol fd dc ds fw fn ff qw qn qf va tr s H locs → lv_has ls 7 [] → W p l e rmX3_workOut s m args below meth c H locs 0 0 Q (F0 m 110 ls []) := by
  intro va H locs ls h Z hl
  unfold mX3_workOut_110 at h
  obtain ⟨rs1, rr1, at1, fa1, ra1, Z, hF1⟩ := Z
  exact hret va _ _ _ _ h ⟨rs1, rr1, at1, fa1, ra1, Z, hF1⟩ dX3_workOut_110
set_option maxRecDepth 20000 in
set_option maxHeartbeats 4000000 in
theorem wX3_workOut_98 {p : Program} {l : Launch} {e : Env} {s : State} {m : MethodId} {args : Array Value} {below : List Frame} {meth : Method} {c : Code} {D : va_G} {cyI cyJ cyO : ClassId} {A : Nat → Prop} {bs : Nat} {P : List Nat} {g : Nat → va_E} {d : Nat → Nat} {eA vr vt : Nat} {Q : State → Prop} {ol : Int32} {fd : Int32} {dc : Int32} {ds : Nat → Int32} {fw : Nat → Int32} {fn : Nat → Nat} {ff : Nat → Nat → Int32} {qw : Nat → Int32} {qn : Nat → Nat} {qf : Nat → Nat → Int32} {tr : Nat → Int64} {N : Nat} {res : (Nat → Int64)} (C0 : gC p m meth c cX3_workOut 7 none s args wsX3_workOut RX3) (hN : dN s) (hT : dT A s) (hret : ∀ (va_r : Nat → Int64) (H : Heap) (locs : List Loc) (pc : Nat) (ls : Array Slot), some va_r = some res → dZ D cyI cyJ cyO A bs P g d eA vr vt ol fd dc ds fw fn ff qw qn qf va_r tr s H locs → decode cX3_workOut pc = .ok (.return_, 1) → W p l e rmX3_workOut s m args below meth c H locs 0 0 Q (F0 m pc ls [])) {r5 : (Nat → Int64) → Int32 → Int32 → Option ((Nat → Int64))} (hr5 : ∀ (va : Nat → Int64) (v3 : Int32) (v4 : Int32) (H : Heap) (locs : List Loc) (ls : Array Slot), r5 va v3 v4 = some res → dZ D cyI cyJ cyO A bs P g d eA vr vt ol fd dc ds fw fn ff qw qn qf va tr s H locs → lv_has ls 7 [(0, .ref (d 0)), (2, .ref (d 5)), (3, .int v3), (4, .int v4)] → W p l e rmX3_workOut s m args below meth c H locs 0 0 Q (F0 m 5 ls [])) {r19 : (Nat → Int64) → Int32 → Int32 → Int32 → Option ((Nat → Int64))} (hr19 : ∀ (va : Nat → Int64) (v3 : Int32) (v4 : Int32) (v5 : Int32) (H : Heap) (locs : List Loc) (ls : Array Slot), r19 va v3 v4 v5 = some res → dZ D cyI cyJ cyO A bs P g d eA vr vt ol fd dc ds fw fn ff qw qn qf va tr s H locs → lv_has ls 7 [(0, .ref (d 0)), (2, .ref (d 5)), (3, .int v3), (4, .int v4), (5, .int v5)] → W p l e rmX3_workOut s m args below meth c H locs 0 0 Q (F0 m 19 ls [])) : ∀ (va : Nat → Int64) (v3 : Int32) (v4 : Int32) (v5 : Int32) (H : Heap) (locs : List Loc) (ls : Array Slot), mX3_workOut_98 N fw fn ff r5 r19 va v3 v4 v5 = some res → dZ D cyI cyJ cyO A bs P g d eA vr vt ol fd dc ds fw fn ff qw qn qf va tr s H locs → lv_has ls 7 [(0, .ref (d 0)), (2, .ref (d 5)), (3, .int v3), (4, .int v4), (5, .int v5)] → W p l e rmX3_workOut s m args below meth c H locs 0 0 Q (F0 m 98 ls []) := by
  intro va v3 v4 v5 H locs ls h Z hl
  unfold mX3_workOut_98 at h
  obtain ⟨rs2, rr2, at2, fa2, ra2, Z, hF2⟩ := Z
  refine lv_iinc (v := v5 + (1 : Int32)) (lv' := [(5, .int (v5 + (1 : Int32))), (0, .ref (d 0)), (2, .ref (d 5)), (3, .int v3), (4, .int v4)]) C0.1.1 C0.1.2.1 dX3_workOut_98 hl (k := 4) rfl rfl (by decide) rfl (fun ls hl => ?_)
  refine lv_goto (tgt := 19) C0.1.1 C0.1.2.1 dX3_workOut_101 (by decide) ?_
  exact hr19 va v3 v4 (v5 + (1 : Int32)) _ _ _ h ⟨rs2, rr2, at2, fa2, ra2, Z, hF2⟩ (lv_sub hl [1, 2, 3, 4, 0] rfl)
set_option maxRecDepth 20000 in
set_option maxHeartbeats 4000000 in
theorem wX3_workOut_87 {p : Program} {l : Launch} {e : Env} {s : State} {m : MethodId} {args : Array Value} {below : List Frame} {meth : Method} {c : Code} {D : va_G} {cyI cyJ cyO : ClassId} {A : Nat → Prop} {bs : Nat} {P : List Nat} {g : Nat → va_E} {d : Nat → Nat} {eA vr vt : Nat} {Q : State → Prop} {ol : Int32} {fd : Int32} {dc : Int32} {ds : Nat → Int32} {fw : Nat → Int32} {fn : Nat → Nat} {ff : Nat → Nat → Int32} {qw : Nat → Int32} {qn : Nat → Nat} {qf : Nat → Nat → Int32} {tr : Nat → Int64} {N : Nat} {res : (Nat → Int64)} (C0 : gC p m meth c cX3_workOut 7 none s args wsX3_workOut RX3) (hN : dN s) (hT : dT A s) (hret : ∀ (va_r : Nat → Int64) (H : Heap) (locs : List Loc) (pc : Nat) (ls : Array Slot), some va_r = some res → dZ D cyI cyJ cyO A bs P g d eA vr vt ol fd dc ds fw fn ff qw qn qf va_r tr s H locs → decode cX3_workOut pc = .ok (.return_, 1) → W p l e rmX3_workOut s m args below meth c H locs 0 0 Q (F0 m pc ls [])) {r5 : (Nat → Int64) → Int32 → Int32 → Option ((Nat → Int64))} (hr5 : ∀ (va : Nat → Int64) (v3 : Int32) (v4 : Int32) (H : Heap) (locs : List Loc) (ls : Array Slot), r5 va v3 v4 = some res → dZ D cyI cyJ cyO A bs P g d eA vr vt ol fd dc ds fw fn ff qw qn qf va tr s H locs → lv_has ls 7 [(0, .ref (d 0)), (2, .ref (d 5)), (3, .int v3), (4, .int v4)] → W p l e rmX3_workOut s m args below meth c H locs 0 0 Q (F0 m 5 ls [])) {r19 : (Nat → Int64) → Int32 → Int32 → Int32 → Option ((Nat → Int64))} (hr19 : ∀ (va : Nat → Int64) (v3 : Int32) (v4 : Int32) (v5 : Int32) (H : Heap) (locs : List Loc) (ls : Array Slot), r19 va v3 v4 v5 = some res → dZ D cyI cyJ cyO A bs P g d eA vr vt ol fd dc ds fw fn ff qw qn qf va tr s H locs → lv_has ls 7 [(0, .ref (d 0)), (2, .ref (d 5)), (3, .int v3), (4, .int v4), (5, .int v5)] → W p l e rmX3_workOut s m args below meth c H locs 0 0 Q (F0 m 19 ls [])) : ∀ (va : Nat → Int64) (v3 : Int32) (v4 : Int32) (v5 : Int32) (s1 : Int32) (s2 : Int64) (H : Heap) (locs : List Loc) (ls : Array Slot), mX3_workOut_87 N fw fn ff r5 r19 va v3 v4 v5 s1 s2 = some res → dZ D cyI cyJ cyO A bs P g d eA vr vt ol fd dc ds fw fn ff qw qn qf va tr s H locs → lv_has ls 7 [(0, .ref (d 0)), (2, .ref (d 5)), (3, .int v3), (4, .int v4), (5, .int v5)] → W p l e rmX3_workOut s m args below meth c H locs 0 0 Q (F0 m 87 ls [.long s2, .int s1, .ref (d 5)]) := by
  intro va v3 v4 v5 s1 s2 H locs ls h Z hl
  unfold mX3_workOut_87 at h
  obtain ⟨rs3, rr3, at3, fa3, ra3, Z, hF3⟩ := Z
  obtain ⟨hi4, h⟩ := g_ni h
  refine g_last (f := va) (n := 30) (ws' := (XD d cyI cyJ cyO eA vr vt rs3 rr3 at3 fa3 ra3 ol fd dc ds (vp_updL va s1.toNatClampNeg s2) tr ++ va_pl P g)) C0.1 Z 5 1 rfl rfl hi4 dX3_workOut_87 rfl (fun H locs Z => ?_)
  refine lv_iload_n C0.1.1 C0.1.2.1 dX3_workOut_88 rfl (lv_at hl 2 rfl) ?_
  refine lv_iload C0.1.1 C0.1.2.1 dX3_workOut_89 (lv_at hl 4 rfl) ?_
  obtain ⟨x5, hx6, h⟩ := g_bd h
  refine x_calli (va_runS (As := [.int v5]) (rest := [.int v3]) C0.1 (zX3_only l D cyI cyJ cyO A bs Z.2.2.2.2.2 (XD d cyI cyJ cyO eA vr vt rs3 rr3 at3 fa3 ra3 ol fd dc ds (vp_updL va s1.toNatClampNeg s2) tr ++ va_pl P g) N v5 x5 hx6) (va_cwS 1 C0.1.2.2.2.2 gX3_workOut_X3_only rfl rfl rfl (by decide +kernel) ⟨Nat.le_of_ble_eq_true rfl, Nat.le_of_ble_eq_true rfl⟩) ⟨g_blind, g_pre Z _⟩ rfl rfl hl.1 rfl (lv_room (Nat.le_of_ble_eq_true rfl)) dX3_workOut_91 ⟨Nat.le_of_ble_eq_true rfl, Nat.le_of_ble_eq_true rfl⟩) Z.2.2.2.1 (fun u t H1 locs1 ht hvm hB hS => g_post Z ht hvm hB hS) (fun r u H locs hw Z => ?_)
  subst hw
  refine lv_iconst (v := -1) C0.1.1 C0.1.2.1 dX3_workOut_94 (by decide) ?_
  refine lv_ixor C0.1.1 C0.1.2.1 dX3_workOut_95 ?_
  refine lv_iand C0.1.1 C0.1.2.1 dX3_workOut_96 ?_
  refine lv_istore_n (lv' := [(3, .int (v3 &&& (x5 ^^^ (-1 : Int32)))), (0, .ref (d 0)), (2, .ref (d 5)), (4, .int v4), (5, .int v5)]) C0.1.1 C0.1.2.1 dX3_workOut_97 rfl hl (by decide) rfl (fun ls hl => ?_)
  exact wX3_workOut_98 (N := N) C0 hN hT hret hr5 hr19 (vp_updL va s1.toNatClampNeg s2) (v3 &&& (x5 ^^^ (-1 : Int32))) v4 v5 _ _ _ h ⟨rs3, rr3, at3, fa3, ra3, Z, hF3⟩ (lv_sub hl [1, 2, 0, 3, 4] rfl)
set_option maxRecDepth 20000 in
set_option maxHeartbeats 4000000 in
theorem wX3_workOut_19_b {p : Program} {l : Launch} {e : Env} {s : State} {m : MethodId} {args : Array Value} {below : List Frame} {meth : Method} {c : Code} {D : va_G} {cyI cyJ cyO : ClassId} {A : Nat → Prop} {bs : Nat} {P : List Nat} {g : Nat → va_E} {d : Nat → Nat} {eA vr vt : Nat} {Q : State → Prop} {ol : Int32} {fd : Int32} {dc : Int32} {ds : Nat → Int32} {fw : Nat → Int32} {fn : Nat → Nat} {ff : Nat → Nat → Int32} {qw : Nat → Int32} {qn : Nat → Nat} {qf : Nat → Nat → Int32} {tr : Nat → Int64} {N : Nat} {res : (Nat → Int64)} (C0 : gC p m meth c cX3_workOut 7 none s args wsX3_workOut RX3) (hN : dN s) (hT : dT A s) (hret : ∀ (va_r : Nat → Int64) (H : Heap) (locs : List Loc) (pc : Nat) (ls : Array Slot), some va_r = some res → dZ D cyI cyJ cyO A bs P g d eA vr vt ol fd dc ds fw fn ff qw qn qf va_r tr s H locs → decode cX3_workOut pc = .ok (.return_, 1) → W p l e rmX3_workOut s m args below meth c H locs 0 0 Q (F0 m pc ls [])) {r5 : (Nat → Int64) → Int32 → Int32 → Option ((Nat → Int64))} (hr5 : ∀ (va : Nat → Int64) (v3 : Int32) (v4 : Int32) (H : Heap) (locs : List Loc) (ls : Array Slot), r5 va v3 v4 = some res → dZ D cyI cyJ cyO A bs P g d eA vr vt ol fd dc ds fw fn ff qw qn qf va tr s H locs → lv_has ls 7 [(0, .ref (d 0)), (2, .ref (d 5)), (3, .int v3), (4, .int v4)] → W p l e rmX3_workOut s m args below meth c H locs 0 0 Q (F0 m 5 ls [])) {r19 : (Nat → Int64) → Int32 → Int32 → Int32 → Option ((Nat → Int64))} (hr19 : ∀ (va : Nat → Int64) (v3 : Int32) (v4 : Int32) (v5 : Int32) (H : Heap) (locs : List Loc) (ls : Array Slot), r19 va v3 v4 v5 = some res → dZ D cyI cyJ cyO A bs P g d eA vr vt ol fd dc ds fw fn ff qw qn qf va tr s H locs → lv_has ls 7 [(0, .ref (d 0)), (2, .ref (d 5)), (3, .int v3), (4, .int v4), (5, .int v5)] → W p l e rmX3_workOut s m args below meth c H locs 0 0 Q (F0 m 19 ls [])) : ∀ (va : Nat → Int64) (v3 : Int32) (v4 : Int32) (v5 : Int32) (H : Heap) (locs : List Loc) (ls : Array Slot), mX3_workOut_19_b N fw fn ff r5 r19 va v3 v4 v5 = some res → dZ D cyI cyJ cyO A bs P g d eA vr vt ol fd dc ds fw fn ff qw qn qf va tr s H locs → lv_has ls 7 [(0, .ref (d 0)), (2, .ref (d 5)), (3, .int v3), (4, .int v4), (5, .int v5)] → W p l e rmX3_workOut s m args below meth c H locs 0 0 Q (F0 m 19 ls []) := by
  intro va v3 v4 v5 H locs ls h Z hl
  unfold mX3_workOut_19_b at h
  obtain ⟨rs7, rr7, at7, fa7, ra7, Z, hF7⟩ := Z
  refine lv_iload C0.1.1 C0.1.2.1 dX3_workOut_19 (lv_at hl 4 rfl) ?_
  refine lv_bipush (v := 30) C0.1.1 C0.1.2.1 dX3_workOut_21 (by decide +kernel) ?_
  refine lv_icmp_ge (tgt := 104) C0.1.1 C0.1.2.1 dX3_workOut_23 (by decide) (fun hc => ?_) (fun hc => ?_)
  · replace h := (if_pos hc).symm.trans h
    refine lv_iinc (v := v4 + (1 : Int32)) (lv' := [(4, .int (v4 + (1 : Int32))), (0, .ref (d 0)), (2, .ref (d 5)), (3, .int v3), (5, .int v5)]) C0.1.1 C0.1.2.1 dX3_workOut_104 hl (k := 3) rfl rfl (by decide) rfl (fun ls hl => ?_)
    refine lv_goto (tgt := 5) C0.1.1 C0.1.2.1 dX3_workOut_107 (by decide) ?_
    exact hr5 va v3 (v4 + (1 : Int32)) _ _ _ h ⟨rs7, rr7, at7, fa7, ra7, Z, hF7⟩ (lv_sub hl [1, 2, 3, 0] rfl)
  · replace h := (if_neg hc).symm.trans h
    refine lv_aload_n C0.1.1 C0.1.2.1 dX3_workOut_26 rfl (lv_at hl 0 rfl) ?_
    refine g_get (ci := 5) (v := .ref (d 3)) (T := TX3) (N := 9) C0.1 Z 0 rfl rfl 3 (by decide) kX3_workOut_in3 kX3_workOut_f34 rfl rfl dX3_workOut_27 ?_
    refine lv_iload C0.1.1 C0.1.2.1 dX3_workOut_30 (lv_at hl 4 rfl) ?_
    obtain ⟨hi8, h⟩ := g_ni h
    refine d_aldF C0.1 Z hF7 hi8 dX3_workOut_32 (fun hb_9 => ?_)
    refine lv_astore (lv' := [(6, .ref (fa7 v5.toNatClampNeg)), (0, .ref (d 0)), (2, .ref (d 5)), (3, .int v3), (4, .int v4), (5, .int v5)]) C0.1.1 C0.1.2.1 dX3_workOut_33 hl (by decide) rfl (fun ls hl => ?_)
    refine lv_iload_n C0.1.1 C0.1.2.1 dX3_workOut_35 rfl (lv_at hl 3 rfl) ?_
    refine lv_iload C0.1.1 C0.1.2.1 dX3_workOut_36 (lv_at hl 5 rfl) ?_
    obtain ⟨x10, hx11, h⟩ := g_bd h
    refine x_calli (va_runS (As := [.int v3, .int v5]) (rest := []) C0.1 (zX3_holds l D cyI cyJ cyO A bs Z.2.2.2.2.2 (XD d cyI cyJ cyO eA vr vt rs7 rr7 at7 fa7 ra7 ol fd dc ds va tr ++ va_pl P g) N v3 v5 x10 hx11) (va_cwS 2 C0.1.2.2.2.2 gX3_workOut_X3_holds rfl rfl rfl (by decide +kernel) ⟨Nat.le_of_ble_eq_true rfl, Nat.le_of_ble_eq_true rfl⟩) ⟨g_blind, g_pre Z _⟩ rfl rfl hl.1 rfl (lv_room (Nat.le_of_ble_eq_true rfl)) dX3_workOut_38 ⟨Nat.le_of_ble_eq_true rfl, Nat.le_of_ble_eq_true rfl⟩) Z.2.2.2.1 (fun u t H1 locs1 ht hvm hB hS => g_post Z ht hvm hB hS) (fun r u H locs hw Z => ?_)
    subst hw
    refine lv_if_eq (tgt := 98) C0.1.1 C0.1.2.1 dX3_workOut_41 (by decide) (fun hc => ?_) (fun hc => ?_)
    · replace h := (if_pos hc).symm.trans h
      exact wX3_workOut_98 (N := N) C0 hN hT hret hr5 hr19 va v3 v4 v5 _ _ _ h ⟨rs7, rr7, at7, fa7, ra7, Z, hF7⟩ (lv_sub hl [1, 2, 3, 4, 5] rfl)
    · replace h := (if_neg hc).symm.trans h
      refine lv_aload C0.1.1 C0.1.2.1 dX3_workOut_44 (lv_at hl 0 rfl) ?_
      refine d_named (host := RX3) C0.1 Z hb_9 kX3_workOut_in1 (hN.1 _ (List.mem_of_getElem? (i := 15) rfl)) dX3_workOut_46 ?_
      refine lv_iload_n C0.1.1 C0.1.2.1 dX3_workOut_49 rfl (lv_at hl 3 rfl) ?_
      refine lv_iand C0.1.1 C0.1.2.1 dX3_workOut_50 ?_
      refine lv_if_ne (tgt := 98) C0.1.1 C0.1.2.1 dX3_workOut_51 (by decide) (fun hc => ?_) (fun hc => ?_)
      · replace h := (if_neg hc).symm.trans h
        exact wX3_workOut_98 (N := N) C0 hN hT hret hr5 hr19 va v3 v4 v5 _ _ _ h ⟨rs7, rr7, at7, fa7, ra7, Z, hF7⟩ (lv_sub hl [1, 2, 3, 4, 5] rfl)
      · replace h := (if_pos hc).symm.trans h
        refine lv_aload_n C0.1.1 C0.1.2.1 dX3_workOut_54 rfl (lv_at hl 1 rfl) ?_
        refine g_get (ci := 5) (v := .ref (d 2)) (T := TX3) (N := 9) C0.1 Z 0 rfl rfl 1 (by decide) kX3_workOut_in3 kX3_workOut_f21 rfl rfl dX3_workOut_55 ?_
        refine lv_aload C0.1.1 C0.1.2.1 dX3_workOut_58 (lv_at hl 0 rfl) ?_
        refine lv_aload_n C0.1.1 C0.1.2.1 dX3_workOut_60 rfl (lv_at hl 2 rfl) ?_
        refine x_callv (va_runVN (b := d 2) (C := RX2) (As := [.ref (fa7 v5.toNatClampNeg), .ref (d 5)]) (rest := []) C0.1 (zX2_take l D cyI cyJ cyO A bs Z.2.2.2.2.2 P g d eA vr vt rs7 rr7 at7 fa7 ra7 ol fd dc ds va tr hb_9) ⟨va_cnB 2 C0.1.2.2.2.2 gX3_workOut_X2_take_n196 rfl rfl rfl (hN.1 _ (List.mem_of_getElem? (i := 4) rfl)) (C0.1.2.2.2.2 _ kX3_workOut_iniRX2) (by decide +kernel) ⟨Nat.le_of_ble_eq_true rfl, Nat.le_of_ble_eq_true rfl⟩, C0.1.2.2.2.2 _ kX3_workOut_insX2_take, C0.1.2.2.2.2 _ kX3_workOut_selX2_take⟩ ⟨gN_blind, va_recv Z.2.1 Z.1 (ci := 4) (q0 := 2) rfl rfl, gN_pre Z hN _⟩ rfl rfl hl.1 rfl (lv_room (Nat.le_of_ble_eq_true rfl)) dX3_workOut_61 ⟨Nat.le_of_ble_eq_true rfl, Nat.le_of_ble_eq_true rfl⟩) Z.2.2.2.1 (Zd := fun (u : Nat) H1 locs1 => isA cyI P g u (fn v5.toNatClampNeg) (ff v5.toNatClampNeg) ∧ gZ D (gT cyI cyJ cyO) (XD d cyI cyJ cyO eA vr vt u (d 5) 0 fa7 ra7 ol fd dc ds va tr ++ va_pl P g) A bs s H1 locs1) (fun u t H1 locs1 ht hvm hB hS => ⟨hB.1, g_post Z ht hvm hB.2 hS⟩) (fun sa12 H locs hw Z => ?_)
        obtain ⟨hs13, Z⟩ := Z
        refine lv_aload_n C0.1.1 C0.1.2.1 dX3_workOut_64 rfl (lv_at hl 2 rfl) ?_
        refine lv_iload C0.1.1 C0.1.2.1 dX3_workOut_65 (lv_at hl 5 rfl) ?_
        refine lv_aload C0.1.1 C0.1.2.1 dX3_workOut_67 (lv_at hl 0 rfl) ?_
        obtain ⟨x14, hx15, h⟩ := g_bd h
        obtain ⟨k16, s17, hk18, hs19⟩ := isF_get (XD d cyI cyJ cyO eA vr vt sa12 (d 5) (0 : Int32) fa7 ra7 ol fd dc ds va tr) hb_9
        refine x_calli (va_runVN (b := (fa7 v5.toNatClampNeg)) (C := RX1) (As := []) (rest := [.int v5, .ref (d 5)]) C0.1 (zX1_isEmpty l D cyI cyJ cyO A bs Z.2.2.2.2.2 (XD d cyI cyJ cyO eA vr vt sa12 (d 5) (0 : Int32) fa7 ra7 ol fd dc ds va tr) P g (fa7 v5.toNatClampNeg) (fw v5.toNatClampNeg) (fn v5.toNatClampNeg) (ff v5.toNatClampNeg) hb_9 N x14 hx15) ⟨va_cnB 0 C0.1.2.2.2.2 gX3_workOut_X1_isEmpty_n106 rfl rfl rfl (hN.1 _ (List.mem_of_getElem? (i := 0) rfl)) (C0.1.2.2.2.2 _ kX3_workOut_iniRX1) (by decide +kernel) ⟨Nat.le_of_ble_eq_true rfl, Nat.le_of_ble_eq_true rfl⟩, C0.1.2.2.2.2 _ kX3_workOut_insX1_isEmpty, C0.1.2.2.2.2 _ kX3_workOut_selX1_isEmpty⟩ ⟨g_blind, va_recv Z.2.1 Z.1 (ci := 3) (q0 := k16) rfl hk18, g_pre Z _⟩ rfl rfl hl.1 rfl (lv_room (Nat.le_of_ble_eq_true rfl)) dX3_workOut_69 ⟨Nat.le_of_ble_eq_true rfl, Nat.le_of_ble_eq_true rfl⟩) Z.2.2.2.1 (fun u t H1 locs1 ht hvm hB hS => g_post Z ht hvm hB hS) (fun r u H locs hw Z => ?_)
        subst hw
        refine lv_if_eq (tgt := 79) C0.1.1 C0.1.2.1 dX3_workOut_72 (by decide) (fun hc => ?_) (fun hc => ?_)
        · replace h := (if_pos hc).symm.trans h
          refine lv_aload_n C0.1.1 C0.1.2.1 dX3_workOut_79 rfl (lv_at hl 1 rfl) ?_
          refine g_get (ci := 5) (v := .ref (d 2)) (T := TX3) (N := 9) C0.1 Z 0 rfl rfl 1 (by decide) kX3_workOut_in3 kX3_workOut_f21 rfl rfl dX3_workOut_80 ?_
          refine lv_iconst (v := 0) C0.1.1 C0.1.2.1 dX3_workOut_83 (by decide) ?_
          obtain ⟨x20, hx21, h⟩ := g_bd h
          refine x_calll (va_runVN (b := d 2) (C := RX2) (As := [.int (0 : Int32)]) (rest := [.int v5, .ref (d 5)]) C0.1 (zX2_sum l D cyI cyJ cyO A bs Z.2.2.2.2.2 P g d eA vr vt sa12 fa7 ra7 ol fd dc ds va tr N (fn v5.toNatClampNeg) (ff v5.toNatClampNeg) hs13 18 (0 : Int32) (0 : Int32) x20 hx21) ⟨va_cnB 1 C0.1.2.2.2.2 gX3_workOut_RS rfl rfl rfl (hN.1 _ (List.mem_of_getElem? (i := 6) rfl)) (C0.1.2.2.2.2 _ kX3_workOut_iniRX2) (by decide +kernel) ⟨Nat.le_of_ble_eq_true rfl, Nat.le_of_ble_eq_true rfl⟩, C0.1.2.2.2.2 _ kX3_workOut_insX2_sum, C0.1.2.2.2.2 _ kX3_workOut_selX2_sum⟩ ⟨gN_blind, va_recv Z.2.1 Z.1 (ci := 4) (q0 := 2) rfl rfl, gN_pre Z hN _⟩ rfl rfl hl.1 rfl (lv_room (Nat.le_of_ble_eq_true rfl)) dX3_workOut_84 ⟨Nat.le_of_ble_eq_true rfl, Nat.le_of_ble_eq_true rfl⟩) Z.2.2.2.1 (fun u t H1 locs1 ht hvm hB hS => g_post Z ht hvm hB hS) (fun r u H locs hw Z => ?_)
          obtain ⟨rfl, rfl⟩ := hw
          exact wX3_workOut_87 (N := N) C0 hN hT hret hr5 hr19 va v3 v4 v5 v5 x20.1 _ _ _ h ⟨sa12, (d 5), x20.2, fa7, ra7, Z, hF7⟩ (lv_sub hl [1, 2, 3, 4, 5] rfl)
        · replace h := (if_neg hc).symm.trans h
          refine lv_lconst (v := 0) C0.1.1 C0.1.2.1 dX3_workOut_75 (by decide) ?_
          refine lv_goto (tgt := 87) C0.1.1 C0.1.2.1 dX3_workOut_76 (by decide) ?_
          exact wX3_workOut_87 (N := N) C0 hN hT hret hr5 hr19 va v3 v4 v5 v5 (0 : Int64) _ _ _ h ⟨sa12, (d 5), (0 : Int32), fa7, ra7, Z, hF7⟩ (lv_sub hl [1, 2, 3, 4, 5] rfl)
theorem wX3_workOut_19 {p : Program} {l : Launch} {e : Env} {s : State} {m : MethodId} {args : Array Value} {below : List Frame} {meth : Method} {c : Code} {D : va_G} {cyI cyJ cyO : ClassId} {A : Nat → Prop} {bs : Nat} {P : List Nat} {g : Nat → va_E} {d : Nat → Nat} {eA vr vt : Nat} {Q : State → Prop} {ol : Int32} {fd : Int32} {dc : Int32} {ds : Nat → Int32} {fw : Nat → Int32} {fn : Nat → Nat} {ff : Nat → Nat → Int32} {qw : Nat → Int32} {qn : Nat → Nat} {qf : Nat → Nat → Int32} {tr : Nat → Int64} {N : Nat} {res : (Nat → Int64)} (C0 : gC p m meth c cX3_workOut 7 none s args wsX3_workOut RX3) (hN : dN s) (hT : dT A s) (hret : ∀ (va_r : Nat → Int64) (H : Heap) (locs : List Loc) (pc : Nat) (ls : Array Slot), some va_r = some res → dZ D cyI cyJ cyO A bs P g d eA vr vt ol fd dc ds fw fn ff qw qn qf va_r tr s H locs → decode cX3_workOut pc = .ok (.return_, 1) → W p l e rmX3_workOut s m args below meth c H locs 0 0 Q (F0 m pc ls [])) {r5 : (Nat → Int64) → Int32 → Int32 → Option ((Nat → Int64))} (hr5 : ∀ (va : Nat → Int64) (v3 : Int32) (v4 : Int32) (H : Heap) (locs : List Loc) (ls : Array Slot), r5 va v3 v4 = some res → dZ D cyI cyJ cyO A bs P g d eA vr vt ol fd dc ds fw fn ff qw qn qf va tr s H locs → lv_has ls 7 [(0, .ref (d 0)), (2, .ref (d 5)), (3, .int v3), (4, .int v4)] → W p l e rmX3_workOut s m args below meth c H locs 0 0 Q (F0 m 5 ls [])) : ∀ (n_ : Nat), ∀ (va : Nat → Int64) (v3 : Int32) (v4 : Int32) (v5 : Int32) (H : Heap) (locs : List Loc) (ls : Array Slot), mX3_workOut_19 N fw fn ff r5 n_ va v3 v4 v5 = some res → dZ D cyI cyJ cyO A bs P g d eA vr vt ol fd dc ds fw fn ff qw qn qf va tr s H locs → lv_has ls 7 [(0, .ref (d 0)), (2, .ref (d 5)), (3, .int v3), (4, .int v4), (5, .int v5)] → W p l e rmX3_workOut s m args below meth c H locs 0 0 Q (F0 m 19 ls []) := by
  intro n_
  induction n_ with
  | zero => intro _ _ _ _ _ _ _ h; cases h
  | succ n_ ih => exact wX3_workOut_19_b (N := N) C0 hN hT hret hr5 ih
set_option maxRecDepth 20000 in
set_option maxHeartbeats 4000000 in
theorem wX3_workOut_5_b {p : Program} {l : Launch} {e : Env} {s : State} {m : MethodId} {args : Array Value} {below : List Frame} {meth : Method} {c : Code} {D : va_G} {cyI cyJ cyO : ClassId} {A : Nat → Prop} {bs : Nat} {P : List Nat} {g : Nat → va_E} {d : Nat → Nat} {eA vr vt : Nat} {Q : State → Prop} {ol : Int32} {fd : Int32} {dc : Int32} {ds : Nat → Int32} {fw : Nat → Int32} {fn : Nat → Nat} {ff : Nat → Nat → Int32} {qw : Nat → Int32} {qn : Nat → Nat} {qf : Nat → Nat → Int32} {tr : Nat → Int64} {N : Nat} {res : (Nat → Int64)} (C0 : gC p m meth c cX3_workOut 7 none s args wsX3_workOut RX3) (hN : dN s) (hT : dT A s) (hret : ∀ (va_r : Nat → Int64) (H : Heap) (locs : List Loc) (pc : Nat) (ls : Array Slot), some va_r = some res → dZ D cyI cyJ cyO A bs P g d eA vr vt ol fd dc ds fw fn ff qw qn qf va_r tr s H locs → decode cX3_workOut pc = .ok (.return_, 1) → W p l e rmX3_workOut s m args below meth c H locs 0 0 Q (F0 m pc ls [])) {r5 : (Nat → Int64) → Int32 → Int32 → Option ((Nat → Int64))} (hr5 : ∀ (va : Nat → Int64) (v3 : Int32) (v4 : Int32) (H : Heap) (locs : List Loc) (ls : Array Slot), r5 va v3 v4 = some res → dZ D cyI cyJ cyO A bs P g d eA vr vt ol fd dc ds fw fn ff qw qn qf va tr s H locs → lv_has ls 7 [(0, .ref (d 0)), (2, .ref (d 5)), (3, .int v3), (4, .int v4)] → W p l e rmX3_workOut s m args below meth c H locs 0 0 Q (F0 m 5 ls [])) : ∀ (va : Nat → Int64) (v3 : Int32) (v4 : Int32) (H : Heap) (locs : List Loc) (ls : Array Slot), mX3_workOut_5_b N fw fn ff r5 va v3 v4 = some res → dZ D cyI cyJ cyO A bs P g d eA vr vt ol fd dc ds fw fn ff qw qn qf va tr s H locs → lv_has ls 7 [(0, .ref (d 0)), (2, .ref (d 5)), (3, .int v3), (4, .int v4)] → W p l e rmX3_workOut s m args below meth c H locs 0 0 Q (F0 m 5 ls []) := by
  intro va v3 v4 H locs ls h Z hl
  unfold mX3_workOut_5_b at h
  obtain ⟨rs22, rr22, at22, fa22, ra22, Z, hF22⟩ := Z
  refine lv_iload C0.1.1 C0.1.2.1 dX3_workOut_5 (lv_at hl 3 rfl) ?_
  refine lv_bipush (v := 30) C0.1.1 C0.1.2.1 dX3_workOut_7 (by decide +kernel) ?_
  refine lv_icmp_ge (tgt := 110) C0.1.1 C0.1.2.1 dX3_workOut_9 (by decide) (fun hc => ?_) (fun hc => ?_)
  · replace h := (if_pos hc).symm.trans h
    exact wX3_workOut_110 (N := N) C0 hN hT hret va _ _ _ h ⟨rs22, rr22, at22, fa22, ra22, Z, hF22⟩ (lv_sub hl [] rfl)
  · replace h := (if_neg hc).symm.trans h
    refine lv_iload_n C0.1.1 C0.1.2.1 dX3_workOut_12 rfl (lv_at hl 2 rfl) ?_
    refine lv_if_eq (tgt := 110) C0.1.1 C0.1.2.1 dX3_workOut_13 (by decide) (fun hc => ?_) (fun hc => ?_)
    · replace h := (if_pos hc).symm.trans h
      exact wX3_workOut_110 (N := N) C0 hN hT hret va _ _ _ h ⟨rs22, rr22, at22, fa22, ra22, Z, hF22⟩ (lv_sub hl [] rfl)
    · replace h := (if_neg hc).symm.trans h
      refine lv_iconst (v := 0) C0.1.1 C0.1.2.1 dX3_workOut_16 (by decide) ?_
      refine lv_istore (lv' := [(5, .int (0 : Int32)), (0, .ref (d 0)), (2, .ref (d 5)), (3, .int v3), (4, .int v4)]) C0.1.1 C0.1.2.1 dX3_workOut_17 hl (by decide) rfl (fun ls hl => ?_)
      exact wX3_workOut_19 (N := N) C0 hN hT hret hr5 N va v3 v4 (0 : Int32) _ _ _ h ⟨rs22, rr22, at22, fa22, ra22, Z, hF22⟩ (lv_sub hl [1, 2, 3, 4, 0] rfl)
theorem wX3_workOut_5 {p : Program} {l : Launch} {e : Env} {s : State} {m : MethodId} {args : Array Value} {below : List Frame} {meth : Method} {c : Code} {D : va_G} {cyI cyJ cyO : ClassId} {A : Nat → Prop} {bs : Nat} {P : List Nat} {g : Nat → va_E} {d : Nat → Nat} {eA vr vt : Nat} {Q : State → Prop} {ol : Int32} {fd : Int32} {dc : Int32} {ds : Nat → Int32} {fw : Nat → Int32} {fn : Nat → Nat} {ff : Nat → Nat → Int32} {qw : Nat → Int32} {qn : Nat → Nat} {qf : Nat → Nat → Int32} {tr : Nat → Int64} {N : Nat} {res : (Nat → Int64)} (C0 : gC p m meth c cX3_workOut 7 none s args wsX3_workOut RX3) (hN : dN s) (hT : dT A s) (hret : ∀ (va_r : Nat → Int64) (H : Heap) (locs : List Loc) (pc : Nat) (ls : Array Slot), some va_r = some res → dZ D cyI cyJ cyO A bs P g d eA vr vt ol fd dc ds fw fn ff qw qn qf va_r tr s H locs → decode cX3_workOut pc = .ok (.return_, 1) → W p l e rmX3_workOut s m args below meth c H locs 0 0 Q (F0 m pc ls []))  : ∀ (n_ : Nat), ∀ (va : Nat → Int64) (v3 : Int32) (v4 : Int32) (H : Heap) (locs : List Loc) (ls : Array Slot), mX3_workOut_5 N fw fn ff n_ va v3 v4 = some res → dZ D cyI cyJ cyO A bs P g d eA vr vt ol fd dc ds fw fn ff qw qn qf va tr s H locs → lv_has ls 7 [(0, .ref (d 0)), (2, .ref (d 5)), (3, .int v3), (4, .int v4)] → W p l e rmX3_workOut s m args below meth c H locs 0 0 Q (F0 m 5 ls []) := by
  intro n_
  induction n_ with
  | zero => intro _ _ _ _ _ _ h; cases h
  | succ n_ ih => exact wX3_workOut_5_b (N := N) C0 hN hT hret ih
set_option maxRecDepth 20000 in
set_option maxHeartbeats 4000000 in
theorem zX3_workOut (l : Launch) (D : va_G) (cyI cyJ cyO : ClassId) (A : Nat → Prop) (bs : Nat) (hA : ∀ q, bs ≤ q → A q) (P : List Nat) (g : Nat → va_E) (d : Nat → Nat) (eA vr vt : Nat) (ol : Int32) (fd : Int32) (dc : Int32) (ds : Nat → Int32) (fw : Nat → Int32) (fn : Nat → Nat) (ff : Nat → Nat → Int32) (qw : Nat → Int32) (qn : Nat → Nat) (qf : Nat → Nat → Int32) (va : Nat → Int64) (tr : Nat → Int64) (N : Nat) (p0 : Int32) (res : (Nat → Int64)) (h : mX3_workOut N fw fn ff va p0 = some res) : Met l yX3_workOut wsX3_workOut rmX3_workOut (va_Pc [.ref (d 0), .int p0, .ref (d 5)] (dP (dW D cyI cyJ cyO A bs P g d eA vr vt ol fd dc ds fw fn ff qw qn qf va tr) A)) (va_Qv (fun (u : (Nat → Int64)) => res = u) (fun (u : (Nat → Int64)) U => dW D cyI cyJ cyO A bs P g d eA vr vt ol fd dc ds fw fn ff qw qn qf u tr U) A)  0 0 A := by
  refine Met.ofW (cc := cX3_workOut) (maxL := 7) (ret := none) (by decide) rfl ?_
  intro p e s m args below meth c s₁ B hml hv
  obtain ⟨hav, hv⟩ := hv
  obtain ⟨hv, hN, hT⟩ := hv
  have C0 : gC p m meth c cX3_workOut 7 none s args wsX3_workOut RX3 := ⟨⟨B.exec, B.bytes, hml, findClass_of_methodNamed B.named, atoms_spec (ws := wsX3_workOut) B.pre⟩, B.returns, B.notSynchronized⟩
  have Z := dZ_start hA hv
  have hret : ∀ (va_r : Nat → Int64) (H : Heap) (locs : List Loc) (pc : Nat) (ls : Array Slot), some va_r = some res → dZ D cyI cyJ cyO A bs P g d eA vr vt ol fd dc ds fw fn ff qw qn qf va_r tr s H locs → decode cX3_workOut pc = .ok (.return_, 1) → W p l e rmX3_workOut s m args below meth c H locs 0 0 (MQ below (va_Qv (fun (u : (Nat → Int64)) => res = u) (fun (u : (Nat → Int64)) U => dW D cyI cyJ cyO A bs P g d eA vr vt ol fd dc ds fw fn ff qw qn qf u tr U) A) args s 0 0 A) (F0 m pc ls []) := by
    intro va_r H locs pc ls h Z hd
    replace h := Option.some.inj h
    subst h
    exact W.vret C0.1.1 C0.1.2.1 C0.2.1 (fun t ht hW => ⟨⟨va_r, rfl, rfl, dZ_end Z ht hW⟩, va_S.F (dZ_S Z) ht⟩) (dZ_S Z).2.2 hd C0.2.2
  have hl := lv_entry ([.ref (d 0), .int p0, .ref (d 5)]) (n := 7) (Nat.le_of_ble_eq_true rfl)
  rw [hav, lg_entry_eq]
  generalize (lg_sl ([.ref (d 0), .int p0, .ref (d 5)]) ++ List.replicate (7 - (lg_sl ([.ref (d 0), .int p0, .ref (d 5)])).length) Slot.unset).toArray = ls at hl ⊢
  have hl : lv_has ls 7 [(0, .ref (d 0)), (1, .int p0), (2, .ref (d 5))] := hl
  rw [← hav]
  unfold mX3_workOut at h
  obtain ⟨rs23, rr23, at23, fa23, ra23, Z, hF23⟩ := Z
  refine lv_iload_n C0.1.1 C0.1.2.1 dX3_workOut_0 rfl (lv_at hl 1 rfl) ?_
  refine lv_istore_n (lv' := [(3, .int p0), (0, .ref (d 0)), (1, .int p0), (2, .ref (d 5))]) C0.1.1 C0.1.2.1 dX3_workOut_1 rfl hl (by decide) rfl (fun ls hl => ?_)
  refine lv_iconst (v := 0) C0.1.1 C0.1.2.1 dX3_workOut_2 (by decide) ?_
  refine lv_istore (lv' := [(4, .int (0 : Int32)), (3, .int p0), (0, .ref (d 0)), (1, .int p0), (2, .ref (d 5))]) C0.1.1 C0.1.2.1 dX3_workOut_3 hl (by decide) rfl (fun ls hl => ?_)
  exact wX3_workOut_5 (N := N) C0 hN hT hret N va p0 (0 : Int32) _ _ _ h ⟨rs23, rr23, at23, fa23, ra23, Z, hF23⟩ (lv_sub hl [2, 4, 1, 0] rfl)
/-! X3_valueAnew -/
abbrev rmX3_valueAnew : Room := { frames := 60, cells := 2, slots := 12, locals := 1464 }
theorem kX3_valueAnew_in3 : ∀ w ∈ wsX30, w ∈ wsX3_valueAnew := by decide +kernel
theorem kX3_valueAnew_f45 : Cond.fieldLink RX3 45 "GoalseekOffice" "trial" "[J" ∈ wsX3_valueAnew := by decide +kernel
def mX3_valueAnew (N : Nat) (fw : Nat → Int32) (fn : Nat → Nat) (ff : Nat → Nat → Int32) (tr : Nat → Int64) (p0 : Int32) : Option (Nat × Int64 × (Nat → Int64)) := ((mX3_requireCell N p0).bind fun x2 => (if x2 = 0 then ((mX3_only N p0).bind fun x4 => ((mX3_withDependencies N fw fn ff x4).bind fun x6 => ((mX3_workOut N fw fn ff tr x6).bind fun x9 => (if p0 < 0 ∨ 30 ≤ p0.toNatClampNeg then none else ((mX3_requireValue N (x9 p0.toNatClampNeg)).bind fun x13 => (if x13 = 0 then (if p0 < 0 ∨ 30 ≤ p0.toNatClampNeg then none else some (0, (x9 p0.toNatClampNeg), x9)) else some (x13, 0, x9))))))) else some (x2, 0, tr)))
set_option maxRecDepth 20000 in
set_option maxHeartbeats 4000000 in
theorem zX3_valueAnew (l : Launch) (hlf : l.stackTraces = false) (D : va_G) (cyI cyJ cyO : ClassId) (A : Nat → Prop) (bs : Nat) (hA : ∀ q, bs ≤ q → A q) (P : List Nat) (g : Nat → va_E) (d : Nat → Nat) (eA : Nat) (ol : Int32) (fd : Int32) (dc : Int32) (ds : Nat → Int32) (fw : Nat → Int32) (fn : Nat → Nat) (ff : Nat → Nat → Int32) (qw : Nat → Int32) (qn : Nat → Nat) (qf : Nat → Nat → Int32) (va : Nat → Int64) (tr : Nat → Int64) (N : Nat) (p0 : Int32) (res : Nat × Int64 × (Nat → Int64)) (h : mX3_valueAnew N fw fn ff tr p0 = some res) : vx_Met l yX3_valueAnew wsX3_valueAnew rmX3_valueAnew (va_Pc [.ref (d 0), .int p0] (dP (dW D cyI cyJ cyO A bs P g d eA (d 5) (d 6) ol fd dc ds fw fn ff qw qn qf va tr) A)) (va_Ql (fun (r : Int64) (u : (Nat → Int64)) => res.1 = 0 ∧ res.2.1 = r ∧ res.2.2 = u) (fun (u : (Nat → Int64)) U => dW D cyI cyJ cyO A bs P g d eA (d 5) (d 6) ol fd dc ds fw fn ff qw qn qf va u U) A) (vx_X (S := (Nat → Int64)) (fun _ => True) (fun E u t => res.1 ≠ 0 ∧ E = exN res.1 ∧ res.2.2 = u ∧ dW D cyI cyJ cyO A bs P g d eA (d 5) (d 6) ol fd dc ds fw fn ff qw qn qf va u t) A) 2 12 A := by
  refine vx_ofW (cc := cX3_valueAnew) (maxL := 2) (ret := (some .long)) (by decide) rfl ?_
  intro p e s m args below meth c s₁ B hml hxt hv
  obtain ⟨hav, hv⟩ := hv
  obtain ⟨hv, hN, hT⟩ := hv
  have C0 : gC p m meth c cX3_valueAnew 2 (some .long) s args wsX3_valueAnew RX3 := ⟨⟨B.exec, B.bytes, hml, findClass_of_methodNamed B.named, atoms_spec (ws := wsX3_valueAnew) B.pre⟩, B.returns, B.notSynchronized⟩
  have Z := dZ_start hA hv
  have hret : ∀ (r : Int64) (tr_r : Nat → Int64) (H : Heap) (locs : List Loc) (pc : Nat) (ls : Array Slot), some (0, r, tr_r) = some res → dZ D cyI cyJ cyO A bs P g d eA (d 5) (d 6) ol fd dc ds fw fn ff qw qn qf va tr_r s H locs → decode cX3_valueAnew pc = .ok (.lreturn, 1) → W p l e rmX3_valueAnew s m args below meth c H locs 2 12 (vx_MQ below (va_Ql (fun (r : Int64) (u : (Nat → Int64)) => res.1 = 0 ∧ res.2.1 = r ∧ res.2.2 = u) (fun (u : (Nat → Int64)) U => dW D cyI cyJ cyO A bs P g d eA (d 5) (d 6) ol fd dc ds fw fn ff qw qn qf va u U) A) (vx_X (S := (Nat → Int64)) (fun _ => True) (fun E u t => res.1 ≠ 0 ∧ E = exN res.1 ∧ res.2.2 = u ∧ dW D cyI cyJ cyO A bs P g d eA (d 5) (d 6) ol fd dc ds fw fn ff qw qn qf va u t) A) args s 2 12 A) (F0 m pc ls [.long r]) := by
    intro r tr_r H locs pc ls h Z hd
    replace h := Option.some.inj h
    subst h
    exact vx_ret (W.lret C0.1.1 C0.1.2.1 C0.2.1 (fun t ht hW => ⟨⟨r, tr_r, rfl, ⟨rfl, rfl, rfl⟩, dZ_end Z ht hW⟩, va_S.F (dZ_S Z) ht⟩) (dZ_S Z).2.2 hd C0.2.2)
  have hxc : ∀ (k : Nat) (tr_r : Nat → Int64) (H : Heap) (locs : List Loc) (t : State), k ≠ 0 → some (k, 0, tr_r) = some res → dZ D cyI cyJ cyO A bs P g d eA (d 5) (d 6) ol fd dc ds fw fn ff qw qn qf va tr_r s H locs → s.vm.Alike t.vm → H.size ≤ t.heap.size → (∀ q : Nat, q < H.size → t.heap[q]? = H[q]?) → (vx_X (S := (Nat → Int64)) (fun _ => True) (fun E u t => res.1 ≠ 0 ∧ E = exN res.1 ∧ res.2.2 = u ∧ dW D cyI cyJ cyO A bs P g d eA (d 5) (d 6) ol fd dc ds fw fn ff qw qn qf va u t) A) (exN k) s t := by
    intro k tr_r H locs t hk h Z hvm hz hq
    replace h := Option.some.inj h
    subst h
    exact ⟨tr_r, trivial, ⟨hk, rfl, rfl, dW_grow Z hvm hz hq⟩, vaF_grow (dZ_S Z) hz hq⟩
  have hl := lv_entry ([.ref (d 0), .int p0]) (n := 2) (Nat.le_of_ble_eq_true rfl)
  rw [hav, lg_entry_eq]
  generalize (lg_sl ([.ref (d 0), .int p0]) ++ List.replicate (2 - (lg_sl ([.ref (d 0), .int p0])).length) Slot.unset).toArray = ls at hl ⊢
  have hl : lv_has ls 2 [(0, .ref (d 0)), (1, .int p0)] := hl
  rw [← hav]
  unfold mX3_valueAnew at h
  obtain ⟨rs1, rr1, at1, fa1, ra1, Z, hF1⟩ := Z
  refine lv_iload_n C0.1.1 C0.1.2.1 dX3_valueAnew_0 rfl (lv_at hl 1 rfl) ?_
  obtain ⟨x2, hx3, h⟩ := g_bd h
  refine x_xcallv (vx_runS (As := [.int p0]) (rest := []) C0.1 (zX3_requireCell l hlf D cyI cyJ cyO A bs Z.2.2.2.2.2 (XD d cyI cyJ cyO eA (d 5) (d 6) rs1 rr1 at1 fa1 ra1 ol fd dc ds va tr ++ va_pl P g) N p0 x2 hx3) (va_cwS 1 C0.1.2.2.2.2 gX3_valueAnew_X3_requireCell rfl rfl rfl (by decide +kernel) ⟨Nat.le_of_ble_eq_true rfl, Nat.le_of_ble_eq_true rfl⟩) ⟨gP_blind, gP_pre Z hN hT _⟩ rfl rfl hl.1 rfl (lv_room (Nat.le_of_ble_eq_true rfl)) dX3_valueAnew_1 ⟨Nat.le_of_ble_eq_true rfl, Nat.le_of_ble_eq_true rfl⟩) Z.2.2.2.1 (fun u t H1 locs1 ht hvm hB hS => g_post Z ht hvm hB hS) (fun E ce q9 u t H locs ht hvm _ hB hS h1 h2 h3 => ?_) (fun u H locs hw Z => ?_)
  · obtain ⟨hk, rfl, hB⟩ := hB
    replace h := (if_neg hk).symm.trans h
    exact vx_out (fun x hx => (hxt x hx).elim) C0.2.2 h1 h2 h3 (fun t1 ht1 hvm1 => hxc x2 tr _ _ t1 hk h (⟨rs1, rr1, at1, fa1, ra1, g_post Z ht hvm hB hS, hF1⟩) hvm1 (by rw [ht1]; exact Nat.le_refl _) (fun q _ => by rw [ht1])) hS.2.2 (Nat.le_of_ble_eq_true rfl) (Nat.le_of_ble_eq_true rfl)
  replace h := (if_pos hw).symm.trans h
  refine lv_aload_n C0.1.1 C0.1.2.1 dX3_valueAnew_4 rfl (lv_at hl 0 rfl) ?_
  refine lv_aload_n C0.1.1 C0.1.2.1 dX3_valueAnew_5 rfl (lv_at hl 0 rfl) ?_
  refine lv_iload_n C0.1.1 C0.1.2.1 dX3_valueAnew_6 rfl (lv_at hl 1 rfl) ?_
  obtain ⟨x4, hx5, h⟩ := g_bd h
  refine x_calli (va_runS (As := [.int p0]) (rest := [.ref (d 0), .ref (d 0)]) C0.1 (zX3_only l D cyI cyJ cyO A bs Z.2.2.2.2.2 (XD d cyI cyJ cyO eA (d 5) (d 6) rs1 rr1 at1 fa1 ra1 ol fd dc ds va tr ++ va_pl P g) N p0 x4 hx5) (va_cwS 1 C0.1.2.2.2.2 gX3_valueAnew_X3_only rfl rfl rfl (by decide +kernel) ⟨Nat.le_of_ble_eq_true rfl, Nat.le_of_ble_eq_true rfl⟩) ⟨g_blind, g_pre Z _⟩ rfl rfl hl.1 rfl (lv_room (Nat.le_of_ble_eq_true rfl)) dX3_valueAnew_7 ⟨Nat.le_of_ble_eq_true rfl, Nat.le_of_ble_eq_true rfl⟩) Z.2.2.2.1 (fun u t H1 locs1 ht hvm hB hS => g_post Z ht hvm hB hS) (fun r u H locs hw Z => ?_)
  subst hw
  obtain ⟨x6, hx7, h⟩ := g_bd h
  refine x_calli (va_runV (b := d 0) (C := RX3) (As := [.int x4]) (rest := [.ref (d 0)]) C0.1 (zX3_withDependencies l D cyI cyJ cyO A bs Z.2.2.2.2.2 P g d eA ol fd dc ds fw fn ff qw qn qf va tr N x4 x6 hx7) (cwV 1 C0.1.2.2.2.2 gX3_valueAnew_X3_withDependencies rfl rfl rfl (by decide +kernel) ⟨Nat.le_of_ble_eq_true rfl, Nat.le_of_ble_eq_true rfl⟩) ⟨dP_blind, va_recv Z.2.1 Z.1 (ci := 5) (q0 := 0) rfl rfl, dP_pre ⟨rs1, rr1, at1, fa1, ra1, Z, hF1⟩ hN hT _⟩ rfl rfl hl.1 rfl (lv_room (Nat.le_of_ble_eq_true rfl)) dX3_valueAnew_10 ⟨Nat.le_of_ble_eq_true rfl, Nat.le_of_ble_eq_true rfl⟩) Z.2.2.2.1 (fun u t H1 locs1 ht hvm hB hS => dW_post Z ht hvm hB hS) (fun r u H locs hw Z => ?_)
  subst hw
  obtain ⟨rs8, rr8, at8, fa8, ra8, Z, hF8⟩ := Z
  refine lv_aload_n C0.1.1 C0.1.2.1 dX3_valueAnew_13 rfl (lv_at hl 0 rfl) ?_
  refine g_get (ci := 5) (v := .ref (d 6)) (T := TX3) (N := 9) C0.1 Z 0 rfl rfl 6 (by decide) kX3_valueAnew_in3 kX3_valueAnew_f45 rfl rfl dX3_valueAnew_14 ?_
  obtain ⟨x9, hx10, h⟩ := g_bd h
  refine x_callv (va_runV (b := d 0) (C := RX3) (As := [.int x6, .ref (d 6)]) (rest := []) C0.1 (zX3_workOut l D cyI cyJ cyO A bs Z.2.2.2.2.2 P g (dsw d) eA (d 5) (d 6) ol fd dc ds fw fn ff qw qn qf tr va N x6 x9 hx10) (cwV 2 C0.1.2.2.2.2 gX3_valueAnew_X3_workOut rfl rfl rfl (by decide +kernel) ⟨Nat.le_of_ble_eq_true rfl, Nat.le_of_ble_eq_true rfl⟩) ⟨dP_blind, va_recv Z.2.1 Z.1 (ci := 5) (q0 := 0) rfl rfl, dP_pre (dZ_sw ⟨rs8, rr8, at8, fa8, ra8, Z, hF8⟩) hN hT _⟩ rfl rfl hl.1 rfl (lv_room (Nat.le_of_ble_eq_true rfl)) dX3_valueAnew_17 ⟨Nat.le_of_ble_eq_true rfl, Nat.le_of_ble_eq_true rfl⟩) Z.2.2.2.1 (Zd := fun (u : (Nat → Int64)) H1 locs1 => dZ D cyI cyJ cyO A bs P g d eA (d 5) (d 6) ol fd dc ds fw fn ff qw qn qf va u s H1 locs1) (fun u t H1 locs1 ht hvm hB hS => dZ_ws (dW_post Z ht hvm hB hS)) (fun u H locs hw Z => ?_)
  subst hw
  obtain ⟨rs11, rr11, at11, fa11, ra11, Z, hF11⟩ := Z
  refine lv_aload_n C0.1.1 C0.1.2.1 dX3_valueAnew_20 rfl (lv_at hl 0 rfl) ?_
  refine g_get (ci := 5) (v := .ref (d 6)) (T := TX3) (N := 9) C0.1 Z 0 rfl rfl 6 (by decide) kX3_valueAnew_in3 kX3_valueAnew_f45 rfl rfl dX3_valueAnew_21 ?_
  refine lv_iload_n C0.1.1 C0.1.2.1 dX3_valueAnew_24 rfl (lv_at hl 1 rfl) ?_
  obtain ⟨hi12, h⟩ := g_ni h
  refine g_lald (f := x9) (n := 30) C0.1 Z 6 1 rfl rfl hi12 dX3_valueAnew_25 ?_
  obtain ⟨x13, hx14, h⟩ := g_bd h
  refine x_xcallv (vx_runS (As := [.long (x9 p0.toNatClampNeg)]) (rest := []) C0.1 (zX3_requireValue l hlf D cyI cyJ cyO A bs Z.2.2.2.2.2 (XD d cyI cyJ cyO eA (d 5) (d 6) rs11 rr11 at11 fa11 ra11 ol fd dc ds va x9 ++ va_pl P g) N (x9 p0.toNatClampNeg) x13 hx14) (va_cwS 1 C0.1.2.2.2.2 gX3_valueAnew_X3_requireValue rfl rfl rfl (by decide +kernel) ⟨Nat.le_of_ble_eq_true rfl, Nat.le_of_ble_eq_true rfl⟩) ⟨gP_blind, gP_pre Z hN hT _⟩ rfl rfl hl.1 rfl (lv_room (Nat.le_of_ble_eq_true rfl)) dX3_valueAnew_26 ⟨Nat.le_of_ble_eq_true rfl, Nat.le_of_ble_eq_true rfl⟩) Z.2.2.2.1 (fun u t H1 locs1 ht hvm hB hS => g_post Z ht hvm hB hS) (fun E ce q9 u t H locs ht hvm _ hB hS h1 h2 h3 => ?_) (fun u H locs hw Z => ?_)
  · obtain ⟨hk, rfl, hB⟩ := hB
    replace h := (if_neg hk).symm.trans h
    exact vx_out (fun x hx => (hxt x hx).elim) C0.2.2 h1 h2 h3 (fun t1 ht1 hvm1 => hxc x13 x9 _ _ t1 hk h (⟨rs11, rr11, at11, fa11, ra11, g_post Z ht hvm hB hS, hF11⟩) hvm1 (by rw [ht1]; exact Nat.le_refl _) (fun q _ => by rw [ht1])) hS.2.2 (Nat.le_of_ble_eq_true rfl) (Nat.le_of_ble_eq_true rfl)
  replace h := (if_pos hw).symm.trans h
  refine lv_aload_n C0.1.1 C0.1.2.1 dX3_valueAnew_29 rfl (lv_at hl 0 rfl) ?_
  refine g_get (ci := 5) (v := .ref (d 6)) (T := TX3) (N := 9) C0.1 Z 0 rfl rfl 6 (by decide) kX3_valueAnew_in3 kX3_valueAnew_f45 rfl rfl dX3_valueAnew_30 ?_
  refine lv_iload_n C0.1.1 C0.1.2.1 dX3_valueAnew_33 rfl (lv_at hl 1 rfl) ?_
  obtain ⟨hi15, h⟩ := g_ni h
  refine g_lald (f := x9) (n := 30) C0.1 Z 6 1 rfl rfl hi15 dX3_valueAnew_34 ?_
  exact hret (x9 p0.toNatClampNeg) x9 _ _ _ _ h ⟨rs11, rr11, at11, fa11, ra11, Z, hF11⟩ dX3_valueAnew_35
/-! X3_goalWith -/
abbrev rmX3_goalWith : Room := { frames := 60, cells := 0, slots := 0, locals := 1464 }
theorem kX3_goalWith_in3 : ∀ w ∈ wsX30, w ∈ wsX3_goalWith := by decide +kernel
theorem kX3_goalWith_f45 : Cond.fieldLink RX3 45 "GoalseekOffice" "trial" "[J" ∈ wsX3_goalWith := by decide +kernel
def mX3_goalWith (N : Nat) (fw : Nat → Int32) (fn : Nat → Nat) (ff : Nat → Nat → Int32) (tr : Nat → Int64) (p0 : Int32) (p1 : Int32) (p2 : Int32) (p3 : Int32) : Option (Int64 × (Nat → Int64)) := (if p1 < 0 ∨ 30 ≤ p1.toNatClampNeg then none else ((mX3_workOut N fw fn ff (vp_updL tr p1.toNatClampNeg (p2.toInt64)) p3).bind fun x3 => (if p0 < 0 ∨ 30 ≤ p0.toNatClampNeg then none else some ((x3 p0.toNatClampNeg), x3))))
set_option maxRecDepth 20000 in
set_option maxHeartbeats 4000000 in
theorem zX3_goalWith (l : Launch) (D : va_G) (cyI cyJ cyO : ClassId) (A : Nat → Prop) (bs : Nat) (hA : ∀ q, bs ≤ q → A q) (P : List Nat) (g : Nat → va_E) (d : Nat → Nat) (eA : Nat) (ol : Int32) (fd : Int32) (dc : Int32) (ds : Nat → Int32) (fw : Nat → Int32) (fn : Nat → Nat) (ff : Nat → Nat → Int32) (qw : Nat → Int32) (qn : Nat → Nat) (qf : Nat → Nat → Int32) (va : Nat → Int64) (tr : Nat → Int64) (N : Nat) (p0 : Int32) (p1 : Int32) (p2 : Int32) (p3 : Int32) (res : Int64 × (Nat → Int64)) (h : mX3_goalWith N fw fn ff tr p0 p1 p2 p3 = some res) : Met l yX3_goalWith wsX3_goalWith rmX3_goalWith (va_Pc [.ref (d 0), .int p0, .int p1, .int p2, .int p3] (dP (dW D cyI cyJ cyO A bs P g d eA (d 5) (d 6) ol fd dc ds fw fn ff qw qn qf va tr) A)) (va_Ql (fun (r : Int64) (u : (Nat → Int64)) => res.1 = r ∧ res.2 = u) (fun (u : (Nat → Int64)) U => dW D cyI cyJ cyO A bs P g d eA (d 5) (d 6) ol fd dc ds fw fn ff qw qn qf va u U) A)  0 0 A := by
  refine Met.ofW (cc := cX3_goalWith) (maxL := 5) (ret := (some .long)) (by decide) rfl ?_
  intro p e s m args below meth c s₁ B hml hv
  obtain ⟨hav, hv⟩ := hv
  obtain ⟨hv, hN, hT⟩ := hv
  have C0 : gC p m meth c cX3_goalWith 5 (some .long) s args wsX3_goalWith RX3 := ⟨⟨B.exec, B.bytes, hml, findClass_of_methodNamed B.named, atoms_spec (ws := wsX3_goalWith) B.pre⟩, B.returns, B.notSynchronized⟩
  have Z := dZ_start hA hv
  have hret : ∀ (r : Int64) (tr_r : Nat → Int64) (H : Heap) (locs : List Loc) (pc : Nat) (ls : Array Slot), some (r, tr_r) = some res → dZ D cyI cyJ cyO A bs P g d eA (d 5) (d 6) ol fd dc ds fw fn ff qw qn qf va tr_r s H locs → decode cX3_goalWith pc = .ok (.lreturn, 1) → W p l e rmX3_goalWith s m args below meth c H locs 0 0 (MQ below (va_Ql (fun (r : Int64) (u : (Nat → Int64)) => res.1 = r ∧ res.2 = u) (fun (u : (Nat → Int64)) U => dW D cyI cyJ cyO A bs P g d eA (d 5) (d 6) ol fd dc ds fw fn ff qw qn qf va u U) A) args s 0 0 A) (F0 m pc ls [.long r]) := by
    intro r tr_r H locs pc ls h Z hd
    replace h := Option.some.inj h
    subst h
    exact W.lret C0.1.1 C0.1.2.1 C0.2.1 (fun t ht hW => ⟨⟨r, tr_r, rfl, ⟨rfl, rfl⟩, dZ_end Z ht hW⟩, va_S.F (dZ_S Z) ht⟩) (dZ_S Z).2.2 hd C0.2.2
  have hl := lv_entry ([.ref (d 0), .int p0, .int p1, .int p2, .int p3]) (n := 5) (Nat.le_of_ble_eq_true rfl)
  rw [hav, lg_entry_eq]
  generalize (lg_sl ([.ref (d 0), .int p0, .int p1, .int p2, .int p3]) ++ List.replicate (5 - (lg_sl ([.ref (d 0), .int p0, .int p1, .int p2, .int p3])).length) Slot.unset).toArray = ls at hl ⊢
  have hl : lv_has ls 5 [(0, .ref (d 0)), (1, .int p0), (2, .int p1), (3, .int p2), (4, .int p3)] := hl
  rw [← hav]
  unfold mX3_goalWith at h
  obtain ⟨rs1, rr1, at1, fa1, ra1, Z, hF1⟩ := Z
  refine lv_aload_n C0.1.1 C0.1.2.1 dX3_goalWith_0 rfl (lv_at hl 0 rfl) ?_
  refine g_get (ci := 5) (v := .ref (d 6)) (T := TX3) (N := 9) C0.1 Z 0 rfl rfl 6 (by decide) kX3_goalWith_in3 kX3_goalWith_f45 rfl rfl dX3_goalWith_1 ?_
  refine lv_iload_n C0.1.1 C0.1.2.1 dX3_goalWith_4 rfl (lv_at hl 2 rfl) ?_
  refine lv_iload_n C0.1.1 C0.1.2.1 dX3_goalWith_5 rfl (lv_at hl 3 rfl) ?_
  refine lv_i2l C0.1.1 C0.1.2.1 dX3_goalWith_6 rfl ?_
  obtain ⟨hi2, h⟩ := g_ni h
  refine g_last (f := tr) (n := 30) (ws' := (XD d cyI cyJ cyO eA (d 5) (d 6) rs1 rr1 at1 fa1 ra1 ol fd dc ds va (vp_updL tr p1.toNatClampNeg (p2.toInt64)) ++ va_pl P g)) C0.1 Z 6 1 rfl rfl hi2 dX3_goalWith_7 rfl (fun H locs Z => ?_)
  refine lv_aload_n C0.1.1 C0.1.2.1 dX3_goalWith_8 rfl (lv_at hl 0 rfl) ?_
  refine lv_iload C0.1.1 C0.1.2.1 dX3_goalWith_9 (lv_at hl 4 rfl) ?_
  refine lv_aload_n C0.1.1 C0.1.2.1 dX3_goalWith_11 rfl (lv_at hl 0 rfl) ?_
  refine g_get (ci := 5) (v := .ref (d 6)) (T := TX3) (N := 9) C0.1 Z 0 rfl rfl 6 (by decide) kX3_goalWith_in3 kX3_goalWith_f45 rfl rfl dX3_goalWith_12 ?_
  obtain ⟨x3, hx4, h⟩ := g_bd h
  refine x_callv (va_runV (b := d 0) (C := RX3) (As := [.int p3, .ref (d 6)]) (rest := []) C0.1 (zX3_workOut l D cyI cyJ cyO A bs Z.2.2.2.2.2 P g (dsw d) eA (d 5) (d 6) ol fd dc ds fw fn ff qw qn qf (vp_updL tr p1.toNatClampNeg (p2.toInt64)) va N p3 x3 hx4) (cwV 2 C0.1.2.2.2.2 gX3_goalWith_X3_workOut rfl rfl rfl (by decide +kernel) ⟨Nat.le_of_ble_eq_true rfl, Nat.le_of_ble_eq_true rfl⟩) ⟨dP_blind, va_recv Z.2.1 Z.1 (ci := 5) (q0 := 0) rfl rfl, dP_pre (dZ_sw ⟨rs1, rr1, at1, fa1, ra1, Z, hF1⟩) hN hT _⟩ rfl rfl hl.1 rfl (lv_room (Nat.le_of_ble_eq_true rfl)) dX3_goalWith_15 ⟨Nat.le_of_ble_eq_true rfl, Nat.le_of_ble_eq_true rfl⟩) Z.2.2.2.1 (Zd := fun (u : (Nat → Int64)) H1 locs1 => dZ D cyI cyJ cyO A bs P g d eA (d 5) (d 6) ol fd dc ds fw fn ff qw qn qf va u s H1 locs1) (fun u t H1 locs1 ht hvm hB hS => dZ_ws (dW_post Z ht hvm hB hS)) (fun u H locs hw Z => ?_)
  subst hw
  obtain ⟨rs5, rr5, at5, fa5, ra5, Z, hF5⟩ := Z
  refine lv_aload_n C0.1.1 C0.1.2.1 dX3_goalWith_18 rfl (lv_at hl 0 rfl) ?_
  refine g_get (ci := 5) (v := .ref (d 6)) (T := TX3) (N := 9) C0.1 Z 0 rfl rfl 6 (by decide) kX3_goalWith_in3 kX3_goalWith_f45 rfl rfl dX3_goalWith_19 ?_
  refine lv_iload_n C0.1.1 C0.1.2.1 dX3_goalWith_22 rfl (lv_at hl 1 rfl) ?_
  obtain ⟨hi6, h⟩ := g_ni h
  refine g_lald (f := x3) (n := 30) C0.1 Z 6 1 rfl rfl hi6 dX3_goalWith_23 ?_
  exact hret (x3 p0.toNatClampNeg) x3 _ _ _ _ h ⟨rs5, rr5, at5, fa5, ra5, Z, hF5⟩ dX3_goalWith_24
/-! X3_search -/
abbrev rmX3_search : Room := { frames := 61, cells := 0, slots := 0, locals := 1488 }
theorem kX3_search_c160 : Cond.constant RX3 160 (999999) ∈ wsX3_search := by decide +kernel
theorem kX3_search_c151 : Cond.constantLong RX3 151 (-9223372036854775808) ∈ wsX3_search := by decide +kernel
theorem kX3_search_in3 : ∀ w ∈ wsX30, w ∈ wsX3_search := by decide +kernel
theorem kX3_search_f41 : Cond.fieldLink RX3 41 "GoalseekOffice" "values" "[J" ∈ wsX3_search := by decide +kernel
theorem kX3_search_f45 : Cond.fieldLink RX3 45 "GoalseekOffice" "trial" "[J" ∈ wsX3_search := by decide +kernel
theorem kX3_search_m179a : Cond.methodLink RX3 179 arraycopyName ∈ wsX3_search := by decide +kernel
theorem kX3_search_m179b : Cond.native arraycopyName ∈ wsX3_search := by decide +kernel
theorem kX3_search_m179c : Cond.static arraycopyName ∈ wsX3_search := by decide +kernel
theorem kX3_search_m179d : Cond.initialized "java/lang/System" ∈ wsX3_search := by decide +kernel
def mX3_search_204 (N : Nat) (fw : Nat → Int32) (fn : Nat → Nat) (ff : Nat → Nat → Int32) (va : Nat → Int64) (tr : Nat → Int64) (s0 : Int32) : Option (Int32 × (Nat → Int64)) := some (s0, tr)
def mX3_search_189 (N : Nat) (fw : Nat → Int32) (fn : Nat → Nat) (ff : Nat → Nat → Int32) (va : Nat → Int64) (tr : Nat → Int64) (v2 : Int32) (v7 : Int32) (v8 : Int32) (v9 : Int64) : Option (Int32 × (Nat → Int64)) := (if (lg_cmp v9 (v2.toInt64)) = 0 then mX3_search_204 N fw fn ff va tr v7 else mX3_search_204 N fw fn ff va tr v8)
def mX3_search_183 (N : Nat) (fw : Nat → Int32) (fn : Nat → Nat) (ff : Nat → Nat → Int32) (va : Nat → Int64) (r108 : (Nat → Int64) → Int32 → Int32 → Int32 → Int32 → Int32 → Int32 → Int64 → Int32 → Option (Int32 × (Nat → Int64))) (tr : Nat → Int64) (v1 : Int32) (v2 : Int32) (v3 : Int32) (v6 : Int32) (v7 : Int32) (v8 : Int32) (v9 : Int64) (v13 : Int32) : Option (Int32 × (Nat → Int64)) := r108 tr v1 v2 v3 v6 v7 v8 v9 (v13 + (1 : Int32))
def mX3_search_108_b (N : Nat) (fw : Nat → Int32) (fn : Nat → Nat) (ff : Nat → Nat → Int32) (va : Nat → Int64) (r108 : (Nat → Int64) → Int32 → Int32 → Int32 → Int32 → Int32 → Int32 → Int64 → Int32 → Option (Int32 × (Nat → Int64))) (tr : Nat → Int64) (v1 : Int32) (v2 : Int32) (v3 : Int32) (v6 : Int32) (v7 : Int32) (v8 : Int32) (v9 : Int64) (v13 : Int32) : Option (Int32 × (Nat → Int64)) := (if (999999 : Int32) ≤ v13 then mX3_search_189 N fw fn ff va tr v2 v7 v8 v9 else (if v8 ≤ (v7 + (1 : Int32)) then mX3_search_189 N fw fn ff va tr v2 v7 v8 v9 else ((mX3_goalWith N fw fn ff tr v1 v3 ((v7 + v8) / (2 : Int32)) v6).bind fun x5 => (if (lg_cmp x5.1 (-9223372036854775808 : Int64)) = 0 then some ((-1 : Int32), x5.2) else ((mX3_onOneSide N x5.1 v9 (v2.toInt64)).bind fun x8 => (if x8 = 0 then mX3_search_183 N fw fn ff va r108 x5.2 v1 v2 v3 v6 v7 ((v7 + v8) / (2 : Int32)) v9 v13 else mX3_search_183 N fw fn ff va r108 x5.2 v1 v2 v3 v6 ((v7 + v8) / (2 : Int32)) v8 x5.1 v13))))))
def mX3_search_108 (N : Nat) (fw : Nat → Int32) (fn : Nat → Nat) (ff : Nat → Nat → Int32) (va : Nat → Int64) : Nat → (Nat → Int64) → Int32 → Int32 → Int32 → Int32 → Int32 → Int32 → Int64 → Int32 → Option (Int32 × (Nat → Int64))
  | 0 => fun _ _ _ _ _ _ _ _ _ => none
  | n_ + 1 => fun tr v1 v2 v3 v6 v7 v8 v9 v13 => mX3_search_108_b N fw fn ff va (mX3_search_108 N fw fn ff va n_) tr v1 v2 v3 v6 v7 v8 v9 v13
def mX3_search_103 (N : Nat) (fw : Nat → Int32) (fn : Nat → Nat) (ff : Nat → Nat → Int32) (va : Nat → Int64) (tr : Nat → Int64) : Option (Int32 × (Nat → Int64)) := some ((-1 : Int32), tr)
def mX3_search (N : Nat) (fw : Nat → Int32) (fn : Nat → Nat) (ff : Nat → Nat → Int32) (va : Nat → Int64) (tr : Nat → Int64) (p0 : Int32) (p1 : Int32) (p2 : Int32) (p3 : Int32) (p4 : Int32) : Option (Int32 × (Nat → Int64)) := ((mX3_only N p2).bind fun x12 => ((mX3_withDependents N fw fn ff x12).bind fun x14 => ((mX3_only N p0).bind fun x17 => ((mX3_withDependencies N fw fn ff x17).bind fun x19 => ((mX3_only N p2).bind fun x22 => ((mX3_goalWith N fw fn ff (va_cpy va tr (0 : Int32).toNatClampNeg (0 : Int32).toNatClampNeg (30 : Int32).toNatClampNeg) p0 p2 p3 ((x14 &&& x19) &&& (x22 ^^^ (-1 : Int32)))).bind fun x24 => ((mX3_goalWith N fw fn ff x24.2 p0 p2 p4 ((x14 &&& x19) &&& (x22 ^^^ (-1 : Int32)))).bind fun x27 => (if (lg_cmp x24.1 (-9223372036854775808 : Int64)) = 0 then mX3_search_103 N fw fn ff va x27.2 else (if (lg_cmp x27.1 (-9223372036854775808 : Int64)) = 0 then mX3_search_103 N fw fn ff va x27.2 else ((mX3_onOneSide N x24.1 x27.1 (p1.toInt64)).bind fun x30 => (if x30 = 0 then mX3_search_108 N fw fn ff va N x27.2 p0 p1 p2 ((x14 &&& x19) &&& (x22 ^^^ (-1 : Int32))) p3 p4 x24.1 (0 : Int32) else mX3_search_103 N fw fn ff va x27.2)))))))))))
set_option maxRecDepth 20000 in
set_option maxHeartbeats 4000000 in
theorem wX3_search_204 {p : Program} {l : Launch} {e : Env} {s : State} {m : MethodId} {args : Array Value} {below : List Frame} {meth : Method} {c : Code} {D : va_G} {cyI cyJ cyO : ClassId} {A : Nat → Prop} {bs : Nat} {P : List Nat} {g : Nat → va_E} {d : Nat → Nat} {eA : Nat} {Q : State → Prop} {ol : Int32} {fd : Int32} {dc : Int32} {ds : Nat → Int32} {fw : Nat → Int32} {fn : Nat → Nat} {ff : Nat → Nat → Int32} {qw : Nat → Int32} {qn : Nat → Nat} {qf : Nat → Nat → Int32} {va : Nat → Int64} {N : Nat} {res : Int32 × (Nat → Int64)} (C0 : gC p m meth c cX3_search 17 (some .int) s args wsX3_search RX3) (hN : dN s) (hT : dT A s) (hret : ∀ (r : Int32) (tr_r : Nat → Int64) (H : Heap) (locs : List Loc) (pc : Nat) (ls : Array Slot), some (r, tr_r) = some res → dZ D cyI cyJ cyO A bs P g d eA (d 5) (d 6) ol fd dc ds fw fn ff qw qn qf va tr_r s H locs → decode cX3_search pc = .ok (.ireturn, 1) → W p l e rmX3_search s m args below meth c H locs 0 0 Q (F0 m pc ls [.int r]))  : ∀ (tr : Nat → Int64) (s0 : Int32) (H : Heap) (locs : List Loc) (ls : Array Slot), mX3_search_204 N fw fn ff va tr s0 = some res → dZ D cyI cyJ cyO A bs P g d eA (d 5) (d 6) ol fd dc ds fw fn ff qw qn qf va tr s H locs → lv_has ls 17 [] → W p l e rmX3_search s m args below meth c H locs 0 0 Q (F0 m 204 ls [.int s0]) := by
  intro tr s0 H locs ls h Z hl
  unfold mX3_search_204 at h
  obtain ⟨rs1, rr1, at1, fa1, ra1, Z, hF1⟩ := Z
  exact hret s0 tr _ _ _ _ h ⟨rs1, rr1, at1, fa1, ra1, Z, hF1⟩ dX3_search_204
set_option maxRecDepth 20000 in
set_option maxHeartbeats 4000000 in
theorem wX3_search_189 {p : Program} {l : Launch} {e : Env} {s : State} {m : MethodId} {args : Array Value} {below : List Frame} {meth : Method} {c : Code} {D : va_G} {cyI cyJ cyO : ClassId} {A : Nat → Prop} {bs : Nat} {P : List Nat} {g : Nat → va_E} {d : Nat → Nat} {eA : Nat} {Q : State → Prop} {ol : Int32} {fd : Int32} {dc : Int32} {ds : Nat → Int32} {fw : Nat → Int32} {fn : Nat → Nat} {ff : Nat → Nat → Int32} {qw : Nat → Int32} {qn : Nat → Nat} {qf : Nat → Nat → Int32} {va : Nat → Int64} {N : Nat} {res : Int32 × (Nat → Int64)} (C0 : gC p m meth c cX3_search 17 (some .int) s args wsX3_search RX3) (hN : dN s) (hT : dT A s) (hret : ∀ (r : Int32) (tr_r : Nat → Int64) (H : Heap) (locs : List Loc) (pc : Nat) (ls : Array Slot), some (r, tr_r) = some res → dZ D cyI cyJ cyO A bs P g d eA (d 5) (d 6) ol fd dc ds fw fn ff qw qn qf va tr_r s H locs → decode cX3_search pc = .ok (.ireturn, 1) → W p l e rmX3_search s m args below meth c H locs 0 0 Q (F0 m pc ls [.int r]))  : ∀ (tr : Nat → Int64) (v2 : Int32) (v7 : Int32) (v8 : Int32) (v9 : Int64) (H : Heap) (locs : List Loc) (ls : Array Slot), mX3_search_189 N fw fn ff va tr v2 v7 v8 v9 = some res → dZ D cyI cyJ cyO A bs P g d eA (d 5) (d 6) ol fd dc ds fw fn ff qw qn qf va tr s H locs → lv_has ls 17 [(2, .int v2), (7, .int v7), (8, .int v8), (9, .long v9)] → W p l e rmX3_search s m args below meth c H locs 0 0 Q (F0 m 189 ls []) := by
  intro tr v2 v7 v8 v9 H locs ls h Z hl
  unfold mX3_search_189 at h
  obtain ⟨rs2, rr2, at2, fa2, ra2, Z, hF2⟩ := Z
  refine lv_lload C0.1.1 C0.1.2.1 dX3_search_189 (lv_at hl 3 rfl) ?_
  refine lv_iload_n C0.1.1 C0.1.2.1 dX3_search_191 rfl (lv_at hl 0 rfl) ?_
  refine lv_i2l C0.1.1 C0.1.2.1 dX3_search_192 rfl ?_
  refine W.lcmp C0.1.1 C0.1.2.1 dX3_search_193 ?_
  refine lv_if_ne (tgt := 202) C0.1.1 C0.1.2.1 dX3_search_194 (by decide) (fun hc => ?_) (fun hc => ?_)
  · replace h := (if_neg hc).symm.trans h
    refine lv_iload C0.1.1 C0.1.2.1 dX3_search_202 (lv_at hl 2 rfl) ?_
    exact wX3_search_204 (N := N) C0 hN hT hret tr v8 _ _ _ h ⟨rs2, rr2, at2, fa2, ra2, Z, hF2⟩ (lv_sub hl [] rfl)
  · replace h := (if_pos hc).symm.trans h
    refine lv_iload C0.1.1 C0.1.2.1 dX3_search_197 (lv_at hl 1 rfl) ?_
    refine lv_goto (tgt := 204) C0.1.1 C0.1.2.1 dX3_search_199 (by decide) ?_
    exact wX3_search_204 (N := N) C0 hN hT hret tr v7 _ _ _ h ⟨rs2, rr2, at2, fa2, ra2, Z, hF2⟩ (lv_sub hl [] rfl)
set_option maxRecDepth 20000 in
set_option maxHeartbeats 4000000 in
theorem wX3_search_183 {p : Program} {l : Launch} {e : Env} {s : State} {m : MethodId} {args : Array Value} {below : List Frame} {meth : Method} {c : Code} {D : va_G} {cyI cyJ cyO : ClassId} {A : Nat → Prop} {bs : Nat} {P : List Nat} {g : Nat → va_E} {d : Nat → Nat} {eA : Nat} {Q : State → Prop} {ol : Int32} {fd : Int32} {dc : Int32} {ds : Nat → Int32} {fw : Nat → Int32} {fn : Nat → Nat} {ff : Nat → Nat → Int32} {qw : Nat → Int32} {qn : Nat → Nat} {qf : Nat → Nat → Int32} {va : Nat → Int64} {N : Nat} {res : Int32 × (Nat → Int64)} (C0 : gC p m meth c cX3_search 17 (some .int) s args wsX3_search RX3) (hN : dN s) (hT : dT A s) (hret : ∀ (r : Int32) (tr_r : Nat → Int64) (H : Heap) (locs : List Loc) (pc : Nat) (ls : Array Slot), some (r, tr_r) = some res → dZ D cyI cyJ cyO A bs P g d eA (d 5) (d 6) ol fd dc ds fw fn ff qw qn qf va tr_r s H locs → decode cX3_search pc = .ok (.ireturn, 1) → W p l e rmX3_search s m args below meth c H locs 0 0 Q (F0 m pc ls [.int r])) {r108 : (Nat → Int64) → Int32 → Int32 → Int32 → Int32 → Int32 → Int32 → Int64 → Int32 → Option (Int32 × (Nat → Int64))} (hr108 : ∀ (tr : Nat → Int64) (v1 : Int32) (v2 : Int32) (v3 : Int32) (v6 : Int32) (v7 : Int32) (v8 : Int32) (v9 : Int64) (v13 : Int32) (H : Heap) (locs : List Loc) (ls : Array Slot), r108 tr v1 v2 v3 v6 v7 v8 v9 v13 = some res → dZ D cyI cyJ cyO A bs P g d eA (d 5) (d 6) ol fd dc ds fw fn ff qw qn qf va tr s H locs → lv_has ls 17 [(0, .ref (d 0)), (1, .int v1), (2, .int v2), (3, .int v3), (6, .int v6), (7, .int v7), (8, .int v8), (9, .long v9), (13, .int v13)] → W p l e rmX3_search s m args below meth c H locs 0 0 Q (F0 m 108 ls [])) : ∀ (tr : Nat → Int64) (v1 : Int32) (v2 : Int32) (v3 : Int32) (v6 : Int32) (v7 : Int32) (v8 : Int32) (v9 : Int64) (v13 : Int32) (H : Heap) (locs : List Loc) (ls : Array Slot), mX3_search_183 N fw fn ff va r108 tr v1 v2 v3 v6 v7 v8 v9 v13 = some res → dZ D cyI cyJ cyO A bs P g d eA (d 5) (d 6) ol fd dc ds fw fn ff qw qn qf va tr s H locs → lv_has ls 17 [(0, .ref (d 0)), (1, .int v1), (2, .int v2), (3, .int v3), (6, .int v6), (7, .int v7), (8, .int v8), (9, .long v9), (13, .int v13)] → W p l e rmX3_search s m args below meth c H locs 0 0 Q (F0 m 183 ls []) := by
  intro tr v1 v2 v3 v6 v7 v8 v9 v13 H locs ls h Z hl
  unfold mX3_search_183 at h
  obtain ⟨rs3, rr3, at3, fa3, ra3, Z, hF3⟩ := Z
  refine lv_iinc (v := v13 + (1 : Int32)) (lv' := [(13, .int (v13 + (1 : Int32))), (0, .ref (d 0)), (1, .int v1), (2, .int v2), (3, .int v3), (6, .int v6), (7, .int v7), (8, .int v8), (9, .long v9)]) C0.1.1 C0.1.2.1 dX3_search_183 hl (k := 8) rfl rfl (by decide) rfl (fun ls hl => ?_)
  refine lv_goto (tgt := 108) C0.1.1 C0.1.2.1 dX3_search_186 (by decide) ?_
  exact hr108 tr v1 v2 v3 v6 v7 v8 v9 (v13 + (1 : Int32)) _ _ _ h ⟨rs3, rr3, at3, fa3, ra3, Z, hF3⟩ (lv_sub hl [1, 2, 3, 4, 5, 6, 7, 8, 0] rfl)
set_option maxRecDepth 20000 in
set_option maxHeartbeats 4000000 in
theorem wX3_search_108_b {p : Program} {l : Launch} {e : Env} {s : State} {m : MethodId} {args : Array Value} {below : List Frame} {meth : Method} {c : Code} {D : va_G} {cyI cyJ cyO : ClassId} {A : Nat → Prop} {bs : Nat} {P : List Nat} {g : Nat → va_E} {d : Nat → Nat} {eA : Nat} {Q : State → Prop} {ol : Int32} {fd : Int32} {dc : Int32} {ds : Nat → Int32} {fw : Nat → Int32} {fn : Nat → Nat} {ff : Nat → Nat → Int32} {qw : Nat → Int32} {qn : Nat → Nat} {qf : Nat → Nat → Int32} {va : Nat → Int64} {N : Nat} {res : Int32 × (Nat → Int64)} (C0 : gC p m meth c cX3_search 17 (some .int) s args wsX3_search RX3) (hN : dN s) (hT : dT A s) (hret : ∀ (r : Int32) (tr_r : Nat → Int64) (H : Heap) (locs : List Loc) (pc : Nat) (ls : Array Slot), some (r, tr_r) = some res → dZ D cyI cyJ cyO A bs P g d eA (d 5) (d 6) ol fd dc ds fw fn ff qw qn qf va tr_r s H locs → decode cX3_search pc = .ok (.ireturn, 1) → W p l e rmX3_search s m args below meth c H locs 0 0 Q (F0 m pc ls [.int r])) {r108 : (Nat → Int64) → Int32 → Int32 → Int32 → Int32 → Int32 → Int32 → Int64 → Int32 → Option (Int32 × (Nat → Int64))} (hr108 : ∀ (tr : Nat → Int64) (v1 : Int32) (v2 : Int32) (v3 : Int32) (v6 : Int32) (v7 : Int32) (v8 : Int32) (v9 : Int64) (v13 : Int32) (H : Heap) (locs : List Loc) (ls : Array Slot), r108 tr v1 v2 v3 v6 v7 v8 v9 v13 = some res → dZ D cyI cyJ cyO A bs P g d eA (d 5) (d 6) ol fd dc ds fw fn ff qw qn qf va tr s H locs → lv_has ls 17 [(0, .ref (d 0)), (1, .int v1), (2, .int v2), (3, .int v3), (6, .int v6), (7, .int v7), (8, .int v8), (9, .long v9), (13, .int v13)] → W p l e rmX3_search s m args below meth c H locs 0 0 Q (F0 m 108 ls [])) : ∀ (tr : Nat → Int64) (v1 : Int32) (v2 : Int32) (v3 : Int32) (v6 : Int32) (v7 : Int32) (v8 : Int32) (v9 : Int64) (v13 : Int32) (H : Heap) (locs : List Loc) (ls : Array Slot), mX3_search_108_b N fw fn ff va r108 tr v1 v2 v3 v6 v7 v8 v9 v13 = some res → dZ D cyI cyJ cyO A bs P g d eA (d 5) (d 6) ol fd dc ds fw fn ff qw qn qf va tr s H locs → lv_has ls 17 [(0, .ref (d 0)), (1, .int v1), (2, .int v2), (3, .int v3), (6, .int v6), (7, .int v7), (8, .int v8), (9, .long v9), (13, .int v13)] → W p l e rmX3_search s m args below meth c H locs 0 0 Q (F0 m 108 ls []) := by
  intro tr v1 v2 v3 v6 v7 v8 v9 v13 H locs ls h Z hl
  unfold mX3_search_108_b at h
  obtain ⟨rs4, rr4, at4, fa4, ra4, Z, hF4⟩ := Z
  refine lv_iload C0.1.1 C0.1.2.1 dX3_search_108 (lv_at hl 8 rfl) ?_
  refine lv_ldc C0.1.1 C0.1.2.1 C0.1.2.2.2.1 (C0.1.2.2.2.2 _ kX3_search_c160) dX3_search_110 ?_
  refine lv_icmp_ge (tgt := 189) C0.1.1 C0.1.2.1 dX3_search_112 (by decide) (fun hc => ?_) (fun hc => ?_)
  · replace h := (if_pos hc).symm.trans h
    exact wX3_search_189 (N := N) C0 hN hT hret tr v2 v7 v8 v9 _ _ _ h ⟨rs4, rr4, at4, fa4, ra4, Z, hF4⟩ (lv_sub hl [2, 5, 6, 7] rfl)
  · replace h := (if_neg hc).symm.trans h
    refine lv_iload C0.1.1 C0.1.2.1 dX3_search_115 (lv_at hl 6 rfl) ?_
    refine lv_iload C0.1.1 C0.1.2.1 dX3_search_117 (lv_at hl 5 rfl) ?_
    refine lv_iconst (v := 1) C0.1.1 C0.1.2.1 dX3_search_119 (by decide) ?_
    refine lv_iadd C0.1.1 C0.1.2.1 dX3_search_120 ?_
    refine lv_icmp_le (tgt := 189) C0.1.1 C0.1.2.1 dX3_search_121 (by decide) (fun hc => ?_) (fun hc => ?_)
    · replace h := (if_pos hc).symm.trans h
      exact wX3_search_189 (N := N) C0 hN hT hret tr v2 v7 v8 v9 _ _ _ h ⟨rs4, rr4, at4, fa4, ra4, Z, hF4⟩ (lv_sub hl [2, 5, 6, 7] rfl)
    · replace h := (if_neg hc).symm.trans h
      refine lv_iload C0.1.1 C0.1.2.1 dX3_search_124 (lv_at hl 5 rfl) ?_
      refine lv_iload C0.1.1 C0.1.2.1 dX3_search_126 (lv_at hl 6 rfl) ?_
      refine lv_iadd C0.1.1 C0.1.2.1 dX3_search_128 ?_
      refine lv_iconst (v := 2) C0.1.1 C0.1.2.1 dX3_search_129 (by decide) ?_
      refine lv_idiv C0.1.1 C0.1.2.1 dX3_search_130 (by decide) ?_
      refine lv_istore (lv' := [(14, .int ((v7 + v8) / (2 : Int32))), (0, .ref (d 0)), (1, .int v1), (2, .int v2), (3, .int v3), (6, .int v6), (7, .int v7), (8, .int v8), (9, .long v9), (13, .int v13)]) C0.1.1 C0.1.2.1 dX3_search_131 hl (by decide) rfl (fun ls hl => ?_)
      refine lv_aload_n C0.1.1 C0.1.2.1 dX3_search_133 rfl (lv_at hl 1 rfl) ?_
      refine lv_iload_n C0.1.1 C0.1.2.1 dX3_search_134 rfl (lv_at hl 2 rfl) ?_
      refine lv_iload_n C0.1.1 C0.1.2.1 dX3_search_135 rfl (lv_at hl 4 rfl) ?_
      refine lv_iload C0.1.1 C0.1.2.1 dX3_search_136 (lv_at hl 0 rfl) ?_
      refine lv_iload C0.1.1 C0.1.2.1 dX3_search_138 (lv_at hl 5 rfl) ?_
      obtain ⟨x5, hx6, h⟩ := g_bd h
      refine x_calll (va_runV (b := d 0) (C := RX3) (As := [.int v1, .int v3, .int ((v7 + v8) / (2 : Int32)), .int v6]) (rest := []) C0.1 (zX3_goalWith l D cyI cyJ cyO A bs Z.2.2.2.2.2 P g d eA ol fd dc ds fw fn ff qw qn qf va tr N v1 v3 ((v7 + v8) / (2 : Int32)) v6 x5 hx6) (cwV 4 C0.1.2.2.2.2 gX3_search_X3_goalWith rfl rfl rfl (by decide +kernel) ⟨Nat.le_of_ble_eq_true rfl, Nat.le_of_ble_eq_true rfl⟩) ⟨dP_blind, va_recv Z.2.1 Z.1 (ci := 5) (q0 := 0) rfl rfl, dP_pre ⟨rs4, rr4, at4, fa4, ra4, Z, hF4⟩ hN hT _⟩ rfl rfl hl.1 rfl (lv_room (Nat.le_of_ble_eq_true rfl)) dX3_search_140 ⟨Nat.le_of_ble_eq_true rfl, Nat.le_of_ble_eq_true rfl⟩) Z.2.2.2.1 (fun u t H1 locs1 ht hvm hB hS => dW_post Z ht hvm hB hS) (fun r u H locs hw Z => ?_)
      obtain ⟨rfl, rfl⟩ := hw
      obtain ⟨rs7, rr7, at7, fa7, ra7, Z, hF7⟩ := Z
      refine lv_lstore (lv' := [(15, .long x5.1), (14, .int ((v7 + v8) / (2 : Int32))), (0, .ref (d 0)), (1, .int v1), (2, .int v2), (3, .int v3), (6, .int v6), (7, .int v7), (8, .int v8), (9, .long v9), (13, .int v13)]) C0.1.1 C0.1.2.1 dX3_search_143 hl (by decide) rfl (fun ls hl => ?_)
      refine lv_lload C0.1.1 C0.1.2.1 dX3_search_145 (lv_at hl 0 rfl) ?_
      refine lv_ldc2 C0.1.1 C0.1.2.1 C0.1.2.2.2.1 (C0.1.2.2.2.2 _ kX3_search_c151) dX3_search_147 ?_
      refine W.lcmp C0.1.1 C0.1.2.1 dX3_search_150 ?_
      refine lv_if_ne (tgt := 156) C0.1.1 C0.1.2.1 dX3_search_151 (by decide) (fun hc => ?_) (fun hc => ?_)
      · replace h := (if_neg hc).symm.trans h
        refine lv_lload C0.1.1 C0.1.2.1 dX3_search_156 (lv_at hl 0 rfl) ?_
        refine lv_lload C0.1.1 C0.1.2.1 dX3_search_158 (lv_at hl 9 rfl) ?_
        refine lv_iload_n C0.1.1 C0.1.2.1 dX3_search_160 rfl (lv_at hl 4 rfl) ?_
        refine lv_i2l C0.1.1 C0.1.2.1 dX3_search_161 rfl ?_
        obtain ⟨x8, hx9, h⟩ := g_bd h
        refine x_calli (va_runS (As := [.long x5.1, .long v9, .long (v2.toInt64)]) (rest := []) C0.1 (zX3_onOneSide l D cyI cyJ cyO A bs Z.2.2.2.2.2 (XD d cyI cyJ cyO eA (d 5) (d 6) rs7 rr7 at7 fa7 ra7 ol fd dc ds va x5.2 ++ va_pl P g) N x5.1 v9 (v2.toInt64) x8 hx9) (va_cwS 3 C0.1.2.2.2.2 gX3_search_X3_onOneSide rfl rfl rfl (by decide +kernel) ⟨Nat.le_of_ble_eq_true rfl, Nat.le_of_ble_eq_true rfl⟩) ⟨g_blind, g_pre Z _⟩ rfl rfl hl.1 rfl (lv_room (Nat.le_of_ble_eq_true rfl)) dX3_search_162 ⟨Nat.le_of_ble_eq_true rfl, Nat.le_of_ble_eq_true rfl⟩) Z.2.2.2.1 (fun u t H1 locs1 ht hvm hB hS => g_post Z ht hvm hB hS) (fun r u H locs hw Z => ?_)
        subst hw
        refine lv_if_eq (tgt := 179) C0.1.1 C0.1.2.1 dX3_search_165 (by decide) (fun hc => ?_) (fun hc => ?_)
        · replace h := (if_pos hc).symm.trans h
          refine lv_iload C0.1.1 C0.1.2.1 dX3_search_179 (lv_at hl 1 rfl) ?_
          refine lv_istore (lv' := [(8, .int ((v7 + v8) / (2 : Int32))), (15, .long x5.1), (14, .int ((v7 + v8) / (2 : Int32))), (0, .ref (d 0)), (1, .int v1), (2, .int v2), (3, .int v3), (6, .int v6), (7, .int v7), (9, .long v9), (13, .int v13)]) C0.1.1 C0.1.2.1 dX3_search_181 hl (by decide) rfl (fun ls hl => ?_)
          exact wX3_search_183 (N := N) C0 hN hT hret hr108 x5.2 v1 v2 v3 v6 v7 ((v7 + v8) / (2 : Int32)) v9 v13 _ _ _ h ⟨rs7, rr7, at7, fa7, ra7, Z, hF7⟩ (lv_sub hl [3, 4, 5, 6, 7, 8, 0, 9, 10] rfl)
        · replace h := (if_neg hc).symm.trans h
          refine lv_iload C0.1.1 C0.1.2.1 dX3_search_168 (lv_at hl 1 rfl) ?_
          refine lv_istore (lv' := [(7, .int ((v7 + v8) / (2 : Int32))), (15, .long x5.1), (14, .int ((v7 + v8) / (2 : Int32))), (0, .ref (d 0)), (1, .int v1), (2, .int v2), (3, .int v3), (6, .int v6), (8, .int v8), (9, .long v9), (13, .int v13)]) C0.1.1 C0.1.2.1 dX3_search_170 hl (by decide) rfl (fun ls hl => ?_)
          refine lv_lload C0.1.1 C0.1.2.1 dX3_search_172 (lv_at hl 1 rfl) ?_
          refine lv_lstore (lv' := [(9, .long x5.1), (7, .int ((v7 + v8) / (2 : Int32))), (15, .long x5.1), (14, .int ((v7 + v8) / (2 : Int32))), (0, .ref (d 0)), (1, .int v1), (2, .int v2), (3, .int v3), (6, .int v6), (8, .int v8), (13, .int v13)]) C0.1.1 C0.1.2.1 dX3_search_174 hl (by decide) rfl (fun ls hl => ?_)
          refine lv_goto (tgt := 183) C0.1.1 C0.1.2.1 dX3_search_176 (by decide) ?_
          exact wX3_search_183 (N := N) C0 hN hT hret hr108 x5.2 v1 v2 v3 v6 ((v7 + v8) / (2 : Int32)) v8 x5.1 v13 _ _ _ h ⟨rs7, rr7, at7, fa7, ra7, Z, hF7⟩ (lv_sub hl [4, 5, 6, 7, 8, 1, 9, 0, 10] rfl)
      · replace h := (if_pos hc).symm.trans h
        refine lv_iconst (v := -1) C0.1.1 C0.1.2.1 dX3_search_154 (by decide) ?_
        exact hret (-1 : Int32) x5.2 _ _ _ _ h ⟨rs7, rr7, at7, fa7, ra7, Z, hF7⟩ dX3_search_155
theorem wX3_search_108 {p : Program} {l : Launch} {e : Env} {s : State} {m : MethodId} {args : Array Value} {below : List Frame} {meth : Method} {c : Code} {D : va_G} {cyI cyJ cyO : ClassId} {A : Nat → Prop} {bs : Nat} {P : List Nat} {g : Nat → va_E} {d : Nat → Nat} {eA : Nat} {Q : State → Prop} {ol : Int32} {fd : Int32} {dc : Int32} {ds : Nat → Int32} {fw : Nat → Int32} {fn : Nat → Nat} {ff : Nat → Nat → Int32} {qw : Nat → Int32} {qn : Nat → Nat} {qf : Nat → Nat → Int32} {va : Nat → Int64} {N : Nat} {res : Int32 × (Nat → Int64)} (C0 : gC p m meth c cX3_search 17 (some .int) s args wsX3_search RX3) (hN : dN s) (hT : dT A s) (hret : ∀ (r : Int32) (tr_r : Nat → Int64) (H : Heap) (locs : List Loc) (pc : Nat) (ls : Array Slot), some (r, tr_r) = some res → dZ D cyI cyJ cyO A bs P g d eA (d 5) (d 6) ol fd dc ds fw fn ff qw qn qf va tr_r s H locs → decode cX3_search pc = .ok (.ireturn, 1) → W p l e rmX3_search s m args below meth c H locs 0 0 Q (F0 m pc ls [.int r]))  : ∀ (n_ : Nat), ∀ (tr : Nat → Int64) (v1 : Int32) (v2 : Int32) (v3 : Int32) (v6 : Int32) (v7 : Int32) (v8 : Int32) (v9 : Int64) (v13 : Int32) (H : Heap) (locs : List Loc) (ls : Array Slot), mX3_search_108 N fw fn ff va n_ tr v1 v2 v3 v6 v7 v8 v9 v13 = some res → dZ D cyI cyJ cyO A bs P g d eA (d 5) (d 6) ol fd dc ds fw fn ff qw qn qf va tr s H locs → lv_has ls 17 [(0, .ref (d 0)), (1, .int v1), (2, .int v2), (3, .int v3), (6, .int v6), (7, .int v7), (8, .int v8), (9, .long v9), (13, .int v13)] → W p l e rmX3_search s m args below meth c H locs 0 0 Q (F0 m 108 ls []) := by
  intro n_
  induction n_ with
  | zero => intro _ _ _ _ _ _ _ _ _ _ _ _ h; cases h
  | succ n_ ih => exact wX3_search_108_b (N := N) C0 hN hT hret ih
set_option maxRecDepth 20000 in
set_option maxHeartbeats 4000000 in
theorem wX3_search_103 {p : Program} {l : Launch} {e : Env} {s : State} {m : MethodId} {args : Array Value} {below : List Frame} {meth : Method} {c : Code} {D : va_G} {cyI cyJ cyO : ClassId} {A : Nat → Prop} {bs : Nat} {P : List Nat} {g : Nat → va_E} {d : Nat → Nat} {eA : Nat} {Q : State → Prop} {ol : Int32} {fd : Int32} {dc : Int32} {ds : Nat → Int32} {fw : Nat → Int32} {fn : Nat → Nat} {ff : Nat → Nat → Int32} {qw : Nat → Int32} {qn : Nat → Nat} {qf : Nat → Nat → Int32} {va : Nat → Int64} {N : Nat} {res : Int32 × (Nat → Int64)} (C0 : gC p m meth c cX3_search 17 (some .int) s args wsX3_search RX3) (hN : dN s) (hT : dT A s) (hret : ∀ (r : Int32) (tr_r : Nat → Int64) (H : Heap) (locs : List Loc) (pc : Nat) (ls : Array Slot), some (r, tr_r) = some res → dZ D cyI cyJ cyO A bs P g d eA (d 5) (d 6) ol fd dc ds fw fn ff qw qn qf va tr_r s H locs → decode cX3_search pc = .ok (.ireturn, 1) → W p l e rmX3_search s m args below meth c H locs 0 0 Q (F0 m pc ls [.int r]))  : ∀ (tr : Nat → Int64) (H : Heap) (locs : List Loc) (ls : Array Slot), mX3_search_103 N fw fn ff va tr = some res → dZ D cyI cyJ cyO A bs P g d eA (d 5) (d 6) ol fd dc ds fw fn ff qw qn qf va tr s H locs → lv_has ls 17 [] → W p l e rmX3_search s m args below meth c H locs 0 0 Q (F0 m 103 ls []) := by
  intro tr H locs ls h Z hl
  unfold mX3_search_103 at h
  obtain ⟨rs10, rr10, at10, fa10, ra10, Z, hF10⟩ := Z
  refine lv_iconst (v := -1) C0.1.1 C0.1.2.1 dX3_search_103 (by decide) ?_
  exact hret (-1 : Int32) tr _ _ _ _ h ⟨rs10, rr10, at10, fa10, ra10, Z, hF10⟩ dX3_search_104
set_option maxRecDepth 20000 in
set_option maxHeartbeats 4000000 in
theorem zX3_search (l : Launch) (D : va_G) (cyI cyJ cyO : ClassId) (A : Nat → Prop) (bs : Nat) (hA : ∀ q, bs ≤ q → A q) (P : List Nat) (g : Nat → va_E) (d : Nat → Nat) (eA : Nat) (ol : Int32) (fd : Int32) (dc : Int32) (ds : Nat → Int32) (fw : Nat → Int32) (fn : Nat → Nat) (ff : Nat → Nat → Int32) (qw : Nat → Int32) (qn : Nat → Nat) (qf : Nat → Nat → Int32) (va : Nat → Int64) (tr : Nat → Int64) (N : Nat) (p0 : Int32) (p1 : Int32) (p2 : Int32) (p3 : Int32) (p4 : Int32) (res : Int32 × (Nat → Int64)) (h : mX3_search N fw fn ff va tr p0 p1 p2 p3 p4 = some res) : Met l yX3_search wsX3_search rmX3_search (va_Pc [.ref (d 0), .int p0, .int p1, .int p2, .int p3, .int p4] (dP (dW D cyI cyJ cyO A bs P g d eA (d 5) (d 6) ol fd dc ds fw fn ff qw qn qf va tr) A)) (va_Qi (fun (r : Int32) (u : (Nat → Int64)) => res.1 = r ∧ res.2 = u) (fun (u : (Nat → Int64)) U => dW D cyI cyJ cyO A bs P g d eA (d 5) (d 6) ol fd dc ds fw fn ff qw qn qf va u U) A)  0 0 A := by
  refine Met.ofW (cc := cX3_search) (maxL := 17) (ret := (some .int)) (by decide) rfl ?_
  intro p e s m args below meth c s₁ B hml hv
  obtain ⟨hav, hv⟩ := hv
  obtain ⟨hv, hN, hT⟩ := hv
  have C0 : gC p m meth c cX3_search 17 (some .int) s args wsX3_search RX3 := ⟨⟨B.exec, B.bytes, hml, findClass_of_methodNamed B.named, atoms_spec (ws := wsX3_search) B.pre⟩, B.returns, B.notSynchronized⟩
  have Z := dZ_start hA hv
  have hret : ∀ (r : Int32) (tr_r : Nat → Int64) (H : Heap) (locs : List Loc) (pc : Nat) (ls : Array Slot), some (r, tr_r) = some res → dZ D cyI cyJ cyO A bs P g d eA (d 5) (d 6) ol fd dc ds fw fn ff qw qn qf va tr_r s H locs → decode cX3_search pc = .ok (.ireturn, 1) → W p l e rmX3_search s m args below meth c H locs 0 0 (MQ below (va_Qi (fun (r : Int32) (u : (Nat → Int64)) => res.1 = r ∧ res.2 = u) (fun (u : (Nat → Int64)) U => dW D cyI cyJ cyO A bs P g d eA (d 5) (d 6) ol fd dc ds fw fn ff qw qn qf va u U) A) args s 0 0 A) (F0 m pc ls [.int r]) := by
    intro r tr_r H locs pc ls h Z hd
    replace h := Option.some.inj h
    subst h
    exact W.iret C0.1.1 C0.1.2.1 C0.2.1 (fun t ht hW => ⟨⟨r, tr_r, rfl, ⟨rfl, rfl⟩, dZ_end Z ht hW⟩, va_S.F (dZ_S Z) ht⟩) (dZ_S Z).2.2 hd C0.2.2
  have hl := lv_entry ([.ref (d 0), .int p0, .int p1, .int p2, .int p3, .int p4]) (n := 17) (Nat.le_of_ble_eq_true rfl)
  rw [hav, lg_entry_eq]
  generalize (lg_sl ([.ref (d 0), .int p0, .int p1, .int p2, .int p3, .int p4]) ++ List.replicate (17 - (lg_sl ([.ref (d 0), .int p0, .int p1, .int p2, .int p3, .int p4])).length) Slot.unset).toArray = ls at hl ⊢
  have hl : lv_has ls 17 [(0, .ref (d 0)), (1, .int p0), (2, .int p1), (3, .int p2), (4, .int p3), (5, .int p4)] := hl
  rw [← hav]
  unfold mX3_search at h
  obtain ⟨rs11, rr11, at11, fa11, ra11, Z, hF11⟩ := Z
  refine lv_aload_n C0.1.1 C0.1.2.1 dX3_search_0 rfl (lv_at hl 0 rfl) ?_
  refine g_get (ci := 5) (v := .ref (d 5)) (T := TX3) (N := 9) C0.1 Z 0 rfl rfl 5 (by decide) kX3_search_in3 kX3_search_f41 rfl rfl dX3_search_1 ?_
  refine lv_iconst (v := 0) C0.1.1 C0.1.2.1 dX3_search_4 (by decide) ?_
  refine lv_aload_n C0.1.1 C0.1.2.1 dX3_search_5 rfl (lv_at hl 0 rfl) ?_
  refine g_get (ci := 5) (v := .ref (d 6)) (T := TX3) (N := 9) C0.1 Z 0 rfl rfl 6 (by decide) kX3_search_in3 kX3_search_f45 rfl rfl dX3_search_6 ?_
  refine lv_iconst (v := 0) C0.1.1 C0.1.2.1 dX3_search_9 (by decide) ?_
  refine lv_bipush (v := 30) C0.1.1 C0.1.2.1 dX3_search_10 (by decide +kernel) ?_
  refine va_copyl (f := va) (g := tr) (n0 := 30) (n1 := 30) (ty := .long) C0.1.1 C0.1.2.1 (C0.1.2.2.1.trans hl.1.symm) C0.1.2.2.2.1 (C0.1.2.2.2.2 _ kX3_search_m179a) (C0.1.2.2.2.2 _ kX3_search_m179b) (C0.1.2.2.2.2 _ kX3_search_m179c) (C0.1.2.2.2.2 _ kX3_search_m179d) Z.2.1 Z.1 Z.2.2.1 Z.2.2.2.1 5 6 1 1 rfl rfl rfl rfl rfl (by decide) (by decide) (by decide) (by decide) (by decide) (fun _ _ => rfl) (Nat.le_of_ble_eq_true rfl) (by decide +kernel) dX3_search_12 (fun H locs h1 h2 h3 => ?_)
  replace Z : gZ D (gT cyI cyJ cyO) (XD d cyI cyJ cyO eA (d 5) (d 6) rs11 rr11 at11 fa11 ra11 ol fd dc ds va (va_cpy va tr (0 : Int32).toNatClampNeg (0 : Int32).toNatClampNeg (30 : Int32).toNatClampNeg) ++ va_pl P g) A bs s H locs := ⟨h1, Z.2.1, h2, h3, Z.2.2.2.2⟩
  refine lv_aload_n C0.1.1 C0.1.2.1 dX3_search_15 rfl (lv_at hl 0 rfl) ?_
  refine lv_iload_n C0.1.1 C0.1.2.1 dX3_search_16 rfl (lv_at hl 3 rfl) ?_
  obtain ⟨x12, hx13, h⟩ := g_bd h
  refine x_calli (va_runS (As := [.int p2]) (rest := [.ref (d 0)]) C0.1 (zX3_only l D cyI cyJ cyO A bs Z.2.2.2.2.2 (XD d cyI cyJ cyO eA (d 5) (d 6) rs11 rr11 at11 fa11 ra11 ol fd dc ds va (va_cpy va tr (0 : Int32).toNatClampNeg (0 : Int32).toNatClampNeg (30 : Int32).toNatClampNeg) ++ va_pl P g) N p2 x12 hx13) (va_cwS 1 C0.1.2.2.2.2 gX3_search_X3_only rfl rfl rfl (by decide +kernel) ⟨Nat.le_of_ble_eq_true rfl, Nat.le_of_ble_eq_true rfl⟩) ⟨g_blind, g_pre Z _⟩ rfl rfl hl.1 rfl (lv_room (Nat.le_of_ble_eq_true rfl)) dX3_search_17 ⟨Nat.le_of_ble_eq_true rfl, Nat.le_of_ble_eq_true rfl⟩) Z.2.2.2.1 (fun u t H1 locs1 ht hvm hB hS => g_post Z ht hvm hB hS) (fun r u H locs hw Z => ?_)
  subst hw
  obtain ⟨x14, hx15, h⟩ := g_bd h
  refine x_calli (va_runV (b := d 0) (C := RX3) (As := [.int x12]) (rest := []) C0.1 (zX3_withDependents l D cyI cyJ cyO A bs Z.2.2.2.2.2 P g d eA ol fd dc ds fw fn ff qw qn qf va (va_cpy va tr (0 : Int32).toNatClampNeg (0 : Int32).toNatClampNeg (30 : Int32).toNatClampNeg) N x12 x14 hx15) (cwV 1 C0.1.2.2.2.2 gX3_search_X3_withDependents rfl rfl rfl (by decide +kernel) ⟨Nat.le_of_ble_eq_true rfl, Nat.le_of_ble_eq_true rfl⟩) ⟨dP_blind, va_recv Z.2.1 Z.1 (ci := 5) (q0 := 0) rfl rfl, dP_pre ⟨rs11, rr11, at11, fa11, ra11, Z, hF11⟩ hN hT _⟩ rfl rfl hl.1 rfl (lv_room (Nat.le_of_ble_eq_true rfl)) dX3_search_20 ⟨Nat.le_of_ble_eq_true rfl, Nat.le_of_ble_eq_true rfl⟩) Z.2.2.2.1 (fun u t H1 locs1 ht hvm hB hS => dW_post Z ht hvm hB hS) (fun r u H locs hw Z => ?_)
  subst hw
  obtain ⟨rs16, rr16, at16, fa16, ra16, Z, hF16⟩ := Z
  refine lv_aload_n C0.1.1 C0.1.2.1 dX3_search_23 rfl (lv_at hl 0 rfl) ?_
  refine lv_iload_n C0.1.1 C0.1.2.1 dX3_search_24 rfl (lv_at hl 1 rfl) ?_
  obtain ⟨x17, hx18, h⟩ := g_bd h
  refine x_calli (va_runS (As := [.int p0]) (rest := [.ref (d 0), .int x14]) C0.1 (zX3_only l D cyI cyJ cyO A bs Z.2.2.2.2.2 (XD d cyI cyJ cyO eA (d 5) (d 6) rs16 rr16 at16 fa16 ra16 ol fd dc ds va (va_cpy va tr (0 : Int32).toNatClampNeg (0 : Int32).toNatClampNeg (30 : Int32).toNatClampNeg) ++ va_pl P g) N p0 x17 hx18) (va_cwS 1 C0.1.2.2.2.2 gX3_search_X3_only rfl rfl rfl (by decide +kernel) ⟨Nat.le_of_ble_eq_true rfl, Nat.le_of_ble_eq_true rfl⟩) ⟨g_blind, g_pre Z _⟩ rfl rfl hl.1 rfl (lv_room (Nat.le_of_ble_eq_true rfl)) dX3_search_25 ⟨Nat.le_of_ble_eq_true rfl, Nat.le_of_ble_eq_true rfl⟩) Z.2.2.2.1 (fun u t H1 locs1 ht hvm hB hS => g_post Z ht hvm hB hS) (fun r u H locs hw Z => ?_)
  subst hw
  obtain ⟨x19, hx20, h⟩ := g_bd h
  refine x_calli (va_runV (b := d 0) (C := RX3) (As := [.int x17]) (rest := [.int x14]) C0.1 (zX3_withDependencies l D cyI cyJ cyO A bs Z.2.2.2.2.2 P g d eA ol fd dc ds fw fn ff qw qn qf va (va_cpy va tr (0 : Int32).toNatClampNeg (0 : Int32).toNatClampNeg (30 : Int32).toNatClampNeg) N x17 x19 hx20) (cwV 1 C0.1.2.2.2.2 gX3_search_X3_withDependencies rfl rfl rfl (by decide +kernel) ⟨Nat.le_of_ble_eq_true rfl, Nat.le_of_ble_eq_true rfl⟩) ⟨dP_blind, va_recv Z.2.1 Z.1 (ci := 5) (q0 := 0) rfl rfl, dP_pre ⟨rs16, rr16, at16, fa16, ra16, Z, hF16⟩ hN hT _⟩ rfl rfl hl.1 rfl (lv_room (Nat.le_of_ble_eq_true rfl)) dX3_search_28 ⟨Nat.le_of_ble_eq_true rfl, Nat.le_of_ble_eq_true rfl⟩) Z.2.2.2.1 (fun u t H1 locs1 ht hvm hB hS => dW_post Z ht hvm hB hS) (fun r u H locs hw Z => ?_)
  subst hw
  obtain ⟨rs21, rr21, at21, fa21, ra21, Z, hF21⟩ := Z
  refine lv_iand C0.1.1 C0.1.2.1 dX3_search_31 ?_
  refine lv_iload_n C0.1.1 C0.1.2.1 dX3_search_32 rfl (lv_at hl 3 rfl) ?_
  obtain ⟨x22, hx23, h⟩ := g_bd h
  refine x_calli (va_runS (As := [.int p2]) (rest := [.int (x14 &&& x19)]) C0.1 (zX3_only l D cyI cyJ cyO A bs Z.2.2.2.2.2 (XD d cyI cyJ cyO eA (d 5) (d 6) rs21 rr21 at21 fa21 ra21 ol fd dc ds va (va_cpy va tr (0 : Int32).toNatClampNeg (0 : Int32).toNatClampNeg (30 : Int32).toNatClampNeg) ++ va_pl P g) N p2 x22 hx23) (va_cwS 1 C0.1.2.2.2.2 gX3_search_X3_only rfl rfl rfl (by decide +kernel) ⟨Nat.le_of_ble_eq_true rfl, Nat.le_of_ble_eq_true rfl⟩) ⟨g_blind, g_pre Z _⟩ rfl rfl hl.1 rfl (lv_room (Nat.le_of_ble_eq_true rfl)) dX3_search_33 ⟨Nat.le_of_ble_eq_true rfl, Nat.le_of_ble_eq_true rfl⟩) Z.2.2.2.1 (fun u t H1 locs1 ht hvm hB hS => g_post Z ht hvm hB hS) (fun r u H locs hw Z => ?_)
  subst hw
  refine lv_iconst (v := -1) C0.1.1 C0.1.2.1 dX3_search_36 (by decide) ?_
  refine lv_ixor C0.1.1 C0.1.2.1 dX3_search_37 ?_
  refine lv_iand C0.1.1 C0.1.2.1 dX3_search_38 ?_
  refine lv_istore (lv' := [(6, .int ((x14 &&& x19) &&& (x22 ^^^ (-1 : Int32)))), (0, .ref (d 0)), (1, .int p0), (2, .int p1), (3, .int p2), (4, .int p3), (5, .int p4)]) C0.1.1 C0.1.2.1 dX3_search_39 hl (by decide) rfl (fun ls hl => ?_)
  refine lv_iload C0.1.1 C0.1.2.1 dX3_search_41 (lv_at hl 5 rfl) ?_
  refine lv_istore (lv' := [(7, .int p3), (6, .int ((x14 &&& x19) &&& (x22 ^^^ (-1 : Int32)))), (0, .ref (d 0)), (1, .int p0), (2, .int p1), (3, .int p2), (4, .int p3), (5, .int p4)]) C0.1.1 C0.1.2.1 dX3_search_43 hl (by decide) rfl (fun ls hl => ?_)
  refine lv_iload C0.1.1 C0.1.2.1 dX3_search_45 (lv_at hl 7 rfl) ?_
  refine lv_istore (lv' := [(8, .int p4), (7, .int p3), (6, .int ((x14 &&& x19) &&& (x22 ^^^ (-1 : Int32)))), (0, .ref (d 0)), (1, .int p0), (2, .int p1), (3, .int p2), (4, .int p3), (5, .int p4)]) C0.1.1 C0.1.2.1 dX3_search_47 hl (by decide) rfl (fun ls hl => ?_)
  refine lv_aload_n C0.1.1 C0.1.2.1 dX3_search_49 rfl (lv_at hl 3 rfl) ?_
  refine lv_iload_n C0.1.1 C0.1.2.1 dX3_search_50 rfl (lv_at hl 4 rfl) ?_
  refine lv_iload_n C0.1.1 C0.1.2.1 dX3_search_51 rfl (lv_at hl 6 rfl) ?_
  refine lv_iload C0.1.1 C0.1.2.1 dX3_search_52 (lv_at hl 1 rfl) ?_
  refine lv_iload C0.1.1 C0.1.2.1 dX3_search_54 (lv_at hl 2 rfl) ?_
  obtain ⟨x24, hx25, h⟩ := g_bd h
  refine x_calll (va_runV (b := d 0) (C := RX3) (As := [.int p0, .int p2, .int p3, .int ((x14 &&& x19) &&& (x22 ^^^ (-1 : Int32)))]) (rest := []) C0.1 (zX3_goalWith l D cyI cyJ cyO A bs Z.2.2.2.2.2 P g d eA ol fd dc ds fw fn ff qw qn qf va (va_cpy va tr (0 : Int32).toNatClampNeg (0 : Int32).toNatClampNeg (30 : Int32).toNatClampNeg) N p0 p2 p3 ((x14 &&& x19) &&& (x22 ^^^ (-1 : Int32))) x24 hx25) (cwV 4 C0.1.2.2.2.2 gX3_search_X3_goalWith rfl rfl rfl (by decide +kernel) ⟨Nat.le_of_ble_eq_true rfl, Nat.le_of_ble_eq_true rfl⟩) ⟨dP_blind, va_recv Z.2.1 Z.1 (ci := 5) (q0 := 0) rfl rfl, dP_pre ⟨rs21, rr21, at21, fa21, ra21, Z, hF21⟩ hN hT _⟩ rfl rfl hl.1 rfl (lv_room (Nat.le_of_ble_eq_true rfl)) dX3_search_56 ⟨Nat.le_of_ble_eq_true rfl, Nat.le_of_ble_eq_true rfl⟩) Z.2.2.2.1 (fun u t H1 locs1 ht hvm hB hS => dW_post Z ht hvm hB hS) (fun r u H locs hw Z => ?_)
  obtain ⟨rfl, rfl⟩ := hw
  obtain ⟨rs26, rr26, at26, fa26, ra26, Z, hF26⟩ := Z
  refine lv_lstore (lv' := [(9, .long x24.1), (8, .int p4), (7, .int p3), (6, .int ((x14 &&& x19) &&& (x22 ^^^ (-1 : Int32)))), (0, .ref (d 0)), (1, .int p0), (2, .int p1), (3, .int p2), (4, .int p3), (5, .int p4)]) C0.1.1 C0.1.2.1 dX3_search_59 hl (by decide) rfl (fun ls hl => ?_)
  refine lv_aload_n C0.1.1 C0.1.2.1 dX3_search_61 rfl (lv_at hl 4 rfl) ?_
  refine lv_iload_n C0.1.1 C0.1.2.1 dX3_search_62 rfl (lv_at hl 5 rfl) ?_
  refine lv_iload_n C0.1.1 C0.1.2.1 dX3_search_63 rfl (lv_at hl 7 rfl) ?_
  refine lv_iload C0.1.1 C0.1.2.1 dX3_search_64 (lv_at hl 1 rfl) ?_
  refine lv_iload C0.1.1 C0.1.2.1 dX3_search_66 (lv_at hl 3 rfl) ?_
  obtain ⟨x27, hx28, h⟩ := g_bd h
  refine x_calll (va_runV (b := d 0) (C := RX3) (As := [.int p0, .int p2, .int p4, .int ((x14 &&& x19) &&& (x22 ^^^ (-1 : Int32)))]) (rest := []) C0.1 (zX3_goalWith l D cyI cyJ cyO A bs Z.2.2.2.2.2 P g d eA ol fd dc ds fw fn ff qw qn qf va x24.2 N p0 p2 p4 ((x14 &&& x19) &&& (x22 ^^^ (-1 : Int32))) x27 hx28) (cwV 4 C0.1.2.2.2.2 gX3_search_X3_goalWith rfl rfl rfl (by decide +kernel) ⟨Nat.le_of_ble_eq_true rfl, Nat.le_of_ble_eq_true rfl⟩) ⟨dP_blind, va_recv Z.2.1 Z.1 (ci := 5) (q0 := 0) rfl rfl, dP_pre ⟨rs26, rr26, at26, fa26, ra26, Z, hF26⟩ hN hT _⟩ rfl rfl hl.1 rfl (lv_room (Nat.le_of_ble_eq_true rfl)) dX3_search_68 ⟨Nat.le_of_ble_eq_true rfl, Nat.le_of_ble_eq_true rfl⟩) Z.2.2.2.1 (fun u t H1 locs1 ht hvm hB hS => dW_post Z ht hvm hB hS) (fun r u H locs hw Z => ?_)
  obtain ⟨rfl, rfl⟩ := hw
  obtain ⟨rs29, rr29, at29, fa29, ra29, Z, hF29⟩ := Z
  refine lv_lstore (lv' := [(11, .long x27.1), (9, .long x24.1), (8, .int p4), (7, .int p3), (6, .int ((x14 &&& x19) &&& (x22 ^^^ (-1 : Int32)))), (0, .ref (d 0)), (1, .int p0), (2, .int p1), (3, .int p2), (4, .int p3), (5, .int p4)]) C0.1.1 C0.1.2.1 dX3_search_71 hl (by decide) rfl (fun ls hl => ?_)
  refine lv_lload C0.1.1 C0.1.2.1 dX3_search_73 (lv_at hl 1 rfl) ?_
  refine lv_ldc2 C0.1.1 C0.1.2.1 C0.1.2.2.2.1 (C0.1.2.2.2.2 _ kX3_search_c151) dX3_search_75 ?_
  refine W.lcmp C0.1.1 C0.1.2.1 dX3_search_78 ?_
  refine lv_if_eq (tgt := 103) C0.1.1 C0.1.2.1 dX3_search_79 (by decide) (fun hc => ?_) (fun hc => ?_)
  · replace h := (if_pos hc).symm.trans h
    exact wX3_search_103 (N := N) C0 hN hT hret x27.2 _ _ _ h ⟨rs29, rr29, at29, fa29, ra29, Z, hF29⟩ (lv_sub hl [] rfl)
  · replace h := (if_neg hc).symm.trans h
    refine lv_lload C0.1.1 C0.1.2.1 dX3_search_82 (lv_at hl 0 rfl) ?_
    refine lv_ldc2 C0.1.1 C0.1.2.1 C0.1.2.2.2.1 (C0.1.2.2.2.2 _ kX3_search_c151) dX3_search_84 ?_
    refine W.lcmp C0.1.1 C0.1.2.1 dX3_search_87 ?_
    refine lv_if_eq (tgt := 103) C0.1.1 C0.1.2.1 dX3_search_88 (by decide) (fun hc => ?_) (fun hc => ?_)
    · replace h := (if_pos hc).symm.trans h
      exact wX3_search_103 (N := N) C0 hN hT hret x27.2 _ _ _ h ⟨rs29, rr29, at29, fa29, ra29, Z, hF29⟩ (lv_sub hl [] rfl)
    · replace h := (if_neg hc).symm.trans h
      refine lv_lload C0.1.1 C0.1.2.1 dX3_search_91 (lv_at hl 1 rfl) ?_
      refine lv_lload C0.1.1 C0.1.2.1 dX3_search_93 (lv_at hl 0 rfl) ?_
      refine lv_iload_n C0.1.1 C0.1.2.1 dX3_search_95 rfl (lv_at hl 7 rfl) ?_
      refine lv_i2l C0.1.1 C0.1.2.1 dX3_search_96 rfl ?_
      obtain ⟨x30, hx31, h⟩ := g_bd h
      refine x_calli (va_runS (As := [.long x24.1, .long x27.1, .long (p1.toInt64)]) (rest := []) C0.1 (zX3_onOneSide l D cyI cyJ cyO A bs Z.2.2.2.2.2 (XD d cyI cyJ cyO eA (d 5) (d 6) rs29 rr29 at29 fa29 ra29 ol fd dc ds va x27.2 ++ va_pl P g) N x24.1 x27.1 (p1.toInt64) x30 hx31) (va_cwS 3 C0.1.2.2.2.2 gX3_search_X3_onOneSide rfl rfl rfl (by decide +kernel) ⟨Nat.le_of_ble_eq_true rfl, Nat.le_of_ble_eq_true rfl⟩) ⟨g_blind, g_pre Z _⟩ rfl rfl hl.1 rfl (lv_room (Nat.le_of_ble_eq_true rfl)) dX3_search_97 ⟨Nat.le_of_ble_eq_true rfl, Nat.le_of_ble_eq_true rfl⟩) Z.2.2.2.1 (fun u t H1 locs1 ht hvm hB hS => g_post Z ht hvm hB hS) (fun r u H locs hw Z => ?_)
      subst hw
      refine lv_if_eq (tgt := 105) C0.1.1 C0.1.2.1 dX3_search_100 (by decide) (fun hc => ?_) (fun hc => ?_)
      · replace h := (if_pos hc).symm.trans h
        refine lv_iconst (v := 0) C0.1.1 C0.1.2.1 dX3_search_105 (by decide) ?_
        refine lv_istore (lv' := [(13, .int (0 : Int32)), (11, .long x27.1), (9, .long x24.1), (8, .int p4), (7, .int p3), (6, .int ((x14 &&& x19) &&& (x22 ^^^ (-1 : Int32)))), (0, .ref (d 0)), (1, .int p0), (2, .int p1), (3, .int p2), (4, .int p3), (5, .int p4)]) C0.1.1 C0.1.2.1 dX3_search_106 hl (by decide) rfl (fun ls hl => ?_)
        exact wX3_search_108 (N := N) C0 hN hT hret N x27.2 p0 p1 p2 ((x14 &&& x19) &&& (x22 ^^^ (-1 : Int32))) p3 p4 x24.1 (0 : Int32) _ _ _ h ⟨rs29, rr29, at29, fa29, ra29, Z, hF29⟩ (lv_sub hl [6, 7, 8, 9, 5, 4, 3, 2, 0] rfl)
      · replace h := (if_neg hc).symm.trans h
        exact wX3_search_103 (N := N) C0 hN hT hret x27.2 _ _ _ h ⟨rs29, rr29, at29, fa29, ra29, Z, hF29⟩ (lv_sub hl [] rfl)
/-! X3_findAnew -/
abbrev rmX3_findAnew : Room := { frames := 60, cells := 0, slots := 0, locals := 1464 }
theorem kX3_findAnew_in3 : ∀ w ∈ wsX30, w ∈ wsX3_findAnew := by decide +kernel
theorem kX3_findAnew_f41 : Cond.fieldLink RX3 41 "GoalseekOffice" "values" "[J" ∈ wsX3_findAnew := by decide +kernel
theorem kX3_findAnew_f153 : Cond.fieldLink RX3 153 "GoalseekOffice" "found" "I" ∈ wsX3_findAnew := by decide +kernel
def mX3_findAnew (N : Nat) (fw : Nat → Int32) (fn : Nat → Nat) (ff : Nat → Nat → Int32) (fd : Int32) (va : Nat → Int64) (p0 : Int32) : Option (Int32 × Int32 × (Nat → Int64)) := ((mX3_withDependents N fw fn ff p0).bind fun x2 => ((mX3_workOut N fw fn ff va x2).bind fun x5 => ((mJ6_bitCount_0f7a4 N x2).bind fun x8 => some (x8, (fd + x8), x5))))
set_option maxRecDepth 20000 in
set_option maxHeartbeats 4000000 in
theorem zX3_findAnew (l : Launch) (D : va_G) (cyI cyJ cyO : ClassId) (A : Nat → Prop) (bs : Nat) (hA : ∀ q, bs ≤ q → A q) (P : List Nat) (g : Nat → va_E) (d : Nat → Nat) (eA : Nat) (ol : Int32) (fd : Int32) (dc : Int32) (ds : Nat → Int32) (fw : Nat → Int32) (fn : Nat → Nat) (ff : Nat → Nat → Int32) (qw : Nat → Int32) (qn : Nat → Nat) (qf : Nat → Nat → Int32) (va : Nat → Int64) (tr : Nat → Int64) (N : Nat) (p0 : Int32) (res : Int32 × Int32 × (Nat → Int64)) (h : mX3_findAnew N fw fn ff fd va p0 = some res) : Met l yX3_findAnew wsX3_findAnew rmX3_findAnew (va_Pc [.ref (d 0), .int p0] (dP (dW D cyI cyJ cyO A bs P g d eA (d 5) (d 6) ol fd dc ds fw fn ff qw qn qf va tr) A)) (va_Qi (fun (r : Int32) (u : Int32 × (Nat → Int64)) => res.1 = r ∧ res.2 = u) (fun (u : Int32 × (Nat → Int64)) U => dW D cyI cyJ cyO A bs P g d eA (d 5) (d 6) ol u.1 dc ds fw fn ff qw qn qf u.2 tr U) A)  0 0 A := by
  refine Met.ofW (cc := cX3_findAnew) (maxL := 4) (ret := (some .int)) (by decide) rfl ?_
  intro p e s m args below meth c s₁ B hml hv
  obtain ⟨hav, hv⟩ := hv
  obtain ⟨hv, hN, hT⟩ := hv
  have C0 : gC p m meth c cX3_findAnew 4 (some .int) s args wsX3_findAnew RX3 := ⟨⟨B.exec, B.bytes, hml, findClass_of_methodNamed B.named, atoms_spec (ws := wsX3_findAnew) B.pre⟩, B.returns, B.notSynchronized⟩
  have Z := dZ_start hA hv
  have hret : ∀ (r : Int32) (fd_r : Int32) (va_r : Nat → Int64) (H : Heap) (locs : List Loc) (pc : Nat) (ls : Array Slot), some (r, fd_r, va_r) = some res → dZ D cyI cyJ cyO A bs P g d eA (d 5) (d 6) ol fd_r dc ds fw fn ff qw qn qf va_r tr s H locs → decode cX3_findAnew pc = .ok (.ireturn, 1) → W p l e rmX3_findAnew s m args below meth c H locs 0 0 (MQ below (va_Qi (fun (r : Int32) (u : Int32 × (Nat → Int64)) => res.1 = r ∧ res.2 = u) (fun (u : Int32 × (Nat → Int64)) U => dW D cyI cyJ cyO A bs P g d eA (d 5) (d 6) ol u.1 dc ds fw fn ff qw qn qf u.2 tr U) A) args s 0 0 A) (F0 m pc ls [.int r]) := by
    intro r fd_r va_r H locs pc ls h Z hd
    replace h := Option.some.inj h
    subst h
    exact W.iret C0.1.1 C0.1.2.1 C0.2.1 (fun t ht hW => ⟨⟨r, (fd_r, va_r), rfl, ⟨rfl, rfl⟩, dZ_end Z ht hW⟩, va_S.F (dZ_S Z) ht⟩) (dZ_S Z).2.2 hd C0.2.2
  have hl := lv_entry ([.ref (d 0), .int p0]) (n := 4) (Nat.le_of_ble_eq_true rfl)
  rw [hav, lg_entry_eq]
  generalize (lg_sl ([.ref (d 0), .int p0]) ++ List.replicate (4 - (lg_sl ([.ref (d 0), .int p0])).length) Slot.unset).toArray = ls at hl ⊢
  have hl : lv_has ls 4 [(0, .ref (d 0)), (1, .int p0)] := hl
  rw [← hav]
  unfold mX3_findAnew at h
  obtain ⟨rs1, rr1, at1, fa1, ra1, Z, hF1⟩ := Z
  refine lv_aload_n C0.1.1 C0.1.2.1 dX3_findAnew_0 rfl (lv_at hl 0 rfl) ?_
  refine lv_iload_n C0.1.1 C0.1.2.1 dX3_findAnew_1 rfl (lv_at hl 1 rfl) ?_
  obtain ⟨x2, hx3, h⟩ := g_bd h
  refine x_calli (va_runV (b := d 0) (C := RX3) (As := [.int p0]) (rest := []) C0.1 (zX3_withDependents l D cyI cyJ cyO A bs Z.2.2.2.2.2 P g d eA ol fd dc ds fw fn ff qw qn qf va tr N p0 x2 hx3) (cwV 1 C0.1.2.2.2.2 gX3_findAnew_X3_withDependents rfl rfl rfl (by decide +kernel) ⟨Nat.le_of_ble_eq_true rfl, Nat.le_of_ble_eq_true rfl⟩) ⟨dP_blind, va_recv Z.2.1 Z.1 (ci := 5) (q0 := 0) rfl rfl, dP_pre ⟨rs1, rr1, at1, fa1, ra1, Z, hF1⟩ hN hT _⟩ rfl rfl hl.1 rfl (lv_room (Nat.le_of_ble_eq_true rfl)) dX3_findAnew_2 ⟨Nat.le_of_ble_eq_true rfl, Nat.le_of_ble_eq_true rfl⟩) Z.2.2.2.1 (fun u t H1 locs1 ht hvm hB hS => dW_post Z ht hvm hB hS) (fun r u H locs hw Z => ?_)
  subst hw
  obtain ⟨rs4, rr4, at4, fa4, ra4, Z, hF4⟩ := Z
  refine lv_istore_n (lv' := [(2, .int x2), (0, .ref (d 0)), (1, .int p0)]) C0.1.1 C0.1.2.1 dX3_findAnew_5 rfl hl (by decide) rfl (fun ls hl => ?_)
  refine lv_aload_n C0.1.1 C0.1.2.1 dX3_findAnew_6 rfl (lv_at hl 1 rfl) ?_
  refine lv_iload_n C0.1.1 C0.1.2.1 dX3_findAnew_7 rfl (lv_at hl 0 rfl) ?_
  refine lv_aload_n C0.1.1 C0.1.2.1 dX3_findAnew_8 rfl (lv_at hl 1 rfl) ?_
  refine g_get (ci := 5) (v := .ref (d 5)) (T := TX3) (N := 9) C0.1 Z 0 rfl rfl 5 (by decide) kX3_findAnew_in3 kX3_findAnew_f41 rfl rfl dX3_findAnew_9 ?_
  obtain ⟨x5, hx6, h⟩ := g_bd h
  refine x_callv (va_runV (b := d 0) (C := RX3) (As := [.int x2, .ref (d 5)]) (rest := []) C0.1 (zX3_workOut l D cyI cyJ cyO A bs Z.2.2.2.2.2 P g d eA (d 5) (d 6) ol fd dc ds fw fn ff qw qn qf va tr N x2 x5 hx6) (cwV 2 C0.1.2.2.2.2 gX3_findAnew_X3_workOut rfl rfl rfl (by decide +kernel) ⟨Nat.le_of_ble_eq_true rfl, Nat.le_of_ble_eq_true rfl⟩) ⟨dP_blind, va_recv Z.2.1 Z.1 (ci := 5) (q0 := 0) rfl rfl, dP_pre ⟨rs4, rr4, at4, fa4, ra4, Z, hF4⟩ hN hT _⟩ rfl rfl hl.1 rfl (lv_room (Nat.le_of_ble_eq_true rfl)) dX3_findAnew_12 ⟨Nat.le_of_ble_eq_true rfl, Nat.le_of_ble_eq_true rfl⟩) Z.2.2.2.1 (fun u t H1 locs1 ht hvm hB hS => dW_post Z ht hvm hB hS) (fun u H locs hw Z => ?_)
  subst hw
  obtain ⟨rs7, rr7, at7, fa7, ra7, Z, hF7⟩ := Z
  refine lv_iload_n C0.1.1 C0.1.2.1 dX3_findAnew_15 rfl (lv_at hl 0 rfl) ?_
  obtain ⟨x8, hx9, h⟩ := g_bd h
  refine x_calli (va_runS (As := [.int x2]) (rest := []) C0.1 (zJ6_bitCount_0f7a4 l D cyI cyJ cyO A bs Z.2.2.2.2.2 (XD d cyI cyJ cyO eA (d 5) (d 6) rs7 rr7 at7 fa7 ra7 ol fd dc ds x5 tr ++ va_pl P g) N x2 x8 hx9) (va_cwS 1 C0.1.2.2.2.2 gX3_findAnew_J6_bitCount_0f7a4 rfl rfl rfl (by decide +kernel) ⟨Nat.le_of_ble_eq_true rfl, Nat.le_of_ble_eq_true rfl⟩) ⟨g_blind, g_pre Z _⟩ rfl rfl hl.1 rfl (lv_room (Nat.le_of_ble_eq_true rfl)) dX3_findAnew_16 ⟨Nat.le_of_ble_eq_true rfl, Nat.le_of_ble_eq_true rfl⟩) Z.2.2.2.1 (fun u t H1 locs1 ht hvm hB hS => g_post Z ht hvm hB hS) (fun r u H locs hw Z => ?_)
  subst hw
  refine lv_istore_n (lv' := [(3, .int x8), (2, .int x2), (0, .ref (d 0)), (1, .int p0)]) C0.1.1 C0.1.2.1 dX3_findAnew_19 rfl hl (by decide) rfl (fun ls hl => ?_)
  refine lv_aload_n C0.1.1 C0.1.2.1 dX3_findAnew_20 rfl (lv_at hl 2 rfl) ?_
  refine lv_dup C0.1.1 C0.1.2.1 dX3_findAnew_21 rfl ?_
  refine g_get (ci := 5) (v := .int fd) (T := TX3) (N := 9) C0.1 Z 0 rfl rfl 8 (by decide) kX3_findAnew_in3 kX3_findAnew_f153 rfl rfl dX3_findAnew_22 ?_
  refine lv_iload_n C0.1.1 C0.1.2.1 dX3_findAnew_25 rfl (lv_at hl 0 rfl) ?_
  refine lv_iadd C0.1.1 C0.1.2.1 dX3_findAnew_26 ?_
  refine g_put (ci := 5) (v := .int (fd + x8)) (T := TX3) (N := 9) (ws' := (XD d cyI cyJ cyO eA (d 5) (d 6) rs7 rr7 at7 fa7 ra7 ol (fd + x8) dc ds x5 tr ++ va_pl P g)) C0.1 Z 0 rfl rfl 8 (by decide) kX3_findAnew_in3 kX3_findAnew_f153 rfl tyX3 tyX3_ok nmX3 rfl rfl rfl (Nat.le_of_ble_eq_true rfl) dX3_findAnew_27 rfl (fun H locs Z => ?_)
  refine lv_iload_n C0.1.1 C0.1.2.1 dX3_findAnew_30 rfl (lv_at hl 0 rfl) ?_
  exact hret x8 (fd + x8) x5 _ _ _ _ h ⟨rs7, rr7, at7, fa7, ra7, Z, hF7⟩ dX3_findAnew_31
/-! X3_give -/
abbrev rmX3_give : Room := { frames := 61, cells := 0, slots := 0, locals := 1487 }
theorem kX3_give_in3 : ∀ w ∈ wsX30, w ∈ wsX3_give := by decide +kernel
theorem kX3_give_f34 : Cond.fieldLink RX3 34 "GoalseekOffice" "formulas" "[LGoalseekOffice$Formula;" ∈ wsX3_give := by decide +kernel
def mX3_give (N : Nat) (w1 : Int32) (n1 : Nat) (f1 : Nat → Int32) (fd : Int32) (fw : Nat → Int32) (fn : Nat → Nat) (ff : Nat → Nat → Int32) (va : Nat → Int64) (p0 : Int32) : Option (Int32 × Int32 × (Nat → Int32) × (Nat → Nat) × (Nat → Nat → Int32) × (Nat → Int64)) := (if p0 < 0 ∨ 30 ≤ p0.toNatClampNeg then none else ((mX3_only N p0).bind fun x4 => ((mX3_findAnew N (va_up fw p0.toNatClampNeg w1) (va_up fn p0.toNatClampNeg n1) (va_up ff p0.toNatClampNeg f1) fd va x4).bind fun x6 => some (x6.1, x6.2.1, (va_up fw p0.toNatClampNeg w1), (va_up fn p0.toNatClampNeg n1), (va_up ff p0.toNatClampNeg f1), x6.2.2))))
set_option maxRecDepth 20000 in
set_option maxHeartbeats 4000000 in
theorem zX3_give (l : Launch) (D : va_G) (cyI cyJ cyO : ClassId) (A : Nat → Prop) (bs : Nat) (hA : ∀ q, bs ≤ q → A q) (P : List Nat) (g : Nat → va_E) (d : Nat → Nat) (eA : Nat) (ol : Int32) (fd : Int32) (dc : Int32) (ds : Nat → Int32) (fw : Nat → Int32) (fn : Nat → Nat) (ff : Nat → Nat → Int32) (qw : Nat → Int32) (qn : Nat → Nat) (qf : Nat → Nat → Int32) (va : Nat → Int64) (tr : Nat → Int64) (N : Nat) (b1 : Nat) (w1 : Int32) (n1 : Nat) (f1 : Nat → Int32) (hb1 : isF cyI P g b1 w1 n1 f1) (p0 : Int32) (res : Int32 × Int32 × (Nat → Int32) × (Nat → Nat) × (Nat → Nat → Int32) × (Nat → Int64)) (h : mX3_give N w1 n1 f1 fd fw fn ff va p0 = some res) : Met l yX3_give wsX3_give rmX3_give (va_Pc [.ref (d 0), .int p0, .ref b1] (dP (dW D cyI cyJ cyO A bs P g d eA (d 5) (d 6) ol fd dc ds fw fn ff qw qn qf va tr) A)) (va_Qi (fun (r : Int32) (u : Int32 × (Nat → Int32) × (Nat → Nat) × (Nat → Nat → Int32) × (Nat → Int64)) => res.1 = r ∧ res.2 = u) (fun (u : Int32 × (Nat → Int32) × (Nat → Nat) × (Nat → Nat → Int32) × (Nat → Int64)) U => dW D cyI cyJ cyO A bs P g d eA (d 5) (d 6) ol u.1 dc ds u.2.1 u.2.2.1 u.2.2.2.1 qw qn qf u.2.2.2.2 tr U) A)  0 0 A := by
  refine Met.ofW (cc := cX3_give) (maxL := 3) (ret := (some .int)) (by decide) rfl ?_
  intro p e s m args below meth c s₁ B hml hv
  obtain ⟨hav, hv⟩ := hv
  obtain ⟨hv, hN, hT⟩ := hv
  have C0 : gC p m meth c cX3_give 3 (some .int) s args wsX3_give RX3 := ⟨⟨B.exec, B.bytes, hml, findClass_of_methodNamed B.named, atoms_spec (ws := wsX3_give) B.pre⟩, B.returns, B.notSynchronized⟩
  have Z := dZ_start hA hv
  have hret : ∀ (r : Int32) (fd_r : Int32) (fw_r : Nat → Int32) (fn_r : Nat → Nat) (ff_r : Nat → Nat → Int32) (va_r : Nat → Int64) (H : Heap) (locs : List Loc) (pc : Nat) (ls : Array Slot), some (r, fd_r, fw_r, fn_r, ff_r, va_r) = some res → dZ D cyI cyJ cyO A bs P g d eA (d 5) (d 6) ol fd_r dc ds fw_r fn_r ff_r qw qn qf va_r tr s H locs → decode cX3_give pc = .ok (.ireturn, 1) → W p l e rmX3_give s m args below meth c H locs 0 0 (MQ below (va_Qi (fun (r : Int32) (u : Int32 × (Nat → Int32) × (Nat → Nat) × (Nat → Nat → Int32) × (Nat → Int64)) => res.1 = r ∧ res.2 = u) (fun (u : Int32 × (Nat → Int32) × (Nat → Nat) × (Nat → Nat → Int32) × (Nat → Int64)) U => dW D cyI cyJ cyO A bs P g d eA (d 5) (d 6) ol u.1 dc ds u.2.1 u.2.2.1 u.2.2.2.1 qw qn qf u.2.2.2.2 tr U) A) args s 0 0 A) (F0 m pc ls [.int r]) := by
    intro r fd_r fw_r fn_r ff_r va_r H locs pc ls h Z hd
    replace h := Option.some.inj h
    subst h
    exact W.iret C0.1.1 C0.1.2.1 C0.2.1 (fun t ht hW => ⟨⟨r, (fd_r, fw_r, fn_r, ff_r, va_r), rfl, ⟨rfl, rfl⟩, dZ_end Z ht hW⟩, va_S.F (dZ_S Z) ht⟩) (dZ_S Z).2.2 hd C0.2.2
  have hl := lv_entry ([.ref (d 0), .int p0, .ref b1]) (n := 3) (Nat.le_of_ble_eq_true rfl)
  rw [hav, lg_entry_eq]
  generalize (lg_sl ([.ref (d 0), .int p0, .ref b1]) ++ List.replicate (3 - (lg_sl ([.ref (d 0), .int p0, .ref b1])).length) Slot.unset).toArray = ls at hl ⊢
  have hl : lv_has ls 3 [(0, .ref (d 0)), (1, .int p0), (2, .ref b1)] := hl
  rw [← hav]
  unfold mX3_give at h
  obtain ⟨rs1, rr1, at1, fa1, ra1, Z, hF1⟩ := Z
  refine lv_aload_n C0.1.1 C0.1.2.1 dX3_give_0 rfl (lv_at hl 0 rfl) ?_
  refine g_get (ci := 5) (v := .ref (d 3)) (T := TX3) (N := 9) C0.1 Z 0 rfl rfl 3 (by decide) kX3_give_in3 kX3_give_f34 rfl rfl dX3_give_1 ?_
  refine lv_iload_n C0.1.1 C0.1.2.1 dX3_give_4 rfl (lv_at hl 1 rfl) ?_
  refine lv_aload_n C0.1.1 C0.1.2.1 dX3_give_5 rfl (lv_at hl 2 rfl) ?_
  obtain ⟨hi2, h⟩ := g_ni h
  refine d_astF C0.1 Z hF1 hb1 hi2 dX3_give_6 (fun H locs Z hF_3 => ?_)
  refine lv_aload_n C0.1.1 C0.1.2.1 dX3_give_7 rfl (lv_at hl 0 rfl) ?_
  refine lv_iload_n C0.1.1 C0.1.2.1 dX3_give_8 rfl (lv_at hl 1 rfl) ?_
  obtain ⟨x4, hx5, h⟩ := g_bd h
  refine x_calli (va_runS (As := [.int p0]) (rest := [.ref (d 0)]) C0.1 (zX3_only l D cyI cyJ cyO A bs Z.2.2.2.2.2 (XD d cyI cyJ cyO eA (d 5) (d 6) rs1 rr1 at1 (va_up fa1 p0.toNatClampNeg b1) ra1 ol fd dc ds va tr ++ va_pl P g) N p0 x4 hx5) (va_cwS 1 C0.1.2.2.2.2 gX3_give_X3_only rfl rfl rfl (by decide +kernel) ⟨Nat.le_of_ble_eq_true rfl, Nat.le_of_ble_eq_true rfl⟩) ⟨g_blind, g_pre Z _⟩ rfl rfl hl.1 rfl (lv_room (Nat.le_of_ble_eq_true rfl)) dX3_give_9 ⟨Nat.le_of_ble_eq_true rfl, Nat.le_of_ble_eq_true rfl⟩) Z.2.2.2.1 (fun u t H1 locs1 ht hvm hB hS => g_post Z ht hvm hB hS) (fun r u H locs hw Z => ?_)
  subst hw
  obtain ⟨x6, hx7, h⟩ := g_bd h
  refine x_calli (va_runV (b := d 0) (C := RX3) (As := [.int x4]) (rest := []) C0.1 (zX3_findAnew l D cyI cyJ cyO A bs Z.2.2.2.2.2 P g d eA ol fd dc ds (va_up fw p0.toNatClampNeg w1) (va_up fn p0.toNatClampNeg n1) (va_up ff p0.toNatClampNeg f1) qw qn qf va tr N x4 x6 hx7) (cwV 1 C0.1.2.2.2.2 gX3_give_X3_findAnew rfl rfl rfl (by decide +kernel) ⟨Nat.le_of_ble_eq_true rfl, Nat.le_of_ble_eq_true rfl⟩) ⟨dP_blind, va_recv Z.2.1 Z.1 (ci := 5) (q0 := 0) rfl rfl, dP_pre ⟨rs1, rr1, at1, (va_up fa1 p0.toNatClampNeg b1), ra1, Z, hF_3⟩ hN hT _⟩ rfl rfl hl.1 rfl (lv_room (Nat.le_of_ble_eq_true rfl)) dX3_give_12 ⟨Nat.le_of_ble_eq_true rfl, Nat.le_of_ble_eq_true rfl⟩) Z.2.2.2.1 (fun u t H1 locs1 ht hvm hB hS => dW_post Z ht hvm hB hS) (fun r u H locs hw Z => ?_)
  obtain ⟨rfl, rfl⟩ := hw
  obtain ⟨rs8, rr8, at8, fa8, ra8, Z, hF8⟩ := Z
  exact hret x6.1 x6.2.1 (va_up fw p0.toNatClampNeg w1) (va_up fn p0.toNatClampNeg n1) (va_up ff p0.toNatClampNeg f1) x6.2.2 _ _ _ _ h ⟨rs8, rr8, at8, fa8, ra8, Z, hF8⟩ dX3_give_15
/-! X3_clear -/
abbrev rmX3_clear : Room := { frames := 62, cells := 1, slots := 6, locals := 1509 }
theorem kX3_clear_in3 : ∀ w ∈ wsX30, w ∈ wsX3_clear := by decide +kernel
theorem kX3_clear_f34 : Cond.fieldLink RX3 34 "GoalseekOffice" "formulas" "[LGoalseekOffice$Formula;" ∈ wsX3_clear := by decide +kernel
theorem kX3_clear_iniRX1 : Cond.initialized RX1 ∈ wsX3_clear := by decide +kernel
theorem kX3_clear_insX1_isEmpty : Cond.instanceMethod yX1_isEmpty ∈ wsX3_clear := by decide +kernel
theorem kX3_clear_selX1_isEmpty : Cond.selects RX1 yX1_isEmpty yX1_isEmpty ∈ wsX3_clear := by decide +kernel
theorem kX3_clear_f30 : Cond.fieldLink RX3 30 "GoalseekOffice" "empty" "LGoalseekOffice$Formula;" ∈ wsX3_clear := by decide +kernel
def mX3_clear_29 (N : Nat) (fd : Int32) (fw : Nat → Int32) (fn : Nat → Nat) (ff : Nat → Nat → Int32) (va : Nat → Int64) (s0 : Int32) : Option (Nat × Int32 × Int32 × (Nat → Int32) × (Nat → Nat) × (Nat → Nat → Int32) × (Nat → Int64)) := some (0, s0, fd, fw, fn, ff, va)
def mX3_clear (N : Nat) (fd : Int32) (fw : Nat → Int32) (fn : Nat → Nat) (ff : Nat → Nat → Int32) (va : Nat → Int64) (p0 : Int32) : Option (Nat × Int32 × Int32 × (Nat → Int32) × (Nat → Nat) × (Nat → Nat → Int32) × (Nat → Int64)) := ((mX3_requireCell N p0).bind fun x3 => (if x3 = 0 then (if p0 < 0 ∨ 30 ≤ p0.toNatClampNeg then none else ((mX1_isEmpty N (fw p0.toNatClampNeg) (fn p0.toNatClampNeg) (ff p0.toNatClampNeg)).bind fun x7 => (if x7 = 0 then ((mX3_give N (0 : Int32) (0 : Nat) (fun _ => (0 : Int32)) fd fw fn ff va p0).bind fun x13 => mX3_clear_29 N x13.2.1 x13.2.2.1 x13.2.2.2.1 x13.2.2.2.2.1 x13.2.2.2.2.2 x13.1) else mX3_clear_29 N fd fw fn ff va (0 : Int32)))) else some (x3, 0, fd, fw, fn, ff, va)))
set_option maxRecDepth 20000 in
set_option maxHeartbeats 4000000 in
theorem wX3_clear_29 {p : Program} {l : Launch} {e : Env} {s : State} {m : MethodId} {args : Array Value} {below : List Frame} {meth : Method} {c : Code} {D : va_G} {cyI cyJ cyO : ClassId} {A : Nat → Prop} {bs : Nat} {P : List Nat} {g : Nat → va_E} {d : Nat → Nat} {eA : Nat} {Qc : Array Value → State → Outcome → State → Prop} {XC : String → State → State → Prop} {ol : Int32} {dc : Int32} {ds : Nat → Int32} {qw : Nat → Int32} {qn : Nat → Nat} {qf : Nat → Nat → Int32} {tr : Nat → Int64} {N : Nat} {res : Nat × Int32 × Int32 × (Nat → Int32) × (Nat → Nat) × (Nat → Nat → Int32) × (Nat → Int64)} (C0 : gC p m meth c cX3_clear 2 (some .int) s args wsX3_clear RX3) (hN : dN s) (hT : dT A s) (hxt : ∀ x ∈ c.exceptionTable.toList, False) (hlf : l.stackTraces = false) (hret : ∀ (r : Int32) (fd_r : Int32) (fw_r : Nat → Int32) (fn_r : Nat → Nat) (ff_r : Nat → Nat → Int32) (va_r : Nat → Int64) (H : Heap) (locs : List Loc) (pc : Nat) (ls : Array Slot), some (0, r, fd_r, fw_r, fn_r, ff_r, va_r) = some res → dZ D cyI cyJ cyO A bs P g d eA (d 5) (d 6) ol fd_r dc ds fw_r fn_r ff_r qw qn qf va_r tr s H locs → decode cX3_clear pc = .ok (.ireturn, 1) → W p l e rmX3_clear s m args below meth c H locs 1 6 (vx_MQ below Qc XC args s 1 6 A) (F0 m pc ls [.int r])) (hxc : ∀ (k : Nat) (fd_r : Int32) (fw_r : Nat → Int32) (fn_r : Nat → Nat) (ff_r : Nat → Nat → Int32) (va_r : Nat → Int64) (H : Heap) (locs : List Loc) (t : State), k ≠ 0 → some (k, 0, fd_r, fw_r, fn_r, ff_r, va_r) = some res → dZ D cyI cyJ cyO A bs P g d eA (d 5) (d 6) ol fd_r dc ds fw_r fn_r ff_r qw qn qf va_r tr s H locs → s.vm.Alike t.vm → H.size ≤ t.heap.size → (∀ q : Nat, q < H.size → t.heap[q]? = H[q]?) → XC (exN k) s t)  : ∀ (fd : Int32) (fw : Nat → Int32) (fn : Nat → Nat) (ff : Nat → Nat → Int32) (va : Nat → Int64) (s0 : Int32) (H : Heap) (locs : List Loc) (ls : Array Slot), mX3_clear_29 N fd fw fn ff va s0 = some res → dZ D cyI cyJ cyO A bs P g d eA (d 5) (d 6) ol fd dc ds fw fn ff qw qn qf va tr s H locs → lv_has ls 2 [] → W p l e rmX3_clear s m args below meth c H locs 1 6 (vx_MQ below Qc XC args s 1 6 A) (F0 m 29 ls [.int s0]) := by
  intro fd fw fn ff va s0 H locs ls h Z hl
  unfold mX3_clear_29 at h
  obtain ⟨rs1, rr1, at1, fa1, ra1, Z, hF1⟩ := Z
  exact hret s0 fd fw fn ff va _ _ _ _ h ⟨rs1, rr1, at1, fa1, ra1, Z, hF1⟩ dX3_clear_29
set_option maxRecDepth 20000 in
set_option maxHeartbeats 4000000 in
theorem zX3_clear (l : Launch) (hlf : l.stackTraces = false) (D : va_G) (cyI cyJ cyO : ClassId) (A : Nat → Prop) (bs : Nat) (hA : ∀ q, bs ≤ q → A q) (P : List Nat) (g : Nat → va_E) (d : Nat → Nat) (eA : Nat) (ol : Int32) (fd : Int32) (dc : Int32) (ds : Nat → Int32) (fw : Nat → Int32) (fn : Nat → Nat) (ff : Nat → Nat → Int32) (qw : Nat → Int32) (qn : Nat → Nat) (qf : Nat → Nat → Int32) (va : Nat → Int64) (tr : Nat → Int64) (N : Nat) (p0 : Int32) (res : Nat × Int32 × Int32 × (Nat → Int32) × (Nat → Nat) × (Nat → Nat → Int32) × (Nat → Int64)) (h : mX3_clear N fd fw fn ff va p0 = some res) : vx_Met l yX3_clear wsX3_clear rmX3_clear (va_Pc [.ref (d 0), .int p0] (dP (dW D cyI cyJ cyO A bs P g d eA (d 5) (d 6) ol fd dc ds fw fn ff qw qn qf va tr) A)) (va_Qi (fun (r : Int32) (u : Int32 × (Nat → Int32) × (Nat → Nat) × (Nat → Nat → Int32) × (Nat → Int64)) => res.1 = 0 ∧ res.2.1 = r ∧ res.2.2 = u) (fun (u : Int32 × (Nat → Int32) × (Nat → Nat) × (Nat → Nat → Int32) × (Nat → Int64)) U => dW D cyI cyJ cyO A bs P g d eA (d 5) (d 6) ol u.1 dc ds u.2.1 u.2.2.1 u.2.2.2.1 qw qn qf u.2.2.2.2 tr U) A) (vx_X (S := Int32 × (Nat → Int32) × (Nat → Nat) × (Nat → Nat → Int32) × (Nat → Int64)) (fun _ => True) (fun E u t => res.1 ≠ 0 ∧ E = exN res.1 ∧ res.2.2 = u ∧ dW D cyI cyJ cyO A bs P g d eA (d 5) (d 6) ol u.1 dc ds u.2.1 u.2.2.1 u.2.2.2.1 qw qn qf u.2.2.2.2 tr t) A) 1 6 A := by
  refine vx_ofW (cc := cX3_clear) (maxL := 2) (ret := (some .int)) (by decide) rfl ?_
  intro p e s m args below meth c s₁ B hml hxt hv
  obtain ⟨hav, hv⟩ := hv
  obtain ⟨hv, hN, hT⟩ := hv
  have C0 : gC p m meth c cX3_clear 2 (some .int) s args wsX3_clear RX3 := ⟨⟨B.exec, B.bytes, hml, findClass_of_methodNamed B.named, atoms_spec (ws := wsX3_clear) B.pre⟩, B.returns, B.notSynchronized⟩
  have Z := dZ_start hA hv
  have hret : ∀ (r : Int32) (fd_r : Int32) (fw_r : Nat → Int32) (fn_r : Nat → Nat) (ff_r : Nat → Nat → Int32) (va_r : Nat → Int64) (H : Heap) (locs : List Loc) (pc : Nat) (ls : Array Slot), some (0, r, fd_r, fw_r, fn_r, ff_r, va_r) = some res → dZ D cyI cyJ cyO A bs P g d eA (d 5) (d 6) ol fd_r dc ds fw_r fn_r ff_r qw qn qf va_r tr s H locs → decode cX3_clear pc = .ok (.ireturn, 1) → W p l e rmX3_clear s m args below meth c H locs 1 6 (vx_MQ below (va_Qi (fun (r : Int32) (u : Int32 × (Nat → Int32) × (Nat → Nat) × (Nat → Nat → Int32) × (Nat → Int64)) => res.1 = 0 ∧ res.2.1 = r ∧ res.2.2 = u) (fun (u : Int32 × (Nat → Int32) × (Nat → Nat) × (Nat → Nat → Int32) × (Nat → Int64)) U => dW D cyI cyJ cyO A bs P g d eA (d 5) (d 6) ol u.1 dc ds u.2.1 u.2.2.1 u.2.2.2.1 qw qn qf u.2.2.2.2 tr U) A) (vx_X (S := Int32 × (Nat → Int32) × (Nat → Nat) × (Nat → Nat → Int32) × (Nat → Int64)) (fun _ => True) (fun E u t => res.1 ≠ 0 ∧ E = exN res.1 ∧ res.2.2 = u ∧ dW D cyI cyJ cyO A bs P g d eA (d 5) (d 6) ol u.1 dc ds u.2.1 u.2.2.1 u.2.2.2.1 qw qn qf u.2.2.2.2 tr t) A) args s 1 6 A) (F0 m pc ls [.int r]) := by
    intro r fd_r fw_r fn_r ff_r va_r H locs pc ls h Z hd
    replace h := Option.some.inj h
    subst h
    exact vx_ret (W.iret C0.1.1 C0.1.2.1 C0.2.1 (fun t ht hW => ⟨⟨r, (fd_r, fw_r, fn_r, ff_r, va_r), rfl, ⟨rfl, rfl, rfl⟩, dZ_end Z ht hW⟩, va_S.F (dZ_S Z) ht⟩) (dZ_S Z).2.2 hd C0.2.2)
  have hxc : ∀ (k : Nat) (fd_r : Int32) (fw_r : Nat → Int32) (fn_r : Nat → Nat) (ff_r : Nat → Nat → Int32) (va_r : Nat → Int64) (H : Heap) (locs : List Loc) (t : State), k ≠ 0 → some (k, 0, fd_r, fw_r, fn_r, ff_r, va_r) = some res → dZ D cyI cyJ cyO A bs P g d eA (d 5) (d 6) ol fd_r dc ds fw_r fn_r ff_r qw qn qf va_r tr s H locs → s.vm.Alike t.vm → H.size ≤ t.heap.size → (∀ q : Nat, q < H.size → t.heap[q]? = H[q]?) → (vx_X (S := Int32 × (Nat → Int32) × (Nat → Nat) × (Nat → Nat → Int32) × (Nat → Int64)) (fun _ => True) (fun E u t => res.1 ≠ 0 ∧ E = exN res.1 ∧ res.2.2 = u ∧ dW D cyI cyJ cyO A bs P g d eA (d 5) (d 6) ol u.1 dc ds u.2.1 u.2.2.1 u.2.2.2.1 qw qn qf u.2.2.2.2 tr t) A) (exN k) s t := by
    intro k fd_r fw_r fn_r ff_r va_r H locs t hk h Z hvm hz hq
    replace h := Option.some.inj h
    subst h
    exact ⟨(fd_r, fw_r, fn_r, ff_r, va_r), trivial, ⟨hk, rfl, rfl, dW_grow Z hvm hz hq⟩, vaF_grow (dZ_S Z) hz hq⟩
  have hl := lv_entry ([.ref (d 0), .int p0]) (n := 2) (Nat.le_of_ble_eq_true rfl)
  rw [hav, lg_entry_eq]
  generalize (lg_sl ([.ref (d 0), .int p0]) ++ List.replicate (2 - (lg_sl ([.ref (d 0), .int p0])).length) Slot.unset).toArray = ls at hl ⊢
  have hl : lv_has ls 2 [(0, .ref (d 0)), (1, .int p0)] := hl
  rw [← hav]
  unfold mX3_clear at h
  obtain ⟨rs2, rr2, at2, fa2, ra2, Z, hF2⟩ := Z
  refine lv_iload_n C0.1.1 C0.1.2.1 dX3_clear_0 rfl (lv_at hl 1 rfl) ?_
  obtain ⟨x3, hx4, h⟩ := g_bd h
  refine x_xcallv (vx_runS (As := [.int p0]) (rest := []) C0.1 (zX3_requireCell l hlf D cyI cyJ cyO A bs Z.2.2.2.2.2 (XD d cyI cyJ cyO eA (d 5) (d 6) rs2 rr2 at2 fa2 ra2 ol fd dc ds va tr ++ va_pl P g) N p0 x3 hx4) (va_cwS 1 C0.1.2.2.2.2 gX3_clear_X3_requireCell rfl rfl rfl (by decide +kernel) ⟨Nat.le_of_ble_eq_true rfl, Nat.le_of_ble_eq_true rfl⟩) ⟨gP_blind, gP_pre Z hN hT _⟩ rfl rfl hl.1 rfl (lv_room (Nat.le_of_ble_eq_true rfl)) dX3_clear_1 ⟨Nat.le_of_ble_eq_true rfl, Nat.le_of_ble_eq_true rfl⟩) Z.2.2.2.1 (fun u t H1 locs1 ht hvm hB hS => g_post Z ht hvm hB hS) (fun E ce q9 u t H locs ht hvm _ hB hS h1 h2 h3 => ?_) (fun u H locs hw Z => ?_)
  · obtain ⟨hk, rfl, hB⟩ := hB
    replace h := (if_neg hk).symm.trans h
    exact vx_out (fun x hx => (hxt x hx).elim) C0.2.2 h1 h2 h3 (fun t1 ht1 hvm1 => hxc x3 fd fw fn ff va _ _ t1 hk h (⟨rs2, rr2, at2, fa2, ra2, g_post Z ht hvm hB hS, hF2⟩) hvm1 (by rw [ht1]; exact Nat.le_refl _) (fun q _ => by rw [ht1])) hS.2.2 (Nat.le_of_ble_eq_true rfl) (Nat.le_of_ble_eq_true rfl)
  replace h := (if_pos hw).symm.trans h
  refine lv_aload_n C0.1.1 C0.1.2.1 dX3_clear_4 rfl (lv_at hl 0 rfl) ?_
  refine g_get (ci := 5) (v := .ref (d 3)) (T := TX3) (N := 9) C0.1 Z 0 rfl rfl 3 (by decide) kX3_clear_in3 kX3_clear_f34 rfl rfl dX3_clear_5 ?_
  refine lv_iload_n C0.1.1 C0.1.2.1 dX3_clear_8 rfl (lv_at hl 1 rfl) ?_
  obtain ⟨hi5, h⟩ := g_ni h
  refine d_aldF C0.1 Z hF2 hi5 dX3_clear_9 (fun hb_6 => ?_)
  obtain ⟨x7, hx8, h⟩ := g_bd h
  obtain ⟨k9, s10, hk11, hs12⟩ := isF_get (XD d cyI cyJ cyO eA (d 5) (d 6) rs2 rr2 at2 fa2 ra2 ol fd dc ds va tr) hb_6
  refine x_calli (va_runVN (b := (fa2 p0.toNatClampNeg)) (C := RX1) (As := []) (rest := []) C0.1 (zX1_isEmpty l D cyI cyJ cyO A bs Z.2.2.2.2.2 (XD d cyI cyJ cyO eA (d 5) (d 6) rs2 rr2 at2 fa2 ra2 ol fd dc ds va tr) P g (fa2 p0.toNatClampNeg) (fw p0.toNatClampNeg) (fn p0.toNatClampNeg) (ff p0.toNatClampNeg) hb_6 N x7 hx8) ⟨va_cnB 0 C0.1.2.2.2.2 gX3_clear_X1_isEmpty_n106 rfl rfl rfl (hN.1 _ (List.mem_of_getElem? (i := 0) rfl)) (C0.1.2.2.2.2 _ kX3_clear_iniRX1) (by decide +kernel) ⟨Nat.le_of_ble_eq_true rfl, Nat.le_of_ble_eq_true rfl⟩, C0.1.2.2.2.2 _ kX3_clear_insX1_isEmpty, C0.1.2.2.2.2 _ kX3_clear_selX1_isEmpty⟩ ⟨g_blind, va_recv Z.2.1 Z.1 (ci := 3) (q0 := k9) rfl hk11, g_pre Z _⟩ rfl rfl hl.1 rfl (lv_room (Nat.le_of_ble_eq_true rfl)) dX3_clear_10 ⟨Nat.le_of_ble_eq_true rfl, Nat.le_of_ble_eq_true rfl⟩) Z.2.2.2.1 (fun u t H1 locs1 ht hvm hB hS => g_post Z ht hvm hB hS) (fun r u H locs hw Z => ?_)
  subst hw
  refine lv_if_eq (tgt := 20) C0.1.1 C0.1.2.1 dX3_clear_13 (by decide) (fun hc => ?_) (fun hc => ?_)
  · replace h := (if_pos hc).symm.trans h
    refine lv_aload_n C0.1.1 C0.1.2.1 dX3_clear_20 rfl (lv_at hl 0 rfl) ?_
    refine lv_iload_n C0.1.1 C0.1.2.1 dX3_clear_21 rfl (lv_at hl 1 rfl) ?_
    refine lv_aload_n C0.1.1 C0.1.2.1 dX3_clear_22 rfl (lv_at hl 0 rfl) ?_
    refine g_get (ci := 5) (v := .ref eA) (T := TX3) (N := 9) C0.1 Z 0 rfl rfl 2 (by decide) kX3_clear_in3 kX3_clear_f30 rfl rfl dX3_clear_23 ?_
    obtain ⟨x13, hx14, h⟩ := g_bd h
    refine x_calli (va_runV (b := d 0) (C := RX3) (As := [.int p0, .ref eA]) (rest := []) C0.1 (zX3_give l D cyI cyJ cyO A bs Z.2.2.2.2.2 P g d eA ol fd dc ds fw fn ff qw qn qf va tr N eA (0 : Int32) (0 : Nat) (fun _ => (0 : Int32)) hF2.2.2 p0 x13 hx14) (cwV 2 C0.1.2.2.2.2 gX3_clear_X3_give rfl rfl rfl (by decide +kernel) ⟨Nat.le_of_ble_eq_true rfl, Nat.le_of_ble_eq_true rfl⟩) ⟨dP_blind, va_recv Z.2.1 Z.1 (ci := 5) (q0 := 0) rfl rfl, dP_pre ⟨rs2, rr2, at2, fa2, ra2, Z, hF2⟩ hN hT _⟩ rfl rfl hl.1 rfl (lv_room (Nat.le_of_ble_eq_true rfl)) dX3_clear_26 ⟨Nat.le_of_ble_eq_true rfl, Nat.le_of_ble_eq_true rfl⟩) Z.2.2.2.1 (fun u t H1 locs1 ht hvm hB hS => dW_post Z ht hvm hB hS) (fun r u H locs hw Z => ?_)
    obtain ⟨rfl, rfl⟩ := hw
    obtain ⟨rs15, rr15, at15, fa15, ra15, Z, hF15⟩ := Z
    exact wX3_clear_29 (N := N) C0 hN hT hxt hlf hret hxc x13.2.1 x13.2.2.1 x13.2.2.2.1 x13.2.2.2.2.1 x13.2.2.2.2.2 x13.1 _ _ _ h ⟨rs15, rr15, at15, fa15, ra15, Z, hF15⟩ (lv_sub hl [] rfl)
  · replace h := (if_neg hc).symm.trans h
    refine lv_iconst (v := 0) C0.1.1 C0.1.2.1 dX3_clear_16 (by decide) ?_
    refine lv_goto (tgt := 29) C0.1.1 C0.1.2.1 dX3_clear_17 (by decide) ?_
    exact wX3_clear_29 (N := N) C0 hN hT hxt hlf hret hxc fd fw fn ff va (0 : Int32) _ _ _ h ⟨rs2, rr2, at2, fa2, ra2, Z, hF2⟩ (lv_sub hl [] rfl)
/-! X3_drop -/
abbrev rmX3_drop : Room := { frames := 61, cells := 1, slots := 6, locals := 1487 }
theorem kX3_drop_in3 : ∀ w ∈ wsX30, w ∈ wsX3_drop := by decide +kernel
theorem kX3_drop_f34 : Cond.fieldLink RX3 34 "GoalseekOffice" "formulas" "[LGoalseekOffice$Formula;" ∈ wsX3_drop := by decide +kernel
theorem kX3_drop_f38 : Cond.fieldLink RX3 38 "GoalseekOffice" "remembered" "[LGoalseekOffice$Formula;" ∈ wsX3_drop := by decide +kernel
theorem kX3_drop_iniRX1 : Cond.initialized RX1 ∈ wsX3_drop := by decide +kernel
theorem kX3_drop_insX1_sameAs : Cond.instanceMethod yX1_sameAs ∈ wsX3_drop := by decide +kernel
theorem kX3_drop_selX1_sameAs : Cond.selects RX1 yX1_sameAs yX1_sameAs ∈ wsX3_drop := by decide +kernel
theorem kX3_drop_f110 : Cond.fieldLink RX3 110 "GoalseekOffice" "openLayers" "I" ∈ wsX3_drop := by decide +kernel
def mX3_drop_63 (N : Nat) (qw : Nat → Int32) (qn : Nat → Nat) (qf : Nat → Nat → Int32) (r26 : Int32 → Int32 → (Nat → Int32) → (Nat → Nat) → (Nat → Nat → Int32) → (Nat → Int64) → Int32 → Int32 → Int32 → Option (Nat × Int32 × Int32 × Int32 × (Nat → Int32) × (Nat → Nat) × (Nat → Nat → Int32) × (Nat → Int64))) (ol : Int32) (fd : Int32) (fw : Nat → Int32) (fn : Nat → Nat) (ff : Nat → Nat → Int32) (va : Nat → Int64) (v1 : Int32) (v2 : Int32) (v3 : Int32) (w_4 : Int32) (n_4 : Nat) (f_4 : Nat → Int32) : Option (Nat × Int32 × Int32 × Int32 × (Nat → Int32) × (Nat → Nat) × (Nat → Nat → Int32) × (Nat → Int64)) := (if v3 < 0 ∨ 30 ≤ v3.toNatClampNeg then none else r26 ol fd (va_up fw v3.toNatClampNeg w_4) (va_up fn v3.toNatClampNeg n_4) (va_up ff v3.toNatClampNeg f_4) va v1 v2 (v3 + (1 : Int32)))
def mX3_drop_26_b (N : Nat) (qw : Nat → Int32) (qn : Nat → Nat) (qf : Nat → Nat → Int32) (r26 : Int32 → Int32 → (Nat → Int32) → (Nat → Nat) → (Nat → Nat → Int32) → (Nat → Int64) → Int32 → Int32 → Int32 → Option (Nat × Int32 × Int32 × Int32 × (Nat → Int32) × (Nat → Nat) × (Nat → Nat → Int32) × (Nat → Int64))) (ol : Int32) (fd : Int32) (fw : Nat → Int32) (fn : Nat → Nat) (ff : Nat → Nat → Int32) (va : Nat → Int64) (v1 : Int32) (v2 : Int32) (v3 : Int32) : Option (Nat × Int32 × Int32 × Int32 × (Nat → Int32) × (Nat → Nat) × (Nat → Nat → Int32) × (Nat → Int64)) := (if (30 : Int32) ≤ v3 then ((mX3_findAnew N fw fn ff fd va v2).bind fun x5 => ((mJ6_bitCount_0f7a4 N v2).bind fun x8 => some (0, x8, ol, x5.2.1, fw, fn, ff, x5.2.2))) else (if (v1 + v3) < 0 ∨ 120 ≤ (v1 + v3).toNatClampNeg then none else (if v3 < 0 ∨ 30 ≤ v3.toNatClampNeg then none else ((mX1_sameAs N (qw (v1 + v3).toNatClampNeg) (qn (v1 + v3).toNatClampNeg) (qf (v1 + v3).toNatClampNeg) (fw v3.toNatClampNeg) (fn v3.toNatClampNeg) (ff v3.toNatClampNeg)).bind fun x14 => (if x14 = 0 then ((mX3_only N v3).bind fun x20 => mX3_drop_63 N qw qn qf r26 ol fd fw fn ff va v1 (v2 ||| x20) v3 (qw (v1 + v3).toNatClampNeg) (qn (v1 + v3).toNatClampNeg) (qf (v1 + v3).toNatClampNeg)) else mX3_drop_63 N qw qn qf r26 ol fd fw fn ff va v1 v2 v3 (qw (v1 + v3).toNatClampNeg) (qn (v1 + v3).toNatClampNeg) (qf (v1 + v3).toNatClampNeg))))))
def mX3_drop_26 (N : Nat) (qw : Nat → Int32) (qn : Nat → Nat) (qf : Nat → Nat → Int32) : Nat → Int32 → Int32 → (Nat → Int32) → (Nat → Nat) → (Nat → Nat → Int32) → (Nat → Int64) → Int32 → Int32 → Int32 → Option (Nat × Int32 × Int32 × Int32 × (Nat → Int32) × (Nat → Nat) × (Nat → Nat → Int32) × (Nat → Int64))
  | 0 => fun _ _ _ _ _ _ _ _ _ => none
  | n_ + 1 => fun ol fd fw fn ff va v1 v2 v3 => mX3_drop_26_b N qw qn qf (mX3_drop_26 N qw qn qf n_) ol fd fw fn ff va v1 v2 v3
def mX3_drop (N : Nat) (qw : Nat → Int32) (qn : Nat → Nat) (qf : Nat → Nat → Int32) (ol : Int32) (fd : Int32) (fw : Nat → Int32) (fn : Nat → Nat) (ff : Nat → Nat → Int32) (va : Nat → Int64) : Option (Nat × Int32 × Int32 × Int32 × (Nat → Int32) × (Nat → Nat) × (Nat → Nat → Int32) × (Nat → Int64)) := ((mX3_requireLayer N ol).bind fun x23 => (if x23 = 0 then mX3_drop_26 N qw qn qf N (ol - (1 : Int32)) fd fw fn ff va ((ol - (1 : Int32)) * (30 : Int32)) (0 : Int32) (0 : Int32) else some (x23, 0, ol, fd, fw, fn, ff, va)))
set_option maxRecDepth 20000 in
set_option maxHeartbeats 4000000 in
theorem wX3_drop_63 {p : Program} {l : Launch} {e : Env} {s : State} {m : MethodId} {args : Array Value} {below : List Frame} {meth : Method} {c : Code} {D : va_G} {cyI cyJ cyO : ClassId} {A : Nat → Prop} {bs : Nat} {P : List Nat} {g : Nat → va_E} {d : Nat → Nat} {eA : Nat} {Qc : Array Value → State → Outcome → State → Prop} {XC : String → State → State → Prop} {dc : Int32} {ds : Nat → Int32} {qw : Nat → Int32} {qn : Nat → Nat} {qf : Nat → Nat → Int32} {tr : Nat → Int64} {N : Nat} {res : Nat × Int32 × Int32 × Int32 × (Nat → Int32) × (Nat → Nat) × (Nat → Nat → Int32) × (Nat → Int64)} (C0 : gC p m meth c cX3_drop 5 (some .int) s args wsX3_drop RX3) (hN : dN s) (hT : dT A s) (hxt : ∀ x ∈ c.exceptionTable.toList, False) (hlf : l.stackTraces = false) (hret : ∀ (r : Int32) (ol_r : Int32) (fd_r : Int32) (fw_r : Nat → Int32) (fn_r : Nat → Nat) (ff_r : Nat → Nat → Int32) (va_r : Nat → Int64) (H : Heap) (locs : List Loc) (pc : Nat) (ls : Array Slot), some (0, r, ol_r, fd_r, fw_r, fn_r, ff_r, va_r) = some res → dZ D cyI cyJ cyO A bs P g d eA (d 5) (d 6) ol_r fd_r dc ds fw_r fn_r ff_r qw qn qf va_r tr s H locs → decode cX3_drop pc = .ok (.ireturn, 1) → W p l e rmX3_drop s m args below meth c H locs 1 6 (vx_MQ below Qc XC args s 1 6 A) (F0 m pc ls [.int r])) (hxc : ∀ (k : Nat) (ol_r : Int32) (fd_r : Int32) (fw_r : Nat → Int32) (fn_r : Nat → Nat) (ff_r : Nat → Nat → Int32) (va_r : Nat → Int64) (H : Heap) (locs : List Loc) (t : State), k ≠ 0 → some (k, 0, ol_r, fd_r, fw_r, fn_r, ff_r, va_r) = some res → dZ D cyI cyJ cyO A bs P g d eA (d 5) (d 6) ol_r fd_r dc ds fw_r fn_r ff_r qw qn qf va_r tr s H locs → s.vm.Alike t.vm → H.size ≤ t.heap.size → (∀ q : Nat, q < H.size → t.heap[q]? = H[q]?) → XC (exN k) s t) {r26 : Int32 → Int32 → (Nat → Int32) → (Nat → Nat) → (Nat → Nat → Int32) → (Nat → Int64) → Int32 → Int32 → Int32 → Option (Nat × Int32 × Int32 × Int32 × (Nat → Int32) × (Nat → Nat) × (Nat → Nat → Int32) × (Nat → Int64))} (hr26 : ∀ (ol : Int32) (fd : Int32) (fw : Nat → Int32) (fn : Nat → Nat) (ff : Nat → Nat → Int32) (va : Nat → Int64) (v1 : Int32) (v2 : Int32) (v3 : Int32) (H : Heap) (locs : List Loc) (ls : Array Slot), r26 ol fd fw fn ff va v1 v2 v3 = some res → dZ D cyI cyJ cyO A bs P g d eA (d 5) (d 6) ol fd dc ds fw fn ff qw qn qf va tr s H locs → lv_has ls 5 [(0, .ref (d 0)), (1, .int v1), (2, .int v2), (3, .int v3)] → W p l e rmX3_drop s m args below meth c H locs 1 6 (vx_MQ below Qc XC args s 1 6 A) (F0 m 26 ls [])) : ∀ (ol : Int32) (fd : Int32) (fw : Nat → Int32) (fn : Nat → Nat) (ff : Nat → Nat → Int32) (va : Nat → Int64) (v1 : Int32) (v2 : Int32) (v3 : Int32) (w_4 : Int32) (n_4 : Nat) (f_4 : Nat → Int32) (b_4 : Nat) (H : Heap) (locs : List Loc) (ls : Array Slot), mX3_drop_63 N qw qn qf r26 ol fd fw fn ff va v1 v2 v3 w_4 n_4 f_4 = some res → isF cyI P g b_4 w_4 n_4 f_4 → dZ D cyI cyJ cyO A bs P g d eA (d 5) (d 6) ol fd dc ds fw fn ff qw qn qf va tr s H locs → lv_has ls 5 [(0, .ref (d 0)), (1, .int v1), (2, .int v2), (3, .int v3), (4, .ref b_4)] → W p l e rmX3_drop s m args below meth c H locs 1 6 (vx_MQ below Qc XC args s 1 6 A) (F0 m 63 ls []) := by
  intro ol fd fw fn ff va v1 v2 v3 w_4 n_4 f_4 b_4 H locs ls h hb_4 Z hl
  unfold mX3_drop_63 at h
  obtain ⟨rs1, rr1, at1, fa1, ra1, Z, hF1⟩ := Z
  refine lv_aload_n C0.1.1 C0.1.2.1 dX3_drop_63 rfl (lv_at hl 0 rfl) ?_
  refine g_get (ci := 5) (v := .ref (d 3)) (T := TX3) (N := 9) C0.1 Z 0 rfl rfl 3 (by decide) kX3_drop_in3 kX3_drop_f34 rfl rfl dX3_drop_64 ?_
  refine lv_iload_n C0.1.1 C0.1.2.1 dX3_drop_67 rfl (lv_at hl 3 rfl) ?_
  refine lv_aload C0.1.1 C0.1.2.1 dX3_drop_68 (lv_at hl 4 rfl) ?_
  obtain ⟨hi2, h⟩ := g_ni h
  refine d_astF C0.1 Z hF1 hb_4 hi2 dX3_drop_70 (fun H locs Z hF_3 => ?_)
  refine lv_iinc (v := v3 + (1 : Int32)) (lv' := [(3, .int (v3 + (1 : Int32))), (0, .ref (d 0)), (1, .int v1), (2, .int v2), (4, .ref b_4)]) C0.1.1 C0.1.2.1 dX3_drop_71 hl (k := 3) rfl rfl (by decide) rfl (fun ls hl => ?_)
  refine lv_goto (tgt := 26) C0.1.1 C0.1.2.1 dX3_drop_74 (by decide) ?_
  exact hr26 ol fd (va_up fw v3.toNatClampNeg w_4) (va_up fn v3.toNatClampNeg n_4) (va_up ff v3.toNatClampNeg f_4) va v1 v2 (v3 + (1 : Int32)) _ _ _ h ⟨rs1, rr1, at1, (va_up fa1 v3.toNatClampNeg b_4), ra1, Z, hF_3⟩ (lv_sub hl [1, 2, 3, 0] rfl)
set_option maxRecDepth 20000 in
set_option maxHeartbeats 4000000 in
theorem wX3_drop_26_b {p : Program} {l : Launch} {e : Env} {s : State} {m : MethodId} {args : Array Value} {below : List Frame} {meth : Method} {c : Code} {D : va_G} {cyI cyJ cyO : ClassId} {A : Nat → Prop} {bs : Nat} {P : List Nat} {g : Nat → va_E} {d : Nat → Nat} {eA : Nat} {Qc : Array Value → State → Outcome → State → Prop} {XC : String → State → State → Prop} {dc : Int32} {ds : Nat → Int32} {qw : Nat → Int32} {qn : Nat → Nat} {qf : Nat → Nat → Int32} {tr : Nat → Int64} {N : Nat} {res : Nat × Int32 × Int32 × Int32 × (Nat → Int32) × (Nat → Nat) × (Nat → Nat → Int32) × (Nat → Int64)} (C0 : gC p m meth c cX3_drop 5 (some .int) s args wsX3_drop RX3) (hN : dN s) (hT : dT A s) (hxt : ∀ x ∈ c.exceptionTable.toList, False) (hlf : l.stackTraces = false) (hret : ∀ (r : Int32) (ol_r : Int32) (fd_r : Int32) (fw_r : Nat → Int32) (fn_r : Nat → Nat) (ff_r : Nat → Nat → Int32) (va_r : Nat → Int64) (H : Heap) (locs : List Loc) (pc : Nat) (ls : Array Slot), some (0, r, ol_r, fd_r, fw_r, fn_r, ff_r, va_r) = some res → dZ D cyI cyJ cyO A bs P g d eA (d 5) (d 6) ol_r fd_r dc ds fw_r fn_r ff_r qw qn qf va_r tr s H locs → decode cX3_drop pc = .ok (.ireturn, 1) → W p l e rmX3_drop s m args below meth c H locs 1 6 (vx_MQ below Qc XC args s 1 6 A) (F0 m pc ls [.int r])) (hxc : ∀ (k : Nat) (ol_r : Int32) (fd_r : Int32) (fw_r : Nat → Int32) (fn_r : Nat → Nat) (ff_r : Nat → Nat → Int32) (va_r : Nat → Int64) (H : Heap) (locs : List Loc) (t : State), k ≠ 0 → some (k, 0, ol_r, fd_r, fw_r, fn_r, ff_r, va_r) = some res → dZ D cyI cyJ cyO A bs P g d eA (d 5) (d 6) ol_r fd_r dc ds fw_r fn_r ff_r qw qn qf va_r tr s H locs → s.vm.Alike t.vm → H.size ≤ t.heap.size → (∀ q : Nat, q < H.size → t.heap[q]? = H[q]?) → XC (exN k) s t) {r26 : Int32 → Int32 → (Nat → Int32) → (Nat → Nat) → (Nat → Nat → Int32) → (Nat → Int64) → Int32 → Int32 → Int32 → Option (Nat × Int32 × Int32 × Int32 × (Nat → Int32) × (Nat → Nat) × (Nat → Nat → Int32) × (Nat → Int64))} (hr26 : ∀ (ol : Int32) (fd : Int32) (fw : Nat → Int32) (fn : Nat → Nat) (ff : Nat → Nat → Int32) (va : Nat → Int64) (v1 : Int32) (v2 : Int32) (v3 : Int32) (H : Heap) (locs : List Loc) (ls : Array Slot), r26 ol fd fw fn ff va v1 v2 v3 = some res → dZ D cyI cyJ cyO A bs P g d eA (d 5) (d 6) ol fd dc ds fw fn ff qw qn qf va tr s H locs → lv_has ls 5 [(0, .ref (d 0)), (1, .int v1), (2, .int v2), (3, .int v3)] → W p l e rmX3_drop s m args below meth c H locs 1 6 (vx_MQ below Qc XC args s 1 6 A) (F0 m 26 ls [])) : ∀ (ol : Int32) (fd : Int32) (fw : Nat → Int32) (fn : Nat → Nat) (ff : Nat → Nat → Int32) (va : Nat → Int64) (v1 : Int32) (v2 : Int32) (v3 : Int32) (H : Heap) (locs : List Loc) (ls : Array Slot), mX3_drop_26_b N qw qn qf r26 ol fd fw fn ff va v1 v2 v3 = some res → dZ D cyI cyJ cyO A bs P g d eA (d 5) (d 6) ol fd dc ds fw fn ff qw qn qf va tr s H locs → lv_has ls 5 [(0, .ref (d 0)), (1, .int v1), (2, .int v2), (3, .int v3)] → W p l e rmX3_drop s m args below meth c H locs 1 6 (vx_MQ below Qc XC args s 1 6 A) (F0 m 26 ls []) := by
  intro ol fd fw fn ff va v1 v2 v3 H locs ls h Z hl
  unfold mX3_drop_26_b at h
  obtain ⟨rs4, rr4, at4, fa4, ra4, Z, hF4⟩ := Z
  refine lv_iload_n C0.1.1 C0.1.2.1 dX3_drop_26 rfl (lv_at hl 3 rfl) ?_
  refine lv_bipush (v := 30) C0.1.1 C0.1.2.1 dX3_drop_27 (by decide +kernel) ?_
  refine lv_icmp_ge (tgt := 77) C0.1.1 C0.1.2.1 dX3_drop_29 (by decide) (fun hc => ?_) (fun hc => ?_)
  · replace h := (if_pos hc).symm.trans h
    refine lv_aload_n C0.1.1 C0.1.2.1 dX3_drop_77 rfl (lv_at hl 0 rfl) ?_
    refine lv_iload_n C0.1.1 C0.1.2.1 dX3_drop_78 rfl (lv_at hl 2 rfl) ?_
    obtain ⟨x5, hx6, h⟩ := g_bd h
    refine x_calli (va_runV (b := d 0) (C := RX3) (As := [.int v2]) (rest := []) C0.1 (zX3_findAnew l D cyI cyJ cyO A bs Z.2.2.2.2.2 P g d eA ol fd dc ds fw fn ff qw qn qf va tr N v2 x5 hx6) (cwV 1 C0.1.2.2.2.2 gX3_drop_X3_findAnew rfl rfl rfl (by decide +kernel) ⟨Nat.le_of_ble_eq_true rfl, Nat.le_of_ble_eq_true rfl⟩) ⟨dP_blind, va_recv Z.2.1 Z.1 (ci := 5) (q0 := 0) rfl rfl, dP_pre ⟨rs4, rr4, at4, fa4, ra4, Z, hF4⟩ hN hT _⟩ rfl rfl hl.1 rfl (lv_room (Nat.le_of_ble_eq_true rfl)) dX3_drop_79 ⟨Nat.le_of_ble_eq_true rfl, Nat.le_of_ble_eq_true rfl⟩) Z.2.2.2.1 (fun u t H1 locs1 ht hvm hB hS => dW_post Z ht hvm hB hS) (fun r u H locs hw Z => ?_)
    obtain ⟨rfl, rfl⟩ := hw
    obtain ⟨rs7, rr7, at7, fa7, ra7, Z, hF7⟩ := Z
    refine lv_pop C0.1.1 C0.1.2.1 dX3_drop_82 rfl ?_
    refine lv_iload_n C0.1.1 C0.1.2.1 dX3_drop_83 rfl (lv_at hl 2 rfl) ?_
    obtain ⟨x8, hx9, h⟩ := g_bd h
    refine x_calli (va_runS (As := [.int v2]) (rest := []) C0.1 (zJ6_bitCount_0f7a4 l D cyI cyJ cyO A bs Z.2.2.2.2.2 (XD d cyI cyJ cyO eA (d 5) (d 6) rs7 rr7 at7 fa7 ra7 ol x5.2.1 dc ds x5.2.2 tr ++ va_pl P g) N v2 x8 hx9) (va_cwS 1 C0.1.2.2.2.2 gX3_drop_J6_bitCount_0f7a4 rfl rfl rfl (by decide +kernel) ⟨Nat.le_of_ble_eq_true rfl, Nat.le_of_ble_eq_true rfl⟩) ⟨g_blind, g_pre Z _⟩ rfl rfl hl.1 rfl (lv_room (Nat.le_of_ble_eq_true rfl)) dX3_drop_84 ⟨Nat.le_of_ble_eq_true rfl, Nat.le_of_ble_eq_true rfl⟩) Z.2.2.2.1 (fun u t H1 locs1 ht hvm hB hS => g_post Z ht hvm hB hS) (fun r u H locs hw Z => ?_)
    subst hw
    exact hret x8 ol x5.2.1 fw fn ff x5.2.2 _ _ _ _ h ⟨rs7, rr7, at7, fa7, ra7, Z, hF7⟩ dX3_drop_87
  · replace h := (if_neg hc).symm.trans h
    refine lv_aload_n C0.1.1 C0.1.2.1 dX3_drop_32 rfl (lv_at hl 0 rfl) ?_
    refine g_get (ci := 5) (v := .ref (d 4)) (T := TX3) (N := 9) C0.1 Z 0 rfl rfl 4 (by decide) kX3_drop_in3 kX3_drop_f38 rfl rfl dX3_drop_33 ?_
    refine lv_iload_n C0.1.1 C0.1.2.1 dX3_drop_36 rfl (lv_at hl 1 rfl) ?_
    refine lv_iload_n C0.1.1 C0.1.2.1 dX3_drop_37 rfl (lv_at hl 3 rfl) ?_
    refine lv_iadd C0.1.1 C0.1.2.1 dX3_drop_38 ?_
    obtain ⟨hi10, h⟩ := g_ni h
    refine d_aldR C0.1 Z hF4 hi10 dX3_drop_39 (fun hb_11 => ?_)
    refine lv_astore (lv' := [(4, .ref (ra4 (v1 + v3).toNatClampNeg)), (0, .ref (d 0)), (1, .int v1), (2, .int v2), (3, .int v3)]) C0.1.1 C0.1.2.1 dX3_drop_40 hl (by decide) rfl (fun ls hl => ?_)
    refine lv_aload C0.1.1 C0.1.2.1 dX3_drop_42 (lv_at hl 0 rfl) ?_
    refine lv_aload_n C0.1.1 C0.1.2.1 dX3_drop_44 rfl (lv_at hl 1 rfl) ?_
    refine g_get (ci := 5) (v := .ref (d 3)) (T := TX3) (N := 9) C0.1 Z 0 rfl rfl 3 (by decide) kX3_drop_in3 kX3_drop_f34 rfl rfl dX3_drop_45 ?_
    refine lv_iload_n C0.1.1 C0.1.2.1 dX3_drop_48 rfl (lv_at hl 4 rfl) ?_
    obtain ⟨hi12, h⟩ := g_ni h
    refine d_aldF C0.1 Z hF4 hi12 dX3_drop_49 (fun hb_13 => ?_)
    obtain ⟨x14, hx15, h⟩ := g_bd h
    obtain ⟨k16, s17, hk18, hs19⟩ := isF_get (XD d cyI cyJ cyO eA (d 5) (d 6) rs4 rr4 at4 fa4 ra4 ol fd dc ds va tr) hb_11
    refine x_calli (va_runVN (b := (ra4 (v1 + v3).toNatClampNeg)) (C := RX1) (As := [.ref (fa4 v3.toNatClampNeg)]) (rest := []) C0.1 (zX1_sameAs l D cyI cyJ cyO A bs Z.2.2.2.2.2 (XD d cyI cyJ cyO eA (d 5) (d 6) rs4 rr4 at4 fa4 ra4 ol fd dc ds va tr) P g (ra4 (v1 + v3).toNatClampNeg) (qw (v1 + v3).toNatClampNeg) (qn (v1 + v3).toNatClampNeg) (qf (v1 + v3).toNatClampNeg) hb_11 (fa4 v3.toNatClampNeg) (fw v3.toNatClampNeg) (fn v3.toNatClampNeg) (ff v3.toNatClampNeg) hb_13 N x14 hx15) ⟨va_cnB 1 C0.1.2.2.2.2 gX3_drop_X1_sameAs_n118 rfl rfl rfl (hN.1 _ (List.mem_of_getElem? (i := 1) rfl)) (C0.1.2.2.2.2 _ kX3_drop_iniRX1) (by decide +kernel) ⟨Nat.le_of_ble_eq_true rfl, Nat.le_of_ble_eq_true rfl⟩, C0.1.2.2.2.2 _ kX3_drop_insX1_sameAs, C0.1.2.2.2.2 _ kX3_drop_selX1_sameAs⟩ ⟨g_blind, va_recv Z.2.1 Z.1 (ci := 3) (q0 := k16) rfl hk18, g_pre Z _⟩ rfl rfl hl.1 rfl (lv_room (Nat.le_of_ble_eq_true rfl)) dX3_drop_50 ⟨Nat.le_of_ble_eq_true rfl, Nat.le_of_ble_eq_true rfl⟩) Z.2.2.2.1 (fun u t H1 locs1 ht hvm hB hS => g_post Z ht hvm hB hS) (fun r u H locs hw Z => ?_)
    subst hw
    refine lv_if_ne (tgt := 63) C0.1.1 C0.1.2.1 dX3_drop_53 (by decide) (fun hc => ?_) (fun hc => ?_)
    · replace h := (if_neg hc).symm.trans h
      exact wX3_drop_63 (N := N) C0 hN hT hxt hlf hret hxc hr26 ol fd fw fn ff va v1 v2 v3 (qw (v1 + v3).toNatClampNeg) (qn (v1 + v3).toNatClampNeg) (qf (v1 + v3).toNatClampNeg) (ra4 (v1 + v3).toNatClampNeg) _ _ _ h hb_11 ⟨rs4, rr4, at4, fa4, ra4, Z, hF4⟩ (lv_sub hl [1, 2, 3, 4, 0] rfl)
    · replace h := (if_pos hc).symm.trans h
      refine lv_iload_n C0.1.1 C0.1.2.1 dX3_drop_56 rfl (lv_at hl 3 rfl) ?_
      refine lv_iload_n C0.1.1 C0.1.2.1 dX3_drop_57 rfl (lv_at hl 4 rfl) ?_
      obtain ⟨x20, hx21, h⟩ := g_bd h
      refine x_calli (va_runS (As := [.int v3]) (rest := [.int v2]) C0.1 (zX3_only l D cyI cyJ cyO A bs Z.2.2.2.2.2 (XD d cyI cyJ cyO eA (d 5) (d 6) rs4 rr4 at4 fa4 ra4 ol fd dc ds va tr ++ va_pl P g) N v3 x20 hx21) (va_cwS 1 C0.1.2.2.2.2 gX3_drop_X3_only rfl rfl rfl (by decide +kernel) ⟨Nat.le_of_ble_eq_true rfl, Nat.le_of_ble_eq_true rfl⟩) ⟨g_blind, g_pre Z _⟩ rfl rfl hl.1 rfl (lv_room (Nat.le_of_ble_eq_true rfl)) dX3_drop_58 ⟨Nat.le_of_ble_eq_true rfl, Nat.le_of_ble_eq_true rfl⟩) Z.2.2.2.1 (fun u t H1 locs1 ht hvm hB hS => g_post Z ht hvm hB hS) (fun r u H locs hw Z => ?_)
      subst hw
      refine lv_ior C0.1.1 C0.1.2.1 dX3_drop_61 ?_
      refine lv_istore_n (lv' := [(2, .int (v2 ||| x20)), (4, .ref (ra4 (v1 + v3).toNatClampNeg)), (0, .ref (d 0)), (1, .int v1), (3, .int v3)]) C0.1.1 C0.1.2.1 dX3_drop_62 rfl hl (by decide) rfl (fun ls hl => ?_)
      exact wX3_drop_63 (N := N) C0 hN hT hxt hlf hret hxc hr26 ol fd fw fn ff va v1 (v2 ||| x20) v3 (qw (v1 + v3).toNatClampNeg) (qn (v1 + v3).toNatClampNeg) (qf (v1 + v3).toNatClampNeg) (ra4 (v1 + v3).toNatClampNeg) _ _ _ h hb_11 ⟨rs4, rr4, at4, fa4, ra4, Z, hF4⟩ (lv_sub hl [2, 3, 0, 4, 1] rfl)
theorem wX3_drop_26 {p : Program} {l : Launch} {e : Env} {s : State} {m : MethodId} {args : Array Value} {below : List Frame} {meth : Method} {c : Code} {D : va_G} {cyI cyJ cyO : ClassId} {A : Nat → Prop} {bs : Nat} {P : List Nat} {g : Nat → va_E} {d : Nat → Nat} {eA : Nat} {Qc : Array Value → State → Outcome → State → Prop} {XC : String → State → State → Prop} {dc : Int32} {ds : Nat → Int32} {qw : Nat → Int32} {qn : Nat → Nat} {qf : Nat → Nat → Int32} {tr : Nat → Int64} {N : Nat} {res : Nat × Int32 × Int32 × Int32 × (Nat → Int32) × (Nat → Nat) × (Nat → Nat → Int32) × (Nat → Int64)} (C0 : gC p m meth c cX3_drop 5 (some .int) s args wsX3_drop RX3) (hN : dN s) (hT : dT A s) (hxt : ∀ x ∈ c.exceptionTable.toList, False) (hlf : l.stackTraces = false) (hret : ∀ (r : Int32) (ol_r : Int32) (fd_r : Int32) (fw_r : Nat → Int32) (fn_r : Nat → Nat) (ff_r : Nat → Nat → Int32) (va_r : Nat → Int64) (H : Heap) (locs : List Loc) (pc : Nat) (ls : Array Slot), some (0, r, ol_r, fd_r, fw_r, fn_r, ff_r, va_r) = some res → dZ D cyI cyJ cyO A bs P g d eA (d 5) (d 6) ol_r fd_r dc ds fw_r fn_r ff_r qw qn qf va_r tr s H locs → decode cX3_drop pc = .ok (.ireturn, 1) → W p l e rmX3_drop s m args below meth c H locs 1 6 (vx_MQ below Qc XC args s 1 6 A) (F0 m pc ls [.int r])) (hxc : ∀ (k : Nat) (ol_r : Int32) (fd_r : Int32) (fw_r : Nat → Int32) (fn_r : Nat → Nat) (ff_r : Nat → Nat → Int32) (va_r : Nat → Int64) (H : Heap) (locs : List Loc) (t : State), k ≠ 0 → some (k, 0, ol_r, fd_r, fw_r, fn_r, ff_r, va_r) = some res → dZ D cyI cyJ cyO A bs P g d eA (d 5) (d 6) ol_r fd_r dc ds fw_r fn_r ff_r qw qn qf va_r tr s H locs → s.vm.Alike t.vm → H.size ≤ t.heap.size → (∀ q : Nat, q < H.size → t.heap[q]? = H[q]?) → XC (exN k) s t)  : ∀ (n_ : Nat), ∀ (ol : Int32) (fd : Int32) (fw : Nat → Int32) (fn : Nat → Nat) (ff : Nat → Nat → Int32) (va : Nat → Int64) (v1 : Int32) (v2 : Int32) (v3 : Int32) (H : Heap) (locs : List Loc) (ls : Array Slot), mX3_drop_26 N qw qn qf n_ ol fd fw fn ff va v1 v2 v3 = some res → dZ D cyI cyJ cyO A bs P g d eA (d 5) (d 6) ol fd dc ds fw fn ff qw qn qf va tr s H locs → lv_has ls 5 [(0, .ref (d 0)), (1, .int v1), (2, .int v2), (3, .int v3)] → W p l e rmX3_drop s m args below meth c H locs 1 6 (vx_MQ below Qc XC args s 1 6 A) (F0 m 26 ls []) := by
  intro n_
  induction n_ with
  | zero => intro _ _ _ _ _ _ _ _ _ _ _ _ h; cases h
  | succ n_ ih => exact wX3_drop_26_b (N := N) C0 hN hT hxt hlf hret hxc ih
set_option maxRecDepth 20000 in
set_option maxHeartbeats 4000000 in
theorem zX3_drop (l : Launch) (hlf : l.stackTraces = false) (D : va_G) (cyI cyJ cyO : ClassId) (A : Nat → Prop) (bs : Nat) (hA : ∀ q, bs ≤ q → A q) (P : List Nat) (g : Nat → va_E) (d : Nat → Nat) (eA : Nat) (ol : Int32) (fd : Int32) (dc : Int32) (ds : Nat → Int32) (fw : Nat → Int32) (fn : Nat → Nat) (ff : Nat → Nat → Int32) (qw : Nat → Int32) (qn : Nat → Nat) (qf : Nat → Nat → Int32) (va : Nat → Int64) (tr : Nat → Int64) (N : Nat)  (res : Nat × Int32 × Int32 × Int32 × (Nat → Int32) × (Nat → Nat) × (Nat → Nat → Int32) × (Nat → Int64)) (h : mX3_drop N qw qn qf ol fd fw fn ff va = some res) : vx_Met l yX3_drop wsX3_drop rmX3_drop (va_Pc [.ref (d 0)] (dP (dW D cyI cyJ cyO A bs P g d eA (d 5) (d 6) ol fd dc ds fw fn ff qw qn qf va tr) A)) (va_Qi (fun (r : Int32) (u : Int32 × Int32 × (Nat → Int32) × (Nat → Nat) × (Nat → Nat → Int32) × (Nat → Int64)) => res.1 = 0 ∧ res.2.1 = r ∧ res.2.2 = u) (fun (u : Int32 × Int32 × (Nat → Int32) × (Nat → Nat) × (Nat → Nat → Int32) × (Nat → Int64)) U => dW D cyI cyJ cyO A bs P g d eA (d 5) (d 6) u.1 u.2.1 dc ds u.2.2.1 u.2.2.2.1 u.2.2.2.2.1 qw qn qf u.2.2.2.2.2 tr U) A) (vx_X (S := Int32 × Int32 × (Nat → Int32) × (Nat → Nat) × (Nat → Nat → Int32) × (Nat → Int64)) (fun _ => True) (fun E u t => res.1 ≠ 0 ∧ E = exN res.1 ∧ res.2.2 = u ∧ dW D cyI cyJ cyO A bs P g d eA (d 5) (d 6) u.1 u.2.1 dc ds u.2.2.1 u.2.2.2.1 u.2.2.2.2.1 qw qn qf u.2.2.2.2.2 tr t) A) 1 6 A := by
  refine vx_ofW (cc := cX3_drop) (maxL := 5) (ret := (some .int)) (by decide) rfl ?_
  intro p e s m args below meth c s₁ B hml hxt hv
  obtain ⟨hav, hv⟩ := hv
  obtain ⟨hv, hN, hT⟩ := hv
  have C0 : gC p m meth c cX3_drop 5 (some .int) s args wsX3_drop RX3 := ⟨⟨B.exec, B.bytes, hml, findClass_of_methodNamed B.named, atoms_spec (ws := wsX3_drop) B.pre⟩, B.returns, B.notSynchronized⟩
  have Z := dZ_start hA hv
  have hret : ∀ (r : Int32) (ol_r : Int32) (fd_r : Int32) (fw_r : Nat → Int32) (fn_r : Nat → Nat) (ff_r : Nat → Nat → Int32) (va_r : Nat → Int64) (H : Heap) (locs : List Loc) (pc : Nat) (ls : Array Slot), some (0, r, ol_r, fd_r, fw_r, fn_r, ff_r, va_r) = some res → dZ D cyI cyJ cyO A bs P g d eA (d 5) (d 6) ol_r fd_r dc ds fw_r fn_r ff_r qw qn qf va_r tr s H locs → decode cX3_drop pc = .ok (.ireturn, 1) → W p l e rmX3_drop s m args below meth c H locs 1 6 (vx_MQ below (va_Qi (fun (r : Int32) (u : Int32 × Int32 × (Nat → Int32) × (Nat → Nat) × (Nat → Nat → Int32) × (Nat → Int64)) => res.1 = 0 ∧ res.2.1 = r ∧ res.2.2 = u) (fun (u : Int32 × Int32 × (Nat → Int32) × (Nat → Nat) × (Nat → Nat → Int32) × (Nat → Int64)) U => dW D cyI cyJ cyO A bs P g d eA (d 5) (d 6) u.1 u.2.1 dc ds u.2.2.1 u.2.2.2.1 u.2.2.2.2.1 qw qn qf u.2.2.2.2.2 tr U) A) (vx_X (S := Int32 × Int32 × (Nat → Int32) × (Nat → Nat) × (Nat → Nat → Int32) × (Nat → Int64)) (fun _ => True) (fun E u t => res.1 ≠ 0 ∧ E = exN res.1 ∧ res.2.2 = u ∧ dW D cyI cyJ cyO A bs P g d eA (d 5) (d 6) u.1 u.2.1 dc ds u.2.2.1 u.2.2.2.1 u.2.2.2.2.1 qw qn qf u.2.2.2.2.2 tr t) A) args s 1 6 A) (F0 m pc ls [.int r]) := by
    intro r ol_r fd_r fw_r fn_r ff_r va_r H locs pc ls h Z hd
    replace h := Option.some.inj h
    subst h
    exact vx_ret (W.iret C0.1.1 C0.1.2.1 C0.2.1 (fun t ht hW => ⟨⟨r, (ol_r, fd_r, fw_r, fn_r, ff_r, va_r), rfl, ⟨rfl, rfl, rfl⟩, dZ_end Z ht hW⟩, va_S.F (dZ_S Z) ht⟩) (dZ_S Z).2.2 hd C0.2.2)
  have hxc : ∀ (k : Nat) (ol_r : Int32) (fd_r : Int32) (fw_r : Nat → Int32) (fn_r : Nat → Nat) (ff_r : Nat → Nat → Int32) (va_r : Nat → Int64) (H : Heap) (locs : List Loc) (t : State), k ≠ 0 → some (k, 0, ol_r, fd_r, fw_r, fn_r, ff_r, va_r) = some res → dZ D cyI cyJ cyO A bs P g d eA (d 5) (d 6) ol_r fd_r dc ds fw_r fn_r ff_r qw qn qf va_r tr s H locs → s.vm.Alike t.vm → H.size ≤ t.heap.size → (∀ q : Nat, q < H.size → t.heap[q]? = H[q]?) → (vx_X (S := Int32 × Int32 × (Nat → Int32) × (Nat → Nat) × (Nat → Nat → Int32) × (Nat → Int64)) (fun _ => True) (fun E u t => res.1 ≠ 0 ∧ E = exN res.1 ∧ res.2.2 = u ∧ dW D cyI cyJ cyO A bs P g d eA (d 5) (d 6) u.1 u.2.1 dc ds u.2.2.1 u.2.2.2.1 u.2.2.2.2.1 qw qn qf u.2.2.2.2.2 tr t) A) (exN k) s t := by
    intro k ol_r fd_r fw_r fn_r ff_r va_r H locs t hk h Z hvm hz hq
    replace h := Option.some.inj h
    subst h
    exact ⟨(ol_r, fd_r, fw_r, fn_r, ff_r, va_r), trivial, ⟨hk, rfl, rfl, dW_grow Z hvm hz hq⟩, vaF_grow (dZ_S Z) hz hq⟩
  have hl := lv_entry ([.ref (d 0)]) (n := 5) (Nat.le_of_ble_eq_true rfl)
  rw [hav, lg_entry_eq]
  generalize (lg_sl ([.ref (d 0)]) ++ List.replicate (5 - (lg_sl ([.ref (d 0)])).length) Slot.unset).toArray = ls at hl ⊢
  have hl : lv_has ls 5 [(0, .ref (d 0))] := hl
  rw [← hav]
  unfold mX3_drop at h
  obtain ⟨rs22, rr22, at22, fa22, ra22, Z, hF22⟩ := Z
  refine lv_aload_n C0.1.1 C0.1.2.1 dX3_drop_0 rfl (lv_at hl 0 rfl) ?_
  obtain ⟨x23, hx24, h⟩ := g_bd h
  refine x_xcallv (vx_runV (b := d 0) (C := RX3) (As := []) (rest := []) C0.1 (zX3_requireLayer l hlf D cyI cyJ cyO A bs Z.2.2.2.2.2 P g d eA ol fd dc ds fw fn ff qw qn qf va tr N x23 hx24) (cwV 0 C0.1.2.2.2.2 gX3_drop_X3_requireLayer rfl rfl rfl (by decide +kernel) ⟨Nat.le_of_ble_eq_true rfl, Nat.le_of_ble_eq_true rfl⟩) ⟨dP_blind, va_recv Z.2.1 Z.1 (ci := 5) (q0 := 0) rfl rfl, dP_pre ⟨rs22, rr22, at22, fa22, ra22, Z, hF22⟩ hN hT _⟩ rfl rfl hl.1 rfl (lv_room (Nat.le_of_ble_eq_true rfl)) dX3_drop_1 ⟨Nat.le_of_ble_eq_true rfl, Nat.le_of_ble_eq_true rfl⟩) Z.2.2.2.1 (fun u t H1 locs1 ht hvm hB hS => dW_post Z ht hvm hB hS) (fun E ce q9 u t H locs ht hvm _ hB hS h1 h2 h3 => ?_) (fun u H locs hw Z => ?_)
  · obtain ⟨hk, rfl, hB⟩ := hB
    replace h := (if_neg hk).symm.trans h
    exact vx_out (fun x hx => (hxt x hx).elim) C0.2.2 h1 h2 h3 (fun t1 ht1 hvm1 => hxc x23 ol fd fw fn ff va _ _ t1 hk h (dW_post Z ht hvm hB hS) hvm1 (by rw [ht1]; exact Nat.le_refl _) (fun q _ => by rw [ht1])) hS.2.2 (Nat.le_of_ble_eq_true rfl) (Nat.le_of_ble_eq_true rfl)
  replace h := (if_pos hw).symm.trans h
  obtain ⟨rs25, rr25, at25, fa25, ra25, Z, hF25⟩ := Z
  refine lv_aload_n C0.1.1 C0.1.2.1 dX3_drop_4 rfl (lv_at hl 0 rfl) ?_
  refine lv_dup C0.1.1 C0.1.2.1 dX3_drop_5 rfl ?_
  refine g_get (ci := 5) (v := .int ol) (T := TX3) (N := 9) C0.1 Z 0 rfl rfl 7 (by decide) kX3_drop_in3 kX3_drop_f110 rfl rfl dX3_drop_6 ?_
  refine lv_iconst (v := 1) C0.1.1 C0.1.2.1 dX3_drop_9 (by decide) ?_
  refine lv_isub C0.1.1 C0.1.2.1 dX3_drop_10 ?_
  refine g_put (ci := 5) (v := .int (ol - (1 : Int32))) (T := TX3) (N := 9) (ws' := (XD d cyI cyJ cyO eA (d 5) (d 6) rs25 rr25 at25 fa25 ra25 (ol - (1 : Int32)) fd dc ds va tr ++ va_pl P g)) C0.1 Z 0 rfl rfl 7 (by decide) kX3_drop_in3 kX3_drop_f110 rfl tyX3 tyX3_ok nmX3 rfl rfl rfl (Nat.le_of_ble_eq_true rfl) dX3_drop_11 rfl (fun H locs Z => ?_)
  refine lv_aload_n C0.1.1 C0.1.2.1 dX3_drop_14 rfl (lv_at hl 0 rfl) ?_
  refine g_get (ci := 5) (v := .int (ol - (1 : Int32))) (T := TX3) (N := 9) C0.1 Z 0 rfl rfl 7 (by decide) kX3_drop_in3 kX3_drop_f110 rfl rfl dX3_drop_15 ?_
  refine lv_bipush (v := 30) C0.1.1 C0.1.2.1 dX3_drop_18 (by decide +kernel) ?_
  refine lv_imul C0.1.1 C0.1.2.1 dX3_drop_20 ?_
  refine lv_istore_n (lv' := [(1, .int ((ol - (1 : Int32)) * (30 : Int32))), (0, .ref (d 0))]) C0.1.1 C0.1.2.1 dX3_drop_21 rfl hl (by decide) rfl (fun ls hl => ?_)
  refine lv_iconst (v := 0) C0.1.1 C0.1.2.1 dX3_drop_22 (by decide) ?_
  refine lv_istore_n (lv' := [(2, .int (0 : Int32)), (1, .int ((ol - (1 : Int32)) * (30 : Int32))), (0, .ref (d 0))]) C0.1.1 C0.1.2.1 dX3_drop_23 rfl hl (by decide) rfl (fun ls hl => ?_)
  refine lv_iconst (v := 0) C0.1.1 C0.1.2.1 dX3_drop_24 (by decide) ?_
  refine lv_istore_n (lv' := [(3, .int (0 : Int32)), (2, .int (0 : Int32)), (1, .int ((ol - (1 : Int32)) * (30 : Int32))), (0, .ref (d 0))]) C0.1.1 C0.1.2.1 dX3_drop_25 rfl hl (by decide) rfl (fun ls hl => ?_)
  exact wX3_drop_26 (N := N) C0 hN hT hxt hlf hret hxc N (ol - (1 : Int32)) fd fw fn ff va ((ol - (1 : Int32)) * (30 : Int32)) (0 : Int32) (0 : Int32) _ _ _ h ⟨rs25, rr25, at25, fa25, ra25, Z, hF25⟩ (lv_sub hl [3, 2, 1, 0] rfl)
