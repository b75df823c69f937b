/-! the walk of L_areCellsSo -/
abbrev rmL_areCellsSo : Room := { frames := 62, cells := 2273, slots := 27276, locals := 1508 }
theorem kL_areCellsSo_c62 : Cond.constantLong RL 62 (4000000000000) ∈ wsL_areCellsSo := by decide +kernel
theorem kL_areCellsSo_c107 : Cond.constantLong RL 107 (-1000000000000) ∈ wsL_areCellsSo := by decide +kernel
theorem kL_areCellsSo_c109 : Cond.constantLong RL 109 (1000000000000) ∈ wsL_areCellsSo := by decide +kernel
set_option maxRecDepth 20000 in
set_option maxHeartbeats 4000000 in
theorem wL_areCellsSo_338 {p : Program} {l : Launch} {e : Env} {s : State} {m : MethodId} {args : Array Value} {below : List Frame} {meth : Method} {c : Code} {D : va_G} {cyI cyJ cyO : ClassId} {A : Nat → Prop} {bs : Nat} {d : Nat → Nat} {F : va_W} {Q : State → Prop} {σ : St} {res : Int32} (C0 : gC p m meth c cL_areCellsSo 10 (some .boolean) s args wsL_areCellsSo RL) (hA : ∀ q, bs ≤ q → A q) (hN : lQN s) (hT : dT A s) (hlf : l.stackTraces = false) (hret : ∀ (r : Int32) (H : Heap) (locs : List Loc) (pc : Nat) (ls : Array Slot) (t : Nat), t ≤ 2273 → (r = 0 ∨ r = 1) → some r = some res → aZ F D cyI cyJ cyO A bs d σ s H locs → decode cL_areCellsSo pc = .ok (.ireturn, 1) → W p l e rmL_areCellsSo s m args below meth c H locs t (12 * t) Q (F0 m pc ls [.int r]))  : ∀ (s0 : Int32) (H : Heap) (locs : List Loc) (ls : Array Slot) (t : Nat), t + (0) ≤ 2273 → mL_areCellsSo_338 σ s0 = some res → aZ F D cyI cyJ cyO A bs d σ s H locs → lv_has ls 10 [] → W p l e rmL_areCellsSo s m args below meth c H locs t (12 * t) Q (F0 m 338 ls [.int s0]) := by
  intro s0 H locs ls t ht0 h Z hl
  unfold mL_areCellsSo_338 at h
  obtain ⟨hn1, h⟩ := g_yi h
  exact hret s0 _ _ _ _ t (by omega) hn1 h Z dL_areCellsSo_338
set_option maxRecDepth 20000 in
set_option maxHeartbeats 4000000 in
theorem wL_areCellsSo_337 {p : Program} {l : Launch} {e : Env} {s : State} {m : MethodId} {args : Array Value} {below : List Frame} {meth : Method} {c : Code} {D : va_G} {cyI cyJ cyO : ClassId} {A : Nat → Prop} {bs : Nat} {d : Nat → Nat} {F : va_W} {Q : State → Prop} {σ : St} {res : Int32} (C0 : gC p m meth c cL_areCellsSo 10 (some .boolean) s args wsL_areCellsSo RL) (hA : ∀ q, bs ≤ q → A q) (hN : lQN s) (hT : dT A s) (hlf : l.stackTraces = false) (hret : ∀ (r : Int32) (H : Heap) (locs : List Loc) (pc : Nat) (ls : Array Slot) (t : Nat), t ≤ 2273 → (r = 0 ∨ r = 1) → some r = some res → aZ F D cyI cyJ cyO A bs d σ s H locs → decode cL_areCellsSo pc = .ok (.ireturn, 1) → W p l e rmL_areCellsSo s m args below meth c H locs t (12 * t) Q (F0 m pc ls [.int r]))  : ∀ (H : Heap) (locs : List Loc) (ls : Array Slot) (t : Nat), t + (0) ≤ 2273 → mL_areCellsSo_337 σ = some res → aZ F D cyI cyJ cyO A bs d σ s H locs → lv_has ls 10 [] → W p l e rmL_areCellsSo s m args below meth c H locs t (12 * t) Q (F0 m 337 ls []) := by
  intro H locs ls t ht0 h Z hl
  unfold mL_areCellsSo_337 at h
  refine lv_iconst (v := 0) C0.1.1 C0.1.2.1 dL_areCellsSo_337 (by decide) ?_
  exact wL_areCellsSo_338 C0 hA hN hT hlf hret (0 : Int32) _ _ _ t (by omega) h Z (lv_sub hl [] rfl)
set_option maxRecDepth 20000 in
set_option maxHeartbeats 4000000 in
theorem wL_areCellsSo_306 {p : Program} {l : Launch} {e : Env} {s : State} {m : MethodId} {args : Array Value} {below : List Frame} {meth : Method} {c : Code} {D : va_G} {cyI cyJ cyO : ClassId} {A : Nat → Prop} {bs : Nat} {d : Nat → Nat} {F : va_W} {Q : State → Prop} {σ : St} {res : Int32} (C0 : gC p m meth c cL_areCellsSo 10 (some .boolean) s args wsL_areCellsSo RL) (hA : ∀ q, bs ≤ q → A q) (hN : lQN s) (hT : dT A s) (hlf : l.stackTraces = false) (hret : ∀ (r : Int32) (H : Heap) (locs : List Loc) (pc : Nat) (ls : Array Slot) (t : Nat), t ≤ 2273 → (r = 0 ∨ r = 1) → some r = some res → aZ F D cyI cyJ cyO A bs d σ s H locs → decode cL_areCellsSo pc = .ok (.ireturn, 1) → W p l e rmL_areCellsSo s m args below meth c H locs t (12 * t) Q (F0 m pc ls [.int r]))  : ∀ (v1 : Int32) (v2 : Int32) (H : Heap) (locs : List Loc) (ls : Array Slot) (t : Nat), t + (0) ≤ 2273 → mL_areCellsSo_306 σ v1 v2 = some res → aZ F D cyI cyJ cyO A bs d σ s H locs → lv_has ls 10 [(0, .ref (d 0)), (1, .int v1), (2, .int v2)] → W p l e rmL_areCellsSo s m args below meth c H locs t (12 * t) Q (F0 m 306 ls []) := by
  intro v1 v2 H locs ls t ht0 h Z hl
  unfold mL_areCellsSo_306 at h
  refine lv_iload_n C0.1.1 C0.1.2.1 dL_areCellsSo_306 rfl (lv_at hl 2 rfl) ?_
  refine lv_if_eq (tgt := 337) C0.1.1 C0.1.2.1 dL_areCellsSo_307 (by decide) (fun hc => ?_) (fun hc => ?_)
  · replace h := (if_pos hc).symm.trans h
    exact wL_areCellsSo_337 C0 hA hN hT hlf hret _ _ _ t (by omega) h Z (lv_sub hl [] rfl)
  · replace h := (if_neg hc).symm.trans h
    refine lv_aload_n C0.1.1 C0.1.2.1 dL_areCellsSo_310 rfl (lv_at hl 0 rfl) ?_
    refine va_calli (va_runV (b := d 0) (C := RX3) (As := []) (rest := []) C0.1 (o_faulty l D cyI cyJ cyO A bs hA F d σ) (cwV 0 C0.1.2.2.2.2 gL_areCellsSo_X3_faulty rfl rfl rfl (by decide +kernel) ⟨Nat.le_of_ble_eq_true rfl, Nat.le_of_ble_eq_true rfl⟩) ⟨aP_blind, aZ_recv Z, aP_pre Z hN hT _⟩ rfl rfl hl.1 rfl (lv_room (Nat.le_of_ble_eq_true rfl)) dL_areCellsSo_311 ⟨by show t + 0 ≤ 2273; omega, by show 12 * t + 0 ≤ 27276; omega⟩) (aZ_S Z) (fun _ _ h => h) (fun _ h => h) (fun y u t1 H locs ht hvm hw hB _ hk hS => ?_)
    subst hw
    replace Z := aZ_post Z ht hvm hB hS
    refine lv_iload_n C0.1.1 C0.1.2.1 dL_areCellsSo_314 rfl (lv_at hl 1 rfl) ?_
    refine lv_icmp_ne (tgt := 337) C0.1.1 C0.1.2.1 dL_areCellsSo_315 (by decide) (fun hc => ?_) (fun hc => ?_)
    · replace h := (if_neg hc).symm.trans h
      exact wL_areCellsSo_337 C0 hA hN hT hlf hret _ _ _ t (by omega) h Z (lv_sub hl [] rfl)
    · replace h := (if_pos hc).symm.trans h
      refine lv_aload_n C0.1.1 C0.1.2.1 dL_areCellsSo_318 rfl (lv_at hl 0 rfl) ?_
      refine va_calli (va_runV (b := d 0) (C := RX3) (As := []) (rest := []) C0.1 (o_layers l D cyI cyJ cyO A bs hA F d σ) (cwV 0 C0.1.2.2.2.2 gL_areCellsSo_X3_layers rfl rfl rfl (by decide +kernel) ⟨Nat.le_of_ble_eq_true rfl, Nat.le_of_ble_eq_true rfl⟩) ⟨aP_blind, aZ_recv Z, aP_pre Z hN hT _⟩ rfl rfl hl.1 rfl (lv_room (Nat.le_of_ble_eq_true rfl)) dL_areCellsSo_319 ⟨by show t + 0 ≤ 2273; omega, by show 12 * t + 0 ≤ 27276; omega⟩) (aZ_S Z) (fun _ _ h => h) (fun _ h => h) (fun y u t1 H locs ht hvm hw hB _ hk hS => ?_)
      subst hw
      replace Z := aZ_post Z ht hvm hB hS
      refine lv_if_lt (tgt := 337) C0.1.1 C0.1.2.1 dL_areCellsSo_322 (by decide) (fun hc => ?_) (fun hc => ?_)
      · replace h := (if_pos hc).symm.trans h
        exact wL_areCellsSo_337 C0 hA hN hT hlf hret _ _ _ t (by omega) h Z (lv_sub hl [] rfl)
      · replace h := (if_neg hc).symm.trans h
        refine lv_aload_n C0.1.1 C0.1.2.1 dL_areCellsSo_325 rfl (lv_at hl 0 rfl) ?_
        refine va_calli (va_runV (b := d 0) (C := RX3) (As := []) (rest := []) C0.1 (o_layers l D cyI cyJ cyO A bs hA F d σ) (cwV 0 C0.1.2.2.2.2 gL_areCellsSo_X3_layers rfl rfl rfl (by decide +kernel) ⟨Nat.le_of_ble_eq_true rfl, Nat.le_of_ble_eq_true rfl⟩) ⟨aP_blind, aZ_recv Z, aP_pre Z hN hT _⟩ rfl rfl hl.1 rfl (lv_room (Nat.le_of_ble_eq_true rfl)) dL_areCellsSo_326 ⟨by show t + 0 ≤ 2273; omega, by show 12 * t + 0 ≤ 27276; omega⟩) (aZ_S Z) (fun _ _ h => h) (fun _ h => h) (fun y u t1 H locs ht hvm hw hB _ hk hS => ?_)
        subst hw
        replace Z := aZ_post Z ht hvm hB hS
        refine lv_iconst (v := 4) C0.1.1 C0.1.2.1 dL_areCellsSo_329 (by decide) ?_
        refine lv_icmp_gt (tgt := 337) C0.1.1 C0.1.2.1 dL_areCellsSo_330 (by decide) (fun hc => ?_) (fun hc => ?_)
        · replace h := (if_pos hc).symm.trans h
          exact wL_areCellsSo_337 C0 hA hN hT hlf hret _ _ _ t (by omega) h Z (lv_sub hl [] rfl)
        · replace h := (if_neg hc).symm.trans h
          refine lv_iconst (v := 1) C0.1.1 C0.1.2.1 dL_areCellsSo_333 (by decide) ?_
          refine lv_goto (tgt := 338) C0.1.1 C0.1.2.1 dL_areCellsSo_334 (by decide) ?_
          exact wL_areCellsSo_338 C0 hA hN hT hlf hret (1 : Int32) _ _ _ t (by omega) h Z (lv_sub hl [] rfl)
set_option maxRecDepth 20000 in
set_option maxHeartbeats 4000000 in
theorem wL_areCellsSo_299 {p : Program} {l : Launch} {e : Env} {s : State} {m : MethodId} {args : Array Value} {below : List Frame} {meth : Method} {c : Code} {D : va_G} {cyI cyJ cyO : ClassId} {A : Nat → Prop} {bs : Nat} {d : Nat → Nat} {F : va_W} {Q : State → Prop} {σ : St} {res : Int32} (C0 : gC p m meth c cL_areCellsSo 10 (some .boolean) s args wsL_areCellsSo RL) (hA : ∀ q, bs ≤ q → A q) (hN : lQN s) (hT : dT A s) (hlf : l.stackTraces = false) (hret : ∀ (r : Int32) (H : Heap) (locs : List Loc) (pc : Nat) (ls : Array Slot) (t : Nat), t ≤ 2273 → (r = 0 ∨ r = 1) → some r = some res → aZ F D cyI cyJ cyO A bs d σ s H locs → decode cL_areCellsSo pc = .ok (.ireturn, 1) → W p l e rmL_areCellsSo s m args below meth c H locs t (12 * t) Q (F0 m pc ls [.int r])) {r6 : Int32 → Int32 → Int32 → Option (Int32)} {n6 : Nat} (hr6 : ∀ (v1 : Int32) (v2 : Int32) (v3 : Int32) (H : Heap) (locs : List Loc) (ls : Array Slot) (t : Nat), t + (72 + n6 * 71) ≤ 2273 → r6 v1 v2 v3 = some res → aZ F D cyI cyJ cyO A bs d σ s H locs → lv_has ls 10 [(0, .ref (d 0)), (1, .int v1), (2, .int v2), (3, .int v3)] → W p l e rmL_areCellsSo s m args below meth c H locs t (12 * t) Q (F0 m 6 ls [])) : ∀ (v1 : Int32) (v3 : Int32) (s0 : Int32) (H : Heap) (locs : List Loc) (ls : Array Slot) (t : Nat), t + (72 + n6 * 71) ≤ 2273 → mL_areCellsSo_299 σ r6 v1 v3 s0 = some res → aZ F D cyI cyJ cyO A bs d σ s H locs → lv_has ls 10 [(0, .ref (d 0)), (1, .int v1), (3, .int v3)] → W p l e rmL_areCellsSo s m args below meth c H locs t (12 * t) Q (F0 m 299 ls [.int s0]) := by
  intro v1 v3 s0 H locs ls t ht0 h Z hl
  unfold mL_areCellsSo_299 at h
  refine lv_istore_n (lv' := [(2, .int s0), (0, .ref (d 0)), (1, .int v1), (3, .int v3)]) C0.1.1 C0.1.2.1 dL_areCellsSo_299 rfl hl (by decide) rfl (fun ls hl => ?_)
  refine lv_iinc (v := v3 + (1 : Int32)) (lv' := [(3, .int (v3 + (1 : Int32))), (2, .int s0), (0, .ref (d 0)), (1, .int v1)]) C0.1.1 C0.1.2.1 dL_areCellsSo_300 hl (k := 3) rfl rfl (by decide) rfl (fun ls hl => ?_)
  refine lv_goto (tgt := 6) C0.1.1 C0.1.2.1 dL_areCellsSo_303 (by decide) ?_
  exact hr6 v1 s0 (v3 + (1 : Int32)) _ _ _ t (by omega) h Z (lv_sub hl [2, 3, 1, 0] rfl)
set_option maxRecDepth 20000 in
set_option maxHeartbeats 4000000 in
theorem wL_areCellsSo_298 {p : Program} {l : Launch} {e : Env} {s : State} {m : MethodId} {args : Array Value} {below : List Frame} {meth : Method} {c : Code} {D : va_G} {cyI cyJ cyO : ClassId} {A : Nat → Prop} {bs : Nat} {d : Nat → Nat} {F : va_W} {Q : State → Prop} {σ : St} {res : Int32} (C0 : gC p m meth c cL_areCellsSo 10 (some .boolean) s args wsL_areCellsSo RL) (hA : ∀ q, bs ≤ q → A q) (hN : lQN s) (hT : dT A s) (hlf : l.stackTraces = false) (hret : ∀ (r : Int32) (H : Heap) (locs : List Loc) (pc : Nat) (ls : Array Slot) (t : Nat), t ≤ 2273 → (r = 0 ∨ r = 1) → some r = some res → aZ F D cyI cyJ cyO A bs d σ s H locs → decode cL_areCellsSo pc = .ok (.ireturn, 1) → W p l e rmL_areCellsSo s m args below meth c H locs t (12 * t) Q (F0 m pc ls [.int r])) {r6 : Int32 → Int32 → Int32 → Option (Int32)} {n6 : Nat} (hr6 : ∀ (v1 : Int32) (v2 : Int32) (v3 : Int32) (H : Heap) (locs : List Loc) (ls : Array Slot) (t : Nat), t + (72 + n6 * 71) ≤ 2273 → r6 v1 v2 v3 = some res → aZ F D cyI cyJ cyO A bs d σ s H locs → lv_has ls 10 [(0, .ref (d 0)), (1, .int v1), (2, .int v2), (3, .int v3)] → W p l e rmL_areCellsSo s m args below meth c H locs t (12 * t) Q (F0 m 6 ls [])) : ∀ (v1 : Int32) (v3 : Int32) (H : Heap) (locs : List Loc) (ls : Array Slot) (t : Nat), t + (72 + n6 * 71) ≤ 2273 → mL_areCellsSo_298 σ r6 v1 v3 = some res → aZ F D cyI cyJ cyO A bs d σ s H locs → lv_has ls 10 [(0, .ref (d 0)), (1, .int v1), (3, .int v3)] → W p l e rmL_areCellsSo s m args below meth c H locs t (12 * t) Q (F0 m 298 ls []) := by
  intro v1 v3 H locs ls t ht0 h Z hl
  unfold mL_areCellsSo_298 at h
  refine lv_iconst (v := 0) C0.1.1 C0.1.2.1 dL_areCellsSo_298 (by decide) ?_
  exact wL_areCellsSo_299 C0 hA hN hT hlf hret hr6 v1 v3 (0 : Int32) _ _ _ t (by omega) h Z (lv_sub hl [0, 1, 2] rfl)
set_option maxRecDepth 20000 in
set_option maxHeartbeats 4000000 in
theorem wL_areCellsSo_291 {p : Program} {l : Launch} {e : Env} {s : State} {m : MethodId} {args : Array Value} {below : List Frame} {meth : Method} {c : Code} {D : va_G} {cyI cyJ cyO : ClassId} {A : Nat → Prop} {bs : Nat} {d : Nat → Nat} {F : va_W} {Q : State → Prop} {σ : St} {res : Int32} (C0 : gC p m meth c cL_areCellsSo 10 (some .boolean) s args wsL_areCellsSo RL) (hA : ∀ q, bs ≤ q → A q) (hN : lQN s) (hT : dT A s) (hlf : l.stackTraces = false) (hret : ∀ (r : Int32) (H : Heap) (locs : List Loc) (pc : Nat) (ls : Array Slot) (t : Nat), t ≤ 2273 → (r = 0 ∨ r = 1) → some r = some res → aZ F D cyI cyJ cyO A bs d σ s H locs → decode cL_areCellsSo pc = .ok (.ireturn, 1) → W p l e rmL_areCellsSo s m args below meth c H locs t (12 * t) Q (F0 m pc ls [.int r])) {r6 : Int32 → Int32 → Int32 → Option (Int32)} {n6 : Nat} (hr6 : ∀ (v1 : Int32) (v2 : Int32) (v3 : Int32) (H : Heap) (locs : List Loc) (ls : Array Slot) (t : Nat), t + (72 + n6 * 71) ≤ 2273 → r6 v1 v2 v3 = some res → aZ F D cyI cyJ cyO A bs d σ s H locs → lv_has ls 10 [(0, .ref (d 0)), (1, .int v1), (2, .int v2), (3, .int v3)] → W p l e rmL_areCellsSo s m args below meth c H locs t (12 * t) Q (F0 m 6 ls [])) : ∀ (v1 : Int32) (v3 : Int32) (s0 : Int32) (s1 : Int32) (H : Heap) (locs : List Loc) (ls : Array Slot) (t : Nat), t + (72 + n6 * 71) ≤ 2273 → mL_areCellsSo_291 σ r6 v1 v3 s0 s1 = some res → aZ F D cyI cyJ cyO A bs d σ s H locs → lv_has ls 10 [(0, .ref (d 0)), (1, .int v1), (3, .int v3)] → W p l e rmL_areCellsSo s m args below meth c H locs t (12 * t) Q (F0 m 291 ls [.int s1, .int s0]) := by
  intro v1 v3 s0 s1 H locs ls t ht0 h Z hl
  unfold mL_areCellsSo_291 at h
  refine lv_icmp_ne (tgt := 298) C0.1.1 C0.1.2.1 dL_areCellsSo_291 (by decide) (fun hc => ?_) (fun hc => ?_)
  · replace h := (if_neg hc).symm.trans h
    exact wL_areCellsSo_298 C0 hA hN hT hlf hret hr6 v1 v3 _ _ _ t (by omega) h Z (lv_sub hl [0, 1, 2] rfl)
  · replace h := (if_pos hc).symm.trans h
    refine lv_iconst (v := 1) C0.1.1 C0.1.2.1 dL_areCellsSo_294 (by decide) ?_
    refine lv_goto (tgt := 299) C0.1.1 C0.1.2.1 dL_areCellsSo_295 (by decide) ?_
    exact wL_areCellsSo_299 C0 hA hN hT hlf hret hr6 v1 v3 (1 : Int32) _ _ _ t (by omega) h Z (lv_sub hl [0, 1, 2] rfl)
set_option maxRecDepth 20000 in
set_option maxHeartbeats 4000000 in
theorem wL_areCellsSo_272 {p : Program} {l : Launch} {e : Env} {s : State} {m : MethodId} {args : Array Value} {below : List Frame} {meth : Method} {c : Code} {D : va_G} {cyI cyJ cyO : ClassId} {A : Nat → Prop} {bs : Nat} {d : Nat → Nat} {F : va_W} {Q : State → Prop} {σ : St} {res : Int32} (C0 : gC p m meth c cL_areCellsSo 10 (some .boolean) s args wsL_areCellsSo RL) (hA : ∀ q, bs ≤ q → A q) (hN : lQN s) (hT : dT A s) (hlf : l.stackTraces = false) (hret : ∀ (r : Int32) (H : Heap) (locs : List Loc) (pc : Nat) (ls : Array Slot) (t : Nat), t ≤ 2273 → (r = 0 ∨ r = 1) → some r = some res → aZ F D cyI cyJ cyO A bs d σ s H locs → decode cL_areCellsSo pc = .ok (.ireturn, 1) → W p l e rmL_areCellsSo s m args below meth c H locs t (12 * t) Q (F0 m pc ls [.int r])) {r6 : Int32 → Int32 → Int32 → Option (Int32)} {n6 : Nat} (hr6 : ∀ (v1 : Int32) (v2 : Int32) (v3 : Int32) (H : Heap) (locs : List Loc) (ls : Array Slot) (t : Nat), t + (72 + n6 * 71) ≤ 2273 → r6 v1 v2 v3 = some res → aZ F D cyI cyJ cyO A bs d σ s H locs → lv_has ls 10 [(0, .ref (d 0)), (1, .int v1), (2, .int v2), (3, .int v3)] → W p l e rmL_areCellsSo s m args below meth c H locs t (12 * t) Q (F0 m 6 ls [])) : ∀ (v1 : Int32) (v2 : Int32) (v3 : Int32) (v6 : Int32) (H : Heap) (locs : List Loc) (ls : Array Slot) (t : Nat), t + (73 + n6 * 71) ≤ 2273 → mL_areCellsSo_272 σ r6 v1 v2 v3 v6 = some res → aZ F D cyI cyJ cyO A bs d σ s H locs → lv_has ls 10 [(0, .ref (d 0)), (1, .int v1), (2, .int v2), (3, .int v3), (6, .int v6)] → W p l e rmL_areCellsSo s m args below meth c H locs t (12 * t) Q (F0 m 272 ls []) := by
  intro v1 v2 v3 v6 H locs ls t ht0 h Z hl
  unfold mL_areCellsSo_272 at h
  refine lv_iload_n C0.1.1 C0.1.2.1 dL_areCellsSo_272 rfl (lv_at hl 2 rfl) ?_
  refine lv_if_eq (tgt := 298) C0.1.1 C0.1.2.1 dL_areCellsSo_273 (by decide) (fun hc => ?_) (fun hc => ?_)
  · replace h := (if_pos hc).symm.trans h
    exact wL_areCellsSo_298 C0 hA hN hT hlf hret hr6 v1 v3 _ _ _ t (by omega) h Z (lv_sub hl [0, 1, 3] rfl)
  · replace h := (if_neg hc).symm.trans h
    refine lv_iload C0.1.1 C0.1.2.1 dL_areCellsSo_276 (lv_at hl 4 rfl) ?_
    refine lv_aload_n C0.1.1 C0.1.2.1 dL_areCellsSo_278 rfl (lv_at hl 0 rfl) ?_
    refine lv_iload_n C0.1.1 C0.1.2.1 dL_areCellsSo_279 rfl (lv_at hl 3 rfl) ?_
    obtain ⟨x8, hx9, h⟩ := g_bd h
    refine vx_calli (vx_runV (b := d 0) (C := RX3) (As := [.int v3]) (rest := [.int v6]) C0.1 (o_level l hlf D cyI cyJ cyO A bs hA F d σ v3) (cwV 1 C0.1.2.2.2.2 gL_areCellsSo_X3_level rfl rfl rfl (by decide +kernel) ⟨Nat.le_of_ble_eq_true rfl, Nat.le_of_ble_eq_true rfl⟩) ⟨aP_blind, aZ_recv Z, aP_pre Z hN hT _⟩ rfl rfl hl.1 rfl (lv_room (Nat.le_of_ble_eq_true rfl)) dL_areCellsSo_280 ⟨by show t + 1 ≤ 2273; omega, by show 12 * t + 6 ≤ 27276; omega⟩) (aZ_S Z) (fun _ _ h => h) (fun _ h => h) (fun _ _ h => h) (fun E ce q9 u t1 H1 locs1 ht hvm _ hB _ hk hS h1 h2 h3 => ?_) (fun y u t1 H locs ht hvm hw hB _ hk hS => ?_)
    · exact absurd (hx9.symm.trans hB.1.1) (fun z => nomatch z)
    obtain rfl : x8 = y := Option.some.inj (hx9.symm.trans hw)
    replace Z := aZ_post Z ht hvm hB hS
    refine W.widen (k := (t + 1)) (n := 12 * (t + 1)) (by omega) (by omega) ?_
    refine lv_if_le (tgt := 290) C0.1.1 C0.1.2.1 dL_areCellsSo_283 (by decide) (fun hc => ?_) (fun hc => ?_)
    · replace h := (if_pos hc).symm.trans h
      refine lv_iconst (v := 0) C0.1.1 C0.1.2.1 dL_areCellsSo_290 (by decide) ?_
      exact wL_areCellsSo_291 C0 hA hN hT hlf hret hr6 v1 v3 v6 (0 : Int32) _ _ _ (t + 1) (by omega) h Z (lv_sub hl [0, 1, 3] rfl)
    · replace h := (if_neg hc).symm.trans h
      refine lv_iconst (v := 1) C0.1.1 C0.1.2.1 dL_areCellsSo_286 (by decide) ?_
      refine lv_goto (tgt := 291) C0.1.1 C0.1.2.1 dL_areCellsSo_287 (by decide) ?_
      exact wL_areCellsSo_291 C0 hA hN hT hlf hret hr6 v1 v3 v6 (1 : Int32) _ _ _ (t + 1) (by omega) h Z (lv_sub hl [0, 1, 3] rfl)
set_option maxRecDepth 20000 in
set_option maxHeartbeats 4000000 in
theorem wL_areCellsSo_266 {p : Program} {l : Launch} {e : Env} {s : State} {m : MethodId} {args : Array Value} {below : List Frame} {meth : Method} {c : Code} {D : va_G} {cyI cyJ cyO : ClassId} {A : Nat → Prop} {bs : Nat} {d : Nat → Nat} {F : va_W} {Q : State → Prop} {σ : St} {res : Int32} (C0 : gC p m meth c cL_areCellsSo 10 (some .boolean) s args wsL_areCellsSo RL) (hA : ∀ q, bs ≤ q → A q) (hN : lQN s) (hT : dT A s) (hlf : l.stackTraces = false) (hret : ∀ (r : Int32) (H : Heap) (locs : List Loc) (pc : Nat) (ls : Array Slot) (t : Nat), t ≤ 2273 → (r = 0 ∨ r = 1) → some r = some res → aZ F D cyI cyJ cyO A bs d σ s H locs → decode cL_areCellsSo pc = .ok (.ireturn, 1) → W p l e rmL_areCellsSo s m args below meth c H locs t (12 * t) Q (F0 m pc ls [.int r])) {r6 : Int32 → Int32 → Int32 → Option (Int32)} {n6 : Nat} (hr6 : ∀ (v1 : Int32) (v2 : Int32) (v3 : Int32) (H : Heap) (locs : List Loc) (ls : Array Slot) (t : Nat), t + (72 + n6 * 71) ≤ 2273 → r6 v1 v2 v3 = some res → aZ F D cyI cyJ cyO A bs d σ s H locs → lv_has ls 10 [(0, .ref (d 0)), (1, .int v1), (2, .int v2), (3, .int v3)] → W p l e rmL_areCellsSo s m args below meth c H locs t (12 * t) Q (F0 m 6 ls [])) {r142 : Int32 → Int32 → Int32 → Int32 → Int32 → Option (Int32)} {n142 : Nat} (hr142 : ∀ (v1 : Int32) (v2 : Int32) (v3 : Int32) (v6 : Int32) (v7 : Int32) (H : Heap) (locs : List Loc) (ls : Array Slot) (t : Nat), t + (73 + n142 * 2 + n6 * 71) ≤ 2273 → r142 v1 v2 v3 v6 v7 = some res → aZ F D cyI cyJ cyO A bs d σ s H locs → lv_has ls 10 [(0, .ref (d 0)), (1, .int v1), (2, .int v2), (3, .int v3), (6, .int v6), (7, .int v7)] → W p l e rmL_areCellsSo s m args below meth c H locs t (12 * t) Q (F0 m 142 ls [])) : ∀ (v1 : Int32) (v2 : Int32) (v3 : Int32) (v6 : Int32) (v7 : Int32) (H : Heap) (locs : List Loc) (ls : Array Slot) (t : Nat), t + (73 + n6 * 71 + n142 * 2) ≤ 2273 → mL_areCellsSo_266 σ r6 r142 v1 v2 v3 v6 v7 = some res → aZ F D cyI cyJ cyO A bs d σ s H locs → lv_has ls 10 [(0, .ref (d 0)), (1, .int v1), (2, .int v2), (3, .int v3), (6, .int v6), (7, .int v7)] → W p l e rmL_areCellsSo s m args below meth c H locs t (12 * t) Q (F0 m 266 ls []) := by
  intro v1 v2 v3 v6 v7 H locs ls t ht0 h Z hl
  unfold mL_areCellsSo_266 at h
  refine lv_iinc (v := v7 + (1 : Int32)) (lv' := [(7, .int (v7 + (1 : Int32))), (0, .ref (d 0)), (1, .int v1), (2, .int v2), (3, .int v3), (6, .int v6)]) C0.1.1 C0.1.2.1 dL_areCellsSo_266 hl (k := 5) rfl rfl (by decide) rfl (fun ls hl => ?_)
  refine lv_goto (tgt := 142) C0.1.1 C0.1.2.1 dL_areCellsSo_269 (by decide) ?_
  exact hr142 v1 v2 v3 v6 (v7 + (1 : Int32)) _ _ _ t (by omega) h Z (lv_sub hl [1, 2, 3, 4, 5, 0] rfl)
set_option maxRecDepth 20000 in
set_option maxHeartbeats 4000000 in
theorem wL_areCellsSo_259 {p : Program} {l : Launch} {e : Env} {s : State} {m : MethodId} {args : Array Value} {below : List Frame} {meth : Method} {c : Code} {D : va_G} {cyI cyJ cyO : ClassId} {A : Nat → Prop} {bs : Nat} {d : Nat → Nat} {F : va_W} {Q : State → Prop} {σ : St} {res : Int32} (C0 : gC p m meth c cL_areCellsSo 10 (some .boolean) s args wsL_areCellsSo RL) (hA : ∀ q, bs ≤ q → A q) (hN : lQN s) (hT : dT A s) (hlf : l.stackTraces = false) (hret : ∀ (r : Int32) (H : Heap) (locs : List Loc) (pc : Nat) (ls : Array Slot) (t : Nat), t ≤ 2273 → (r = 0 ∨ r = 1) → some r = some res → aZ F D cyI cyJ cyO A bs d σ s H locs → decode cL_areCellsSo pc = .ok (.ireturn, 1) → W p l e rmL_areCellsSo s m args below meth c H locs t (12 * t) Q (F0 m pc ls [.int r])) {r6 : Int32 → Int32 → Int32 → Option (Int32)} {n6 : Nat} (hr6 : ∀ (v1 : Int32) (v2 : Int32) (v3 : Int32) (H : Heap) (locs : List Loc) (ls : Array Slot) (t : Nat), t + (72 + n6 * 71) ≤ 2273 → r6 v1 v2 v3 = some res → aZ F D cyI cyJ cyO A bs d σ s H locs → lv_has ls 10 [(0, .ref (d 0)), (1, .int v1), (2, .int v2), (3, .int v3)] → W p l e rmL_areCellsSo s m args below meth c H locs t (12 * t) Q (F0 m 6 ls [])) {r142 : Int32 → Int32 → Int32 → Int32 → Int32 → Option (Int32)} {n142 : Nat} (hr142 : ∀ (v1 : Int32) (v2 : Int32) (v3 : Int32) (v6 : Int32) (v7 : Int32) (H : Heap) (locs : List Loc) (ls : Array Slot) (t : Nat), t + (73 + n142 * 2 + n6 * 71) ≤ 2273 → r142 v1 v2 v3 v6 v7 = some res → aZ F D cyI cyJ cyO A bs d σ s H locs → lv_has ls 10 [(0, .ref (d 0)), (1, .int v1), (2, .int v2), (3, .int v3), (6, .int v6), (7, .int v7)] → W p l e rmL_areCellsSo s m args below meth c H locs t (12 * t) Q (F0 m 142 ls [])) {r217 : Int32 → Int32 → Int32 → Int32 → Int32 → Int32 → Int32 → Option (Int32)} {n217 : Nat} (hr217 : ∀ (v1 : Int32) (v2 : Int32) (v3 : Int32) (v6 : Int32) (v7 : Int32) (v8 : Int32) (v9 : Int32) (H : Heap) (locs : List Loc) (ls : Array Slot) (t : Nat), t + (73 + n217 * 0 + n6 * 71 + n142 * 2) ≤ 2273 → r217 v1 v2 v3 v6 v7 v8 v9 = some res → aZ F D cyI cyJ cyO A bs d σ s H locs → lv_has ls 10 [(0, .ref (d 0)), (1, .int v1), (2, .int v2), (3, .int v3), (6, .int v6), (7, .int v7), (8, .int v8), (9, .int v9)] → W p l e rmL_areCellsSo s m args below meth c H locs t (12 * t) Q (F0 m 217 ls [])) : ∀ (v1 : Int32) (v3 : Int32) (v6 : Int32) (v7 : Int32) (v8 : Int32) (v9 : Int32) (s0 : Int32) (H : Heap) (locs : List Loc) (ls : Array Slot) (t : Nat), t + (73 + n6 * 71 + n142 * 2 + n217 * 0) ≤ 2273 → mL_areCellsSo_259 σ r6 r142 r217 v1 v3 v6 v7 v8 v9 s0 = some res → aZ F D cyI cyJ cyO A bs d σ s H locs → lv_has ls 10 [(0, .ref (d 0)), (1, .int v1), (3, .int v3), (6, .int v6), (7, .int v7), (8, .int v8), (9, .int v9)] → W p l e rmL_areCellsSo s m args below meth c H locs t (12 * t) Q (F0 m 259 ls [.int s0]) := by
  intro v1 v3 v6 v7 v8 v9 s0 H locs ls t ht0 h Z hl
  unfold mL_areCellsSo_259 at h
  refine lv_istore_n (lv' := [(2, .int s0), (0, .ref (d 0)), (1, .int v1), (3, .int v3), (6, .int v6), (7, .int v7), (8, .int v8), (9, .int v9)]) C0.1.1 C0.1.2.1 dL_areCellsSo_259 rfl hl (by decide) rfl (fun ls hl => ?_)
  refine lv_iinc (v := v9 + (3 : Int32)) (lv' := [(9, .int (v9 + (3 : Int32))), (2, .int s0), (0, .ref (d 0)), (1, .int v1), (3, .int v3), (6, .int v6), (7, .int v7), (8, .int v8)]) C0.1.1 C0.1.2.1 dL_areCellsSo_260 hl (k := 7) rfl rfl (by decide) rfl (fun ls hl => ?_)
  refine lv_goto (tgt := 217) C0.1.1 C0.1.2.1 dL_areCellsSo_263 (by decide) ?_
  exact hr217 v1 s0 v3 v6 v7 v8 (v9 + (3 : Int32)) _ _ _ t (by omega) h Z (lv_sub hl [2, 3, 1, 4, 5, 6, 7, 0] rfl)
set_option maxRecDepth 20000 in
set_option maxHeartbeats 4000000 in
theorem wL_areCellsSo_254 {p : Program} {l : Launch} {e : Env} {s : State} {m : MethodId} {args : Array Value} {below : List Frame} {meth : Method} {c : Code} {D : va_G} {cyI cyJ cyO : ClassId} {A : Nat → Prop} {bs : Nat} {d : Nat → Nat} {F : va_W} {Q : State → Prop} {σ : St} {res : Int32} (C0 : gC p m meth c cL_areCellsSo 10 (some .boolean) s args wsL_areCellsSo RL) (hA : ∀ q, bs ≤ q → A q) (hN : lQN s) (hT : dT A s) (hlf : l.stackTraces = false) (hret : ∀ (r : Int32) (H : Heap) (locs : List Loc) (pc : Nat) (ls : Array Slot) (t : Nat), t ≤ 2273 → (r = 0 ∨ r = 1) → some r = some res → aZ F D cyI cyJ cyO A bs d σ s H locs → decode cL_areCellsSo pc = .ok (.ireturn, 1) → W p l e rmL_areCellsSo s m args below meth c H locs t (12 * t) Q (F0 m pc ls [.int r])) {r6 : Int32 → Int32 → Int32 → Option (Int32)} {n6 : Nat} (hr6 : ∀ (v1 : Int32) (v2 : Int32) (v3 : Int32) (H : Heap) (locs : List Loc) (ls : Array Slot) (t : Nat), t + (72 + n6 * 71) ≤ 2273 → r6 v1 v2 v3 = some res → aZ F D cyI cyJ cyO A bs d σ s H locs → lv_has ls 10 [(0, .ref (d 0)), (1, .int v1), (2, .int v2), (3, .int v3)] → W p l e rmL_areCellsSo s m args below meth c H locs t (12 * t) Q (F0 m 6 ls [])) {r142 : Int32 → Int32 → Int32 → Int32 → Int32 → Option (Int32)} {n142 : Nat} (hr142 : ∀ (v1 : Int32) (v2 : Int32) (v3 : Int32) (v6 : Int32) (v7 : Int32) (H : Heap) (locs : List Loc) (ls : Array Slot) (t : Nat), t + (73 + n142 * 2 + n6 * 71) ≤ 2273 → r142 v1 v2 v3 v6 v7 = some res → aZ F D cyI cyJ cyO A bs d σ s H locs → lv_has ls 10 [(0, .ref (d 0)), (1, .int v1), (2, .int v2), (3, .int v3), (6, .int v6), (7, .int v7)] → W p l e rmL_areCellsSo s m args below meth c H locs t (12 * t) Q (F0 m 142 ls [])) {r217 : Int32 → Int32 → Int32 → Int32 → Int32 → Int32 → Int32 → Option (Int32)} {n217 : Nat} (hr217 : ∀ (v1 : Int32) (v2 : Int32) (v3 : Int32) (v6 : Int32) (v7 : Int32) (v8 : Int32) (v9 : Int32) (H : Heap) (locs : List Loc) (ls : Array Slot) (t : Nat), t + (73 + n217 * 0 + n6 * 71 + n142 * 2) ≤ 2273 → r217 v1 v2 v3 v6 v7 v8 v9 = some res → aZ F D cyI cyJ cyO A bs d σ s H locs → lv_has ls 10 [(0, .ref (d 0)), (1, .int v1), (2, .int v2), (3, .int v3), (6, .int v6), (7, .int v7), (8, .int v8), (9, .int v9)] → W p l e rmL_areCellsSo s m args below meth c H locs t (12 * t) Q (F0 m 217 ls [])) : ∀ (v1 : Int32) (v3 : Int32) (v6 : Int32) (v7 : Int32) (v8 : Int32) (v9 : Int32) (H : Heap) (locs : List Loc) (ls : Array Slot) (t : Nat), t + (73 + n6 * 71 + n142 * 2 + n217 * 0) ≤ 2273 → mL_areCellsSo_254 σ r6 r142 r217 v1 v3 v6 v7 v8 v9 = some res → aZ F D cyI cyJ cyO A bs d σ s H locs → lv_has ls 10 [(0, .ref (d 0)), (1, .int v1), (3, .int v3), (6, .int v6), (7, .int v7), (8, .int v8), (9, .int v9)] → W p l e rmL_areCellsSo s m args below meth c H locs t (12 * t) Q (F0 m 254 ls []) := by
  intro v1 v3 v6 v7 v8 v9 H locs ls t ht0 h Z hl
  unfold mL_areCellsSo_254 at h
  refine lv_iconst (v := 1) C0.1.1 C0.1.2.1 dL_areCellsSo_254 (by decide) ?_
  refine lv_goto (tgt := 259) C0.1.1 C0.1.2.1 dL_areCellsSo_255 (by decide) ?_
  exact wL_areCellsSo_259 C0 hA hN hT hlf hret hr6 hr142 hr217 v1 v3 v6 v7 v8 v9 (1 : Int32) _ _ _ t (by omega) h Z (lv_sub hl [0, 1, 2, 3, 4, 5, 6] rfl)
set_option maxRecDepth 20000 in
set_option maxHeartbeats 4000000 in
theorem wL_areCellsSo_217_b {p : Program} {l : Launch} {e : Env} {s : State} {m : MethodId} {args : Array Value} {below : List Frame} {meth : Method} {c : Code} {D : va_G} {cyI cyJ cyO : ClassId} {A : Nat → Prop} {bs : Nat} {d : Nat → Nat} {F : va_W} {Q : State → Prop} {σ : St} {res : Int32} (C0 : gC p m meth c cL_areCellsSo 10 (some .boolean) s args wsL_areCellsSo RL) (hA : ∀ q, bs ≤ q → A q) (hN : lQN s) (hT : dT A s) (hlf : l.stackTraces = false) (hret : ∀ (r : Int32) (H : Heap) (locs : List Loc) (pc : Nat) (ls : Array Slot) (t : Nat), t ≤ 2273 → (r = 0 ∨ r = 1) → some r = some res → aZ F D cyI cyJ cyO A bs d σ s H locs → decode cL_areCellsSo pc = .ok (.ireturn, 1) → W p l e rmL_areCellsSo s m args below meth c H locs t (12 * t) Q (F0 m pc ls [.int r])) {r6 : Int32 → Int32 → Int32 → Option (Int32)} {n6 : Nat} (hr6 : ∀ (v1 : Int32) (v2 : Int32) (v3 : Int32) (H : Heap) (locs : List Loc) (ls : Array Slot) (t : Nat), t + (72 + n6 * 71) ≤ 2273 → r6 v1 v2 v3 = some res → aZ F D cyI cyJ cyO A bs d σ s H locs → lv_has ls 10 [(0, .ref (d 0)), (1, .int v1), (2, .int v2), (3, .int v3)] → W p l e rmL_areCellsSo s m args below meth c H locs t (12 * t) Q (F0 m 6 ls [])) {r142 : Int32 → Int32 → Int32 → Int32 → Int32 → Option (Int32)} {n142 : Nat} (hr142 : ∀ (v1 : Int32) (v2 : Int32) (v3 : Int32) (v6 : Int32) (v7 : Int32) (H : Heap) (locs : List Loc) (ls : Array Slot) (t : Nat), t + (73 + n142 * 2 + n6 * 71) ≤ 2273 → r142 v1 v2 v3 v6 v7 = some res → aZ F D cyI cyJ cyO A bs d σ s H locs → lv_has ls 10 [(0, .ref (d 0)), (1, .int v1), (2, .int v2), (3, .int v3), (6, .int v6), (7, .int v7)] → W p l e rmL_areCellsSo s m args below meth c H locs t (12 * t) Q (F0 m 142 ls [])) {r217 : Int32 → Int32 → Int32 → Int32 → Int32 → Int32 → Int32 → Option (Int32)} {n217 : Nat} (hr217 : ∀ (v1 : Int32) (v2 : Int32) (v3 : Int32) (v6 : Int32) (v7 : Int32) (v8 : Int32) (v9 : Int32) (H : Heap) (locs : List Loc) (ls : Array Slot) (t : Nat), t + (73 + n217 * 0 + n6 * 71 + n142 * 2) ≤ 2273 → r217 v1 v2 v3 v6 v7 v8 v9 = some res → aZ F D cyI cyJ cyO A bs d σ s H locs → lv_has ls 10 [(0, .ref (d 0)), (1, .int v1), (2, .int v2), (3, .int v3), (6, .int v6), (7, .int v7), (8, .int v8), (9, .int v9)] → W p l e rmL_areCellsSo s m args below meth c H locs t (12 * t) Q (F0 m 217 ls [])) : ∀ (v1 : Int32) (v2 : Int32) (v3 : Int32) (v6 : Int32) (v7 : Int32) (v8 : Int32) (v9 : Int32) (H : Heap) (locs : List Loc) (ls : Array Slot) (t : Nat), t + (73 + n6 * 71 + n142 * 2 + n217 * 0) ≤ 2273 → mL_areCellsSo_217_b σ r6 r142 r217 v1 v2 v3 v6 v7 v8 v9 = some res → aZ F D cyI cyJ cyO A bs d σ s H locs → lv_has ls 10 [(0, .ref (d 0)), (1, .int v1), (2, .int v2), (3, .int v3), (6, .int v6), (7, .int v7), (8, .int v8), (9, .int v9)] → W p l e rmL_areCellsSo s m args below meth c H locs t (12 * t) Q (F0 m 217 ls []) := by
  intro v1 v2 v3 v6 v7 v8 v9 H locs ls t ht0 h Z hl
  unfold mL_areCellsSo_217_b at h
  refine lv_iload C0.1.1 C0.1.2.1 dL_areCellsSo_217 (lv_at hl 7 rfl) ?_
  refine lv_bipush (v := 30) C0.1.1 C0.1.2.1 dL_areCellsSo_219 (by decide +kernel) ?_
  refine lv_icmp_ge (tgt := 266) C0.1.1 C0.1.2.1 dL_areCellsSo_221 (by decide) (fun hc => ?_) (fun hc => ?_)
  · replace h := (if_pos hc).symm.trans h
    exact wL_areCellsSo_266 C0 hA hN hT hlf hret hr6 hr142 v1 v2 v3 v6 v7 _ _ _ t (by omega) h Z (lv_sub hl [0, 1, 2, 3, 4, 5] rfl)
  · replace h := (if_neg hc).symm.trans h
    refine lv_iload C0.1.1 C0.1.2.1 dL_areCellsSo_224 (lv_at hl 6 rfl) ?_
    refine lv_if_eq (tgt := 266) C0.1.1 C0.1.2.1 dL_areCellsSo_226 (by decide) (fun hc => ?_) (fun hc => ?_)
    · replace h := (if_pos hc).symm.trans h
      exact wL_areCellsSo_266 C0 hA hN hT hlf hret hr6 hr142 v1 v2 v3 v6 v7 _ _ _ t (by omega) h Z (lv_sub hl [0, 1, 2, 3, 4, 5] rfl)
    · replace h := (if_neg hc).symm.trans h
      refine lv_iload_n C0.1.1 C0.1.2.1 dL_areCellsSo_229 rfl (lv_at hl 2 rfl) ?_
      refine lv_if_eq (tgt := 266) C0.1.1 C0.1.2.1 dL_areCellsSo_230 (by decide) (fun hc => ?_) (fun hc => ?_)
      · replace h := (if_pos hc).symm.trans h
        exact wL_areCellsSo_266 C0 hA hN hT hlf hret hr6 hr142 v1 v2 v3 v6 v7 _ _ _ t (by omega) h Z (lv_sub hl [0, 1, 2, 3, 4, 5] rfl)
      · replace h := (if_neg hc).symm.trans h
        refine lv_aload_n C0.1.1 C0.1.2.1 dL_areCellsSo_233 rfl (lv_at hl 0 rfl) ?_
        refine lv_iload C0.1.1 C0.1.2.1 dL_areCellsSo_234 (lv_at hl 5 rfl) ?_
        refine lv_iload C0.1.1 C0.1.2.1 dL_areCellsSo_236 (lv_at hl 7 rfl) ?_
        obtain ⟨x10, hx11, h⟩ := g_bd h
        refine va_calli (va_runV (b := d 0) (C := RX3) (As := [.int v7, .int v9]) (rest := []) C0.1 (o_depends l D cyI cyJ cyO A bs hA F d σ v7 v9 x10 hx11) (cwV 2 C0.1.2.2.2.2 gL_areCellsSo_X3_depends rfl rfl rfl (by decide +kernel) ⟨Nat.le_of_ble_eq_true rfl, Nat.le_of_ble_eq_true rfl⟩) ⟨aP_blind, aZ_recv Z, aP_pre Z hN hT _⟩ rfl rfl hl.1 rfl (lv_room (Nat.le_of_ble_eq_true rfl)) dL_areCellsSo_238 ⟨by show t + 0 ≤ 2273; omega, by show 12 * t + 0 ≤ 27276; omega⟩) (aZ_S Z) (fun _ _ h => h) (fun _ h => h) (fun y u t1 H locs ht hvm hw hB _ hk hS => ?_)
        subst hw
        replace Z := aZ_post Z ht hvm hB hS
        refine lv_if_eq (tgt := 254) C0.1.1 C0.1.2.1 dL_areCellsSo_241 (by decide) (fun hc => ?_) (fun hc => ?_)
        · replace h := (if_pos hc).symm.trans h
          exact wL_areCellsSo_254 C0 hA hN hT hlf hret hr6 hr142 hr217 v1 v3 v6 v7 v8 v9 _ _ _ t (by omega) h Z (lv_sub hl [0, 1, 3, 4, 5, 6, 7] rfl)
        · replace h := (if_neg hc).symm.trans h
          refine lv_aload_n C0.1.1 C0.1.2.1 dL_areCellsSo_244 rfl (lv_at hl 0 rfl) ?_
          refine lv_iload_n C0.1.1 C0.1.2.1 dL_areCellsSo_245 rfl (lv_at hl 3 rfl) ?_
          refine lv_iload C0.1.1 C0.1.2.1 dL_areCellsSo_246 (lv_at hl 7 rfl) ?_
          obtain ⟨x12, hx13, h⟩ := g_bd h
          refine va_calli (va_runV (b := d 0) (C := RX3) (As := [.int v3, .int v9]) (rest := []) C0.1 (o_depends l D cyI cyJ cyO A bs hA F d σ v3 v9 x12 hx13) (cwV 2 C0.1.2.2.2.2 gL_areCellsSo_X3_depends rfl rfl rfl (by decide +kernel) ⟨Nat.le_of_ble_eq_true rfl, Nat.le_of_ble_eq_true rfl⟩) ⟨aP_blind, aZ_recv Z, aP_pre Z hN hT _⟩ rfl rfl hl.1 rfl (lv_room (Nat.le_of_ble_eq_true rfl)) dL_areCellsSo_248 ⟨by show t + 0 ≤ 2273; omega, by show 12 * t + 0 ≤ 27276; omega⟩) (aZ_S Z) (fun _ _ h => h) (fun _ h => h) (fun y u t1 H locs ht hvm hw hB _ hk hS => ?_)
          subst hw
          replace Z := aZ_post Z ht hvm hB hS
          refine lv_if_eq (tgt := 258) C0.1.1 C0.1.2.1 dL_areCellsSo_251 (by decide) (fun hc => ?_) (fun hc => ?_)
          · replace h := (if_pos hc).symm.trans h
            refine lv_iconst (v := 0) C0.1.1 C0.1.2.1 dL_areCellsSo_258 (by decide) ?_
            exact wL_areCellsSo_259 C0 hA hN hT hlf hret hr6 hr142 hr217 v1 v3 v6 v7 v8 v9 (0 : Int32) _ _ _ t (by omega) h Z (lv_sub hl [0, 1, 3, 4, 5, 6, 7] rfl)
          · replace h := (if_neg hc).symm.trans h
            exact wL_areCellsSo_254 C0 hA hN hT hlf hret hr6 hr142 hr217 v1 v3 v6 v7 v8 v9 _ _ _ t (by omega) h Z (lv_sub hl [0, 1, 3, 4, 5, 6, 7] rfl)
theorem wL_areCellsSo_217 {p : Program} {l : Launch} {e : Env} {s : State} {m : MethodId} {args : Array Value} {below : List Frame} {meth : Method} {c : Code} {D : va_G} {cyI cyJ cyO : ClassId} {A : Nat → Prop} {bs : Nat} {d : Nat → Nat} {F : va_W} {Q : State → Prop} {σ : St} {res : Int32} (C0 : gC p m meth c cL_areCellsSo 10 (some .boolean) s args wsL_areCellsSo RL) (hA : ∀ q, bs ≤ q → A q) (hN : lQN s) (hT : dT A s) (hlf : l.stackTraces = false) (hret : ∀ (r : Int32) (H : Heap) (locs : List Loc) (pc : Nat) (ls : Array Slot) (t : Nat), t ≤ 2273 → (r = 0 ∨ r = 1) → some r = some res → aZ F D cyI cyJ cyO A bs d σ s H locs → decode cL_areCellsSo pc = .ok (.ireturn, 1) → W p l e rmL_areCellsSo s m args below meth c H locs t (12 * t) Q (F0 m pc ls [.int r])) {r6 : Int32 → Int32 → Int32 → Option (Int32)} {n6 : Nat} (hr6 : ∀ (v1 : Int32) (v2 : Int32) (v3 : Int32) (H : Heap) (locs : List Loc) (ls : Array Slot) (t : Nat), t + (72 + n6 * 71) ≤ 2273 → r6 v1 v2 v3 = some res → aZ F D cyI cyJ cyO A bs d σ s H locs → lv_has ls 10 [(0, .ref (d 0)), (1, .int v1), (2, .int v2), (3, .int v3)] → W p l e rmL_areCellsSo s m args below meth c H locs t (12 * t) Q (F0 m 6 ls [])) {r142 : Int32 → Int32 → Int32 → Int32 → Int32 → Option (Int32)} {n142 : Nat} (hr142 : ∀ (v1 : Int32) (v2 : Int32) (v3 : Int32) (v6 : Int32) (v7 : Int32) (H : Heap) (locs : List Loc) (ls : Array Slot) (t : Nat), t + (73 + n142 * 2 + n6 * 71) ≤ 2273 → r142 v1 v2 v3 v6 v7 = some res → aZ F D cyI cyJ cyO A bs d σ s H locs → lv_has ls 10 [(0, .ref (d 0)), (1, .int v1), (2, .int v2), (3, .int v3), (6, .int v6), (7, .int v7)] → W p l e rmL_areCellsSo s m args below meth c H locs t (12 * t) Q (F0 m 142 ls [])) : ∀ (n_ : Nat), ∀ (v1 : Int32) (v2 : Int32) (v3 : Int32) (v6 : Int32) (v7 : Int32) (v8 : Int32) (v9 : Int32) (H : Heap) (locs : List Loc) (ls : Array Slot) (t : Nat), t + (73 + n_ * 0 + n6 * 71 + n142 * 2) ≤ 2273 → mL_areCellsSo_217 σ r6 r142 n_ v1 v2 v3 v6 v7 v8 v9 = some res → aZ F D cyI cyJ cyO A bs d σ s H locs → lv_has ls 10 [(0, .ref (d 0)), (1, .int v1), (2, .int v2), (3, .int v3), (6, .int v6), (7, .int v7), (8, .int v8), (9, .int v9)] → W p l e rmL_areCellsSo s m args below meth c H locs t (12 * t) Q (F0 m 217 ls []) := by
  intro n_
  induction n_ with
  | zero => intro _ _ _ _ _ _ _ _ _ _ _ _ h; cases h
  | succ n_ ih =>
    intro v1 v2 v3 v6 v7 v8 v9 H locs ls t ht0 h Z hl
    exact wL_areCellsSo_217_b C0 hA hN hT hlf hret hr6 hr142 ih v1 v2 v3 v6 v7 v8 v9 H locs ls t (by omega) h Z hl
set_option maxRecDepth 20000 in
set_option maxHeartbeats 4000000 in
theorem wL_areCellsSo_213 {p : Program} {l : Launch} {e : Env} {s : State} {m : MethodId} {args : Array Value} {below : List Frame} {meth : Method} {c : Code} {D : va_G} {cyI cyJ cyO : ClassId} {A : Nat → Prop} {bs : Nat} {d : Nat → Nat} {F : va_W} {Q : State → Prop} {σ : St} {res : Int32} (C0 : gC p m meth c cL_areCellsSo 10 (some .boolean) s args wsL_areCellsSo RL) (hA : ∀ q, bs ≤ q → A q) (hN : lQN s) (hT : dT A s) (hlf : l.stackTraces = false) (hret : ∀ (r : Int32) (H : Heap) (locs : List Loc) (pc : Nat) (ls : Array Slot) (t : Nat), t ≤ 2273 → (r = 0 ∨ r = 1) → some r = some res → aZ F D cyI cyJ cyO A bs d σ s H locs → decode cL_areCellsSo pc = .ok (.ireturn, 1) → W p l e rmL_areCellsSo s m args below meth c H locs t (12 * t) Q (F0 m pc ls [.int r])) {r6 : Int32 → Int32 → Int32 → Option (Int32)} {n6 : Nat} (hr6 : ∀ (v1 : Int32) (v2 : Int32) (v3 : Int32) (H : Heap) (locs : List Loc) (ls : Array Slot) (t : Nat), t + (72 + n6 * 71) ≤ 2273 → r6 v1 v2 v3 = some res → aZ F D cyI cyJ cyO A bs d σ s H locs → lv_has ls 10 [(0, .ref (d 0)), (1, .int v1), (2, .int v2), (3, .int v3)] → W p l e rmL_areCellsSo s m args below meth c H locs t (12 * t) Q (F0 m 6 ls [])) {r142 : Int32 → Int32 → Int32 → Int32 → Int32 → Option (Int32)} {n142 : Nat} (hr142 : ∀ (v1 : Int32) (v2 : Int32) (v3 : Int32) (v6 : Int32) (v7 : Int32) (H : Heap) (locs : List Loc) (ls : Array Slot) (t : Nat), t + (73 + n142 * 2 + n6 * 71) ≤ 2273 → r142 v1 v2 v3 v6 v7 = some res → aZ F D cyI cyJ cyO A bs d σ s H locs → lv_has ls 10 [(0, .ref (d 0)), (1, .int v1), (2, .int v2), (3, .int v3), (6, .int v6), (7, .int v7)] → W p l e rmL_areCellsSo s m args below meth c H locs t (12 * t) Q (F0 m 142 ls [])) : ∀ (v1 : Int32) (v3 : Int32) (v6 : Int32) (v7 : Int32) (v8 : Int32) (s0 : Int32) (H : Heap) (locs : List Loc) (ls : Array Slot) (t : Nat), t + (73 + n6 * 71 + n142 * 2) ≤ 2273 → mL_areCellsSo_213 σ r6 r142 v1 v3 v6 v7 v8 s0 = some res → aZ F D cyI cyJ cyO A bs d σ s H locs → lv_has ls 10 [(0, .ref (d 0)), (1, .int v1), (3, .int v3), (6, .int v6), (7, .int v7), (8, .int v8)] → W p l e rmL_areCellsSo s m args below meth c H locs t (12 * t) Q (F0 m 213 ls [.int s0]) := by
  intro v1 v3 v6 v7 v8 s0 H locs ls t ht0 h Z hl
  unfold mL_areCellsSo_213 at h
  refine lv_istore_n (lv' := [(2, .int s0), (0, .ref (d 0)), (1, .int v1), (3, .int v3), (6, .int v6), (7, .int v7), (8, .int v8)]) C0.1.1 C0.1.2.1 dL_areCellsSo_213 rfl hl (by decide) rfl (fun ls hl => ?_)
  refine lv_iconst (v := 0) C0.1.1 C0.1.2.1 dL_areCellsSo_214 (by decide) ?_
  refine lv_istore (lv' := [(9, .int (0 : Int32)), (2, .int s0), (0, .ref (d 0)), (1, .int v1), (3, .int v3), (6, .int v6), (7, .int v7), (8, .int v8)]) C0.1.1 C0.1.2.1 dL_areCellsSo_215 hl (by decide) rfl (fun ls hl => ?_)
  exact wL_areCellsSo_217 C0 hA hN hT hlf hret hr6 hr142 11 v1 s0 v3 v6 v7 v8 (0 : Int32) _ _ _ t (by omega) h Z (lv_sub hl [2, 3, 1, 4, 5, 6, 7, 0] rfl)
set_option maxRecDepth 20000 in
set_option maxHeartbeats 4000000 in
theorem wL_areCellsSo_212 {p : Program} {l : Launch} {e : Env} {s : State} {m : MethodId} {args : Array Value} {below : List Frame} {meth : Method} {c : Code} {D : va_G} {cyI cyJ cyO : ClassId} {A : Nat → Prop} {bs : Nat} {d : Nat → Nat} {F : va_W} {Q : State → Prop} {σ : St} {res : Int32} (C0 : gC p m meth c cL_areCellsSo 10 (some .boolean) s args wsL_areCellsSo RL) (hA : ∀ q, bs ≤ q → A q) (hN : lQN s) (hT : dT A s) (hlf : l.stackTraces = false) (hret : ∀ (r : Int32) (H : Heap) (locs : List Loc) (pc : Nat) (ls : Array Slot) (t : Nat), t ≤ 2273 → (r = 0 ∨ r = 1) → some r = some res → aZ F D cyI cyJ cyO A bs d σ s H locs → decode cL_areCellsSo pc = .ok (.ireturn, 1) → W p l e rmL_areCellsSo s m args below meth c H locs t (12 * t) Q (F0 m pc ls [.int r])) {r6 : Int32 → Int32 → Int32 → Option (Int32)} {n6 : Nat} (hr6 : ∀ (v1 : Int32) (v2 : Int32) (v3 : Int32) (H : Heap) (locs : List Loc) (ls : Array Slot) (t : Nat), t + (72 + n6 * 71) ≤ 2273 → r6 v1 v2 v3 = some res → aZ F D cyI cyJ cyO A bs d σ s H locs → lv_has ls 10 [(0, .ref (d 0)), (1, .int v1), (2, .int v2), (3, .int v3)] → W p l e rmL_areCellsSo s m args below meth c H locs t (12 * t) Q (F0 m 6 ls [])) {r142 : Int32 → Int32 → Int32 → Int32 → Int32 → Option (Int32)} {n142 : Nat} (hr142 : ∀ (v1 : Int32) (v2 : Int32) (v3 : Int32) (v6 : Int32) (v7 : Int32) (H : Heap) (locs : List Loc) (ls : Array Slot) (t : Nat), t + (73 + n142 * 2 + n6 * 71) ≤ 2273 → r142 v1 v2 v3 v6 v7 = some res → aZ F D cyI cyJ cyO A bs d σ s H locs → lv_has ls 10 [(0, .ref (d 0)), (1, .int v1), (2, .int v2), (3, .int v3), (6, .int v6), (7, .int v7)] → W p l e rmL_areCellsSo s m args below meth c H locs t (12 * t) Q (F0 m 142 ls [])) : ∀ (v1 : Int32) (v3 : Int32) (v6 : Int32) (v7 : Int32) (v8 : Int32) (H : Heap) (locs : List Loc) (ls : Array Slot) (t : Nat), t + (73 + n6 * 71 + n142 * 2) ≤ 2273 → mL_areCellsSo_212 σ r6 r142 v1 v3 v6 v7 v8 = some res → aZ F D cyI cyJ cyO A bs d σ s H locs → lv_has ls 10 [(0, .ref (d 0)), (1, .int v1), (3, .int v3), (6, .int v6), (7, .int v7), (8, .int v8)] → W p l e rmL_areCellsSo s m args below meth c H locs t (12 * t) Q (F0 m 212 ls []) := by
  intro v1 v3 v6 v7 v8 H locs ls t ht0 h Z hl
  unfold mL_areCellsSo_212 at h
  refine lv_iconst (v := 0) C0.1.1 C0.1.2.1 dL_areCellsSo_212 (by decide) ?_
  exact wL_areCellsSo_213 C0 hA hN hT hlf hret hr6 hr142 v1 v3 v6 v7 v8 (0 : Int32) _ _ _ t (by omega) h Z (lv_sub hl [0, 1, 2, 3, 4, 5] rfl)
set_option maxRecDepth 20000 in
set_option maxHeartbeats 4000000 in
theorem wL_areCellsSo_208 {p : Program} {l : Launch} {e : Env} {s : State} {m : MethodId} {args : Array Value} {below : List Frame} {meth : Method} {c : Code} {D : va_G} {cyI cyJ cyO : ClassId} {A : Nat → Prop} {bs : Nat} {d : Nat → Nat} {F : va_W} {Q : State → Prop} {σ : St} {res : Int32} (C0 : gC p m meth c cL_areCellsSo 10 (some .boolean) s args wsL_areCellsSo RL) (hA : ∀ q, bs ≤ q → A q) (hN : lQN s) (hT : dT A s) (hlf : l.stackTraces = false) (hret : ∀ (r : Int32) (H : Heap) (locs : List Loc) (pc : Nat) (ls : Array Slot) (t : Nat), t ≤ 2273 → (r = 0 ∨ r = 1) → some r = some res → aZ F D cyI cyJ cyO A bs d σ s H locs → decode cL_areCellsSo pc = .ok (.ireturn, 1) → W p l e rmL_areCellsSo s m args below meth c H locs t (12 * t) Q (F0 m pc ls [.int r])) {r6 : Int32 → Int32 → Int32 → Option (Int32)} {n6 : Nat} (hr6 : ∀ (v1 : Int32) (v2 : Int32) (v3 : Int32) (H : Heap) (locs : List Loc) (ls : Array Slot) (t : Nat), t + (72 + n6 * 71) ≤ 2273 → r6 v1 v2 v3 = some res → aZ F D cyI cyJ cyO A bs d σ s H locs → lv_has ls 10 [(0, .ref (d 0)), (1, .int v1), (2, .int v2), (3, .int v3)] → W p l e rmL_areCellsSo s m args below meth c H locs t (12 * t) Q (F0 m 6 ls [])) {r142 : Int32 → Int32 → Int32 → Int32 → Int32 → Option (Int32)} {n142 : Nat} (hr142 : ∀ (v1 : Int32) (v2 : Int32) (v3 : Int32) (v6 : Int32) (v7 : Int32) (H : Heap) (locs : List Loc) (ls : Array Slot) (t : Nat), t + (73 + n142 * 2 + n6 * 71) ≤ 2273 → r142 v1 v2 v3 v6 v7 = some res → aZ F D cyI cyJ cyO A bs d σ s H locs → lv_has ls 10 [(0, .ref (d 0)), (1, .int v1), (2, .int v2), (3, .int v3), (6, .int v6), (7, .int v7)] → W p l e rmL_areCellsSo s m args below meth c H locs t (12 * t) Q (F0 m 142 ls [])) : ∀ (v1 : Int32) (v3 : Int32) (v6 : Int32) (v7 : Int32) (v8 : Int32) (H : Heap) (locs : List Loc) (ls : Array Slot) (t : Nat), t + (73 + n6 * 71 + n142 * 2) ≤ 2273 → mL_areCellsSo_208 σ r6 r142 v1 v3 v6 v7 v8 = some res → aZ F D cyI cyJ cyO A bs d σ s H locs → lv_has ls 10 [(0, .ref (d 0)), (1, .int v1), (3, .int v3), (6, .int v6), (7, .int v7), (8, .int v8)] → W p l e rmL_areCellsSo s m args below meth c H locs t (12 * t) Q (F0 m 208 ls []) := by
  intro v1 v3 v6 v7 v8 H locs ls t ht0 h Z hl
  unfold mL_areCellsSo_208 at h
  refine lv_iconst (v := 1) C0.1.1 C0.1.2.1 dL_areCellsSo_208 (by decide) ?_
  refine lv_goto (tgt := 213) C0.1.1 C0.1.2.1 dL_areCellsSo_209 (by decide) ?_
  exact wL_areCellsSo_213 C0 hA hN hT hlf hret hr6 hr142 v1 v3 v6 v7 v8 (1 : Int32) _ _ _ t (by omega) h Z (lv_sub hl [0, 1, 2, 3, 4, 5] rfl)
set_option maxRecDepth 20000 in
set_option maxHeartbeats 4000000 in
theorem wL_areCellsSo_177 {p : Program} {l : Launch} {e : Env} {s : State} {m : MethodId} {args : Array Value} {below : List Frame} {meth : Method} {c : Code} {D : va_G} {cyI cyJ cyO : ClassId} {A : Nat → Prop} {bs : Nat} {d : Nat → Nat} {F : va_W} {Q : State → Prop} {σ : St} {res : Int32} (C0 : gC p m meth c cL_areCellsSo 10 (some .boolean) s args wsL_areCellsSo RL) (hA : ∀ q, bs ≤ q → A q) (hN : lQN s) (hT : dT A s) (hlf : l.stackTraces = false) (hret : ∀ (r : Int32) (H : Heap) (locs : List Loc) (pc : Nat) (ls : Array Slot) (t : Nat), t ≤ 2273 → (r = 0 ∨ r = 1) → some r = some res → aZ F D cyI cyJ cyO A bs d σ s H locs → decode cL_areCellsSo pc = .ok (.ireturn, 1) → W p l e rmL_areCellsSo s m args below meth c H locs t (12 * t) Q (F0 m pc ls [.int r])) {r6 : Int32 → Int32 → Int32 → Option (Int32)} {n6 : Nat} (hr6 : ∀ (v1 : Int32) (v2 : Int32) (v3 : Int32) (H : Heap) (locs : List Loc) (ls : Array Slot) (t : Nat), t + (72 + n6 * 71) ≤ 2273 → r6 v1 v2 v3 = some res → aZ F D cyI cyJ cyO A bs d σ s H locs → lv_has ls 10 [(0, .ref (d 0)), (1, .int v1), (2, .int v2), (3, .int v3)] → W p l e rmL_areCellsSo s m args below meth c H locs t (12 * t) Q (F0 m 6 ls [])) {r142 : Int32 → Int32 → Int32 → Int32 → Int32 → Option (Int32)} {n142 : Nat} (hr142 : ∀ (v1 : Int32) (v2 : Int32) (v3 : Int32) (v6 : Int32) (v7 : Int32) (H : Heap) (locs : List Loc) (ls : Array Slot) (t : Nat), t + (73 + n142 * 2 + n6 * 71) ≤ 2273 → r142 v1 v2 v3 v6 v7 = some res → aZ F D cyI cyJ cyO A bs d σ s H locs → lv_has ls 10 [(0, .ref (d 0)), (1, .int v1), (2, .int v2), (3, .int v3), (6, .int v6), (7, .int v7)] → W p l e rmL_areCellsSo s m args below meth c H locs t (12 * t) Q (F0 m 142 ls [])) : ∀ (v1 : Int32) (v3 : Int32) (v7 : Int32) (v8 : Int32) (s0 : Int32) (H : Heap) (locs : List Loc) (ls : Array Slot) (t : Nat), t + (75 + n6 * 71 + n142 * 2) ≤ 2273 → mL_areCellsSo_177 σ r6 r142 v1 v3 v7 v8 s0 = some res → aZ F D cyI cyJ cyO A bs d σ s H locs → lv_has ls 10 [(0, .ref (d 0)), (1, .int v1), (3, .int v3), (7, .int v7), (8, .int v8)] → W p l e rmL_areCellsSo s m args below meth c H locs t (12 * t) Q (F0 m 177 ls [.int s0]) := by
  intro v1 v3 v7 v8 s0 H locs ls t ht0 h Z hl
  unfold mL_areCellsSo_177 at h
  refine lv_istore (lv' := [(6, .int s0), (0, .ref (d 0)), (1, .int v1), (3, .int v3), (7, .int v7), (8, .int v8)]) C0.1.1 C0.1.2.1 dL_areCellsSo_177 hl (by decide) rfl (fun ls hl => ?_)
  refine lv_iload C0.1.1 C0.1.2.1 dL_areCellsSo_179 (lv_at hl 5 rfl) ?_
  refine lv_if_eq (tgt := 208) C0.1.1 C0.1.2.1 dL_areCellsSo_181 (by decide) (fun hc => ?_) (fun hc => ?_)
  · replace h := (if_pos hc).symm.trans h
    exact wL_areCellsSo_208 C0 hA hN hT hlf hret hr6 hr142 v1 v3 s0 v7 v8 _ _ _ t (by omega) h Z (lv_sub hl [1, 2, 3, 0, 4, 5] rfl)
  · replace h := (if_neg hc).symm.trans h
    refine lv_aload_n C0.1.1 C0.1.2.1 dL_areCellsSo_184 rfl (lv_at hl 1 rfl) ?_
    refine lv_iload_n C0.1.1 C0.1.2.1 dL_areCellsSo_185 rfl (lv_at hl 3 rfl) ?_
    obtain ⟨x14, hx15, h⟩ := g_bd h
    refine vx_calli (vx_runV (b := d 0) (C := RX3) (As := [.int v3]) (rest := []) C0.1 (o_level l hlf D cyI cyJ cyO A bs hA F d σ v3) (cwV 1 C0.1.2.2.2.2 gL_areCellsSo_X3_level rfl rfl rfl (by decide +kernel) ⟨Nat.le_of_ble_eq_true rfl, Nat.le_of_ble_eq_true rfl⟩) ⟨aP_blind, aZ_recv Z, aP_pre Z hN hT _⟩ rfl rfl hl.1 rfl (lv_room (Nat.le_of_ble_eq_true rfl)) dL_areCellsSo_186 ⟨by show t + 1 ≤ 2273; omega, by show 12 * t + 6 ≤ 27276; omega⟩) (aZ_S Z) (fun _ _ h => h) (fun _ h => h) (fun _ _ h => h) (fun E ce q9 u t1 H1 locs1 ht hvm _ hB _ hk hS h1 h2 h3 => ?_) (fun y u t1 H locs ht hvm hw hB _ hk hS => ?_)
    · exact absurd (hx15.symm.trans hB.1.1) (fun z => nomatch z)
    obtain rfl : x14 = y := Option.some.inj (hx15.symm.trans hw)
    replace Z := aZ_post Z ht hvm hB hS
    refine W.widen (k := (t + 1)) (n := 12 * (t + 1)) (by omega) (by omega) ?_
    refine lv_aload_n C0.1.1 C0.1.2.1 dL_areCellsSo_189 rfl (lv_at hl 1 rfl) ?_
    refine lv_iload C0.1.1 C0.1.2.1 dL_areCellsSo_190 (lv_at hl 4 rfl) ?_
    obtain ⟨x16, hx17, h⟩ := g_bd h
    refine vx_calli (vx_runV (b := d 0) (C := RX3) (As := [.int v7]) (rest := [.int x14]) C0.1 (o_level l hlf D cyI cyJ cyO A bs hA F d σ v7) (cwV 1 C0.1.2.2.2.2 gL_areCellsSo_X3_level rfl rfl rfl (by decide +kernel) ⟨Nat.le_of_ble_eq_true rfl, Nat.le_of_ble_eq_true rfl⟩) ⟨aP_blind, aZ_recv Z, aP_pre Z hN hT _⟩ rfl rfl hl.1 rfl (lv_room (Nat.le_of_ble_eq_true rfl)) dL_areCellsSo_192 ⟨by show (t + 1) + 1 ≤ 2273; omega, by show 12 * (t + 1) + 6 ≤ 27276; omega⟩) (aZ_S Z) (fun _ _ h => h) (fun _ h => h) (fun _ _ h => h) (fun E ce q9 u t1 H1 locs1 ht hvm _ hB _ hk hS h1 h2 h3 => ?_) (fun y u t1 H locs ht hvm hw hB _ hk hS => ?_)
    · exact absurd (hx17.symm.trans hB.1.1) (fun z => nomatch z)
    obtain rfl : x16 = y := Option.some.inj (hx17.symm.trans hw)
    replace Z := aZ_post Z ht hvm hB hS
    refine W.widen (k := (t + 2)) (n := 12 * (t + 2)) (by omega) (by omega) ?_
    refine lv_icmp_le (tgt := 212) C0.1.1 C0.1.2.1 dL_areCellsSo_195 (by decide) (fun hc => ?_) (fun hc => ?_)
    · replace h := (if_pos hc).symm.trans h
      exact wL_areCellsSo_212 C0 hA hN hT hlf hret hr6 hr142 v1 v3 s0 v7 v8 _ _ _ (t + 2) (by omega) h Z (lv_sub hl [1, 2, 3, 0, 4, 5] rfl)
    · replace h := (if_neg hc).symm.trans h
      refine lv_aload_n C0.1.1 C0.1.2.1 dL_areCellsSo_198 rfl (lv_at hl 1 rfl) ?_
      refine lv_iload C0.1.1 C0.1.2.1 dL_areCellsSo_199 (lv_at hl 4 rfl) ?_
      refine lv_iload_n C0.1.1 C0.1.2.1 dL_areCellsSo_201 rfl (lv_at hl 3 rfl) ?_
      obtain ⟨x18, hx19, h⟩ := g_bd h
      refine va_calli (va_runV (b := d 0) (C := RX3) (As := [.int v7, .int v3]) (rest := []) C0.1 (o_depends l D cyI cyJ cyO A bs hA F d σ v7 v3 x18 hx19) (cwV 2 C0.1.2.2.2.2 gL_areCellsSo_X3_depends rfl rfl rfl (by decide +kernel) ⟨Nat.le_of_ble_eq_true rfl, Nat.le_of_ble_eq_true rfl⟩) ⟨aP_blind, aZ_recv Z, aP_pre Z hN hT _⟩ rfl rfl hl.1 rfl (lv_room (Nat.le_of_ble_eq_true rfl)) dL_areCellsSo_202 ⟨by show (t + 2) + 0 ≤ 2273; omega, by show 12 * (t + 2) + 0 ≤ 27276; omega⟩) (aZ_S Z) (fun _ _ h => h) (fun _ h => h) (fun y u t1 H locs ht hvm hw hB _ hk hS => ?_)
      subst hw
      replace Z := aZ_post Z ht hvm hB hS
      refine lv_if_ne (tgt := 212) C0.1.1 C0.1.2.1 dL_areCellsSo_205 (by decide) (fun hc => ?_) (fun hc => ?_)
      · replace h := (if_neg hc).symm.trans h
        exact wL_areCellsSo_212 C0 hA hN hT hlf hret hr6 hr142 v1 v3 s0 v7 v8 _ _ _ (t + 2) (by omega) h Z (lv_sub hl [1, 2, 3, 0, 4, 5] rfl)
      · replace h := (if_pos hc).symm.trans h
        exact wL_areCellsSo_208 C0 hA hN hT hlf hret hr6 hr142 v1 v3 s0 v7 v8 _ _ _ (t + 2) (by omega) h Z (lv_sub hl [1, 2, 3, 0, 4, 5] rfl)
set_option maxRecDepth 20000 in
set_option maxHeartbeats 4000000 in
theorem wL_areCellsSo_172 {p : Program} {l : Launch} {e : Env} {s : State} {m : MethodId} {args : Array Value} {below : List Frame} {meth : Method} {c : Code} {D : va_G} {cyI cyJ cyO : ClassId} {A : Nat → Prop} {bs : Nat} {d : Nat → Nat} {F : va_W} {Q : State → Prop} {σ : St} {res : Int32} (C0 : gC p m meth c cL_areCellsSo 10 (some .boolean) s args wsL_areCellsSo RL) (hA : ∀ q, bs ≤ q → A q) (hN : lQN s) (hT : dT A s) (hlf : l.stackTraces = false) (hret : ∀ (r : Int32) (H : Heap) (locs : List Loc) (pc : Nat) (ls : Array Slot) (t : Nat), t ≤ 2273 → (r = 0 ∨ r = 1) → some r = some res → aZ F D cyI cyJ cyO A bs d σ s H locs → decode cL_areCellsSo pc = .ok (.ireturn, 1) → W p l e rmL_areCellsSo s m args below meth c H locs t (12 * t) Q (F0 m pc ls [.int r])) {r6 : Int32 → Int32 → Int32 → Option (Int32)} {n6 : Nat} (hr6 : ∀ (v1 : Int32) (v2 : Int32) (v3 : Int32) (H : Heap) (locs : List Loc) (ls : Array Slot) (t : Nat), t + (72 + n6 * 71) ≤ 2273 → r6 v1 v2 v3 = some res → aZ F D cyI cyJ cyO A bs d σ s H locs → lv_has ls 10 [(0, .ref (d 0)), (1, .int v1), (2, .int v2), (3, .int v3)] → W p l e rmL_areCellsSo s m args below meth c H locs t (12 * t) Q (F0 m 6 ls [])) {r142 : Int32 → Int32 → Int32 → Int32 → Int32 → Option (Int32)} {n142 : Nat} (hr142 : ∀ (v1 : Int32) (v2 : Int32) (v3 : Int32) (v6 : Int32) (v7 : Int32) (H : Heap) (locs : List Loc) (ls : Array Slot) (t : Nat), t + (73 + n142 * 2 + n6 * 71) ≤ 2273 → r142 v1 v2 v3 v6 v7 = some res → aZ F D cyI cyJ cyO A bs d σ s H locs → lv_has ls 10 [(0, .ref (d 0)), (1, .int v1), (2, .int v2), (3, .int v3), (6, .int v6), (7, .int v7)] → W p l e rmL_areCellsSo s m args below meth c H locs t (12 * t) Q (F0 m 142 ls [])) : ∀ (v1 : Int32) (v3 : Int32) (v7 : Int32) (v8 : Int32) (H : Heap) (locs : List Loc) (ls : Array Slot) (t : Nat), t + (75 + n6 * 71 + n142 * 2) ≤ 2273 → mL_areCellsSo_172 σ r6 r142 v1 v3 v7 v8 = some res → aZ F D cyI cyJ cyO A bs d σ s H locs → lv_has ls 10 [(0, .ref (d 0)), (1, .int v1), (3, .int v3), (7, .int v7), (8, .int v8)] → W p l e rmL_areCellsSo s m args below meth c H locs t (12 * t) Q (F0 m 172 ls []) := by
  intro v1 v3 v7 v8 H locs ls t ht0 h Z hl
  unfold mL_areCellsSo_172 at h
  refine lv_iconst (v := 1) C0.1.1 C0.1.2.1 dL_areCellsSo_172 (by decide) ?_
  refine lv_goto (tgt := 177) C0.1.1 C0.1.2.1 dL_areCellsSo_173 (by decide) ?_
  exact wL_areCellsSo_177 C0 hA hN hT hlf hret hr6 hr142 v1 v3 v7 v8 (1 : Int32) _ _ _ t (by omega) h Z (lv_sub hl [0, 1, 2, 3, 4] rfl)
set_option maxRecDepth 20000 in
set_option maxHeartbeats 4000000 in
theorem wL_areCellsSo_142_b {p : Program} {l : Launch} {e : Env} {s : State} {m : MethodId} {args : Array Value} {below : List Frame} {meth : Method} {c : Code} {D : va_G} {cyI cyJ cyO : ClassId} {A : Nat → Prop} {bs : Nat} {d : Nat → Nat} {F : va_W} {Q : State → Prop} {σ : St} {res : Int32} (C0 : gC p m meth c cL_areCellsSo 10 (some .boolean) s args wsL_areCellsSo RL) (hA : ∀ q, bs ≤ q → A q) (hN : lQN s) (hT : dT A s) (hlf : l.stackTraces = false) (hret : ∀ (r : Int32) (H : Heap) (locs : List Loc) (pc : Nat) (ls : Array Slot) (t : Nat), t ≤ 2273 → (r = 0 ∨ r = 1) → some r = some res → aZ F D cyI cyJ cyO A bs d σ s H locs → decode cL_areCellsSo pc = .ok (.ireturn, 1) → W p l e rmL_areCellsSo s m args below meth c H locs t (12 * t) Q (F0 m pc ls [.int r])) {r6 : Int32 → Int32 → Int32 → Option (Int32)} {n6 : Nat} (hr6 : ∀ (v1 : Int32) (v2 : Int32) (v3 : Int32) (H : Heap) (locs : List Loc) (ls : Array Slot) (t : Nat), t + (72 + n6 * 71) ≤ 2273 → r6 v1 v2 v3 = some res → aZ F D cyI cyJ cyO A bs d σ s H locs → lv_has ls 10 [(0, .ref (d 0)), (1, .int v1), (2, .int v2), (3, .int v3)] → W p l e rmL_areCellsSo s m args below meth c H locs t (12 * t) Q (F0 m 6 ls [])) {r142 : Int32 → Int32 → Int32 → Int32 → Int32 → Option (Int32)} {n142 : Nat} (hr142 : ∀ (v1 : Int32) (v2 : Int32) (v3 : Int32) (v6 : Int32) (v7 : Int32) (H : Heap) (locs : List Loc) (ls : Array Slot) (t : Nat), t + (73 + n142 * 2 + n6 * 71) ≤ 2273 → r142 v1 v2 v3 v6 v7 = some res → aZ F D cyI cyJ cyO A bs d σ s H locs → lv_has ls 10 [(0, .ref (d 0)), (1, .int v1), (2, .int v2), (3, .int v3), (6, .int v6), (7, .int v7)] → W p l e rmL_areCellsSo s m args below meth c H locs t (12 * t) Q (F0 m 142 ls [])) : ∀ (v1 : Int32) (v2 : Int32) (v3 : Int32) (v6 : Int32) (v7 : Int32) (H : Heap) (locs : List Loc) (ls : Array Slot) (t : Nat), t + (75 + n6 * 71 + n142 * 2) ≤ 2273 → mL_areCellsSo_142_b σ r6 r142 v1 v2 v3 v6 v7 = some res → aZ F D cyI cyJ cyO A bs d σ s H locs → lv_has ls 10 [(0, .ref (d 0)), (1, .int v1), (2, .int v2), (3, .int v3), (6, .int v6), (7, .int v7)] → W p l e rmL_areCellsSo s m args below meth c H locs t (12 * t) Q (F0 m 142 ls []) := by
  intro v1 v2 v3 v6 v7 H locs ls t ht0 h Z hl
  unfold mL_areCellsSo_142_b at h
  refine lv_iload C0.1.1 C0.1.2.1 dL_areCellsSo_142 (lv_at hl 5 rfl) ?_
  refine lv_bipush (v := 30) C0.1.1 C0.1.2.1 dL_areCellsSo_144 (by decide +kernel) ?_
  refine lv_icmp_ge (tgt := 272) C0.1.1 C0.1.2.1 dL_areCellsSo_146 (by decide) (fun hc => ?_) (fun hc => ?_)
  · replace h := (if_pos hc).symm.trans h
    exact wL_areCellsSo_272 C0 hA hN hT hlf hret hr6 v1 v2 v3 v6 _ _ _ t (by omega) h Z (lv_sub hl [0, 1, 2, 3, 4] rfl)
  · replace h := (if_neg hc).symm.trans h
    refine lv_iload_n C0.1.1 C0.1.2.1 dL_areCellsSo_149 rfl (lv_at hl 2 rfl) ?_
    refine lv_if_eq (tgt := 272) C0.1.1 C0.1.2.1 dL_areCellsSo_150 (by decide) (fun hc => ?_) (fun hc => ?_)
    · replace h := (if_pos hc).symm.trans h
      exact wL_areCellsSo_272 C0 hA hN hT hlf hret hr6 v1 v2 v3 v6 _ _ _ t (by omega) h Z (lv_sub hl [0, 1, 2, 3, 4] rfl)
    · replace h := (if_neg hc).symm.trans h
      refine lv_aload_n C0.1.1 C0.1.2.1 dL_areCellsSo_153 rfl (lv_at hl 0 rfl) ?_
      refine lv_iload_n C0.1.1 C0.1.2.1 dL_areCellsSo_154 rfl (lv_at hl 3 rfl) ?_
      refine lv_iload C0.1.1 C0.1.2.1 dL_areCellsSo_155 (lv_at hl 5 rfl) ?_
      obtain ⟨x20, hx21, h⟩ := g_bd h
      refine va_calli (va_runV (b := d 0) (C := RX3) (As := [.int v3, .int v7]) (rest := []) C0.1 (o_depends l D cyI cyJ cyO A bs hA F d σ v3 v7 x20 hx21) (cwV 2 C0.1.2.2.2.2 gL_areCellsSo_X3_depends rfl rfl rfl (by decide +kernel) ⟨Nat.le_of_ble_eq_true rfl, Nat.le_of_ble_eq_true rfl⟩) ⟨aP_blind, aZ_recv Z, aP_pre Z hN hT _⟩ rfl rfl hl.1 rfl (lv_room (Nat.le_of_ble_eq_true rfl)) dL_areCellsSo_157 ⟨by show t + 0 ≤ 2273; omega, by show 12 * t + 0 ≤ 27276; omega⟩) (aZ_S Z) (fun _ _ h => h) (fun _ h => h) (fun y u t1 H locs ht hvm hw hB _ hk hS => ?_)
      subst hw
      replace Z := aZ_post Z ht hvm hB hS
      refine lv_istore (lv' := [(8, .int x20), (0, .ref (d 0)), (1, .int v1), (2, .int v2), (3, .int v3), (6, .int v6), (7, .int v7)]) C0.1.1 C0.1.2.1 dL_areCellsSo_160 hl (by decide) rfl (fun ls hl => ?_)
      refine lv_iload C0.1.1 C0.1.2.1 dL_areCellsSo_162 (lv_at hl 5 rfl) ?_
      refine lv_if_ne (tgt := 172) C0.1.1 C0.1.2.1 dL_areCellsSo_164 (by decide) (fun hc => ?_) (fun hc => ?_)
      · replace h := (if_neg hc).symm.trans h
        exact wL_areCellsSo_172 C0 hA hN hT hlf hret hr6 hr142 v1 v3 v7 x20 _ _ _ t (by omega) h Z (lv_sub hl [1, 2, 4, 6, 0] rfl)
      · replace h := (if_pos hc).symm.trans h
        refine lv_iload C0.1.1 C0.1.2.1 dL_areCellsSo_167 (lv_at hl 0 rfl) ?_
        refine lv_if_eq (tgt := 176) C0.1.1 C0.1.2.1 dL_areCellsSo_169 (by decide) (fun hc => ?_) (fun hc => ?_)
        · replace h := (if_pos hc).symm.trans h
          refine lv_iconst (v := 0) C0.1.1 C0.1.2.1 dL_areCellsSo_176 (by decide) ?_
          exact wL_areCellsSo_177 C0 hA hN hT hlf hret hr6 hr142 v1 v3 v7 x20 (0 : Int32) _ _ _ t (by omega) h Z (lv_sub hl [1, 2, 4, 6, 0] rfl)
        · replace h := (if_neg hc).symm.trans h
          exact wL_areCellsSo_172 C0 hA hN hT hlf hret hr6 hr142 v1 v3 v7 x20 _ _ _ t (by omega) h Z (lv_sub hl [1, 2, 4, 6, 0] rfl)
theorem wL_areCellsSo_142 {p : Program} {l : Launch} {e : Env} {s : State} {m : MethodId} {args : Array Value} {below : List Frame} {meth : Method} {c : Code} {D : va_G} {cyI cyJ cyO : ClassId} {A : Nat → Prop} {bs : Nat} {d : Nat → Nat} {F : va_W} {Q : State → Prop} {σ : St} {res : Int32} (C0 : gC p m meth c cL_areCellsSo 10 (some .boolean) s args wsL_areCellsSo RL) (hA : ∀ q, bs ≤ q → A q) (hN : lQN s) (hT : dT A s) (hlf : l.stackTraces = false) (hret : ∀ (r : Int32) (H : Heap) (locs : List Loc) (pc : Nat) (ls : Array Slot) (t : Nat), t ≤ 2273 → (r = 0 ∨ r = 1) → some r = some res → aZ F D cyI cyJ cyO A bs d σ s H locs → decode cL_areCellsSo pc = .ok (.ireturn, 1) → W p l e rmL_areCellsSo s m args below meth c H locs t (12 * t) Q (F0 m pc ls [.int r])) {r6 : Int32 → Int32 → Int32 → Option (Int32)} {n6 : Nat} (hr6 : ∀ (v1 : Int32) (v2 : Int32) (v3 : Int32) (H : Heap) (locs : List Loc) (ls : Array Slot) (t : Nat), t + (72 + n6 * 71) ≤ 2273 → r6 v1 v2 v3 = some res → aZ F D cyI cyJ cyO A bs d σ s H locs → lv_has ls 10 [(0, .ref (d 0)), (1, .int v1), (2, .int v2), (3, .int v3)] → W p l e rmL_areCellsSo s m args below meth c H locs t (12 * t) Q (F0 m 6 ls [])) : ∀ (n_ : Nat), ∀ (v1 : Int32) (v2 : Int32) (v3 : Int32) (v6 : Int32) (v7 : Int32) (H : Heap) (locs : List Loc) (ls : Array Slot) (t : Nat), t + (73 + n_ * 2 + n6 * 71) ≤ 2273 → mL_areCellsSo_142 σ r6 n_ v1 v2 v3 v6 v7 = some res → aZ F D cyI cyJ cyO A bs d σ s H locs → lv_has ls 10 [(0, .ref (d 0)), (1, .int v1), (2, .int v2), (3, .int v3), (6, .int v6), (7, .int v7)] → W p l e rmL_areCellsSo s m args below meth c H locs t (12 * t) Q (F0 m 142 ls []) := by
  intro n_
  induction n_ with
  | zero => intro _ _ _ _ _ _ _ _ _ _ h; cases h
  | succ n_ ih =>
    intro v1 v2 v3 v6 v7 H locs ls t ht0 h Z hl
    exact wL_areCellsSo_142_b C0 hA hN hT hlf hret hr6 ih v1 v2 v3 v6 v7 H locs ls t (by omega) h Z hl
set_option maxRecDepth 20000 in
set_option maxHeartbeats 4000000 in
theorem wL_areCellsSo_138 {p : Program} {l : Launch} {e : Env} {s : State} {m : MethodId} {args : Array Value} {below : List Frame} {meth : Method} {c : Code} {D : va_G} {cyI cyJ cyO : ClassId} {A : Nat → Prop} {bs : Nat} {d : Nat → Nat} {F : va_W} {Q : State → Prop} {σ : St} {res : Int32} (C0 : gC p m meth c cL_areCellsSo 10 (some .boolean) s args wsL_areCellsSo RL) (hA : ∀ q, bs ≤ q → A q) (hN : lQN s) (hT : dT A s) (hlf : l.stackTraces = false) (hret : ∀ (r : Int32) (H : Heap) (locs : List Loc) (pc : Nat) (ls : Array Slot) (t : Nat), t ≤ 2273 → (r = 0 ∨ r = 1) → some r = some res → aZ F D cyI cyJ cyO A bs d σ s H locs → decode cL_areCellsSo pc = .ok (.ireturn, 1) → W p l e rmL_areCellsSo s m args below meth c H locs t (12 * t) Q (F0 m pc ls [.int r])) {r6 : Int32 → Int32 → Int32 → Option (Int32)} {n6 : Nat} (hr6 : ∀ (v1 : Int32) (v2 : Int32) (v3 : Int32) (H : Heap) (locs : List Loc) (ls : Array Slot) (t : Nat), t + (72 + n6 * 71) ≤ 2273 → r6 v1 v2 v3 = some res → aZ F D cyI cyJ cyO A bs d σ s H locs → lv_has ls 10 [(0, .ref (d 0)), (1, .int v1), (2, .int v2), (3, .int v3)] → W p l e rmL_areCellsSo s m args below meth c H locs t (12 * t) Q (F0 m 6 ls [])) : ∀ (v1 : Int32) (v3 : Int32) (v6 : Int32) (s0 : Int32) (H : Heap) (locs : List Loc) (ls : Array Slot) (t : Nat), t + (135 + n6 * 71) ≤ 2273 → mL_areCellsSo_138 σ r6 v1 v3 v6 s0 = some res → aZ F D cyI cyJ cyO A bs d σ s H locs → lv_has ls 10 [(0, .ref (d 0)), (1, .int v1), (3, .int v3), (6, .int v6)] → W p l e rmL_areCellsSo s m args below meth c H locs t (12 * t) Q (F0 m 138 ls [.int s0]) := by
  intro v1 v3 v6 s0 H locs ls t ht0 h Z hl
  unfold mL_areCellsSo_138 at h
  refine lv_istore_n (lv' := [(2, .int s0), (0, .ref (d 0)), (1, .int v1), (3, .int v3), (6, .int v6)]) C0.1.1 C0.1.2.1 dL_areCellsSo_138 rfl hl (by decide) rfl (fun ls hl => ?_)
  refine lv_iconst (v := 0) C0.1.1 C0.1.2.1 dL_areCellsSo_139 (by decide) ?_
  refine lv_istore (lv' := [(7, .int (0 : Int32)), (2, .int s0), (0, .ref (d 0)), (1, .int v1), (3, .int v3), (6, .int v6)]) C0.1.1 C0.1.2.1 dL_areCellsSo_140 hl (by decide) rfl (fun ls hl => ?_)
  exact wL_areCellsSo_142 C0 hA hN hT hlf hret hr6 31 v1 s0 v3 v6 (0 : Int32) _ _ _ t (by omega) h Z (lv_sub hl [2, 3, 1, 4, 5, 0] rfl)
set_option maxRecDepth 20000 in
set_option maxHeartbeats 4000000 in
theorem wL_areCellsSo_137 {p : Program} {l : Launch} {e : Env} {s : State} {m : MethodId} {args : Array Value} {below : List Frame} {meth : Method} {c : Code} {D : va_G} {cyI cyJ cyO : ClassId} {A : Nat → Prop} {bs : Nat} {d : Nat → Nat} {F : va_W} {Q : State → Prop} {σ : St} {res : Int32} (C0 : gC p m meth c cL_areCellsSo 10 (some .boolean) s args wsL_areCellsSo RL) (hA : ∀ q, bs ≤ q → A q) (hN : lQN s) (hT : dT A s) (hlf : l.stackTraces = false) (hret : ∀ (r : Int32) (H : Heap) (locs : List Loc) (pc : Nat) (ls : Array Slot) (t : Nat), t ≤ 2273 → (r = 0 ∨ r = 1) → some r = some res → aZ F D cyI cyJ cyO A bs d σ s H locs → decode cL_areCellsSo pc = .ok (.ireturn, 1) → W p l e rmL_areCellsSo s m args below meth c H locs t (12 * t) Q (F0 m pc ls [.int r])) {r6 : Int32 → Int32 → Int32 → Option (Int32)} {n6 : Nat} (hr6 : ∀ (v1 : Int32) (v2 : Int32) (v3 : Int32) (H : Heap) (locs : List Loc) (ls : Array Slot) (t : Nat), t + (72 + n6 * 71) ≤ 2273 → r6 v1 v2 v3 = some res → aZ F D cyI cyJ cyO A bs d σ s H locs → lv_has ls 10 [(0, .ref (d 0)), (1, .int v1), (2, .int v2), (3, .int v3)] → W p l e rmL_areCellsSo s m args below meth c H locs t (12 * t) Q (F0 m 6 ls [])) : ∀ (v1 : Int32) (v3 : Int32) (v6 : Int32) (H : Heap) (locs : List Loc) (ls : Array Slot) (t : Nat), t + (135 + n6 * 71) ≤ 2273 → mL_areCellsSo_137 σ r6 v1 v3 v6 = some res → aZ F D cyI cyJ cyO A bs d σ s H locs → lv_has ls 10 [(0, .ref (d 0)), (1, .int v1), (3, .int v3), (6, .int v6)] → W p l e rmL_areCellsSo s m args below meth c H locs t (12 * t) Q (F0 m 137 ls []) := by
  intro v1 v3 v6 H locs ls t ht0 h Z hl
  unfold mL_areCellsSo_137 at h
  refine lv_iconst (v := 0) C0.1.1 C0.1.2.1 dL_areCellsSo_137 (by decide) ?_
  exact wL_areCellsSo_138 C0 hA hN hT hlf hret hr6 v1 v3 v6 (0 : Int32) _ _ _ t (by omega) h Z (lv_sub hl [0, 1, 2, 3] rfl)
set_option maxRecDepth 20000 in
set_option maxHeartbeats 4000000 in
theorem wL_areCellsSo_124 {p : Program} {l : Launch} {e : Env} {s : State} {m : MethodId} {args : Array Value} {below : List Frame} {meth : Method} {c : Code} {D : va_G} {cyI cyJ cyO : ClassId} {A : Nat → Prop} {bs : Nat} {d : Nat → Nat} {F : va_W} {Q : State → Prop} {σ : St} {res : Int32} (C0 : gC p m meth c cL_areCellsSo 10 (some .boolean) s args wsL_areCellsSo RL) (hA : ∀ q, bs ≤ q → A q) (hN : lQN s) (hT : dT A s) (hlf : l.stackTraces = false) (hret : ∀ (r : Int32) (H : Heap) (locs : List Loc) (pc : Nat) (ls : Array Slot) (t : Nat), t ≤ 2273 → (r = 0 ∨ r = 1) → some r = some res → aZ F D cyI cyJ cyO A bs d σ s H locs → decode cL_areCellsSo pc = .ok (.ireturn, 1) → W p l e rmL_areCellsSo s m args below meth c H locs t (12 * t) Q (F0 m pc ls [.int r])) {r6 : Int32 → Int32 → Int32 → Option (Int32)} {n6 : Nat} (hr6 : ∀ (v1 : Int32) (v2 : Int32) (v3 : Int32) (H : Heap) (locs : List Loc) (ls : Array Slot) (t : Nat), t + (72 + n6 * 71) ≤ 2273 → r6 v1 v2 v3 = some res → aZ F D cyI cyJ cyO A bs d σ s H locs → lv_has ls 10 [(0, .ref (d 0)), (1, .int v1), (2, .int v2), (3, .int v3)] → W p l e rmL_areCellsSo s m args below meth c H locs t (12 * t) Q (F0 m 6 ls [])) : ∀ (v1 : Int32) (v3 : Int32) (v6 : Int32) (H : Heap) (locs : List Loc) (ls : Array Slot) (t : Nat), t + (135 + n6 * 71) ≤ 2273 → mL_areCellsSo_124 σ r6 v1 v3 v6 = some res → aZ F D cyI cyJ cyO A bs d σ s H locs → lv_has ls 10 [(0, .ref (d 0)), (1, .int v1), (3, .int v3), (6, .int v6)] → W p l e rmL_areCellsSo s m args below meth c H locs t (12 * t) Q (F0 m 124 ls []) := by
  intro v1 v3 v6 H locs ls t ht0 h Z hl
  unfold mL_areCellsSo_124 at h
  refine lv_aload_n C0.1.1 C0.1.2.1 dL_areCellsSo_124 rfl (lv_at hl 0 rfl) ?_
  refine lv_iload_n C0.1.1 C0.1.2.1 dL_areCellsSo_125 rfl (lv_at hl 2 rfl) ?_
  refine lv_iload_n C0.1.1 C0.1.2.1 dL_areCellsSo_126 rfl (lv_at hl 2 rfl) ?_
  obtain ⟨x22, hx23, h⟩ := g_bd h
  refine va_calli (va_runV (b := d 0) (C := RX3) (As := [.int v3, .int v3]) (rest := []) C0.1 (o_depends l D cyI cyJ cyO A bs hA F d σ v3 v3 x22 hx23) (cwV 2 C0.1.2.2.2.2 gL_areCellsSo_X3_depends rfl rfl rfl (by decide +kernel) ⟨Nat.le_of_ble_eq_true rfl, Nat.le_of_ble_eq_true rfl⟩) ⟨aP_blind, aZ_recv Z, aP_pre Z hN hT _⟩ rfl rfl hl.1 rfl (lv_room (Nat.le_of_ble_eq_true rfl)) dL_areCellsSo_127 ⟨by show t + 0 ≤ 2273; omega, by show 12 * t + 0 ≤ 27276; omega⟩) (aZ_S Z) (fun _ _ h => h) (fun _ h => h) (fun y u t1 H locs ht hvm hw hB _ hk hS => ?_)
  subst hw
  replace Z := aZ_post Z ht hvm hB hS
  refine lv_if_ne (tgt := 137) C0.1.1 C0.1.2.1 dL_areCellsSo_130 (by decide) (fun hc => ?_) (fun hc => ?_)
  · replace h := (if_neg hc).symm.trans h
    exact wL_areCellsSo_137 C0 hA hN hT hlf hret hr6 v1 v3 v6 _ _ _ t (by omega) h Z (lv_sub hl [0, 1, 2, 3] rfl)
  · replace h := (if_pos hc).symm.trans h
    refine lv_iconst (v := 1) C0.1.1 C0.1.2.1 dL_areCellsSo_133 (by decide) ?_
    refine lv_goto (tgt := 138) C0.1.1 C0.1.2.1 dL_areCellsSo_134 (by decide) ?_
    exact wL_areCellsSo_138 C0 hA hN hT hlf hret hr6 v1 v3 v6 (1 : Int32) _ _ _ t (by omega) h Z (lv_sub hl [0, 1, 2, 3] rfl)
set_option maxRecDepth 20000 in
set_option maxHeartbeats 4000000 in
theorem wL_areCellsSo_83 {p : Program} {l : Launch} {e : Env} {s : State} {m : MethodId} {args : Array Value} {below : List Frame} {meth : Method} {c : Code} {D : va_G} {cyI cyJ cyO : ClassId} {A : Nat → Prop} {bs : Nat} {d : Nat → Nat} {F : va_W} {Q : State → Prop} {σ : St} {res : Int32} (C0 : gC p m meth c cL_areCellsSo 10 (some .boolean) s args wsL_areCellsSo RL) (hA : ∀ q, bs ≤ q → A q) (hN : lQN s) (hT : dT A s) (hlf : l.stackTraces = false) (hret : ∀ (r : Int32) (H : Heap) (locs : List Loc) (pc : Nat) (ls : Array Slot) (t : Nat), t ≤ 2273 → (r = 0 ∨ r = 1) → some r = some res → aZ F D cyI cyJ cyO A bs d σ s H locs → decode cL_areCellsSo pc = .ok (.ireturn, 1) → W p l e rmL_areCellsSo s m args below meth c H locs t (12 * t) Q (F0 m pc ls [.int r])) {r6 : Int32 → Int32 → Int32 → Option (Int32)} {n6 : Nat} (hr6 : ∀ (v1 : Int32) (v2 : Int32) (v3 : Int32) (H : Heap) (locs : List Loc) (ls : Array Slot) (t : Nat), t + (72 + n6 * 71) ≤ 2273 → r6 v1 v2 v3 = some res → aZ F D cyI cyJ cyO A bs d σ s H locs → lv_has ls 10 [(0, .ref (d 0)), (1, .int v1), (2, .int v2), (3, .int v3)] → W p l e rmL_areCellsSo s m args below meth c H locs t (12 * t) Q (F0 m 6 ls [])) : ∀ (v1 : Int32) (v3 : Int32) (v4 : Int64) (v6 : Int32) (H : Heap) (locs : List Loc) (ls : Array Slot) (t : Nat), t + (139 + n6 * 71) ≤ 2273 → mL_areCellsSo_83 σ r6 v1 v3 v4 v6 = some res → aZ F D cyI cyJ cyO A bs d σ s H locs → lv_has ls 10 [(0, .ref (d 0)), (1, .int v1), (3, .int v3), (4, .long v4), (6, .int v6)] → W p l e rmL_areCellsSo s m args below meth c H locs t (12 * t) Q (F0 m 83 ls []) := by
  intro v1 v3 v4 v6 H locs ls t ht0 h Z hl
  unfold mL_areCellsSo_83 at h
  refine lv_aload_n C0.1.1 C0.1.2.1 dL_areCellsSo_83 rfl (lv_at hl 0 rfl) ?_
  refine lv_iload_n C0.1.1 C0.1.2.1 dL_areCellsSo_84 rfl (lv_at hl 2 rfl) ?_
  obtain ⟨x24, hx25, h⟩ := g_bd h
  refine vx_calli (vx_runV (b := d 0) (C := RX3) (As := [.int v3]) (rest := []) C0.1 (o_signs l hlf D cyI cyJ cyO A bs hA F d σ v3) (cwV 1 C0.1.2.2.2.2 gL_areCellsSo_X3_signs rfl rfl rfl (by decide +kernel) ⟨Nat.le_of_ble_eq_true rfl, Nat.le_of_ble_eq_true rfl⟩) ⟨aP_blind, aZ_recv Z, aP_pre Z hN hT _⟩ rfl rfl hl.1 rfl (lv_room (Nat.le_of_ble_eq_true rfl)) dL_areCellsSo_85 ⟨by show t + 1 ≤ 2273; omega, by show 12 * t + 6 ≤ 27276; omega⟩) (aZ_S Z) (fun _ _ h => h) (fun _ h => h) (fun _ _ h => h) (fun E ce q9 u t1 H1 locs1 ht hvm _ hB _ hk hS h1 h2 h3 => ?_) (fun y u t1 H locs ht hvm hw hB _ hk hS => ?_)
  · exact absurd (hx25.symm.trans hB.1.1) (fun z => nomatch z)
  obtain rfl : x24 = y := Option.some.inj (hx25.symm.trans hw)
  replace Z := aZ_post Z ht hvm hB hS
  refine W.widen (k := (t + 1)) (n := 12 * (t + 1)) (by omega) (by omega) ?_
  refine lv_if_lt (tgt := 137) C0.1.1 C0.1.2.1 dL_areCellsSo_88 (by decide) (fun hc => ?_) (fun hc => ?_)
  · replace h := (if_pos hc).symm.trans h
    exact wL_areCellsSo_137 C0 hA hN hT hlf hret hr6 v1 v3 v6 _ _ _ (t + 1) (by omega) h Z (lv_sub hl [0, 1, 2, 4] rfl)
  · replace h := (if_neg hc).symm.trans h
    refine lv_aload_n C0.1.1 C0.1.2.1 dL_areCellsSo_91 rfl (lv_at hl 0 rfl) ?_
    refine lv_iload_n C0.1.1 C0.1.2.1 dL_areCellsSo_92 rfl (lv_at hl 2 rfl) ?_
    obtain ⟨x26, hx27, h⟩ := g_bd h
    refine vx_calli (vx_runV (b := d 0) (C := RX3) (As := [.int v3]) (rest := []) C0.1 (o_signs l hlf D cyI cyJ cyO A bs hA F d σ v3) (cwV 1 C0.1.2.2.2.2 gL_areCellsSo_X3_signs rfl rfl rfl (by decide +kernel) ⟨Nat.le_of_ble_eq_true rfl, Nat.le_of_ble_eq_true rfl⟩) ⟨aP_blind, aZ_recv Z, aP_pre Z hN hT _⟩ rfl rfl hl.1 rfl (lv_room (Nat.le_of_ble_eq_true rfl)) dL_areCellsSo_93 ⟨by show (t + 1) + 1 ≤ 2273; omega, by show 12 * (t + 1) + 6 ≤ 27276; omega⟩) (aZ_S Z) (fun _ _ h => h) (fun _ h => h) (fun _ _ h => h) (fun E ce q9 u t1 H1 locs1 ht hvm _ hB _ hk hS h1 h2 h3 => ?_) (fun y u t1 H locs ht hvm hw hB _ hk hS => ?_)
    · exact absurd (hx27.symm.trans hB.1.1) (fun z => nomatch z)
    obtain rfl : x26 = y := Option.some.inj (hx27.symm.trans hw)
    replace Z := aZ_post Z ht hvm hB hS
    refine W.widen (k := (t + 2)) (n := 12 * (t + 2)) (by omega) (by omega) ?_
    refine lv_bipush (v := 15) C0.1.1 C0.1.2.1 dL_areCellsSo_96 (by decide +kernel) ?_
    refine lv_icmp_gt (tgt := 137) C0.1.1 C0.1.2.1 dL_areCellsSo_98 (by decide) (fun hc => ?_) (fun hc => ?_)
    · replace h := (if_pos hc).symm.trans h
      exact wL_areCellsSo_137 C0 hA hN hT hlf hret hr6 v1 v3 v6 _ _ _ (t + 2) (by omega) h Z (lv_sub hl [0, 1, 2, 4] rfl)
    · replace h := (if_neg hc).symm.trans h
      refine lv_aload_n C0.1.1 C0.1.2.1 dL_areCellsSo_101 rfl (lv_at hl 0 rfl) ?_
      refine lv_iload_n C0.1.1 C0.1.2.1 dL_areCellsSo_102 rfl (lv_at hl 2 rfl) ?_
      obtain ⟨x28, hx29, h⟩ := g_bd h
      refine vx_calli (vx_runV (b := d 0) (C := RX3) (As := [.int v3]) (rest := []) C0.1 (o_signs l hlf D cyI cyJ cyO A bs hA F d σ v3) (cwV 1 C0.1.2.2.2.2 gL_areCellsSo_X3_signs rfl rfl rfl (by decide +kernel) ⟨Nat.le_of_ble_eq_true rfl, Nat.le_of_ble_eq_true rfl⟩) ⟨aP_blind, aZ_recv Z, aP_pre Z hN hT _⟩ rfl rfl hl.1 rfl (lv_room (Nat.le_of_ble_eq_true rfl)) dL_areCellsSo_103 ⟨by show (t + 2) + 1 ≤ 2273; omega, by show 12 * (t + 2) + 6 ≤ 27276; omega⟩) (aZ_S Z) (fun _ _ h => h) (fun _ h => h) (fun _ _ h => h) (fun E ce q9 u t1 H1 locs1 ht hvm _ hB _ hk hS h1 h2 h3 => ?_) (fun y u t1 H locs ht hvm hw hB _ hk hS => ?_)
      · exact absurd (hx29.symm.trans hB.1.1) (fun z => nomatch z)
      obtain rfl : x28 = y := Option.some.inj (hx29.symm.trans hw)
      replace Z := aZ_post Z ht hvm hB hS
      refine W.widen (k := (t + 3)) (n := 12 * (t + 3)) (by omega) (by omega) ?_
      refine lv_if_gt (tgt := 124) C0.1.1 C0.1.2.1 dL_areCellsSo_106 (by decide) (fun hc => ?_) (fun hc => ?_)
      · replace h := (if_pos hc).symm.trans h
        exact wL_areCellsSo_124 C0 hA hN hT hlf hret hr6 v1 v3 v6 _ _ _ (t + 3) (by omega) h Z (lv_sub hl [0, 1, 2, 4] rfl)
      · replace h := (if_neg hc).symm.trans h
        refine lv_lload C0.1.1 C0.1.2.1 dL_areCellsSo_109 (lv_at hl 3 rfl) ?_
        refine lv_lconst (v := 0) C0.1.1 C0.1.2.1 dL_areCellsSo_111 (by decide) ?_
        refine W.lcmp C0.1.1 C0.1.2.1 dL_areCellsSo_112 ?_
        refine lv_if_ne (tgt := 137) C0.1.1 C0.1.2.1 dL_areCellsSo_113 (by decide) (fun hc => ?_) (fun hc => ?_)
        · replace h := (if_neg hc).symm.trans h
          exact wL_areCellsSo_137 C0 hA hN hT hlf hret hr6 v1 v3 v6 _ _ _ (t + 3) (by omega) h Z (lv_sub hl [0, 1, 2, 4] rfl)
        · replace h := (if_pos hc).symm.trans h
          refine lv_aload_n C0.1.1 C0.1.2.1 dL_areCellsSo_116 rfl (lv_at hl 0 rfl) ?_
          refine lv_iload_n C0.1.1 C0.1.2.1 dL_areCellsSo_117 rfl (lv_at hl 2 rfl) ?_
          obtain ⟨x30, hx31, h⟩ := g_bd h
          refine vx_calli (vx_runV (b := d 0) (C := RX3) (As := [.int v3]) (rest := []) C0.1 (o_level l hlf D cyI cyJ cyO A bs hA F d σ v3) (cwV 1 C0.1.2.2.2.2 gL_areCellsSo_X3_level rfl rfl rfl (by decide +kernel) ⟨Nat.le_of_ble_eq_true rfl, Nat.le_of_ble_eq_true rfl⟩) ⟨aP_blind, aZ_recv Z, aP_pre Z hN hT _⟩ rfl rfl hl.1 rfl (lv_room (Nat.le_of_ble_eq_true rfl)) dL_areCellsSo_118 ⟨by show (t + 3) + 1 ≤ 2273; omega, by show 12 * (t + 3) + 6 ≤ 27276; omega⟩) (aZ_S Z) (fun _ _ h => h) (fun _ h => h) (fun _ _ h => h) (fun E ce q9 u t1 H1 locs1 ht hvm _ hB _ hk hS h1 h2 h3 => ?_) (fun y u t1 H locs ht hvm hw hB _ hk hS => ?_)
          · exact absurd (hx31.symm.trans hB.1.1) (fun z => nomatch z)
          obtain rfl : x30 = y := Option.some.inj (hx31.symm.trans hw)
          replace Z := aZ_post Z ht hvm hB hS
          refine W.widen (k := (t + 4)) (n := 12 * (t + 4)) (by omega) (by omega) ?_
          refine lv_if_ne (tgt := 137) C0.1.1 C0.1.2.1 dL_areCellsSo_121 (by decide) (fun hc => ?_) (fun hc => ?_)
          · replace h := (if_neg hc).symm.trans h
            exact wL_areCellsSo_137 C0 hA hN hT hlf hret hr6 v1 v3 v6 _ _ _ (t + 4) (by omega) h Z (lv_sub hl [0, 1, 2, 4] rfl)
          · replace h := (if_pos hc).symm.trans h
            exact wL_areCellsSo_124 C0 hA hN hT hlf hret hr6 v1 v3 v6 _ _ _ (t + 4) (by omega) h Z (lv_sub hl [0, 1, 2, 4] rfl)
set_option maxRecDepth 20000 in
set_option maxHeartbeats 4000000 in
theorem wL_areCellsSo_42 {p : Program} {l : Launch} {e : Env} {s : State} {m : MethodId} {args : Array Value} {below : List Frame} {meth : Method} {c : Code} {D : va_G} {cyI cyJ cyO : ClassId} {A : Nat → Prop} {bs : Nat} {d : Nat → Nat} {F : va_W} {Q : State → Prop} {σ : St} {res : Int32} (C0 : gC p m meth c cL_areCellsSo 10 (some .boolean) s args wsL_areCellsSo RL) (hA : ∀ q, bs ≤ q → A q) (hN : lQN s) (hT : dT A s) (hlf : l.stackTraces = false) (hret : ∀ (r : Int32) (H : Heap) (locs : List Loc) (pc : Nat) (ls : Array Slot) (t : Nat), t ≤ 2273 → (r = 0 ∨ r = 1) → some r = some res → aZ F D cyI cyJ cyO A bs d σ s H locs → decode cL_areCellsSo pc = .ok (.ireturn, 1) → W p l e rmL_areCellsSo s m args below meth c H locs t (12 * t) Q (F0 m pc ls [.int r])) {r6 : Int32 → Int32 → Int32 → Option (Int32)} {n6 : Nat} (hr6 : ∀ (v1 : Int32) (v2 : Int32) (v3 : Int32) (H : Heap) (locs : List Loc) (ls : Array Slot) (t : Nat), t + (72 + n6 * 71) ≤ 2273 → r6 v1 v2 v3 = some res → aZ F D cyI cyJ cyO A bs d σ s H locs → lv_has ls 10 [(0, .ref (d 0)), (1, .int v1), (2, .int v2), (3, .int v3)] → W p l e rmL_areCellsSo s m args below meth c H locs t (12 * t) Q (F0 m 6 ls [])) : ∀ (v3 : Int32) (v4 : Int64) (v6 : Int32) (s0 : Int32) (s1 : Int32) (H : Heap) (locs : List Loc) (ls : Array Slot) (t : Nat), t + (141 + n6 * 71) ≤ 2273 → mL_areCellsSo_42 σ r6 v3 v4 v6 s0 s1 = some res → aZ F D cyI cyJ cyO A bs d σ s H locs → lv_has ls 10 [(0, .ref (d 0)), (3, .int v3), (4, .long v4), (6, .int v6)] → W p l e rmL_areCellsSo s m args below meth c H locs t (12 * t) Q (F0 m 42 ls [.int s1, .int s0]) := by
  intro v3 v4 v6 s0 s1 H locs ls t ht0 h Z hl
  unfold mL_areCellsSo_42 at h
  refine lv_iadd C0.1.1 C0.1.2.1 dL_areCellsSo_42 ?_
  refine lv_istore_n (lv' := [(1, .int (s0 + s1)), (0, .ref (d 0)), (3, .int v3), (4, .long v4), (6, .int v6)]) C0.1.1 C0.1.2.1 dL_areCellsSo_43 rfl hl (by decide) rfl (fun ls hl => ?_)
  refine lv_lload C0.1.1 C0.1.2.1 dL_areCellsSo_44 (lv_at hl 3 rfl) ?_
  refine lv_aload_n C0.1.1 C0.1.2.1 dL_areCellsSo_46 rfl (lv_at hl 1 rfl) ?_
  refine lv_iload_n C0.1.1 C0.1.2.1 dL_areCellsSo_47 rfl (lv_at hl 2 rfl) ?_
  refine lv_iconst (v := 1) C0.1.1 C0.1.2.1 dL_areCellsSo_48 (by decide) ?_
  obtain ⟨x32, hx33, h⟩ := g_bd h
  refine va_calll (vx_runSW (As := [.ref (d 0), .int v3, .int (1 : Int32)]) (rest := [.long v4]) C0.1 (zL_value l hlf D cyI cyJ cyO A bs hA F d σ v3 (1 : Int32) x32 hx33) (vx_cwSW 3 C0.1.2.2.2.2 gL_areCellsSo_L_value rfl rfl rfl (by decide +kernel) ⟨Nat.le_of_ble_eq_true rfl, Nat.le_of_ble_eq_true rfl⟩) ⟨aP_blind, aP_pre Z hN hT _⟩ rfl rfl hl.1 rfl (lv_room (Nat.le_of_ble_eq_true rfl)) dL_areCellsSo_49 ⟨by show t + 2 ≤ 2273; omega, by show 12 * t + 24 ≤ 27276; omega⟩) (aZ_S Z) (fun _ _ h => h) (fun _ h => h) (fun y u t1 H locs ht hvm hw hB _ hk hS => ?_)
  replace Z := aZ_post Z ht hvm hB hS
  subst hw
  refine W.widen (k := (t + 2)) (n := 12 * (t + 2)) (by omega) (by omega) ?_
  refine W.lcmp C0.1.1 C0.1.2.1 dL_areCellsSo_52 ?_
  refine lv_if_ne (tgt := 137) C0.1.1 C0.1.2.1 dL_areCellsSo_53 (by decide) (fun hc => ?_) (fun hc => ?_)
  · replace h := (if_neg hc).symm.trans h
    exact wL_areCellsSo_137 C0 hA hN hT hlf hret hr6 (s0 + s1) v3 v6 _ _ _ (t + 2) (by omega) h Z (lv_sub hl [1, 0, 2, 4] rfl)
  · replace h := (if_pos hc).symm.trans h
    refine lv_lload C0.1.1 C0.1.2.1 dL_areCellsSo_56 (lv_at hl 3 rfl) ?_
    refine lv_ldc2 C0.1.1 C0.1.2.1 C0.1.2.2.2.1 (C0.1.2.2.2.2 _ kL_areCellsSo_c62) dL_areCellsSo_58 ?_
    refine W.lcmp C0.1.1 C0.1.2.1 dL_areCellsSo_61 ?_
    refine lv_if_eq (tgt := 83) C0.1.1 C0.1.2.1 dL_areCellsSo_62 (by decide) (fun hc => ?_) (fun hc => ?_)
    · replace h := (if_pos hc).symm.trans h
      exact wL_areCellsSo_83 C0 hA hN hT hlf hret hr6 (s0 + s1) v3 v4 v6 _ _ _ (t + 2) (by omega) h Z (lv_sub hl [1, 0, 2, 3, 4] rfl)
    · replace h := (if_neg hc).symm.trans h
      refine lv_lload C0.1.1 C0.1.2.1 dL_areCellsSo_65 (lv_at hl 3 rfl) ?_
      refine lv_ldc2 C0.1.1 C0.1.2.1 C0.1.2.2.2.1 (C0.1.2.2.2.2 _ kL_areCellsSo_c107) dL_areCellsSo_67 ?_
      refine W.lcmp C0.1.1 C0.1.2.1 dL_areCellsSo_70 ?_
      refine lv_if_lt (tgt := 137) C0.1.1 C0.1.2.1 dL_areCellsSo_71 (by decide) (fun hc => ?_) (fun hc => ?_)
      · replace h := (if_pos hc).symm.trans h
        exact wL_areCellsSo_137 C0 hA hN hT hlf hret hr6 (s0 + s1) v3 v6 _ _ _ (t + 2) (by omega) h Z (lv_sub hl [1, 0, 2, 4] rfl)
      · replace h := (if_neg hc).symm.trans h
        refine lv_lload C0.1.1 C0.1.2.1 dL_areCellsSo_74 (lv_at hl 3 rfl) ?_
        refine lv_ldc2 C0.1.1 C0.1.2.1 C0.1.2.2.2.1 (C0.1.2.2.2.2 _ kL_areCellsSo_c109) dL_areCellsSo_76 ?_
        refine W.lcmp C0.1.1 C0.1.2.1 dL_areCellsSo_79 ?_
        refine lv_if_gt (tgt := 137) C0.1.1 C0.1.2.1 dL_areCellsSo_80 (by decide) (fun hc => ?_) (fun hc => ?_)
        · replace h := (if_pos hc).symm.trans h
          exact wL_areCellsSo_137 C0 hA hN hT hlf hret hr6 (s0 + s1) v3 v6 _ _ _ (t + 2) (by omega) h Z (lv_sub hl [1, 0, 2, 4] rfl)
        · replace h := (if_neg hc).symm.trans h
          exact wL_areCellsSo_83 C0 hA hN hT hlf hret hr6 (s0 + s1) v3 v4 v6 _ _ _ (t + 2) (by omega) h Z (lv_sub hl [1, 0, 2, 3, 4] rfl)
set_option maxRecDepth 20000 in
set_option maxHeartbeats 4000000 in
theorem wL_areCellsSo_6_b {p : Program} {l : Launch} {e : Env} {s : State} {m : MethodId} {args : Array Value} {below : List Frame} {meth : Method} {c : Code} {D : va_G} {cyI cyJ cyO : ClassId} {A : Nat → Prop} {bs : Nat} {d : Nat → Nat} {F : va_W} {Q : State → Prop} {σ : St} {res : Int32} (C0 : gC p m meth c cL_areCellsSo 10 (some .boolean) s args wsL_areCellsSo RL) (hA : ∀ q, bs ≤ q → A q) (hN : lQN s) (hT : dT A s) (hlf : l.stackTraces = false) (hret : ∀ (r : Int32) (H : Heap) (locs : List Loc) (pc : Nat) (ls : Array Slot) (t : Nat), t ≤ 2273 → (r = 0 ∨ r = 1) → some r = some res → aZ F D cyI cyJ cyO A bs d σ s H locs → decode cL_areCellsSo pc = .ok (.ireturn, 1) → W p l e rmL_areCellsSo s m args below meth c H locs t (12 * t) Q (F0 m pc ls [.int r])) {r6 : Int32 → Int32 → Int32 → Option (Int32)} {n6 : Nat} (hr6 : ∀ (v1 : Int32) (v2 : Int32) (v3 : Int32) (H : Heap) (locs : List Loc) (ls : Array Slot) (t : Nat), t + (72 + n6 * 71) ≤ 2273 → r6 v1 v2 v3 = some res → aZ F D cyI cyJ cyO A bs d σ s H locs → lv_has ls 10 [(0, .ref (d 0)), (1, .int v1), (2, .int v2), (3, .int v3)] → W p l e rmL_areCellsSo s m args below meth c H locs t (12 * t) Q (F0 m 6 ls [])) : ∀ (v1 : Int32) (v2 : Int32) (v3 : Int32) (H : Heap) (locs : List Loc) (ls : Array Slot) (t : Nat), t + (143 + n6 * 71) ≤ 2273 → mL_areCellsSo_6_b σ r6 v1 v2 v3 = some res → aZ F D cyI cyJ cyO A bs d σ s H locs → lv_has ls 10 [(0, .ref (d 0)), (1, .int v1), (2, .int v2), (3, .int v3)] → W p l e rmL_areCellsSo s m args below meth c H locs t (12 * t) Q (F0 m 6 ls []) := by
  intro v1 v2 v3 H locs ls t ht0 h Z hl
  unfold mL_areCellsSo_6_b at h
  refine lv_iload_n C0.1.1 C0.1.2.1 dL_areCellsSo_6 rfl (lv_at hl 3 rfl) ?_
  refine lv_bipush (v := 30) C0.1.1 C0.1.2.1 dL_areCellsSo_7 (by decide +kernel) ?_
  refine lv_icmp_ge (tgt := 306) C0.1.1 C0.1.2.1 dL_areCellsSo_9 (by decide) (fun hc => ?_) (fun hc => ?_)
  · replace h := (if_pos hc).symm.trans h
    exact wL_areCellsSo_306 C0 hA hN hT hlf hret v1 v2 _ _ _ t (by omega) h Z (lv_sub hl [0, 1, 2] rfl)
  · replace h := (if_neg hc).symm.trans h
    refine lv_iload_n C0.1.1 C0.1.2.1 dL_areCellsSo_12 rfl (lv_at hl 2 rfl) ?_
    refine lv_if_eq (tgt := 306) C0.1.1 C0.1.2.1 dL_areCellsSo_13 (by decide) (fun hc => ?_) (fun hc => ?_)
    · replace h := (if_pos hc).symm.trans h
      exact wL_areCellsSo_306 C0 hA hN hT hlf hret v1 v2 _ _ _ t (by omega) h Z (lv_sub hl [0, 1, 2] rfl)
    · replace h := (if_neg hc).symm.trans h
      refine lv_aload_n C0.1.1 C0.1.2.1 dL_areCellsSo_16 rfl (lv_at hl 0 rfl) ?_
      refine lv_iload_n C0.1.1 C0.1.2.1 dL_areCellsSo_17 rfl (lv_at hl 3 rfl) ?_
      refine lv_iconst (v := 0) C0.1.1 C0.1.2.1 dL_areCellsSo_18 (by decide) ?_
      obtain ⟨x34, hx35, h⟩ := g_bd h
      refine va_calll (vx_runSW (As := [.ref (d 0), .int v3, .int (0 : Int32)]) (rest := []) C0.1 (zL_value l hlf D cyI cyJ cyO A bs hA F d σ v3 (0 : Int32) x34 hx35) (vx_cwSW 3 C0.1.2.2.2.2 gL_areCellsSo_L_value rfl rfl rfl (by decide +kernel) ⟨Nat.le_of_ble_eq_true rfl, Nat.le_of_ble_eq_true rfl⟩) ⟨aP_blind, aP_pre Z hN hT _⟩ rfl rfl hl.1 rfl (lv_room (Nat.le_of_ble_eq_true rfl)) dL_areCellsSo_19 ⟨by show t + 2 ≤ 2273; omega, by show 12 * t + 24 ≤ 27276; omega⟩) (aZ_S Z) (fun _ _ h => h) (fun _ h => h) (fun y u t1 H locs ht hvm hw hB _ hk hS => ?_)
      replace Z := aZ_post Z ht hvm hB hS
      subst hw
      refine W.widen (k := (t + 2)) (n := 12 * (t + 2)) (by omega) (by omega) ?_
      refine lv_lstore (lv' := [(4, .long x34), (0, .ref (d 0)), (1, .int v1), (2, .int v2), (3, .int v3)]) C0.1.1 C0.1.2.1 dL_areCellsSo_22 hl (by decide) rfl (fun ls hl => ?_)
      refine lv_iconst (v := 0) C0.1.1 C0.1.2.1 dL_areCellsSo_24 (by decide) ?_
      refine lv_istore (lv' := [(6, .int (0 : Int32)), (4, .long x34), (0, .ref (d 0)), (1, .int v1), (2, .int v2), (3, .int v3)]) C0.1.1 C0.1.2.1 dL_areCellsSo_25 hl (by decide) rfl (fun ls hl => ?_)
      refine lv_iload_n C0.1.1 C0.1.2.1 dL_areCellsSo_27 rfl (lv_at hl 3 rfl) ?_
      refine lv_lload C0.1.1 C0.1.2.1 dL_areCellsSo_28 (lv_at hl 1 rfl) ?_
      refine lv_ldc2 C0.1.1 C0.1.2.1 C0.1.2.2.2.1 (C0.1.2.2.2.2 _ kL_areCellsSo_c62) dL_areCellsSo_30 ?_
      refine W.lcmp C0.1.1 C0.1.2.1 dL_areCellsSo_33 ?_
      refine lv_if_ne (tgt := 41) C0.1.1 C0.1.2.1 dL_areCellsSo_34 (by decide) (fun hc => ?_) (fun hc => ?_)
      · replace h := (if_neg hc).symm.trans h
        refine lv_iconst (v := 0) C0.1.1 C0.1.2.1 dL_areCellsSo_41 (by decide) ?_
        exact wL_areCellsSo_42 C0 hA hN hT hlf hret hr6 v3 x34 (0 : Int32) v1 (0 : Int32) _ _ _ (t + 2) (by omega) h Z (lv_sub hl [2, 5, 1, 0] rfl)
      · replace h := (if_pos hc).symm.trans h
        refine lv_iconst (v := 1) C0.1.1 C0.1.2.1 dL_areCellsSo_37 (by decide) ?_
        refine lv_goto (tgt := 42) C0.1.1 C0.1.2.1 dL_areCellsSo_38 (by decide) ?_
        exact wL_areCellsSo_42 C0 hA hN hT hlf hret hr6 v3 x34 (0 : Int32) v1 (1 : Int32) _ _ _ (t + 2) (by omega) h Z (lv_sub hl [2, 5, 1, 0] rfl)
theorem wL_areCellsSo_6 {p : Program} {l : Launch} {e : Env} {s : State} {m : MethodId} {args : Array Value} {below : List Frame} {meth : Method} {c : Code} {D : va_G} {cyI cyJ cyO : ClassId} {A : Nat → Prop} {bs : Nat} {d : Nat → Nat} {F : va_W} {Q : State → Prop} {σ : St} {res : Int32} (C0 : gC p m meth c cL_areCellsSo 10 (some .boolean) s args wsL_areCellsSo RL) (hA : ∀ q, bs ≤ q → A q) (hN : lQN s) (hT : dT A s) (hlf : l.stackTraces = false) (hret : ∀ (r : Int32) (H : Heap) (locs : List Loc) (pc : Nat) (ls : Array Slot) (t : Nat), t ≤ 2273 → (r = 0 ∨ r = 1) → some r = some res → aZ F D cyI cyJ cyO A bs d σ s H locs → decode cL_areCellsSo pc = .ok (.ireturn, 1) → W p l e rmL_areCellsSo s m args below meth c H locs t (12 * t) Q (F0 m pc ls [.int r]))  : ∀ (n_ : Nat), ∀ (v1 : Int32) (v2 : Int32) (v3 : Int32) (H : Heap) (locs : List Loc) (ls : Array Slot) (t : Nat), t + (72 + n_ * 71) ≤ 2273 → mL_areCellsSo_6 σ n_ v1 v2 v3 = some res → aZ F D cyI cyJ cyO A bs d σ s H locs → lv_has ls 10 [(0, .ref (d 0)), (1, .int v1), (2, .int v2), (3, .int v3)] → W p l e rmL_areCellsSo s m args below meth c H locs t (12 * t) Q (F0 m 6 ls []) := by
  intro n_
  induction n_ with
  | zero => intro _ _ _ _ _ _ _ _ h; cases h
  | succ n_ ih =>
    intro v1 v2 v3 H locs ls t ht0 h Z hl
    exact wL_areCellsSo_6_b C0 hA hN hT hlf hret ih v1 v2 v3 H locs ls t (by omega) h Z hl
set_option maxRecDepth 20000 in
set_option maxHeartbeats 4000000 in
theorem zL_areCellsSo (l : Launch) (hlf : l.stackTraces = false) (D : va_G) (cyI cyJ cyO : ClassId) (A : Nat → Prop) (bs : Nat) (hA : ∀ q, bs ≤ q → A q) (F : va_W) (d : Nat → Nat) (σ : St)  (res : Int32) (h : mL_areCellsSo σ = some res) : Met l yL_areCellsSo wsL_areCellsSo rmL_areCellsSo (va_Pc [.ref (d 0)] (lP (aW F D cyI cyJ cyO A bs d σ) A)) (va_Qi (fun (r : Int32) (_ : Unit) => res = r) (fun (u : Unit) => aW F D cyI cyJ cyO A bs d σ) A) 2273 27276 A := by
  refine Met.ofW (cc := cL_areCellsSo) (maxL := 10) (ret := (some .boolean)) (by decide) rfl ?_
  intro p e s m args below meth c s₁ B hml hv
  obtain ⟨hav, hv⟩ := hv
  obtain ⟨hv, hN, hT⟩ := hv
  have C0 : gC p m meth c cL_areCellsSo 10 (some .boolean) s args wsL_areCellsSo RL := ⟨⟨B.exec, B.bytes, hml, findClass_of_methodNamed B.named, atoms_spec (ws := wsL_areCellsSo) B.pre⟩, B.returns, B.notSynchronized⟩
  have Z := aZ_start hA hv
  have hret : ∀ (r : Int32) (H : Heap) (locs : List Loc) (pc : Nat) (ls : Array Slot) (t : Nat), t ≤ 2273 → (r = 0 ∨ r = 1) → some r = some res → aZ F D cyI cyJ cyO A bs d σ s H locs → decode cL_areCellsSo pc = .ok (.ireturn, 1) → W p l e rmL_areCellsSo s m args below meth c H locs t (12 * t) (MQ below (va_Qi (fun (r : Int32) (_ : Unit) => res = r) (fun (u : Unit) => aW F D cyI cyJ cyO A bs d σ) A) args s 2273 27276 A) (F0 m pc ls [.int r]) := by
    intro r H locs pc ls t ht1 hb9 h Z hd
    replace h := Option.some.inj h
    subst h
    refine W.widen (k := 2273) (n := 27276) (by omega) (by omega) ?_
    exact W.zret C0.1.1 C0.1.2.1 C0.2.1 (g_nb hb9) (fun t ht hW => ⟨⟨r, (), rfl, rfl, aZ_end Z ht hW⟩, va_S.F (aZ_S Z) ht⟩) (aZ_S Z).2.2 hd C0.2.2
  have hl := lv_entry ([.ref (d 0)]) (n := 10) (Nat.le_of_ble_eq_true rfl)
  rw [hav, lg_entry_eq]
  generalize (lg_sl ([.ref (d 0)]) ++ List.replicate (10 - (lg_sl ([.ref (d 0)])).length) Slot.unset).toArray = ls at hl ⊢
  have hl : lv_has ls 10 [(0, .ref (d 0))] := hl
  rw [← hav]
  unfold mL_areCellsSo at h
  obtain ⟨t, ht0⟩ : ∃ t : Nat, t = 0 := ⟨0, rfl⟩
  refine W.widen (k := t) (n := 12 * t) (Nat.zero_le _) (Nat.zero_le _) ?_
  refine lv_iconst (v := 0) C0.1.1 C0.1.2.1 dL_areCellsSo_0 (by decide) ?_
  refine lv_istore_n (lv' := [(1, .int (0 : Int32)), (0, .ref (d 0))]) C0.1.1 C0.1.2.1 dL_areCellsSo_1 rfl hl (by decide) rfl (fun ls hl => ?_)
  refine lv_iconst (v := 1) C0.1.1 C0.1.2.1 dL_areCellsSo_2 (by decide) ?_
  refine lv_istore_n (lv' := [(2, .int (1 : Int32)), (1, .int (0 : Int32)), (0, .ref (d 0))]) C0.1.1 C0.1.2.1 dL_areCellsSo_3 rfl hl (by decide) rfl (fun ls hl => ?_)
  refine lv_iconst (v := 0) C0.1.1 C0.1.2.1 dL_areCellsSo_4 (by decide) ?_
  refine lv_istore_n (lv' := [(3, .int (0 : Int32)), (2, .int (1 : Int32)), (1, .int (0 : Int32)), (0, .ref (d 0))]) C0.1.1 C0.1.2.1 dL_areCellsSo_5 rfl hl (by decide) rfl (fun ls hl => ?_)
  exact wL_areCellsSo_6 C0 hA hN hT hlf hret 31 (0 : Int32) (1 : Int32) (0 : Int32) _ _ _ t (by omega) h Z (lv_sub hl [3, 2, 1, 0] rfl)
