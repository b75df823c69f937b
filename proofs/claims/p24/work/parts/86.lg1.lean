/-! the walk of L_act -/
abbrev rmL_act : Room := { frames := 64, cells := 4, slots := 48, locals := 1576 }
theorem kL_act_c85 : Cond.constant RL 85 (90000) ∈ wsL_act := by decide +kernel
theorem kL_act_c75 : Cond.constant RL 75 (1200000) ∈ wsL_act := by decide +kernel
set_option maxRecDepth 20000 in
set_option maxHeartbeats 4000000 in
theorem wL_act_364 {p : Program} {l : Launch} {e : Env} {s : State} {m : MethodId} {args : Array Value} {below : List Frame} {meth : Method} {c : Code} {D : va_G} {cyI cyJ cyO : ClassId} {A : Nat → Prop} {bs : Nat} {d : Nat → Nat} {F : va_W} {Q : State → Prop} {res : Int32 × St} (C0 : gC p m meth c cL_act 7 (some .int) s args wsL_act RL) (hA : ∀ q, bs ≤ q → A q) (hN : lQN s) (hT : dT A s) (hlf : l.stackTraces = false) (hret : ∀ (r : Int32) (σ_r : St) (H : Heap) (locs : List Loc) (pc : Nat) (ls : Array Slot) (t : Nat), t ≤ 4 → some (r, σ_r) = some res → aZ F D cyI cyJ cyO A bs d σ_r s H locs → decode cL_act pc = .ok (.ireturn, 1) → W p l e rmL_act s m args below meth c H locs t (12 * t) Q (F0 m pc ls [.int r]))  : ∀ (σ : St) (s1 : Int32) (s2 : Int32) (s3 : Int32) (s4 : Int32) (s5 : Int32) (H : Heap) (locs : List Loc) (ls : Array Slot) (t : Nat), t + (4) ≤ 4 → mL_act_364 σ s1 s2 s3 s4 s5 = some res → aZ F D cyI cyJ cyO A bs d σ s H locs → lv_has ls 7 [] → W p l e rmL_act s m args below meth c H locs t (12 * t) Q (F0 m 364 ls [.int s5, .int s4, .int s3, .int s2, .int s1, .ref (d 0)]) := by
  intro σ s1 s2 s3 s4 s5 H locs ls t ht0 h Z hl
  unfold mL_act_364 at h
  obtain ⟨x1, hx2, h⟩ := g_bd h
  refine va_calli (vx_runSW (As := [.ref (d 0), .int s1, .int s2, .int s3, .int s4, .int s5]) (rest := []) C0.1 (zL_seek l hlf D cyI cyJ cyO A bs hA F d σ s1 s2 s3 s4 s5 x1 hx2) (vx_cwSW 6 C0.1.2.2.2.2 gL_act_L_seek rfl rfl rfl (by decide +kernel) ⟨Nat.le_of_ble_eq_true rfl, Nat.le_of_ble_eq_true rfl⟩) ⟨aP_blind, aP_pre Z hN hT _⟩ rfl rfl hl.1 rfl (lv_room (Nat.le_of_ble_eq_true rfl)) dL_act_364 ⟨by show t + 4 ≤ 4; omega, by show 12 * t + 48 ≤ 48; omega⟩) (aZ_S Z) (fun _ _ h => h) (fun _ h => h) (fun y u t1 H locs ht hvm hw hB _ hk hS => ?_)
  replace Z := aZ_post Z ht hvm hB hS
  obtain ⟨rfl, rfl⟩ := hw
  refine W.widen (k := (t + 4)) (n := 12 * (t + 4)) (by omega) (by omega) ?_
  exact hret x1.1 x1.2 _ _ _ _ (t + 4) (by omega) h Z dL_act_367
set_option maxRecDepth 20000 in
set_option maxHeartbeats 4000000 in
theorem wL_act_315 {p : Program} {l : Launch} {e : Env} {s : State} {m : MethodId} {args : Array Value} {below : List Frame} {meth : Method} {c : Code} {D : va_G} {cyI cyJ cyO : ClassId} {A : Nat → Prop} {bs : Nat} {d : Nat → Nat} {F : va_W} {Q : State → Prop} {res : Int32 × St} (C0 : gC p m meth c cL_act 7 (some .int) s args wsL_act RL) (hA : ∀ q, bs ≤ q → A q) (hN : lQN s) (hT : dT A s) (hlf : l.stackTraces = false) (hret : ∀ (r : Int32) (σ_r : St) (H : Heap) (locs : List Loc) (pc : Nat) (ls : Array Slot) (t : Nat), t ≤ 4 → some (r, σ_r) = some res → aZ F D cyI cyJ cyO A bs d σ_r s H locs → decode cL_act pc = .ok (.ireturn, 1) → W p l e rmL_act s m args below meth c H locs t (12 * t) Q (F0 m pc ls [.int r]))  : ∀ (σ : St) (v1 : Int32) (v2 : Int32) (v4 : Int32) (v5 : Int32) (s1 : Int32) (s2 : Int32) (H : Heap) (locs : List Loc) (ls : Array Slot) (t : Nat), t + (4) ≤ 4 → mL_act_315 σ v1 v2 v4 v5 s1 s2 = some res → aZ F D cyI cyJ cyO A bs d σ s H locs → lv_has ls 7 [(1, .int v1), (2, .int v2), (4, .int v4), (5, .int v5)] → W p l e rmL_act s m args below meth c H locs t (12 * t) Q (F0 m 315 ls [.int s2, .int s1, .ref (d 0)]) := by
  intro σ v1 v2 v4 v5 s1 s2 H locs ls t ht0 h Z hl
  unfold mL_act_315 at h
  obtain ⟨x3, hx4, h⟩ := g_bd h
  refine va_calli (va_runS (As := [.int s1, .int s2]) (rest := [.ref (d 0)]) C0.1 (zL_low l s1 s2 x3 hx4) (va_cwS 2 C0.1.2.2.2.2 gL_act_L_low rfl rfl rfl (by decide +kernel) ⟨Nat.le_of_ble_eq_true rfl, Nat.le_of_ble_eq_true rfl⟩) ⟨pu_blind, fun U _ _ => ⟨rfl, trivial⟩⟩ rfl rfl hl.1 rfl (lv_room (Nat.le_of_ble_eq_true rfl)) dL_act_315 ⟨by show t + 0 ≤ 4; omega, by show 12 * t + 0 ≤ 48; omega⟩) (aZ_S Z) (fun _ _ h => h.elim) (fun _ h => h.elim) (fun y u t1 H locs ht hvm hw hB _ hk hS => ?_)
  subst hw
  replace Z := aZ_keep Z hk hS
  refine lv_iload_n C0.1.1 C0.1.2.1 dL_act_318 rfl (lv_at hl 0 rfl) ?_
  refine lv_iconst (v := 5) C0.1.1 C0.1.2.1 dL_act_319 (by decide) ?_
  refine lv_ishr C0.1.1 C0.1.2.1 dL_act_320 ?_
  refine lv_sipush (v := 20000) C0.1.1 C0.1.2.1 dL_act_321 (by decide +kernel) ?_
  obtain ⟨x5, hx6, h⟩ := g_bd h
  refine va_calli (va_runS (As := [.int (v1 >>> ((5 : Int32) &&& 31)), .int (20000 : Int32)]) (rest := [.int x3, .ref (d 0)]) C0.1 (zL_low l (v1 >>> ((5 : Int32) &&& 31)) (20000 : Int32) x5 hx6) (va_cwS 2 C0.1.2.2.2.2 gL_act_L_low rfl rfl rfl (by decide +kernel) ⟨Nat.le_of_ble_eq_true rfl, Nat.le_of_ble_eq_true rfl⟩) ⟨pu_blind, fun U _ _ => ⟨rfl, trivial⟩⟩ rfl rfl hl.1 rfl (lv_room (Nat.le_of_ble_eq_true rfl)) dL_act_324 ⟨by show t + 0 ≤ 4; omega, by show 12 * t + 0 ≤ 48; omega⟩) (aZ_S Z) (fun _ _ h => h.elim) (fun _ h => h.elim) (fun y u t1 H locs ht hvm hw hB _ hk hS => ?_)
  subst hw
  replace Z := aZ_keep Z hk hS
  refine lv_sipush (v := 1000) C0.1.1 C0.1.2.1 dL_act_327 (by decide +kernel) ?_
  refine lv_isub C0.1.1 C0.1.2.1 dL_act_330 ?_
  refine lv_iload C0.1.1 C0.1.2.1 dL_act_331 (lv_at hl 2 rfl) ?_
  refine lv_iload C0.1.1 C0.1.2.1 dL_act_333 (lv_at hl 3 rfl) ?_
  refine lv_iload_n C0.1.1 C0.1.2.1 dL_act_335 rfl (lv_at hl 1 rfl) ?_
  refine lv_if_eq (tgt := 352) C0.1.1 C0.1.2.1 dL_act_336 (by decide) (fun hc => ?_) (fun hc => ?_)
  · replace h := (if_pos hc).symm.trans h
    refine lv_iload C0.1.1 C0.1.2.1 dL_act_352 (lv_at hl 3 rfl) ?_
    refine lv_iload_n C0.1.1 C0.1.2.1 dL_act_354 rfl (lv_at hl 0 rfl) ?_
    refine lv_bipush (v := 6) C0.1.1 C0.1.2.1 dL_act_355 (by decide +kernel) ?_
    refine lv_ishr C0.1.1 C0.1.2.1 dL_act_357 ?_
    refine lv_ldc C0.1.1 C0.1.2.1 C0.1.2.2.2.1 (C0.1.2.2.2.2 _ kL_act_c85) dL_act_358 ?_
    obtain ⟨x7, hx8, h⟩ := g_bd h
    refine va_calli (va_runS (As := [.int (v1 >>> ((6 : Int32) &&& 31)), .int (90000 : Int32)]) (rest := [.int v5, .int v5, .int v4, .int (x5 - (1000 : Int32)), .int x3, .ref (d 0)]) C0.1 (zL_low l (v1 >>> ((6 : Int32) &&& 31)) (90000 : Int32) x7 hx8) (va_cwS 2 C0.1.2.2.2.2 gL_act_L_low rfl rfl rfl (by decide +kernel) ⟨Nat.le_of_ble_eq_true rfl, Nat.le_of_ble_eq_true rfl⟩) ⟨pu_blind, fun U _ _ => ⟨rfl, trivial⟩⟩ rfl rfl hl.1 rfl (lv_room (Nat.le_of_ble_eq_true rfl)) dL_act_360 ⟨by show t + 0 ≤ 4; omega, by show 12 * t + 0 ≤ 48; omega⟩) (aZ_S Z) (fun _ _ h => h.elim) (fun _ h => h.elim) (fun y u t1 H locs ht hvm hw hB _ hk hS => ?_)
    subst hw
    replace Z := aZ_keep Z hk hS
    refine lv_iadd C0.1.1 C0.1.2.1 dL_act_363 ?_
    exact wL_act_364 C0 hA hN hT hlf hret σ x3 (x5 - (1000 : Int32)) v4 v5 (v5 + x7) _ _ _ t (by omega) h Z (lv_sub hl [] rfl)
  · replace h := (if_neg hc).symm.trans h
    refine lv_iload_n C0.1.1 C0.1.2.1 dL_act_339 rfl (lv_at hl 0 rfl) ?_
    refine lv_bipush (v := 6) C0.1.1 C0.1.2.1 dL_act_340 (by decide +kernel) ?_
    refine lv_ishr C0.1.1 C0.1.2.1 dL_act_342 ?_
    refine lv_sipush (v := 400) C0.1.1 C0.1.2.1 dL_act_343 (by decide +kernel) ?_
    obtain ⟨x9, hx10, h⟩ := g_bd h
    refine va_calli (va_runS (As := [.int (v1 >>> ((6 : Int32) &&& 31)), .int (400 : Int32)]) (rest := [.int v5, .int v4, .int (x5 - (1000 : Int32)), .int x3, .ref (d 0)]) C0.1 (zL_low l (v1 >>> ((6 : Int32) &&& 31)) (400 : Int32) x9 hx10) (va_cwS 2 C0.1.2.2.2.2 gL_act_L_low rfl rfl rfl (by decide +kernel) ⟨Nat.le_of_ble_eq_true rfl, Nat.le_of_ble_eq_true rfl⟩) ⟨pu_blind, fun U _ _ => ⟨rfl, trivial⟩⟩ rfl rfl hl.1 rfl (lv_room (Nat.le_of_ble_eq_true rfl)) dL_act_346 ⟨by show t + 0 ≤ 4; omega, by show 12 * t + 0 ≤ 48; omega⟩) (aZ_S Z) (fun _ _ h => h.elim) (fun _ h => h.elim) (fun y u t1 H locs ht hvm hw hB _ hk hS => ?_)
    subst hw
    replace Z := aZ_keep Z hk hS
    refine lv_goto (tgt := 364) C0.1.1 C0.1.2.1 dL_act_349 (by decide) ?_
    exact wL_act_364 C0 hA hN hT hlf hret σ x3 (x5 - (1000 : Int32)) v4 v5 x9 _ _ _ t (by omega) h Z (lv_sub hl [] rfl)
set_option maxRecDepth 20000 in
set_option maxHeartbeats 4000000 in
theorem wL_act_283 {p : Program} {l : Launch} {e : Env} {s : State} {m : MethodId} {args : Array Value} {below : List Frame} {meth : Method} {c : Code} {D : va_G} {cyI cyJ cyO : ClassId} {A : Nat → Prop} {bs : Nat} {d : Nat → Nat} {F : va_W} {Q : State → Prop} {res : Int32 × St} (C0 : gC p m meth c cL_act 7 (some .int) s args wsL_act RL) (hA : ∀ q, bs ≤ q → A q) (hN : lQN s) (hT : dT A s) (hlf : l.stackTraces = false) (hret : ∀ (r : Int32) (σ_r : St) (H : Heap) (locs : List Loc) (pc : Nat) (ls : Array Slot) (t : Nat), t ≤ 4 → some (r, σ_r) = some res → aZ F D cyI cyJ cyO A bs d σ_r s H locs → decode cL_act pc = .ok (.ireturn, 1) → W p l e rmL_act s m args below meth c H locs t (12 * t) Q (F0 m pc ls [.int r]))  : ∀ (σ : St) (s1 : Int32) (H : Heap) (locs : List Loc) (ls : Array Slot) (t : Nat), t + (4) ≤ 4 → mL_act_283 σ s1 = some res → aZ F D cyI cyJ cyO A bs d σ s H locs → lv_has ls 7 [] → W p l e rmL_act s m args below meth c H locs t (12 * t) Q (F0 m 283 ls [.int s1, .ref (d 0)]) := by
  intro σ s1 H locs ls t ht0 h Z hl
  unfold mL_act_283 at h
  refine lv_iconst (v := 0) C0.1.1 C0.1.2.1 dL_act_283 (by decide) ?_
  obtain ⟨x11, hx12, h⟩ := g_bd h
  refine va_calli (vx_runSW (As := [.ref (d 0), .int s1, .int (0 : Int32)]) (rest := []) C0.1 (zL_does l hlf D cyI cyJ cyO A bs hA F d σ s1 (0 : Int32) x11 hx12) (vx_cwSW 3 C0.1.2.2.2.2 gL_act_L_does rfl rfl rfl (by decide +kernel) ⟨Nat.le_of_ble_eq_true rfl, Nat.le_of_ble_eq_true rfl⟩) ⟨aP_blind, aP_pre Z hN hT _⟩ rfl rfl hl.1 rfl (lv_room (Nat.le_of_ble_eq_true rfl)) dL_act_284 ⟨by show t + 4 ≤ 4; omega, by show 12 * t + 48 ≤ 48; omega⟩) (aZ_S Z) (fun _ _ h => h) (fun _ h => h) (fun y u t1 H locs ht hvm hw hB _ hk hS => ?_)
  replace Z := aZ_post Z ht hvm hB hS
  obtain ⟨rfl, rfl⟩ := hw
  refine W.widen (k := (t + 4)) (n := 12 * (t + 4)) (by omega) (by omega) ?_
  exact hret x11.1 x11.2 _ _ _ _ (t + 4) (by omega) h Z dL_act_287
set_option maxRecDepth 20000 in
set_option maxHeartbeats 4000000 in
theorem wL_act_255 {p : Program} {l : Launch} {e : Env} {s : State} {m : MethodId} {args : Array Value} {below : List Frame} {meth : Method} {c : Code} {D : va_G} {cyI cyJ cyO : ClassId} {A : Nat → Prop} {bs : Nat} {d : Nat → Nat} {F : va_W} {Q : State → Prop} {res : Int32 × St} (C0 : gC p m meth c cL_act 7 (some .int) s args wsL_act RL) (hA : ∀ q, bs ≤ q → A q) (hN : lQN s) (hT : dT A s) (hlf : l.stackTraces = false) (hret : ∀ (r : Int32) (σ_r : St) (H : Heap) (locs : List Loc) (pc : Nat) (ls : Array Slot) (t : Nat), t ≤ 4 → some (r, σ_r) = some res → aZ F D cyI cyJ cyO A bs d σ_r s H locs → decode cL_act pc = .ok (.ireturn, 1) → W p l e rmL_act s m args below meth c H locs t (12 * t) Q (F0 m pc ls [.int r]))  : ∀ (σ : St) (s1 : Int32) (s2 : Int32) (s3 : Int32) (H : Heap) (locs : List Loc) (ls : Array Slot) (t : Nat), t + (4) ≤ 4 → mL_act_255 σ s1 s2 s3 = some res → aZ F D cyI cyJ cyO A bs d σ s H locs → lv_has ls 7 [] → W p l e rmL_act s m args below meth c H locs t (12 * t) Q (F0 m 255 ls [.int s3, .int s2, .int s1, .ref (d 0)]) := by
  intro σ s1 s2 s3 H locs ls t ht0 h Z hl
  unfold mL_act_255 at h
  obtain ⟨x13, hx14, h⟩ := g_bd h
  refine va_calli (va_runS (As := [.int s2, .int s3]) (rest := [.int s1, .ref (d 0)]) C0.1 (zL_low l s2 s3 x13 hx14) (va_cwS 2 C0.1.2.2.2.2 gL_act_L_low rfl rfl rfl (by decide +kernel) ⟨Nat.le_of_ble_eq_true rfl, Nat.le_of_ble_eq_true rfl⟩) ⟨pu_blind, fun U _ _ => ⟨rfl, trivial⟩⟩ rfl rfl hl.1 rfl (lv_room (Nat.le_of_ble_eq_true rfl)) dL_act_255 ⟨by show t + 0 ≤ 4; omega, by show 12 * t + 0 ≤ 48; omega⟩) (aZ_S Z) (fun _ _ h => h.elim) (fun _ h => h.elim) (fun y u t1 H locs ht hvm hw hB _ hk hS => ?_)
  subst hw
  replace Z := aZ_keep Z hk hS
  obtain ⟨x15, hx16, h⟩ := g_bd h
  refine va_calli (vx_runSW (As := [.ref (d 0), .int s1, .int x13]) (rest := []) C0.1 (zL_put l hlf D cyI cyJ cyO A bs hA F d σ s1 x13 x15 hx16) (vx_cwSW 3 C0.1.2.2.2.2 gL_act_L_put rfl rfl rfl (by decide +kernel) ⟨Nat.le_of_ble_eq_true rfl, Nat.le_of_ble_eq_true rfl⟩) ⟨aP_blind, aP_pre Z hN hT _⟩ rfl rfl hl.1 rfl (lv_room (Nat.le_of_ble_eq_true rfl)) dL_act_258 ⟨by show t + 4 ≤ 4; omega, by show 12 * t + 48 ≤ 48; omega⟩) (aZ_S Z) (fun _ _ h => h) (fun _ h => h) (fun y u t1 H locs ht hvm hw hB _ hk hS => ?_)
  replace Z := aZ_post Z ht hvm hB hS
  obtain ⟨rfl, rfl⟩ := hw
  refine W.widen (k := (t + 4)) (n := 12 * (t + 4)) (by omega) (by omega) ?_
  exact hret x15.1 x15.2 _ _ _ _ (t + 4) (by omega) h Z dL_act_261
set_option maxRecDepth 20000 in
set_option maxHeartbeats 4000000 in
theorem wL_act_229 {p : Program} {l : Launch} {e : Env} {s : State} {m : MethodId} {args : Array Value} {below : List Frame} {meth : Method} {c : Code} {D : va_G} {cyI cyJ cyO : ClassId} {A : Nat → Prop} {bs : Nat} {d : Nat → Nat} {F : va_W} {Q : State → Prop} {res : Int32 × St} (C0 : gC p m meth c cL_act 7 (some .int) s args wsL_act RL) (hA : ∀ q, bs ≤ q → A q) (hN : lQN s) (hT : dT A s) (hlf : l.stackTraces = false) (hret : ∀ (r : Int32) (σ_r : St) (H : Heap) (locs : List Loc) (pc : Nat) (ls : Array Slot) (t : Nat), t ≤ 4 → some (r, σ_r) = some res → aZ F D cyI cyJ cyO A bs d σ_r s H locs → decode cL_act pc = .ok (.ireturn, 1) → W p l e rmL_act s m args below meth c H locs t (12 * t) Q (F0 m pc ls [.int r]))  : ∀ (σ : St) (s0 : Int32) (H : Heap) (locs : List Loc) (ls : Array Slot) (t : Nat), t + (0) ≤ 4 → mL_act_229 σ s0 = some res → aZ F D cyI cyJ cyO A bs d σ s H locs → lv_has ls 7 [] → W p l e rmL_act s m args below meth c H locs t (12 * t) Q (F0 m 229 ls [.int s0]) := by
  intro σ s0 H locs ls t ht0 h Z hl
  unfold mL_act_229 at h
  exact hret s0 σ _ _ _ _ t (by omega) h Z dL_act_229
set_option maxRecDepth 20000 in
set_option maxHeartbeats 4000000 in
theorem wL_act_185 {p : Program} {l : Launch} {e : Env} {s : State} {m : MethodId} {args : Array Value} {below : List Frame} {meth : Method} {c : Code} {D : va_G} {cyI cyJ cyO : ClassId} {A : Nat → Prop} {bs : Nat} {d : Nat → Nat} {F : va_W} {Q : State → Prop} {res : Int32 × St} (C0 : gC p m meth c cL_act 7 (some .int) s args wsL_act RL) (hA : ∀ q, bs ≤ q → A q) (hN : lQN s) (hT : dT A s) (hlf : l.stackTraces = false) (hret : ∀ (r : Int32) (σ_r : St) (H : Heap) (locs : List Loc) (pc : Nat) (ls : Array Slot) (t : Nat), t ≤ 4 → some (r, σ_r) = some res → aZ F D cyI cyJ cyO A bs d σ_r s H locs → decode cL_act pc = .ok (.ireturn, 1) → W p l e rmL_act s m args below meth c H locs t (12 * t) Q (F0 m pc ls [.int r]))  : ∀ (σ : St) (s1 : Int32) (s2 : Int32) (H : Heap) (locs : List Loc) (ls : Array Slot) (t : Nat), t + (4) ≤ 4 → mL_act_185 σ s1 s2 = some res → aZ F D cyI cyJ cyO A bs d σ s H locs → lv_has ls 7 [] → W p l e rmL_act s m args below meth c H locs t (12 * t) Q (F0 m 185 ls [.int s2, .int s1, .ref (d 0)]) := by
  intro σ s1 s2 H locs ls t ht0 h Z hl
  unfold mL_act_185 at h
  obtain ⟨x17, hx18, h⟩ := g_bd h
  refine va_calli (vx_runSW (As := [.ref (d 0), .int s1, .int s2]) (rest := []) C0.1 (zL_does l hlf D cyI cyJ cyO A bs hA F d σ s1 s2 x17 hx18) (vx_cwSW 3 C0.1.2.2.2.2 gL_act_L_does rfl rfl rfl (by decide +kernel) ⟨Nat.le_of_ble_eq_true rfl, Nat.le_of_ble_eq_true rfl⟩) ⟨aP_blind, aP_pre Z hN hT _⟩ rfl rfl hl.1 rfl (lv_room (Nat.le_of_ble_eq_true rfl)) dL_act_185 ⟨by show t + 4 ≤ 4; omega, by show 12 * t + 48 ≤ 48; omega⟩) (aZ_S Z) (fun _ _ h => h) (fun _ h => h) (fun y u t1 H locs ht hvm hw hB _ hk hS => ?_)
  replace Z := aZ_post Z ht hvm hB hS
  obtain ⟨rfl, rfl⟩ := hw
  refine W.widen (k := (t + 4)) (n := 12 * (t + 4)) (by omega) (by omega) ?_
  exact hret x17.1 x17.2 _ _ _ _ (t + 4) (by omega) h Z dL_act_188
set_option maxRecDepth 20000 in
set_option maxHeartbeats 4000000 in
theorem wL_act_182 {p : Program} {l : Launch} {e : Env} {s : State} {m : MethodId} {args : Array Value} {below : List Frame} {meth : Method} {c : Code} {D : va_G} {cyI cyJ cyO : ClassId} {A : Nat → Prop} {bs : Nat} {d : Nat → Nat} {F : va_W} {Q : State → Prop} {res : Int32 × St} (C0 : gC p m meth c cL_act 7 (some .int) s args wsL_act RL) (hA : ∀ q, bs ≤ q → A q) (hN : lQN s) (hT : dT A s) (hlf : l.stackTraces = false) (hret : ∀ (r : Int32) (σ_r : St) (H : Heap) (locs : List Loc) (pc : Nat) (ls : Array Slot) (t : Nat), t ≤ 4 → some (r, σ_r) = some res → aZ F D cyI cyJ cyO A bs d σ_r s H locs → decode cL_act pc = .ok (.ireturn, 1) → W p l e rmL_act s m args below meth c H locs t (12 * t) Q (F0 m pc ls [.int r]))  : ∀ (σ : St) (s1 : Int32) (s2 : Int32) (s3 : Int32) (H : Heap) (locs : List Loc) (ls : Array Slot) (t : Nat), t + (4) ≤ 4 → mL_act_182 σ s1 s2 s3 = some res → aZ F D cyI cyJ cyO A bs d σ s H locs → lv_has ls 7 [] → W p l e rmL_act s m args below meth c H locs t (12 * t) Q (F0 m 182 ls [.int s3, .int s2, .int s1, .ref (d 0)]) := by
  intro σ s1 s2 s3 H locs ls t ht0 h Z hl
  unfold mL_act_182 at h
  obtain ⟨x19, hx20, h⟩ := g_bd h
  refine va_calli (va_runS (As := [.int s2, .int s3]) (rest := [.int s1, .ref (d 0)]) C0.1 (zL_low l s2 s3 x19 hx20) (va_cwS 2 C0.1.2.2.2.2 gL_act_L_low rfl rfl rfl (by decide +kernel) ⟨Nat.le_of_ble_eq_true rfl, Nat.le_of_ble_eq_true rfl⟩) ⟨pu_blind, fun U _ _ => ⟨rfl, trivial⟩⟩ rfl rfl hl.1 rfl (lv_room (Nat.le_of_ble_eq_true rfl)) dL_act_182 ⟨by show t + 0 ≤ 4; omega, by show 12 * t + 0 ≤ 48; omega⟩) (aZ_S Z) (fun _ _ h => h.elim) (fun _ h => h.elim) (fun y u t1 H locs ht hvm hw hB _ hk hS => ?_)
  subst hw
  replace Z := aZ_keep Z hk hS
  exact wL_act_185 C0 hA hN hT hlf hret σ s1 x19 _ _ _ t (by omega) h Z (lv_sub hl [] rfl)
set_option maxRecDepth 20000 in
set_option maxHeartbeats 4000000 in
theorem wL_act_141 {p : Program} {l : Launch} {e : Env} {s : State} {m : MethodId} {args : Array Value} {below : List Frame} {meth : Method} {c : Code} {D : va_G} {cyI cyJ cyO : ClassId} {A : Nat → Prop} {bs : Nat} {d : Nat → Nat} {F : va_W} {Q : State → Prop} {res : Int32 × St} (C0 : gC p m meth c cL_act 7 (some .int) s args wsL_act RL) (hA : ∀ q, bs ≤ q → A q) (hN : lQN s) (hT : dT A s) (hlf : l.stackTraces = false) (hret : ∀ (r : Int32) (σ_r : St) (H : Heap) (locs : List Loc) (pc : Nat) (ls : Array Slot) (t : Nat), t ≤ 4 → some (r, σ_r) = some res → aZ F D cyI cyJ cyO A bs d σ_r s H locs → decode cL_act pc = .ok (.ireturn, 1) → W p l e rmL_act s m args below meth c H locs t (12 * t) Q (F0 m pc ls [.int r]))  : ∀ (σ : St) (s1 : Int32) (s2 : Int32) (s3 : Int32) (H : Heap) (locs : List Loc) (ls : Array Slot) (t : Nat), t + (4) ≤ 4 → mL_act_141 σ s1 s2 s3 = some res → aZ F D cyI cyJ cyO A bs d σ s H locs → lv_has ls 7 [] → W p l e rmL_act s m args below meth c H locs t (12 * t) Q (F0 m 141 ls [.int s3, .int s2, .int s1, .ref (d 0)]) := by
  intro σ s1 s2 s3 H locs ls t ht0 h Z hl
  unfold mL_act_141 at h
  obtain ⟨x21, hx22, h⟩ := g_bd h
  refine va_calli (va_runS (As := [.int s2, .int s3]) (rest := [.int s1, .ref (d 0)]) C0.1 (zL_low l s2 s3 x21 hx22) (va_cwS 2 C0.1.2.2.2.2 gL_act_L_low rfl rfl rfl (by decide +kernel) ⟨Nat.le_of_ble_eq_true rfl, Nat.le_of_ble_eq_true rfl⟩) ⟨pu_blind, fun U _ _ => ⟨rfl, trivial⟩⟩ rfl rfl hl.1 rfl (lv_room (Nat.le_of_ble_eq_true rfl)) dL_act_141 ⟨by show t + 0 ≤ 4; omega, by show 12 * t + 0 ≤ 48; omega⟩) (aZ_S Z) (fun _ _ h => h.elim) (fun _ h => h.elim) (fun y u t1 H locs ht hvm hw hB _ hk hS => ?_)
  subst hw
  replace Z := aZ_keep Z hk hS
  refine lv_goto (tgt := 185) C0.1.1 C0.1.2.1 dL_act_144 (by decide) ?_
  exact wL_act_185 C0 hA hN hT hlf hret σ s1 x21 _ _ _ t (by omega) h Z (lv_sub hl [] rfl)
set_option maxRecDepth 20000 in
set_option maxHeartbeats 4000000 in
theorem wL_act_115 {p : Program} {l : Launch} {e : Env} {s : State} {m : MethodId} {args : Array Value} {below : List Frame} {meth : Method} {c : Code} {D : va_G} {cyI cyJ cyO : ClassId} {A : Nat → Prop} {bs : Nat} {d : Nat → Nat} {F : va_W} {Q : State → Prop} {res : Int32 × St} (C0 : gC p m meth c cL_act 7 (some .int) s args wsL_act RL) (hA : ∀ q, bs ≤ q → A q) (hN : lQN s) (hT : dT A s) (hlf : l.stackTraces = false) (hret : ∀ (r : Int32) (σ_r : St) (H : Heap) (locs : List Loc) (pc : Nat) (ls : Array Slot) (t : Nat), t ≤ 4 → some (r, σ_r) = some res → aZ F D cyI cyJ cyO A bs d σ_r s H locs → decode cL_act pc = .ok (.ireturn, 1) → W p l e rmL_act s m args below meth c H locs t (12 * t) Q (F0 m pc ls [.int r]))  : ∀ (σ : St) (v1 : Int32) (v2 : Int32) (v4 : Int32) (v5 : Int32) (s0 : Int32) (H : Heap) (locs : List Loc) (ls : Array Slot) (t : Nat), t + (4) ≤ 4 → mL_act_115 σ v1 v2 v4 v5 s0 = some res → aZ F D cyI cyJ cyO A bs d σ s H locs → lv_has ls 7 [(0, .ref (d 0)), (1, .int v1), (2, .int v2), (4, .int v4), (5, .int v5)] → W p l e rmL_act s m args below meth c H locs t (12 * t) Q (F0 m 115 ls [.int s0]) := by
  intro σ v1 v2 v4 v5 s0 H locs ls t ht0 h Z hl
  unfold mL_act_115 at h
  refine lv_istore (lv' := [(6, .int s0), (0, .ref (d 0)), (1, .int v1), (2, .int v2), (4, .int v4), (5, .int v5)]) C0.1.1 C0.1.2.1 dL_act_115 hl (by decide) rfl (fun ls hl => ?_)
  refine lv_aload_n C0.1.1 C0.1.2.1 dL_act_117 rfl (lv_at hl 1 rfl) ?_
  refine lv_iload C0.1.1 C0.1.2.1 dL_act_118 (lv_at hl 0 rfl) ?_
  refine lv_iload C0.1.1 C0.1.2.1 dL_act_120 (lv_at hl 0 rfl) ?_
  refine lv_if_ne (tgt := 147) C0.1.1 C0.1.2.1 dL_act_122 (by decide) (fun hc => ?_) (fun hc => ?_)
  · replace h := (if_neg hc).symm.trans h
    refine lv_iload C0.1.1 C0.1.2.1 dL_act_147 (lv_at hl 0 rfl) ?_
    refine lv_iconst (v := 1) C0.1.1 C0.1.2.1 dL_act_149 (by decide) ?_
    refine lv_icmp_ne (tgt := 158) C0.1.1 C0.1.2.1 dL_act_150 (by decide) (fun hc => ?_) (fun hc => ?_)
    · replace h := (if_neg hc).symm.trans h
      refine lv_iload_n C0.1.1 C0.1.2.1 dL_act_158 rfl (lv_at hl 2 rfl) ?_
      refine lv_bipush (v := 8) C0.1.1 C0.1.2.1 dL_act_159 (by decide +kernel) ?_
      refine lv_ishr C0.1.1 C0.1.2.1 dL_act_161 ?_
      refine lv_iload_n C0.1.1 C0.1.2.1 dL_act_162 rfl (lv_at hl 3 rfl) ?_
      refine lv_if_eq (tgt := 171) C0.1.1 C0.1.2.1 dL_act_163 (by decide) (fun hc => ?_) (fun hc => ?_)
      · replace h := (if_pos hc).symm.trans h
        refine lv_iload C0.1.1 C0.1.2.1 dL_act_171 (lv_at hl 5 rfl) ?_
        refine lv_if_eq (tgt := 181) C0.1.1 C0.1.2.1 dL_act_173 (by decide) (fun hc => ?_) (fun hc => ?_)
        · replace h := (if_pos hc).symm.trans h
          refine lv_iconst (v := 4) C0.1.1 C0.1.2.1 dL_act_181 (by decide) ?_
          exact wL_act_182 C0 hA hN hT hlf hret σ s0 (v1 >>> ((8 : Int32) &&& 31)) (4 : Int32) _ _ _ t (by omega) h Z (lv_sub hl [] rfl)
        · replace h := (if_neg hc).symm.trans h
          refine lv_bipush (v := 6) C0.1.1 C0.1.2.1 dL_act_176 (by decide +kernel) ?_
          refine lv_goto (tgt := 182) C0.1.1 C0.1.2.1 dL_act_178 (by decide) ?_
          exact wL_act_182 C0 hA hN hT hlf hret σ s0 (v1 >>> ((8 : Int32) &&& 31)) (6 : Int32) _ _ _ t (by omega) h Z (lv_sub hl [] rfl)
      · replace h := (if_neg hc).symm.trans h
        refine lv_bipush (v := 8) C0.1.1 C0.1.2.1 dL_act_166 (by decide +kernel) ?_
        refine lv_goto (tgt := 182) C0.1.1 C0.1.2.1 dL_act_168 (by decide) ?_
        exact wL_act_182 C0 hA hN hT hlf hret σ s0 (v1 >>> ((8 : Int32) &&& 31)) (8 : Int32) _ _ _ t (by omega) h Z (lv_sub hl [] rfl)
    · replace h := (if_pos hc).symm.trans h
      refine lv_iload C0.1.1 C0.1.2.1 dL_act_153 (lv_at hl 4 rfl) ?_
      refine lv_goto (tgt := 185) C0.1.1 C0.1.2.1 dL_act_155 (by decide) ?_
      exact wL_act_185 C0 hA hN hT hlf hret σ s0 v4 _ _ _ t (by omega) h Z (lv_sub hl [] rfl)
  · replace h := (if_pos hc).symm.trans h
    refine lv_iload_n C0.1.1 C0.1.2.1 dL_act_125 rfl (lv_at hl 2 rfl) ?_
    refine lv_bipush (v := 8) C0.1.1 C0.1.2.1 dL_act_126 (by decide +kernel) ?_
    refine lv_ishr C0.1.1 C0.1.2.1 dL_act_128 ?_
    refine lv_iload_n C0.1.1 C0.1.2.1 dL_act_129 rfl (lv_at hl 3 rfl) ?_
    refine lv_if_eq (tgt := 138) C0.1.1 C0.1.2.1 dL_act_130 (by decide) (fun hc => ?_) (fun hc => ?_)
    · replace h := (if_pos hc).symm.trans h
      refine lv_sipush (v := 4000) C0.1.1 C0.1.2.1 dL_act_138 (by decide +kernel) ?_
      exact wL_act_141 C0 hA hN hT hlf hret σ s0 (v1 >>> ((8 : Int32) &&& 31)) (4000 : Int32) _ _ _ t (by omega) h Z (lv_sub hl [] rfl)
    · replace h := (if_neg hc).symm.trans h
      refine lv_ldc C0.1.1 C0.1.2.1 C0.1.2.2.2.1 (C0.1.2.2.2.2 _ kL_act_c75) dL_act_133 ?_
      refine lv_goto (tgt := 141) C0.1.1 C0.1.2.1 dL_act_135 (by decide) ?_
      exact wL_act_141 C0 hA hN hT hlf hret σ s0 (v1 >>> ((8 : Int32) &&& 31)) (1200000 : Int32) _ _ _ t (by omega) h Z (lv_sub hl [] rfl)
set_option maxRecDepth 20000 in
set_option maxHeartbeats 4000000 in
theorem wL_act_79 {p : Program} {l : Launch} {e : Env} {s : State} {m : MethodId} {args : Array Value} {below : List Frame} {meth : Method} {c : Code} {D : va_G} {cyI cyJ cyO : ClassId} {A : Nat → Prop} {bs : Nat} {d : Nat → Nat} {F : va_W} {Q : State → Prop} {res : Int32 × St} (C0 : gC p m meth c cL_act 7 (some .int) s args wsL_act RL) (hA : ∀ q, bs ≤ q → A q) (hN : lQN s) (hT : dT A s) (hlf : l.stackTraces = false) (hret : ∀ (r : Int32) (σ_r : St) (H : Heap) (locs : List Loc) (pc : Nat) (ls : Array Slot) (t : Nat), t ≤ 4 → some (r, σ_r) = some res → aZ F D cyI cyJ cyO A bs d σ_r s H locs → decode cL_act pc = .ok (.ireturn, 1) → W p l e rmL_act s m args below meth c H locs t (12 * t) Q (F0 m pc ls [.int r]))  : ∀ (σ : St) (v1 : Int32) (v2 : Int32) (v4 : Int32) (s0 : Int32) (H : Heap) (locs : List Loc) (ls : Array Slot) (t : Nat), t + (4) ≤ 4 → mL_act_79 σ v1 v2 v4 s0 = some res → aZ F D cyI cyJ cyO A bs d σ s H locs → lv_has ls 7 [(0, .ref (d 0)), (1, .int v1), (2, .int v2), (4, .int v4)] → W p l e rmL_act s m args below meth c H locs t (12 * t) Q (F0 m 79 ls [.int s0]) := by
  intro σ v1 v2 v4 s0 H locs ls t ht0 h Z hl
  unfold mL_act_79 at h
  refine lv_istore (lv' := [(5, .int s0), (0, .ref (d 0)), (1, .int v1), (2, .int v2), (4, .int v4)]) C0.1.1 C0.1.2.1 dL_act_79 hl (by decide) rfl (fun ls hl => ?_)
  refine lv_iload_n C0.1.1 C0.1.2.1 dL_act_81 rfl (lv_at hl 3 rfl) ?_
  refine lv_if_eq (tgt := 96) C0.1.1 C0.1.2.1 dL_act_82 (by decide) (fun hc => ?_) (fun hc => ?_)
  · replace h := (if_pos hc).symm.trans h
    refine lv_iload C0.1.1 C0.1.2.1 dL_act_96 (lv_at hl 0 rfl) ?_
    refine lv_if_eq (tgt := 114) C0.1.1 C0.1.2.1 dL_act_98 (by decide) (fun hc => ?_) (fun hc => ?_)
    · replace h := (if_pos hc).symm.trans h
      refine lv_iconst (v := 2) C0.1.1 C0.1.2.1 dL_act_114 (by decide) ?_
      exact wL_act_115 C0 hA hN hT hlf hret σ v1 v2 v4 s0 (2 : Int32) _ _ _ t (by omega) h Z (lv_sub hl [1, 2, 3, 4, 0] rfl)
    · replace h := (if_neg hc).symm.trans h
      refine lv_iconst (v := 1) C0.1.1 C0.1.2.1 dL_act_101 (by decide) ?_
      refine lv_iload_n C0.1.1 C0.1.2.1 dL_act_102 rfl (lv_at hl 2 rfl) ?_
      refine lv_bipush (v := 6) C0.1.1 C0.1.2.1 dL_act_103 (by decide +kernel) ?_
      refine lv_ishr C0.1.1 C0.1.2.1 dL_act_105 ?_
      refine lv_iconst (v := 2) C0.1.1 C0.1.2.1 dL_act_106 (by decide) ?_
      obtain ⟨x23, hx24, h⟩ := g_bd h
      refine va_calli (va_runS (As := [.int (v1 >>> ((6 : Int32) &&& 31)), .int (2 : Int32)]) (rest := [.int (1 : Int32)]) C0.1 (zL_low l (v1 >>> ((6 : Int32) &&& 31)) (2 : Int32) x23 hx24) (va_cwS 2 C0.1.2.2.2.2 gL_act_L_low rfl rfl rfl (by decide +kernel) ⟨Nat.le_of_ble_eq_true rfl, Nat.le_of_ble_eq_true rfl⟩) ⟨pu_blind, fun U _ _ => ⟨rfl, trivial⟩⟩ rfl rfl hl.1 rfl (lv_room (Nat.le_of_ble_eq_true rfl)) dL_act_107 ⟨by show t + 0 ≤ 4; omega, by show 12 * t + 0 ≤ 48; omega⟩) (aZ_S Z) (fun _ _ h => h.elim) (fun _ h => h.elim) (fun y u t1 H locs ht hvm hw hB _ hk hS => ?_)
      subst hw
      replace Z := aZ_keep Z hk hS
      refine lv_isub C0.1.1 C0.1.2.1 dL_act_110 ?_
      refine lv_goto (tgt := 115) C0.1.1 C0.1.2.1 dL_act_111 (by decide) ?_
      exact wL_act_115 C0 hA hN hT hlf hret σ v1 v2 v4 s0 ((1 : Int32) - x23) _ _ _ t (by omega) h Z (lv_sub hl [1, 2, 3, 4, 0] rfl)
  · replace h := (if_neg hc).symm.trans h
    refine lv_iload_n C0.1.1 C0.1.2.1 dL_act_85 rfl (lv_at hl 2 rfl) ?_
    refine lv_bipush (v := 6) C0.1.1 C0.1.2.1 dL_act_86 (by decide +kernel) ?_
    refine lv_ishr C0.1.1 C0.1.2.1 dL_act_88 ?_
    refine lv_iconst (v := 3) C0.1.1 C0.1.2.1 dL_act_89 (by decide) ?_
    obtain ⟨x25, hx26, h⟩ := g_bd h
    refine va_calli (va_runS (As := [.int (v1 >>> ((6 : Int32) &&& 31)), .int (3 : Int32)]) (rest := []) C0.1 (zL_low l (v1 >>> ((6 : Int32) &&& 31)) (3 : Int32) x25 hx26) (va_cwS 2 C0.1.2.2.2.2 gL_act_L_low rfl rfl rfl (by decide +kernel) ⟨Nat.le_of_ble_eq_true rfl, Nat.le_of_ble_eq_true rfl⟩) ⟨pu_blind, fun U _ _ => ⟨rfl, trivial⟩⟩ rfl rfl hl.1 rfl (lv_room (Nat.le_of_ble_eq_true rfl)) dL_act_90 ⟨by show t + 0 ≤ 4; omega, by show 12 * t + 0 ≤ 48; omega⟩) (aZ_S Z) (fun _ _ h => h.elim) (fun _ h => h.elim) (fun y u t1 H locs ht hvm hw hB _ hk hS => ?_)
    subst hw
    replace Z := aZ_keep Z hk hS
    refine lv_goto (tgt := 115) C0.1.1 C0.1.2.1 dL_act_93 (by decide) ?_
    exact wL_act_115 C0 hA hN hT hlf hret σ v1 v2 v4 s0 x25 _ _ _ t (by omega) h Z (lv_sub hl [1, 2, 3, 4, 0] rfl)
set_option maxRecDepth 20000 in
set_option maxHeartbeats 4000000 in
theorem wL_act_78 {p : Program} {l : Launch} {e : Env} {s : State} {m : MethodId} {args : Array Value} {below : List Frame} {meth : Method} {c : Code} {D : va_G} {cyI cyJ cyO : ClassId} {A : Nat → Prop} {bs : Nat} {d : Nat → Nat} {F : va_W} {Q : State → Prop} {res : Int32 × St} (C0 : gC p m meth c cL_act 7 (some .int) s args wsL_act RL) (hA : ∀ q, bs ≤ q → A q) (hN : lQN s) (hT : dT A s) (hlf : l.stackTraces = false) (hret : ∀ (r : Int32) (σ_r : St) (H : Heap) (locs : List Loc) (pc : Nat) (ls : Array Slot) (t : Nat), t ≤ 4 → some (r, σ_r) = some res → aZ F D cyI cyJ cyO A bs d σ_r s H locs → decode cL_act pc = .ok (.ireturn, 1) → W p l e rmL_act s m args below meth c H locs t (12 * t) Q (F0 m pc ls [.int r]))  : ∀ (σ : St) (v1 : Int32) (v2 : Int32) (v4 : Int32) (H : Heap) (locs : List Loc) (ls : Array Slot) (t : Nat), t + (4) ≤ 4 → mL_act_78 σ v1 v2 v4 = some res → aZ F D cyI cyJ cyO A bs d σ s H locs → lv_has ls 7 [(0, .ref (d 0)), (1, .int v1), (2, .int v2), (4, .int v4)] → W p l e rmL_act s m args below meth c H locs t (12 * t) Q (F0 m 78 ls []) := by
  intro σ v1 v2 v4 H locs ls t ht0 h Z hl
  unfold mL_act_78 at h
  refine lv_iconst (v := 0) C0.1.1 C0.1.2.1 dL_act_78 (by decide) ?_
  exact wL_act_79 C0 hA hN hT hlf hret σ v1 v2 v4 (0 : Int32) _ _ _ t (by omega) h Z (lv_sub hl [0, 1, 2, 3] rfl)
set_option maxRecDepth 20000 in
set_option maxHeartbeats 4000000 in
theorem wL_act_74 {p : Program} {l : Launch} {e : Env} {s : State} {m : MethodId} {args : Array Value} {below : List Frame} {meth : Method} {c : Code} {D : va_G} {cyI cyJ cyO : ClassId} {A : Nat → Prop} {bs : Nat} {d : Nat → Nat} {F : va_W} {Q : State → Prop} {res : Int32 × St} (C0 : gC p m meth c cL_act 7 (some .int) s args wsL_act RL) (hA : ∀ q, bs ≤ q → A q) (hN : lQN s) (hT : dT A s) (hlf : l.stackTraces = false) (hret : ∀ (r : Int32) (σ_r : St) (H : Heap) (locs : List Loc) (pc : Nat) (ls : Array Slot) (t : Nat), t ≤ 4 → some (r, σ_r) = some res → aZ F D cyI cyJ cyO A bs d σ_r s H locs → decode cL_act pc = .ok (.ireturn, 1) → W p l e rmL_act s m args below meth c H locs t (12 * t) Q (F0 m pc ls [.int r]))  : ∀ (σ : St) (v1 : Int32) (v2 : Int32) (v4 : Int32) (H : Heap) (locs : List Loc) (ls : Array Slot) (t : Nat), t + (4) ≤ 4 → mL_act_74 σ v1 v2 v4 = some res → aZ F D cyI cyJ cyO A bs d σ s H locs → lv_has ls 7 [(0, .ref (d 0)), (1, .int v1), (2, .int v2), (4, .int v4)] → W p l e rmL_act s m args below meth c H locs t (12 * t) Q (F0 m 74 ls []) := by
  intro σ v1 v2 v4 H locs ls t ht0 h Z hl
  unfold mL_act_74 at h
  refine lv_iconst (v := 1) C0.1.1 C0.1.2.1 dL_act_74 (by decide) ?_
  refine lv_goto (tgt := 79) C0.1.1 C0.1.2.1 dL_act_75 (by decide) ?_
  exact wL_act_79 C0 hA hN hT hlf hret σ v1 v2 v4 (1 : Int32) _ _ _ t (by omega) h Z (lv_sub hl [0, 1, 2, 3] rfl)
set_option maxRecDepth 20000 in
set_option maxHeartbeats 4000000 in
theorem wL_act_39 {p : Program} {l : Launch} {e : Env} {s : State} {m : MethodId} {args : Array Value} {below : List Frame} {meth : Method} {c : Code} {D : va_G} {cyI cyJ cyO : ClassId} {A : Nat → Prop} {bs : Nat} {d : Nat → Nat} {F : va_W} {Q : State → Prop} {res : Int32 × St} (C0 : gC p m meth c cL_act 7 (some .int) s args wsL_act RL) (hA : ∀ q, bs ≤ q → A q) (hN : lQN s) (hT : dT A s) (hlf : l.stackTraces = false) (hret : ∀ (r : Int32) (σ_r : St) (H : Heap) (locs : List Loc) (pc : Nat) (ls : Array Slot) (t : Nat), t ≤ 4 → some (r, σ_r) = some res → aZ F D cyI cyJ cyO A bs d σ_r s H locs → decode cL_act pc = .ok (.ireturn, 1) → W p l e rmL_act s m args below meth c H locs t (12 * t) Q (F0 m pc ls [.int r]))  : ∀ (σ : St) (v1 : Int32) (v2 : Int32) (v3 : Int32) (s0 : Int32) (s1 : Int32) (H : Heap) (locs : List Loc) (ls : Array Slot) (t : Nat), t + (4) ≤ 4 → mL_act_39 σ v1 v2 v3 s0 s1 = some res → aZ F D cyI cyJ cyO A bs d σ s H locs → lv_has ls 7 [(0, .ref (d 0)), (1, .int v1), (2, .int v2), (3, .int v3)] → W p l e rmL_act s m args below meth c H locs t (12 * t) Q (F0 m 39 ls [.int s1, .int s0]) := by
  intro σ v1 v2 v3 s0 s1 H locs ls t ht0 h Z hl
  unfold mL_act_39 at h
  obtain ⟨x27, hx28, h⟩ := g_bd h
  refine va_calli (va_runS (As := [.int s0, .int s1]) (rest := []) C0.1 (zL_low l s0 s1 x27 hx28) (va_cwS 2 C0.1.2.2.2.2 gL_act_L_low rfl rfl rfl (by decide +kernel) ⟨Nat.le_of_ble_eq_true rfl, Nat.le_of_ble_eq_true rfl⟩) ⟨pu_blind, fun U _ _ => ⟨rfl, trivial⟩⟩ rfl rfl hl.1 rfl (lv_room (Nat.le_of_ble_eq_true rfl)) dL_act_39 ⟨by show t + 0 ≤ 4; omega, by show 12 * t + 0 ≤ 48; omega⟩) (aZ_S Z) (fun _ _ h => h.elim) (fun _ h => h.elim) (fun y u t1 H locs ht hvm hw hB _ hk hS => ?_)
  subst hw
  replace Z := aZ_keep Z hk hS
  refine lv_istore (lv' := [(4, .int x27), (0, .ref (d 0)), (1, .int v1), (2, .int v2), (3, .int v3)]) C0.1.1 C0.1.2.1 dL_act_42 hl (by decide) rfl (fun ls hl => ?_)
  refine lv_iload_n C0.1.1 C0.1.2.1 dL_act_44 rfl (lv_at hl 4 rfl) ?_
  refine lv_bipush (v := 13) C0.1.1 C0.1.2.1 dL_act_45 (by decide +kernel) ?_
  refine lv_icmp_ge (tgt := 189) C0.1.1 C0.1.2.1 dL_act_47 (by decide) (fun hc => ?_) (fun hc => ?_)
  · replace h := (if_pos hc).symm.trans h
    refine lv_iload_n C0.1.1 C0.1.2.1 dL_act_189 rfl (lv_at hl 4 rfl) ?_
    refine lv_bipush (v := 18) C0.1.1 C0.1.2.1 dL_act_190 (by decide +kernel) ?_
    refine lv_icmp_ge (tgt := 203) C0.1.1 C0.1.2.1 dL_act_192 (by decide) (fun hc => ?_) (fun hc => ?_)
    · replace h := (if_pos hc).symm.trans h
      refine lv_iload_n C0.1.1 C0.1.2.1 dL_act_203 rfl (lv_at hl 4 rfl) ?_
      refine lv_bipush (v := 20) C0.1.1 C0.1.2.1 dL_act_204 (by decide +kernel) ?_
      refine lv_icmp_ge (tgt := 230) C0.1.1 C0.1.2.1 dL_act_206 (by decide) (fun hc => ?_) (fun hc => ?_)
      · replace h := (if_pos hc).symm.trans h
        refine lv_iload_n C0.1.1 C0.1.2.1 dL_act_230 rfl (lv_at hl 4 rfl) ?_
        refine lv_bipush (v := 24) C0.1.1 C0.1.2.1 dL_act_231 (by decide +kernel) ?_
        refine lv_icmp_ge (tgt := 262) C0.1.1 C0.1.2.1 dL_act_233 (by decide) (fun hc => ?_) (fun hc => ?_)
        · replace h := (if_pos hc).symm.trans h
          refine lv_iload_n C0.1.1 C0.1.2.1 dL_act_262 rfl (lv_at hl 4 rfl) ?_
          refine lv_bipush (v := 28) C0.1.1 C0.1.2.1 dL_act_263 (by decide +kernel) ?_
          refine lv_icmp_ge (tgt := 288) C0.1.1 C0.1.2.1 dL_act_265 (by decide) (fun hc => ?_) (fun hc => ?_)
          · replace h := (if_pos hc).symm.trans h
            refine lv_iload_n C0.1.1 C0.1.2.1 dL_act_288 rfl (lv_at hl 2 rfl) ?_
            refine lv_iconst (v := 3) C0.1.1 C0.1.2.1 dL_act_289 (by decide) ?_
            refine lv_ishr C0.1.1 C0.1.2.1 dL_act_290 ?_
            refine lv_sipush (v := 500) C0.1.1 C0.1.2.1 dL_act_291 (by decide +kernel) ?_
            obtain ⟨x29, hx30, h⟩ := g_bd h
            refine va_calli (va_runS (As := [.int (v1 >>> ((3 : Int32) &&& 31)), .int (500 : Int32)]) (rest := []) C0.1 (zL_low l (v1 >>> ((3 : Int32) &&& 31)) (500 : Int32) x29 hx30) (va_cwS 2 C0.1.2.2.2.2 gL_act_L_low rfl rfl rfl (by decide +kernel) ⟨Nat.le_of_ble_eq_true rfl, Nat.le_of_ble_eq_true rfl⟩) ⟨pu_blind, fun U _ _ => ⟨rfl, trivial⟩⟩ rfl rfl hl.1 rfl (lv_room (Nat.le_of_ble_eq_true rfl)) dL_act_294 ⟨by show t + 0 ≤ 4; omega, by show 12 * t + 0 ≤ 48; omega⟩) (aZ_S Z) (fun _ _ h => h.elim) (fun _ h => h.elim) (fun y u t1 H locs ht hvm hw hB _ hk hS => ?_)
            subst hw
            replace Z := aZ_keep Z hk hS
            refine lv_istore (lv' := [(5, .int x29), (4, .int x27), (0, .ref (d 0)), (1, .int v1), (2, .int v2), (3, .int v3)]) C0.1.1 C0.1.2.1 dL_act_297 hl (by decide) rfl (fun ls hl => ?_)
            refine lv_aload_n C0.1.1 C0.1.2.1 dL_act_299 rfl (lv_at hl 2 rfl) ?_
            refine lv_iload_n C0.1.1 C0.1.2.1 dL_act_300 rfl (lv_at hl 3 rfl) ?_
            refine lv_bipush (v := 8) C0.1.1 C0.1.2.1 dL_act_301 (by decide +kernel) ?_
            refine lv_ishr C0.1.1 C0.1.2.1 dL_act_303 ?_
            refine lv_iload_n C0.1.1 C0.1.2.1 dL_act_304 rfl (lv_at hl 4 rfl) ?_
            refine lv_if_eq (tgt := 313) C0.1.1 C0.1.2.1 dL_act_305 (by decide) (fun hc => ?_) (fun hc => ?_)
            · replace h := (if_pos hc).symm.trans h
              refine lv_bipush (v := 9) C0.1.1 C0.1.2.1 dL_act_313 (by decide +kernel) ?_
              exact wL_act_315 C0 hA hN hT hlf hret σ v1 v2 x27 x29 (v1 >>> ((8 : Int32) &&& 31)) (9 : Int32) _ _ _ t (by omega) h Z (lv_sub hl [3, 4, 1, 0] rfl)
            · replace h := (if_neg hc).symm.trans h
              refine lv_bipush (v := 34) C0.1.1 C0.1.2.1 dL_act_308 (by decide +kernel) ?_
              refine lv_goto (tgt := 315) C0.1.1 C0.1.2.1 dL_act_310 (by decide) ?_
              exact wL_act_315 C0 hA hN hT hlf hret σ v1 v2 x27 x29 (v1 >>> ((8 : Int32) &&& 31)) (34 : Int32) _ _ _ t (by omega) h Z (lv_sub hl [3, 4, 1, 0] rfl)
          · replace h := (if_neg hc).symm.trans h
            refine lv_aload_n C0.1.1 C0.1.2.1 dL_act_268 rfl (lv_at hl 1 rfl) ?_
            refine lv_iload_n C0.1.1 C0.1.2.1 dL_act_269 rfl (lv_at hl 4 rfl) ?_
            refine lv_bipush (v := 26) C0.1.1 C0.1.2.1 dL_act_270 (by decide +kernel) ?_
            refine lv_icmp_ge (tgt := 279) C0.1.1 C0.1.2.1 dL_act_272 (by decide) (fun hc => ?_) (fun hc => ?_)
            · replace h := (if_pos hc).symm.trans h
              refine lv_iload_n C0.1.1 C0.1.2.1 dL_act_279 rfl (lv_at hl 4 rfl) ?_
              refine lv_bipush (v := 20) C0.1.1 C0.1.2.1 dL_act_280 (by decide +kernel) ?_
              refine lv_isub C0.1.1 C0.1.2.1 dL_act_282 ?_
              exact wL_act_283 C0 hA hN hT hlf hret σ (v3 - (20 : Int32)) _ _ _ t (by omega) h Z (lv_sub hl [] rfl)
            · replace h := (if_neg hc).symm.trans h
              refine lv_iconst (v := 5) C0.1.1 C0.1.2.1 dL_act_275 (by decide) ?_
              refine lv_goto (tgt := 283) C0.1.1 C0.1.2.1 dL_act_276 (by decide) ?_
              exact wL_act_283 C0 hA hN hT hlf hret σ (5 : Int32) _ _ _ t (by omega) h Z (lv_sub hl [] rfl)
        · replace h := (if_neg hc).symm.trans h
          refine lv_aload_n C0.1.1 C0.1.2.1 dL_act_236 rfl (lv_at hl 1 rfl) ?_
          refine lv_iload C0.1.1 C0.1.2.1 dL_act_237 (lv_at hl 0 rfl) ?_
          refine lv_iload_n C0.1.1 C0.1.2.1 dL_act_239 rfl (lv_at hl 2 rfl) ?_
          refine lv_bipush (v := 8) C0.1.1 C0.1.2.1 dL_act_240 (by decide +kernel) ?_
          refine lv_ishr C0.1.1 C0.1.2.1 dL_act_242 ?_
          refine lv_iload_n C0.1.1 C0.1.2.1 dL_act_243 rfl (lv_at hl 3 rfl) ?_
          refine lv_if_eq (tgt := 252) C0.1.1 C0.1.2.1 dL_act_244 (by decide) (fun hc => ?_) (fun hc => ?_)
          · replace h := (if_pos hc).symm.trans h
            refine lv_sipush (v := 9000) C0.1.1 C0.1.2.1 dL_act_252 (by decide +kernel) ?_
            exact wL_act_255 C0 hA hN hT hlf hret σ x27 (v1 >>> ((8 : Int32) &&& 31)) (9000 : Int32) _ _ _ t (by omega) h Z (lv_sub hl [] rfl)
          · replace h := (if_neg hc).symm.trans h
            refine lv_ldc C0.1.1 C0.1.2.1 C0.1.2.2.2.1 (C0.1.2.2.2.2 _ kL_act_c75) dL_act_247 ?_
            refine lv_goto (tgt := 255) C0.1.1 C0.1.2.1 dL_act_249 (by decide) ?_
            exact wL_act_255 C0 hA hN hT hlf hret σ x27 (v1 >>> ((8 : Int32) &&& 31)) (1200000 : Int32) _ _ _ t (by omega) h Z (lv_sub hl [] rfl)
      · replace h := (if_neg hc).symm.trans h
        refine lv_iload_n C0.1.1 C0.1.2.1 dL_act_209 rfl (lv_at hl 4 rfl) ?_
        refine lv_bipush (v := 18) C0.1.1 C0.1.2.1 dL_act_210 (by decide +kernel) ?_
        refine lv_icmp_ne (tgt := 222) C0.1.1 C0.1.2.1 dL_act_212 (by decide) (fun hc => ?_) (fun hc => ?_)
        · replace h := (if_neg hc).symm.trans h
          refine lv_aload_n C0.1.1 C0.1.2.1 dL_act_222 rfl (lv_at hl 1 rfl) ?_
          refine lv_iconst (v := 4) C0.1.1 C0.1.2.1 dL_act_223 (by decide) ?_
          refine lv_iload C0.1.1 C0.1.2.1 dL_act_224 (lv_at hl 0 rfl) ?_
          obtain ⟨x31, hx32, h⟩ := g_bd h
          refine va_calli (vx_runSW (As := [.ref (d 0), .int (4 : Int32), .int x27]) (rest := []) C0.1 (zL_does l hlf D cyI cyJ cyO A bs hA F d σ (4 : Int32) x27 x31 hx32) (vx_cwSW 3 C0.1.2.2.2.2 gL_act_L_does rfl rfl rfl (by decide +kernel) ⟨Nat.le_of_ble_eq_true rfl, Nat.le_of_ble_eq_true rfl⟩) ⟨aP_blind, aP_pre Z hN hT _⟩ rfl rfl hl.1 rfl (lv_room (Nat.le_of_ble_eq_true rfl)) dL_act_226 ⟨by show t + 4 ≤ 4; omega, by show 12 * t + 48 ≤ 48; omega⟩) (aZ_S Z) (fun _ _ h => h) (fun _ h => h) (fun y u t1 H locs ht hvm hw hB _ hk hS => ?_)
          replace Z := aZ_post Z ht hvm hB hS
          obtain ⟨rfl, rfl⟩ := hw
          refine W.widen (k := (t + 4)) (n := 12 * (t + 4)) (by omega) (by omega) ?_
          exact wL_act_229 C0 hA hN hT hlf hret x31.2 x31.1 _ _ _ (t + 4) (by omega) h Z (lv_sub hl [] rfl)
        · replace h := (if_pos hc).symm.trans h
          refine lv_aload_n C0.1.1 C0.1.2.1 dL_act_215 rfl (lv_at hl 1 rfl) ?_
          refine va_calli (va_runV (b := d 0) (C := RX3) (As := []) (rest := []) C0.1 (o_wipe l D cyI cyJ cyO A bs hA F d σ) (cwV 0 C0.1.2.2.2.2 gL_act_X3_wipe rfl rfl rfl (by decide +kernel) ⟨Nat.le_of_ble_eq_true rfl, Nat.le_of_ble_eq_true rfl⟩) ⟨aP_blind, aZ_recv Z, aP_pre Z hN hT _⟩ rfl rfl hl.1 rfl (lv_room (Nat.le_of_ble_eq_true rfl)) dL_act_216 ⟨by show t + 0 ≤ 4; omega, by show 12 * t + 0 ≤ 48; omega⟩) (aZ_S Z) (fun _ _ h => h) (fun _ h => h) (fun y u t1 H locs ht hvm hw hB _ hk hS => ?_)
          subst hw
          replace Z := aZ_post Z ht hvm hB hS
          refine lv_goto (tgt := 229) C0.1.1 C0.1.2.1 dL_act_219 (by decide) ?_
          exact wL_act_229 C0 hA hN hT hlf hret ((aWipe σ).2) ((aWipe σ).1) _ _ _ t (by omega) h Z (lv_sub hl [] rfl)
    · replace h := (if_neg hc).symm.trans h
      refine lv_aload_n C0.1.1 C0.1.2.1 dL_act_195 rfl (lv_at hl 1 rfl) ?_
      refine lv_iconst (v := 3) C0.1.1 C0.1.2.1 dL_act_196 (by decide) ?_
      refine lv_iload C0.1.1 C0.1.2.1 dL_act_197 (lv_at hl 0 rfl) ?_
      obtain ⟨x35, hx36, h⟩ := g_bd h
      refine va_calli (vx_runSW (As := [.ref (d 0), .int (3 : Int32), .int x27]) (rest := []) C0.1 (zL_does l hlf D cyI cyJ cyO A bs hA F d σ (3 : Int32) x27 x35 hx36) (vx_cwSW 3 C0.1.2.2.2.2 gL_act_L_does rfl rfl rfl (by decide +kernel) ⟨Nat.le_of_ble_eq_true rfl, Nat.le_of_ble_eq_true rfl⟩) ⟨aP_blind, aP_pre Z hN hT _⟩ rfl rfl hl.1 rfl (lv_room (Nat.le_of_ble_eq_true rfl)) dL_act_199 ⟨by show t + 4 ≤ 4; omega, by show 12 * t + 48 ≤ 48; omega⟩) (aZ_S Z) (fun _ _ h => h) (fun _ h => h) (fun y u t1 H locs ht hvm hw hB _ hk hS => ?_)
      replace Z := aZ_post Z ht hvm hB hS
      obtain ⟨rfl, rfl⟩ := hw
      refine W.widen (k := (t + 4)) (n := 12 * (t + 4)) (by omega) (by omega) ?_
      exact hret x35.1 x35.2 _ _ _ _ (t + 4) (by omega) h Z dL_act_202
  · replace h := (if_neg hc).symm.trans h
    refine lv_aload_n C0.1.1 C0.1.2.1 dL_act_50 rfl (lv_at hl 1 rfl) ?_
    refine va_calli (va_runV (b := d 0) (C := RX3) (As := []) (rest := []) C0.1 (o_fault l D cyI cyJ cyO A bs hA F d σ) (cwV 0 C0.1.2.2.2.2 gL_act_X3_fault rfl rfl rfl (by decide +kernel) ⟨Nat.le_of_ble_eq_true rfl, Nat.le_of_ble_eq_true rfl⟩) ⟨aP_blind, aZ_recv Z, aP_pre Z hN hT _⟩ rfl rfl hl.1 rfl (lv_room (Nat.le_of_ble_eq_true rfl)) dL_act_51 ⟨by show t + 0 ≤ 4; omega, by show 12 * t + 0 ≤ 48; omega⟩) (aZ_S Z) (fun _ _ h => h) (fun _ h => h) (fun y u t1 H locs ht hvm hw hB _ hk hS => ?_)
    subst hw
    replace Z := aZ_post Z ht hvm hB hS
    refine lv_aload_n C0.1.1 C0.1.2.1 dL_act_54 rfl (lv_at hl 1 rfl) ?_
    refine va_calli (va_runV (b := d 0) (C := RX3) (As := []) (rest := [.int (aFault σ)]) C0.1 (o_drafted l D cyI cyJ cyO A bs hA F d σ) (cwV 0 C0.1.2.2.2.2 gL_act_X3_drafted rfl rfl rfl (by decide +kernel) ⟨Nat.le_of_ble_eq_true rfl, Nat.le_of_ble_eq_true rfl⟩) ⟨aP_blind, aZ_recv Z, aP_pre Z hN hT _⟩ rfl rfl hl.1 rfl (lv_room (Nat.le_of_ble_eq_true rfl)) dL_act_55 ⟨by show t + 0 ≤ 4; omega, by show 12 * t + 0 ≤ 48; omega⟩) (aZ_S Z) (fun _ _ h => h) (fun _ h => h) (fun y u t1 H locs ht hvm hw hB _ hk hS => ?_)
    subst hw
    replace Z := aZ_post Z ht hvm hB hS
    refine lv_icmp_ne (tgt := 78) C0.1.1 C0.1.2.1 dL_act_58 (by decide) (fun hc => ?_) (fun hc => ?_)
    · replace h := (if_neg hc).symm.trans h
      exact wL_act_78 C0 hA hN hT hlf hret σ v1 v2 x27 _ _ _ t (by omega) h Z (lv_sub hl [1, 2, 3, 0] rfl)
    · replace h := (if_pos hc).symm.trans h
      refine lv_aload_n C0.1.1 C0.1.2.1 dL_act_61 rfl (lv_at hl 1 rfl) ?_
      refine va_calli (va_runV (b := d 0) (C := RX3) (As := []) (rest := []) C0.1 (o_drafted l D cyI cyJ cyO A bs hA F d σ) (cwV 0 C0.1.2.2.2.2 gL_act_X3_drafted rfl rfl rfl (by decide +kernel) ⟨Nat.le_of_ble_eq_true rfl, Nat.le_of_ble_eq_true rfl⟩) ⟨aP_blind, aZ_recv Z, aP_pre Z hN hT _⟩ rfl rfl hl.1 rfl (lv_room (Nat.le_of_ble_eq_true rfl)) dL_act_62 ⟨by show t + 0 ≤ 4; omega, by show 12 * t + 0 ≤ 48; omega⟩) (aZ_S Z) (fun _ _ h => h) (fun _ h => h) (fun y u t1 H locs ht hvm hw hB _ hk hS => ?_)
      subst hw
      replace Z := aZ_post Z ht hvm hB hS
      refine lv_if_eq (tgt := 74) C0.1.1 C0.1.2.1 dL_act_65 (by decide) (fun hc => ?_) (fun hc => ?_)
      · replace h := (if_pos hc).symm.trans h
        exact wL_act_74 C0 hA hN hT hlf hret σ v1 v2 x27 _ _ _ t (by omega) h Z (lv_sub hl [1, 2, 3, 0] rfl)
      · replace h := (if_neg hc).symm.trans h
        refine lv_iload_n C0.1.1 C0.1.2.1 dL_act_68 rfl (lv_at hl 4 rfl) ?_
        refine lv_bipush (v := 7) C0.1.1 C0.1.2.1 dL_act_69 (by decide +kernel) ?_
        refine lv_icmp_ge (tgt := 78) C0.1.1 C0.1.2.1 dL_act_71 (by decide) (fun hc => ?_) (fun hc => ?_)
        · replace h := (if_pos hc).symm.trans h
          exact wL_act_78 C0 hA hN hT hlf hret σ v1 v2 x27 _ _ _ t (by omega) h Z (lv_sub hl [1, 2, 3, 0] rfl)
        · replace h := (if_neg hc).symm.trans h
          exact wL_act_74 C0 hA hN hT hlf hret σ v1 v2 x27 _ _ _ t (by omega) h Z (lv_sub hl [1, 2, 3, 0] rfl)
set_option maxRecDepth 20000 in
set_option maxHeartbeats 4000000 in
theorem wL_act_17 {p : Program} {l : Launch} {e : Env} {s : State} {m : MethodId} {args : Array Value} {below : List Frame} {meth : Method} {c : Code} {D : va_G} {cyI cyJ cyO : ClassId} {A : Nat → Prop} {bs : Nat} {d : Nat → Nat} {F : va_W} {Q : State → Prop} {res : Int32 × St} (C0 : gC p m meth c cL_act 7 (some .int) s args wsL_act RL) (hA : ∀ q, bs ≤ q → A q) (hN : lQN s) (hT : dT A s) (hlf : l.stackTraces = false) (hret : ∀ (r : Int32) (σ_r : St) (H : Heap) (locs : List Loc) (pc : Nat) (ls : Array Slot) (t : Nat), t ≤ 4 → some (r, σ_r) = some res → aZ F D cyI cyJ cyO A bs d σ_r s H locs → decode cL_act pc = .ok (.ireturn, 1) → W p l e rmL_act s m args below meth c H locs t (12 * t) Q (F0 m pc ls [.int r]))  : ∀ (σ : St) (v1 : Int32) (s0 : Int32) (H : Heap) (locs : List Loc) (ls : Array Slot) (t : Nat), t + (4) ≤ 4 → mL_act_17 σ v1 s0 = some res → aZ F D cyI cyJ cyO A bs d σ s H locs → lv_has ls 7 [(0, .ref (d 0)), (1, .int v1)] → W p l e rmL_act s m args below meth c H locs t (12 * t) Q (F0 m 17 ls [.int s0]) := by
  intro σ v1 s0 H locs ls t ht0 h Z hl
  unfold mL_act_17 at h
  refine lv_istore_n (lv' := [(2, .int s0), (0, .ref (d 0)), (1, .int v1)]) C0.1.1 C0.1.2.1 dL_act_17 rfl hl (by decide) rfl (fun ls hl => ?_)
  refine lv_iload_n C0.1.1 C0.1.2.1 dL_act_18 rfl (lv_at hl 2 rfl) ?_
  refine lv_bipush (v := 30) C0.1.1 C0.1.2.1 dL_act_19 (by decide +kernel) ?_
  obtain ⟨x43, hx44, h⟩ := g_bd h
  refine va_calli (va_runS (As := [.int v1, .int (30 : Int32)]) (rest := []) C0.1 (zL_low l v1 (30 : Int32) x43 hx44) (va_cwS 2 C0.1.2.2.2.2 gL_act_L_low rfl rfl rfl (by decide +kernel) ⟨Nat.le_of_ble_eq_true rfl, Nat.le_of_ble_eq_true rfl⟩) ⟨pu_blind, fun U _ _ => ⟨rfl, trivial⟩⟩ rfl rfl hl.1 rfl (lv_room (Nat.le_of_ble_eq_true rfl)) dL_act_21 ⟨by show t + 0 ≤ 4; omega, by show 12 * t + 0 ≤ 48; omega⟩) (aZ_S Z) (fun _ _ h => h.elim) (fun _ h => h.elim) (fun y u t1 H locs ht hvm hw hB _ hk hS => ?_)
  subst hw
  replace Z := aZ_keep Z hk hS
  refine lv_istore_n (lv' := [(3, .int x43), (2, .int s0), (0, .ref (d 0)), (1, .int v1)]) C0.1.1 C0.1.2.1 dL_act_24 rfl hl (by decide) rfl (fun ls hl => ?_)
  refine lv_iload_n C0.1.1 C0.1.2.1 dL_act_25 rfl (lv_at hl 3 rfl) ?_
  refine lv_iconst (v := 4) C0.1.1 C0.1.2.1 dL_act_26 (by decide) ?_
  refine lv_ishr C0.1.1 C0.1.2.1 dL_act_27 ?_
  refine lv_iload_n C0.1.1 C0.1.2.1 dL_act_28 rfl (lv_at hl 1 rfl) ?_
  refine lv_if_eq (tgt := 37) C0.1.1 C0.1.2.1 dL_act_29 (by decide) (fun hc => ?_) (fun hc => ?_)
  · replace h := (if_pos hc).symm.trans h
    refine lv_bipush (v := 9) C0.1.1 C0.1.2.1 dL_act_37 (by decide +kernel) ?_
    exact wL_act_39 C0 hA hN hT hlf hret σ v1 s0 x43 (v1 >>> ((4 : Int32) &&& 31)) (9 : Int32) _ _ _ t (by omega) h Z (lv_sub hl [2, 3, 1, 0] rfl)
  · replace h := (if_neg hc).symm.trans h
    refine lv_bipush (v := 34) C0.1.1 C0.1.2.1 dL_act_32 (by decide +kernel) ?_
    refine lv_goto (tgt := 39) C0.1.1 C0.1.2.1 dL_act_34 (by decide) ?_
    exact wL_act_39 C0 hA hN hT hlf hret σ v1 s0 x43 (v1 >>> ((4 : Int32) &&& 31)) (34 : Int32) _ _ _ t (by omega) h Z (lv_sub hl [2, 3, 1, 0] rfl)
set_option maxRecDepth 20000 in
set_option maxHeartbeats 4000000 in
theorem zL_act (l : Launch) (hlf : l.stackTraces = false) (D : va_G) (cyI cyJ cyO : ClassId) (A : Nat → Prop) (bs : Nat) (hA : ∀ q, bs ≤ q → A q) (F : va_W) (d : Nat → Nat) (σ : St) (p1 : Int32) (res : Int32 × St) (h : mL_act σ p1 = some res) : Met l yL_act wsL_act rmL_act (va_Pc [.ref (d 0), .int p1] (lP (aW F D cyI cyJ cyO A bs d σ) A)) (va_Qi (fun (r : Int32) (u : St) => res.1 = r ∧ res.2 = u) (fun (u : St) => aW F D cyI cyJ cyO A bs d u) A) 4 48 A := by
  refine Met.ofW (cc := cL_act) (maxL := 7) (ret := (some .int)) (by decide) rfl ?_
  intro p e s m args below meth c s₁ B hml hv
  obtain ⟨hav, hv⟩ := hv
  obtain ⟨hv, hN, hT⟩ := hv
  have C0 : gC p m meth c cL_act 7 (some .int) s args wsL_act RL := ⟨⟨B.exec, B.bytes, hml, findClass_of_methodNamed B.named, atoms_spec (ws := wsL_act) B.pre⟩, B.returns, B.notSynchronized⟩
  have Z := aZ_start hA hv
  have hret : ∀ (r : Int32) (σ_r : St) (H : Heap) (locs : List Loc) (pc : Nat) (ls : Array Slot) (t : Nat), t ≤ 4 → some (r, σ_r) = some res → aZ F D cyI cyJ cyO A bs d σ_r s H locs → decode cL_act pc = .ok (.ireturn, 1) → W p l e rmL_act s m args below meth c H locs t (12 * t) (MQ below (va_Qi (fun (r : Int32) (u : St) => res.1 = r ∧ res.2 = u) (fun (u : St) => aW F D cyI cyJ cyO A bs d u) A) args s 4 48 A) (F0 m pc ls [.int r]) := by
    intro r σ_r H locs pc ls t ht1 h Z hd
    replace h := Option.some.inj h
    subst h
    refine W.widen (k := 4) (n := 48) (by omega) (by omega) ?_
    exact W.iret C0.1.1 C0.1.2.1 C0.2.1 (fun t ht hW => ⟨⟨r, σ_r, rfl, ⟨rfl, rfl⟩, aZ_end Z ht hW⟩, va_S.F (aZ_S Z) ht⟩) (aZ_S Z).2.2 hd C0.2.2
  have hl := lv_entry ([.ref (d 0), .int p1]) (n := 7) (Nat.le_of_ble_eq_true rfl)
  rw [hav, lg_entry_eq]
  generalize (lg_sl ([.ref (d 0), .int p1]) ++ List.replicate (7 - (lg_sl ([.ref (d 0), .int p1])).length) Slot.unset).toArray = ls at hl ⊢
  have hl : lv_has ls 7 [(0, .ref (d 0)), (1, .int p1)] := hl
  rw [← hav]
  unfold mL_act at h
  obtain ⟨t, ht0⟩ : ∃ t : Nat, t = 0 := ⟨0, rfl⟩
  refine W.widen (k := t) (n := 12 * t) (Nat.zero_le _) (Nat.zero_le _) ?_
  refine lv_iload_n C0.1.1 C0.1.2.1 dL_act_0 rfl (lv_at hl 1 rfl) ?_
  refine lv_bipush (v := 24) C0.1.1 C0.1.2.1 dL_act_1 (by decide +kernel) ?_
  refine lv_ishr C0.1.1 C0.1.2.1 dL_act_3 ?_
  refine lv_bipush (v := 8) C0.1.1 C0.1.2.1 dL_act_4 (by decide +kernel) ?_
  obtain ⟨x47, hx48, h⟩ := g_bd h
  refine va_calli (va_runS (As := [.int (p1 >>> ((24 : Int32) &&& 31)), .int (8 : Int32)]) (rest := []) C0.1 (zL_low l (p1 >>> ((24 : Int32) &&& 31)) (8 : Int32) x47 hx48) (va_cwS 2 C0.1.2.2.2.2 gL_act_L_low rfl rfl rfl (by decide +kernel) ⟨Nat.le_of_ble_eq_true rfl, Nat.le_of_ble_eq_true rfl⟩) ⟨pu_blind, fun U _ _ => ⟨rfl, trivial⟩⟩ rfl rfl hl.1 rfl (lv_room (Nat.le_of_ble_eq_true rfl)) dL_act_6 ⟨by show t + 0 ≤ 4; omega, by show 12 * t + 0 ≤ 48; omega⟩) (aZ_S Z) (fun _ _ h => h.elim) (fun _ h => h.elim) (fun y u t1 H locs ht hvm hw hB _ hk hS => ?_)
  subst hw
  replace Z := aZ_keep Z hk hS
  refine lv_if_ne (tgt := 16) C0.1.1 C0.1.2.1 dL_act_9 (by decide) (fun hc => ?_) (fun hc => ?_)
  · replace h := (if_neg hc).symm.trans h
    refine lv_iconst (v := 0) C0.1.1 C0.1.2.1 dL_act_16 (by decide) ?_
    exact wL_act_17 C0 hA hN hT hlf hret σ p1 (0 : Int32) _ _ _ t (by omega) h Z (lv_sub hl [0, 1] rfl)
  · replace h := (if_pos hc).symm.trans h
    refine lv_iconst (v := 1) C0.1.1 C0.1.2.1 dL_act_12 (by decide) ?_
    refine lv_goto (tgt := 17) C0.1.1 C0.1.2.1 dL_act_13 (by decide) ?_
    exact wL_act_17 C0 hA hN hT hlf hret σ p1 (1 : Int32) _ _ _ t (by omega) h Z (lv_sub hl [0, 1] rfl)
