/-! the walk of L_isPutSo -/
abbrev rmL_isPutSo : Room := { frames := 63, cells := 22, slots := 264, locals := 1531 }
set_option maxRecDepth 20000 in
set_option maxHeartbeats 4000000 in
theorem wL_isPutSo_297 {p : Program} {l : Launch} {e : Env} {s : State} {m : MethodId} {args : Array Value} {below : List Frame} {meth : Method} {c : Code} {D : va_G} {cyI cyJ cyO : ClassId} {A : Nat → Prop} {bs : Nat} {d d' : Nat → Nat} {Q : State → Prop} {res : Int32 × St × St} (C0 : gC p m meth c cL_isPutSo 13 (some .boolean) s args wsL_isPutSo RL) (hA : ∀ q, bs ≤ q → A q) (hN : lQN s) (hT : dT A s) (hlf : l.stackTraces = false) (hret : ∀ (r : Int32) (σ_r : St) (τ_r : St) (H : Heap) (locs : List Loc) (pc : Nat) (ls : Array Slot) (t : Nat), t ≤ 22 → (r = 0 ∨ r = 1) → some (r, σ_r, τ_r) = some res → tZ D cyI cyJ cyO A bs d σ_r d' τ_r s H locs → decode cL_isPutSo pc = .ok (.ireturn, 1) → W p l e rmL_isPutSo s m args below meth c H locs t (12 * t) Q (F0 m pc ls [.int r]))  : ∀ (σ : St) (τ : St) (s0 : Int32) (H : Heap) (locs : List Loc) (ls : Array Slot) (t : Nat), t + (0) ≤ 22 → mL_isPutSo_297 σ τ s0 = some res → tZ D cyI cyJ cyO A bs d σ d' τ s H locs → lv_has ls 13 [] → W p l e rmL_isPutSo s m args below meth c H locs t (12 * t) Q (F0 m 297 ls [.int s0]) := by
  intro σ τ s0 H locs ls t ht0 h Z hl
  unfold mL_isPutSo_297 at h
  obtain ⟨hn1, h⟩ := g_yi h
  exact hret s0 σ τ _ _ _ _ t (by omega) hn1 h Z dL_isPutSo_297
set_option maxRecDepth 20000 in
set_option maxHeartbeats 4000000 in
theorem wL_isPutSo_296 {p : Program} {l : Launch} {e : Env} {s : State} {m : MethodId} {args : Array Value} {below : List Frame} {meth : Method} {c : Code} {D : va_G} {cyI cyJ cyO : ClassId} {A : Nat → Prop} {bs : Nat} {d d' : Nat → Nat} {Q : State → Prop} {res : Int32 × St × St} (C0 : gC p m meth c cL_isPutSo 13 (some .boolean) s args wsL_isPutSo RL) (hA : ∀ q, bs ≤ q → A q) (hN : lQN s) (hT : dT A s) (hlf : l.stackTraces = false) (hret : ∀ (r : Int32) (σ_r : St) (τ_r : St) (H : Heap) (locs : List Loc) (pc : Nat) (ls : Array Slot) (t : Nat), t ≤ 22 → (r = 0 ∨ r = 1) → some (r, σ_r, τ_r) = some res → tZ D cyI cyJ cyO A bs d σ_r d' τ_r s H locs → decode cL_isPutSo pc = .ok (.ireturn, 1) → W p l e rmL_isPutSo s m args below meth c H locs t (12 * t) Q (F0 m pc ls [.int r]))  : ∀ (σ : St) (τ : St) (H : Heap) (locs : List Loc) (ls : Array Slot) (t : Nat), t + (0) ≤ 22 → mL_isPutSo_296 σ τ = some res → tZ D cyI cyJ cyO A bs d σ d' τ s H locs → lv_has ls 13 [] → W p l e rmL_isPutSo s m args below meth c H locs t (12 * t) Q (F0 m 296 ls []) := by
  intro σ τ H locs ls t ht0 h Z hl
  unfold mL_isPutSo_296 at h
  refine lv_iconst (v := 0) C0.1.1 C0.1.2.1 dL_isPutSo_296 (by decide) ?_
  exact wL_isPutSo_297 C0 hA hN hT hlf hret σ τ (0 : Int32) _ _ _ t (by omega) h Z (lv_sub hl [] rfl)
set_option maxRecDepth 20000 in
set_option maxHeartbeats 4000000 in
theorem wL_isPutSo_254 {p : Program} {l : Launch} {e : Env} {s : State} {m : MethodId} {args : Array Value} {below : List Frame} {meth : Method} {c : Code} {D : va_G} {cyI cyJ cyO : ClassId} {A : Nat → Prop} {bs : Nat} {d d' : Nat → Nat} {Q : State → Prop} {res : Int32 × St × St} (C0 : gC p m meth c cL_isPutSo 13 (some .boolean) s args wsL_isPutSo RL) (hA : ∀ q, bs ≤ q → A q) (hN : lQN s) (hT : dT A s) (hlf : l.stackTraces = false) (hret : ∀ (r : Int32) (σ_r : St) (τ_r : St) (H : Heap) (locs : List Loc) (pc : Nat) (ls : Array Slot) (t : Nat), t ≤ 22 → (r = 0 ∨ r = 1) → some (r, σ_r, τ_r) = some res → tZ D cyI cyJ cyO A bs d σ_r d' τ_r s H locs → decode cL_isPutSo pc = .ok (.ireturn, 1) → W p l e rmL_isPutSo s m args below meth c H locs t (12 * t) Q (F0 m pc ls [.int r]))  : ∀ (σ : St) (τ : St) (v2 : Int32) (v3 : Int32) (v4 : Int32) (v9 : Int32) (v11 : Int32) (s0 : Int32) (H : Heap) (locs : List Loc) (ls : Array Slot) (t : Nat), t + (6) ≤ 22 → mL_isPutSo_254 σ τ v2 v3 v4 v9 v11 s0 = some res → tZ D cyI cyJ cyO A bs d σ d' τ s H locs → lv_has ls 13 [(1, .ref (d' 0)), (2, .int v2), (3, .int v3), (4, .int v4), (9, .int v9), (11, .int v11)] → W p l e rmL_isPutSo s m args below meth c H locs t (12 * t) Q (F0 m 254 ls [.int s0]) := by
  intro σ τ v2 v3 v4 v9 v11 s0 H locs ls t ht0 h Z hl
  unfold mL_isPutSo_254 at h
  refine lv_istore (lv' := [(10, .int s0), (1, .ref (d' 0)), (2, .int v2), (3, .int v3), (4, .int v4), (9, .int v9), (11, .int v11)]) C0.1.1 C0.1.2.1 dL_isPutSo_254 hl (by decide) rfl (fun ls hl => ?_)
  refine lv_iload C0.1.1 C0.1.2.1 dL_isPutSo_256 (lv_at hl 0 rfl) ?_
  refine lv_if_eq (tgt := 296) C0.1.1 C0.1.2.1 dL_isPutSo_258 (by decide) (fun hc => ?_) (fun hc => ?_)
  · replace h := (if_pos hc).symm.trans h
    exact wL_isPutSo_296 C0 hA hN hT hlf hret σ τ _ _ _ t (by omega) h Z (lv_sub hl [] rfl)
  · replace h := (if_neg hc).symm.trans h
    refine lv_aload_n C0.1.1 C0.1.2.1 dL_isPutSo_261 rfl (lv_at hl 1 rfl) ?_
    obtain ⟨x2, hx3, h⟩ := g_bd h
    refine vx_calli (vx_runV (b := d' 0) (C := RX3) (As := []) (rest := []) C0.1 (tR_xi hA (fun Y => o_open l hlf D cyI cyJ cyO A bs hA Y d' τ)) (cwV 0 C0.1.2.2.2.2 gL_isPutSo_X3_open rfl rfl rfl (by decide +kernel) ⟨Nat.le_of_ble_eq_true rfl, Nat.le_of_ble_eq_true rfl⟩) ⟨tP_blind, tZ_recvR Z, tP_pre Z hN hT _⟩ rfl rfl hl.1 rfl (lv_room (Nat.le_of_ble_eq_true rfl)) dL_isPutSo_262 ⟨by show t + 1 ≤ 22; omega, by show 12 * t + 6 ≤ 264; omega⟩) (tZ_S Z) (fun _ _ h => h) (fun _ h => h) (fun _ _ h => h) (fun E ce q9 u t1 H1 locs1 ht hvm _ hB _ hk hS h1 h2 h3 => ?_) (fun y u t1 H locs ht hvm hw hB _ hk hS => ?_)
    · exact absurd (hx3.symm.trans hB.1.1) (fun z => nomatch z)
    obtain rfl : x2 = y := Option.some.inj (hx3.symm.trans hw)
    replace Z := tZ_post Z ht hvm hB hS
    refine W.widen (k := (t + 1)) (n := 12 * (t + 1)) (by omega) (by omega) ?_
    refine lv_iload C0.1.1 C0.1.2.1 dL_isPutSo_265 (lv_at hl 5 rfl) ?_
    refine lv_iconst (v := 1) C0.1.1 C0.1.2.1 dL_isPutSo_267 (by decide) ?_
    refine lv_iadd C0.1.1 C0.1.2.1 dL_isPutSo_268 ?_
    refine lv_icmp_ne (tgt := 296) C0.1.1 C0.1.2.1 dL_isPutSo_269 (by decide) (fun hc => ?_) (fun hc => ?_)
    · replace h := (if_neg hc).symm.trans h
      exact wL_isPutSo_296 C0 hA hN hT hlf hret σ ((aOpen τ).2) _ _ _ (t + 1) (by omega) h Z (lv_sub hl [] rfl)
    · replace h := (if_pos hc).symm.trans h
      refine lv_aload_n C0.1.1 C0.1.2.1 dL_isPutSo_272 rfl (lv_at hl 1 rfl) ?_
      refine lv_iload_n C0.1.1 C0.1.2.1 dL_isPutSo_273 rfl (lv_at hl 2 rfl) ?_
      refine lv_iload_n C0.1.1 C0.1.2.1 dL_isPutSo_274 rfl (lv_at hl 3 rfl) ?_
      obtain ⟨x4, hx5, h⟩ := g_bd h
      refine vx_calli (vx_runV (b := d' 0) (C := RX3) (As := [.int v2, .int v3]) (rest := []) C0.1 (tR_xi hA (fun Y => o_put l hlf D cyI cyJ cyO A bs hA Y d' ((aOpen τ).2) v2 v3)) (cwV 2 C0.1.2.2.2.2 gL_isPutSo_X3_put rfl rfl rfl (by decide +kernel) ⟨Nat.le_of_ble_eq_true rfl, Nat.le_of_ble_eq_true rfl⟩) ⟨tP_blind, tZ_recvR Z, tP_pre Z hN hT _⟩ rfl rfl hl.1 rfl (lv_room (Nat.le_of_ble_eq_true rfl)) dL_isPutSo_275 ⟨by show (t + 1) + 4 ≤ 22; omega, by show 12 * (t + 1) + 15 ≤ 264; omega⟩) (tZ_S Z) (fun _ _ h => h) (fun _ h => h) (fun _ _ h => h) (fun E ce q9 u t1 H1 locs1 ht hvm _ hB _ hk hS h1 h2 h3 => ?_) (fun y u t1 H locs ht hvm hw hB _ hk hS => ?_)
      · exact absurd (hx5.symm.trans hB.1.1) (fun z => nomatch z)
      obtain rfl : x4 = y := Option.some.inj (hx5.symm.trans hw)
      replace Z := tZ_post Z ht hvm hB hS
      refine W.widen (k := (t + 5)) (n := 12 * (t + 5)) (by omega) (by omega) ?_
      refine lv_iload C0.1.1 C0.1.2.1 dL_isPutSo_278 (lv_at hl 4 rfl) ?_
      refine lv_icmp_ne (tgt := 296) C0.1.1 C0.1.2.1 dL_isPutSo_280 (by decide) (fun hc => ?_) (fun hc => ?_)
      · replace h := (if_neg hc).symm.trans h
        exact wL_isPutSo_296 C0 hA hN hT hlf hret σ ((aPut ((aOpen τ).2) v2 v3).2) _ _ _ (t + 5) (by omega) h Z (lv_sub hl [] rfl)
      · replace h := (if_pos hc).symm.trans h
        refine lv_aload_n C0.1.1 C0.1.2.1 dL_isPutSo_283 rfl (lv_at hl 1 rfl) ?_
        obtain ⟨x6, hx7, h⟩ := g_bd h
        refine vx_calli (vx_runV (b := d' 0) (C := RX3) (As := []) (rest := []) C0.1 (tR_xi hA (fun Y => o_drop l hlf D cyI cyJ cyO A bs hA Y d' ((aPut ((aOpen τ).2) v2 v3).2))) (cwV 0 C0.1.2.2.2.2 gL_isPutSo_X3_drop rfl rfl rfl (by decide +kernel) ⟨Nat.le_of_ble_eq_true rfl, Nat.le_of_ble_eq_true rfl⟩) ⟨tP_blind, tZ_recvR Z, tP_pre Z hN hT _⟩ rfl rfl hl.1 rfl (lv_room (Nat.le_of_ble_eq_true rfl)) dL_isPutSo_284 ⟨by show (t + 5) + 1 ≤ 22; omega, by show 12 * (t + 5) + 6 ≤ 264; omega⟩) (tZ_S Z) (fun _ _ h => h) (fun _ h => h) (fun _ _ h => h) (fun E ce q9 u t1 H1 locs1 ht hvm _ hB _ hk hS h1 h2 h3 => ?_) (fun y u t1 H locs ht hvm hw hB _ hk hS => ?_)
        · exact absurd (hx7.symm.trans hB.1.1) (fun z => nomatch z)
        obtain rfl : x6 = y := Option.some.inj (hx7.symm.trans hw)
        replace Z := tZ_post Z ht hvm hB hS
        refine W.widen (k := (t + 6)) (n := 12 * (t + 6)) (by omega) (by omega) ?_
        refine lv_iload C0.1.1 C0.1.2.1 dL_isPutSo_287 (lv_at hl 6 rfl) ?_
        refine lv_icmp_ne (tgt := 296) C0.1.1 C0.1.2.1 dL_isPutSo_289 (by decide) (fun hc => ?_) (fun hc => ?_)
        · replace h := (if_neg hc).symm.trans h
          exact wL_isPutSo_296 C0 hA hN hT hlf hret σ ((aDrop ((aPut ((aOpen τ).2) v2 v3).2)).2) _ _ _ (t + 6) (by omega) h Z (lv_sub hl [] rfl)
        · replace h := (if_pos hc).symm.trans h
          refine lv_iconst (v := 1) C0.1.1 C0.1.2.1 dL_isPutSo_292 (by decide) ?_
          refine lv_goto (tgt := 297) C0.1.1 C0.1.2.1 dL_isPutSo_293 (by decide) ?_
          exact wL_isPutSo_297 C0 hA hN hT hlf hret σ ((aDrop ((aPut ((aOpen τ).2) v2 v3).2)).2) (1 : Int32) _ _ _ (t + 6) (by omega) h Z (lv_sub hl [] rfl)
set_option maxRecDepth 20000 in
set_option maxHeartbeats 4000000 in
theorem wL_isPutSo_253 {p : Program} {l : Launch} {e : Env} {s : State} {m : MethodId} {args : Array Value} {below : List Frame} {meth : Method} {c : Code} {D : va_G} {cyI cyJ cyO : ClassId} {A : Nat → Prop} {bs : Nat} {d d' : Nat → Nat} {Q : State → Prop} {res : Int32 × St × St} (C0 : gC p m meth c cL_isPutSo 13 (some .boolean) s args wsL_isPutSo RL) (hA : ∀ q, bs ≤ q → A q) (hN : lQN s) (hT : dT A s) (hlf : l.stackTraces = false) (hret : ∀ (r : Int32) (σ_r : St) (τ_r : St) (H : Heap) (locs : List Loc) (pc : Nat) (ls : Array Slot) (t : Nat), t ≤ 22 → (r = 0 ∨ r = 1) → some (r, σ_r, τ_r) = some res → tZ D cyI cyJ cyO A bs d σ_r d' τ_r s H locs → decode cL_isPutSo pc = .ok (.ireturn, 1) → W p l e rmL_isPutSo s m args below meth c H locs t (12 * t) Q (F0 m pc ls [.int r]))  : ∀ (σ : St) (τ : St) (v2 : Int32) (v3 : Int32) (v4 : Int32) (v9 : Int32) (v11 : Int32) (H : Heap) (locs : List Loc) (ls : Array Slot) (t : Nat), t + (6) ≤ 22 → mL_isPutSo_253 σ τ v2 v3 v4 v9 v11 = some res → tZ D cyI cyJ cyO A bs d σ d' τ s H locs → lv_has ls 13 [(1, .ref (d' 0)), (2, .int v2), (3, .int v3), (4, .int v4), (9, .int v9), (11, .int v11)] → W p l e rmL_isPutSo s m args below meth c H locs t (12 * t) Q (F0 m 253 ls []) := by
  intro σ τ v2 v3 v4 v9 v11 H locs ls t ht0 h Z hl
  unfold mL_isPutSo_253 at h
  refine lv_iconst (v := 0) C0.1.1 C0.1.2.1 dL_isPutSo_253 (by decide) ?_
  exact wL_isPutSo_254 C0 hA hN hT hlf hret σ τ v2 v3 v4 v9 v11 (0 : Int32) _ _ _ t (by omega) h Z (lv_sub hl [0, 1, 2, 3, 4, 5] rfl)
set_option maxRecDepth 20000 in
set_option maxHeartbeats 4000000 in
theorem wL_isPutSo_210 {p : Program} {l : Launch} {e : Env} {s : State} {m : MethodId} {args : Array Value} {below : List Frame} {meth : Method} {c : Code} {D : va_G} {cyI cyJ cyO : ClassId} {A : Nat → Prop} {bs : Nat} {d d' : Nat → Nat} {Q : State → Prop} {res : Int32 × St × St} (C0 : gC p m meth c cL_isPutSo 13 (some .boolean) s args wsL_isPutSo RL) (hA : ∀ q, bs ≤ q → A q) (hN : lQN s) (hT : dT A s) (hlf : l.stackTraces = false) (hret : ∀ (r : Int32) (σ_r : St) (τ_r : St) (H : Heap) (locs : List Loc) (pc : Nat) (ls : Array Slot) (t : Nat), t ≤ 22 → (r = 0 ∨ r = 1) → some (r, σ_r, τ_r) = some res → tZ D cyI cyJ cyO A bs d σ_r d' τ_r s H locs → decode cL_isPutSo pc = .ok (.ireturn, 1) → W p l e rmL_isPutSo s m args below meth c H locs t (12 * t) Q (F0 m pc ls [.int r]))  : ∀ (σ : St) (τ : St) (v2 : Int32) (v3 : Int32) (v4 : Int32) (v5 : Int32) (v6 : Int32) (v7 : Int64) (v9 : Int32) (v11 : Int32) (H : Heap) (locs : List Loc) (ls : Array Slot) (t : Nat), t + (9) ≤ 22 → mL_isPutSo_210 σ τ v2 v3 v4 v5 v6 v7 v9 v11 = some res → tZ D cyI cyJ cyO A bs d σ d' τ s H locs → lv_has ls 13 [(0, .ref (d 0)), (1, .ref (d' 0)), (2, .int v2), (3, .int v3), (4, .int v4), (5, .int v5), (6, .int v6), (7, .long v7), (9, .int v9), (11, .int v11)] → W p l e rmL_isPutSo s m args below meth c H locs t (12 * t) Q (F0 m 210 ls []) := by
  intro σ τ v2 v3 v4 v5 v6 v7 v9 v11 H locs ls t ht0 h Z hl
  unfold mL_isPutSo_210 at h
  refine lv_aload_n C0.1.1 C0.1.2.1 dL_isPutSo_210 rfl (lv_at hl 0 rfl) ?_
  refine va_calli (va_runV (b := d 0) (C := RX3) (As := []) (rest := []) C0.1 (tL_i hA (fun Y => o_foundAnew l D cyI cyJ cyO A bs hA Y d σ)) (cwV 0 C0.1.2.2.2.2 gL_isPutSo_X3_foundAnew rfl rfl rfl (by decide +kernel) ⟨Nat.le_of_ble_eq_true rfl, Nat.le_of_ble_eq_true rfl⟩) ⟨tP_blind, tZ_recvL Z, tP_pre Z hN hT _⟩ rfl rfl hl.1 rfl (lv_room (Nat.le_of_ble_eq_true rfl)) dL_isPutSo_211 ⟨by show t + 0 ≤ 22; omega, by show 12 * t + 0 ≤ 264; omega⟩) (tZ_S Z) (fun _ _ h => h) (fun _ h => h) (fun y u t1 H locs ht hvm hw hB _ hk hS => ?_)
  subst hw
  replace Z := tZ_post Z ht hvm hB hS
  refine lv_iload C0.1.1 C0.1.2.1 dL_isPutSo_214 (lv_at hl 5 rfl) ?_
  refine lv_iload C0.1.1 C0.1.2.1 dL_isPutSo_216 (lv_at hl 4 rfl) ?_
  refine lv_iconst (v := 1) C0.1.1 C0.1.2.1 dL_isPutSo_218 (by decide) ?_
  refine lv_iload C0.1.1 C0.1.2.1 dL_isPutSo_219 (lv_at hl 9 rfl) ?_
  refine lv_iadd C0.1.1 C0.1.2.1 dL_isPutSo_221 ?_
  refine lv_imul C0.1.1 C0.1.2.1 dL_isPutSo_222 ?_
  refine lv_iadd C0.1.1 C0.1.2.1 dL_isPutSo_223 ?_
  refine lv_icmp_ne (tgt := 253) C0.1.1 C0.1.2.1 dL_isPutSo_224 (by decide) (fun hc => ?_) (fun hc => ?_)
  · replace h := (if_neg hc).symm.trans h
    exact wL_isPutSo_253 C0 hA hN hT hlf hret σ τ v2 v3 v4 v9 v11 _ _ _ t (by omega) h Z (lv_sub hl [1, 2, 3, 4, 8, 9] rfl)
  · replace h := (if_pos hc).symm.trans h
    refine lv_aload_n C0.1.1 C0.1.2.1 dL_isPutSo_227 rfl (lv_at hl 0 rfl) ?_
    refine lv_iload_n C0.1.1 C0.1.2.1 dL_isPutSo_228 rfl (lv_at hl 2 rfl) ?_
    refine lv_iconst (v := 0) C0.1.1 C0.1.2.1 dL_isPutSo_229 (by decide) ?_
    obtain ⟨x10, hx11, h⟩ := g_bd h
    refine va_calll (vx_runSW (As := [.ref (d 0), .int v2, .int (0 : Int32)]) (rest := []) C0.1 (tL_l hA (fun Y => zL_value l hlf D cyI cyJ cyO A bs hA Y d σ v2 (0 : Int32) x10 hx11)) (vx_cwSW 3 C0.1.2.2.2.2 gL_isPutSo_L_value rfl rfl rfl (by decide +kernel) ⟨Nat.le_of_ble_eq_true rfl, Nat.le_of_ble_eq_true rfl⟩) ⟨tP_blind, tP_pre Z hN hT _⟩ rfl rfl hl.1 rfl (lv_room (Nat.le_of_ble_eq_true rfl)) dL_isPutSo_230 ⟨by show t + 2 ≤ 22; omega, by show 12 * t + 24 ≤ 264; omega⟩) (tZ_S Z) (fun _ _ h => h) (fun _ h => h) (fun y u t1 H locs ht hvm hw hB _ hk hS => ?_)
    replace Z := tZ_post Z ht hvm hB hS
    subst hw
    refine W.widen (k := (t + 2)) (n := 12 * (t + 2)) (by omega) (by omega) ?_
    refine lv_lload C0.1.1 C0.1.2.1 dL_isPutSo_233 (lv_at hl 7 rfl) ?_
    refine W.lcmp C0.1.1 C0.1.2.1 dL_isPutSo_235 ?_
    refine lv_if_ne (tgt := 253) C0.1.1 C0.1.2.1 dL_isPutSo_236 (by decide) (fun hc => ?_) (fun hc => ?_)
    · replace h := (if_neg hc).symm.trans h
      exact wL_isPutSo_253 C0 hA hN hT hlf hret σ τ v2 v3 v4 v9 v11 _ _ _ (t + 2) (by omega) h Z (lv_sub hl [1, 2, 3, 4, 8, 9] rfl)
    · replace h := (if_pos hc).symm.trans h
      refine lv_aload_n C0.1.1 C0.1.2.1 dL_isPutSo_239 rfl (lv_at hl 0 rfl) ?_
      refine lv_iload_n C0.1.1 C0.1.2.1 dL_isPutSo_240 rfl (lv_at hl 2 rfl) ?_
      obtain ⟨x12, hx13, h⟩ := g_bd h
      refine vx_calli (vx_runV (b := d 0) (C := RX3) (As := [.int v2]) (rest := []) C0.1 (tL_xi hA (fun Y => o_signs l hlf D cyI cyJ cyO A bs hA Y d σ v2)) (cwV 1 C0.1.2.2.2.2 gL_isPutSo_X3_signs rfl rfl rfl (by decide +kernel) ⟨Nat.le_of_ble_eq_true rfl, Nat.le_of_ble_eq_true rfl⟩) ⟨tP_blind, tZ_recvL Z, tP_pre Z hN hT _⟩ rfl rfl hl.1 rfl (lv_room (Nat.le_of_ble_eq_true rfl)) dL_isPutSo_241 ⟨by show (t + 2) + 1 ≤ 22; omega, by show 12 * (t + 2) + 6 ≤ 264; omega⟩) (tZ_S Z) (fun _ _ h => h) (fun _ h => h) (fun _ _ h => h) (fun E ce q9 u t1 H1 locs1 ht hvm _ hB _ hk hS h1 h2 h3 => ?_) (fun y u t1 H locs ht hvm hw hB _ hk hS => ?_)
      · exact absurd (hx13.symm.trans hB.1.1) (fun z => nomatch z)
      obtain rfl : x12 = y := Option.some.inj (hx13.symm.trans hw)
      replace Z := tZ_post Z ht hvm hB hS
      refine W.widen (k := (t + 3)) (n := 12 * (t + 3)) (by omega) (by omega) ?_
      refine lv_iload C0.1.1 C0.1.2.1 dL_isPutSo_244 (lv_at hl 6 rfl) ?_
      refine lv_icmp_ne (tgt := 253) C0.1.1 C0.1.2.1 dL_isPutSo_246 (by decide) (fun hc => ?_) (fun hc => ?_)
      · replace h := (if_neg hc).symm.trans h
        exact wL_isPutSo_253 C0 hA hN hT hlf hret σ τ v2 v3 v4 v9 v11 _ _ _ (t + 3) (by omega) h Z (lv_sub hl [1, 2, 3, 4, 8, 9] rfl)
      · replace h := (if_pos hc).symm.trans h
        refine lv_iconst (v := 1) C0.1.1 C0.1.2.1 dL_isPutSo_249 (by decide) ?_
        refine lv_goto (tgt := 254) C0.1.1 C0.1.2.1 dL_isPutSo_250 (by decide) ?_
        exact wL_isPutSo_254 C0 hA hN hT hlf hret σ τ v2 v3 v4 v9 v11 (1 : Int32) _ _ _ (t + 3) (by omega) h Z (lv_sub hl [1, 2, 3, 4, 8, 9] rfl)
set_option maxRecDepth 20000 in
set_option maxHeartbeats 4000000 in
theorem wL_isPutSo_194 {p : Program} {l : Launch} {e : Env} {s : State} {m : MethodId} {args : Array Value} {below : List Frame} {meth : Method} {c : Code} {D : va_G} {cyI cyJ cyO : ClassId} {A : Nat → Prop} {bs : Nat} {d d' : Nat → Nat} {Q : State → Prop} {res : Int32 × St × St} (C0 : gC p m meth c cL_isPutSo 13 (some .boolean) s args wsL_isPutSo RL) (hA : ∀ q, bs ≤ q → A q) (hN : lQN s) (hT : dT A s) (hlf : l.stackTraces = false) (hret : ∀ (r : Int32) (σ_r : St) (τ_r : St) (H : Heap) (locs : List Loc) (pc : Nat) (ls : Array Slot) (t : Nat), t ≤ 22 → (r = 0 ∨ r = 1) → some (r, σ_r, τ_r) = some res → tZ D cyI cyJ cyO A bs d σ_r d' τ_r s H locs → decode cL_isPutSo pc = .ok (.ireturn, 1) → W p l e rmL_isPutSo s m args below meth c H locs t (12 * t) Q (F0 m pc ls [.int r]))  : ∀ (σ : St) (τ : St) (v2 : Int32) (v3 : Int32) (v4 : Int32) (v5 : Int32) (v6 : Int32) (v7 : Int64) (v9 : Int32) (v11 : Int32) (v12 : Int32) (s0 : Int32) (s1 : Int32) (H : Heap) (locs : List Loc) (ls : Array Slot) (t : Nat), t + (9) ≤ 22 → mL_isPutSo_194 σ τ v2 v3 v4 v5 v6 v7 v9 v11 v12 s0 s1 = some res → tZ D cyI cyJ cyO A bs d σ d' τ s H locs → lv_has ls 13 [(0, .ref (d 0)), (1, .ref (d' 0)), (2, .int v2), (3, .int v3), (4, .int v4), (5, .int v5), (6, .int v6), (7, .long v7), (9, .int v9), (11, .int v11), (12, .int v12)] → W p l e rmL_isPutSo s m args below meth c H locs t (12 * t) Q (F0 m 194 ls [.int s1, .int s0]) := by
  intro σ τ v2 v3 v4 v5 v6 v7 v9 v11 v12 s0 s1 H locs ls t ht0 h Z hl
  unfold mL_isPutSo_194 at h
  refine lv_icmp_ne (tgt := 253) C0.1.1 C0.1.2.1 dL_isPutSo_194 (by decide) (fun hc => ?_) (fun hc => ?_)
  · replace h := (if_neg hc).symm.trans h
    exact wL_isPutSo_253 C0 hA hN hT hlf hret σ τ v2 v3 v4 v9 v11 _ _ _ t (by omega) h Z (lv_sub hl [1, 2, 3, 4, 8, 9] rfl)
  · replace h := (if_pos hc).symm.trans h
    refine lv_iload C0.1.1 C0.1.2.1 dL_isPutSo_197 (lv_at hl 10 rfl) ?_
    refine lv_if_eq (tgt := 210) C0.1.1 C0.1.2.1 dL_isPutSo_199 (by decide) (fun hc => ?_) (fun hc => ?_)
    · replace h := (if_pos hc).symm.trans h
      exact wL_isPutSo_210 C0 hA hN hT hlf hret σ τ v2 v3 v4 v5 v6 v7 v9 v11 _ _ _ t (by omega) h Z (lv_sub hl [0, 1, 2, 3, 4, 5, 6, 7, 8, 9] rfl)
    · replace h := (if_neg hc).symm.trans h
      refine lv_lload C0.1.1 C0.1.2.1 dL_isPutSo_202 (lv_at hl 7 rfl) ?_
      refine lv_iload_n C0.1.1 C0.1.2.1 dL_isPutSo_204 rfl (lv_at hl 3 rfl) ?_
      refine lv_i2l C0.1.1 C0.1.2.1 dL_isPutSo_205 rfl ?_
      refine W.lcmp C0.1.1 C0.1.2.1 dL_isPutSo_206 ?_
      refine lv_if_ne (tgt := 253) C0.1.1 C0.1.2.1 dL_isPutSo_207 (by decide) (fun hc => ?_) (fun hc => ?_)
      · replace h := (if_neg hc).symm.trans h
        exact wL_isPutSo_253 C0 hA hN hT hlf hret σ τ v2 v3 v4 v9 v11 _ _ _ t (by omega) h Z (lv_sub hl [1, 2, 3, 4, 8, 9] rfl)
      · replace h := (if_pos hc).symm.trans h
        exact wL_isPutSo_210 C0 hA hN hT hlf hret σ τ v2 v3 v4 v5 v6 v7 v9 v11 _ _ _ t (by omega) h Z (lv_sub hl [0, 1, 2, 3, 4, 5, 6, 7, 8, 9] rfl)
set_option maxRecDepth 20000 in
set_option maxHeartbeats 4000000 in
theorem wL_isPutSo_175 {p : Program} {l : Launch} {e : Env} {s : State} {m : MethodId} {args : Array Value} {below : List Frame} {meth : Method} {c : Code} {D : va_G} {cyI cyJ cyO : ClassId} {A : Nat → Prop} {bs : Nat} {d d' : Nat → Nat} {Q : State → Prop} {res : Int32 × St × St} (C0 : gC p m meth c cL_isPutSo 13 (some .boolean) s args wsL_isPutSo RL) (hA : ∀ q, bs ≤ q → A q) (hN : lQN s) (hT : dT A s) (hlf : l.stackTraces = false) (hret : ∀ (r : Int32) (σ_r : St) (τ_r : St) (H : Heap) (locs : List Loc) (pc : Nat) (ls : Array Slot) (t : Nat), t ≤ 22 → (r = 0 ∨ r = 1) → some (r, σ_r, τ_r) = some res → tZ D cyI cyJ cyO A bs d σ_r d' τ_r s H locs → decode cL_isPutSo pc = .ok (.ireturn, 1) → W p l e rmL_isPutSo s m args below meth c H locs t (12 * t) Q (F0 m pc ls [.int r]))  : ∀ (σ : St) (τ : St) (v2 : Int32) (v3 : Int32) (v4 : Int32) (v5 : Int32) (v6 : Int32) (v7 : Int64) (v9 : Int32) (v10 : Int32) (v11 : Int32) (s0 : Int32) (H : Heap) (locs : List Loc) (ls : Array Slot) (t : Nat), t + (9) ≤ 22 → mL_isPutSo_175 σ τ v2 v3 v4 v5 v6 v7 v9 v10 v11 s0 = some res → tZ D cyI cyJ cyO A bs d σ d' τ s H locs → lv_has ls 13 [(0, .ref (d 0)), (1, .ref (d' 0)), (2, .int v2), (3, .int v3), (4, .int v4), (5, .int v5), (6, .int v6), (7, .long v7), (9, .int v9), (10, .int v10), (11, .int v11)] → W p l e rmL_isPutSo s m args below meth c H locs t (12 * t) Q (F0 m 175 ls [.int s0]) := by
  intro σ τ v2 v3 v4 v5 v6 v7 v9 v10 v11 s0 H locs ls t ht0 h Z hl
  unfold mL_isPutSo_175 at h
  refine lv_istore (lv' := [(12, .int s0), (0, .ref (d 0)), (1, .ref (d' 0)), (2, .int v2), (3, .int v3), (4, .int v4), (5, .int v5), (6, .int v6), (7, .long v7), (9, .int v9), (10, .int v10), (11, .int v11)]) C0.1.1 C0.1.2.1 dL_isPutSo_175 hl (by decide) rfl (fun ls hl => ?_)
  refine lv_iload C0.1.1 C0.1.2.1 dL_isPutSo_177 (lv_at hl 10 rfl) ?_
  refine lv_if_eq (tgt := 253) C0.1.1 C0.1.2.1 dL_isPutSo_179 (by decide) (fun hc => ?_) (fun hc => ?_)
  · replace h := (if_pos hc).symm.trans h
    exact wL_isPutSo_253 C0 hA hN hT hlf hret σ τ v2 v3 v4 v9 v11 _ _ _ t (by omega) h Z (lv_sub hl [2, 3, 4, 5, 9, 11] rfl)
  · replace h := (if_neg hc).symm.trans h
    refine lv_iload C0.1.1 C0.1.2.1 dL_isPutSo_182 (lv_at hl 11 rfl) ?_
    refine lv_iload C0.1.1 C0.1.2.1 dL_isPutSo_184 (lv_at hl 0 rfl) ?_
    refine lv_if_eq (tgt := 193) C0.1.1 C0.1.2.1 dL_isPutSo_186 (by decide) (fun hc => ?_) (fun hc => ?_)
    · replace h := (if_pos hc).symm.trans h
      refine lv_iconst (v := 1) C0.1.1 C0.1.2.1 dL_isPutSo_193 (by decide) ?_
      exact wL_isPutSo_194 C0 hA hN hT hlf hret σ τ v2 v3 v4 v5 v6 v7 v9 v11 s0 v11 (1 : Int32) _ _ _ t (by omega) h Z (lv_sub hl [1, 2, 3, 4, 5, 6, 7, 8, 9, 11, 0] rfl)
    · replace h := (if_neg hc).symm.trans h
      refine lv_iconst (v := 0) C0.1.1 C0.1.2.1 dL_isPutSo_189 (by decide) ?_
      refine lv_goto (tgt := 194) C0.1.1 C0.1.2.1 dL_isPutSo_190 (by decide) ?_
      exact wL_isPutSo_194 C0 hA hN hT hlf hret σ τ v2 v3 v4 v5 v6 v7 v9 v11 s0 v11 (0 : Int32) _ _ _ t (by omega) h Z (lv_sub hl [1, 2, 3, 4, 5, 6, 7, 8, 9, 11, 0] rfl)
set_option maxRecDepth 20000 in
set_option maxHeartbeats 4000000 in
theorem wL_isPutSo_174 {p : Program} {l : Launch} {e : Env} {s : State} {m : MethodId} {args : Array Value} {below : List Frame} {meth : Method} {c : Code} {D : va_G} {cyI cyJ cyO : ClassId} {A : Nat → Prop} {bs : Nat} {d d' : Nat → Nat} {Q : State → Prop} {res : Int32 × St × St} (C0 : gC p m meth c cL_isPutSo 13 (some .boolean) s args wsL_isPutSo RL) (hA : ∀ q, bs ≤ q → A q) (hN : lQN s) (hT : dT A s) (hlf : l.stackTraces = false) (hret : ∀ (r : Int32) (σ_r : St) (τ_r : St) (H : Heap) (locs : List Loc) (pc : Nat) (ls : Array Slot) (t : Nat), t ≤ 22 → (r = 0 ∨ r = 1) → some (r, σ_r, τ_r) = some res → tZ D cyI cyJ cyO A bs d σ_r d' τ_r s H locs → decode cL_isPutSo pc = .ok (.ireturn, 1) → W p l e rmL_isPutSo s m args below meth c H locs t (12 * t) Q (F0 m pc ls [.int r]))  : ∀ (σ : St) (τ : St) (v2 : Int32) (v3 : Int32) (v4 : Int32) (v5 : Int32) (v6 : Int32) (v7 : Int64) (v9 : Int32) (v10 : Int32) (v11 : Int32) (H : Heap) (locs : List Loc) (ls : Array Slot) (t : Nat), t + (9) ≤ 22 → mL_isPutSo_174 σ τ v2 v3 v4 v5 v6 v7 v9 v10 v11 = some res → tZ D cyI cyJ cyO A bs d σ d' τ s H locs → lv_has ls 13 [(0, .ref (d 0)), (1, .ref (d' 0)), (2, .int v2), (3, .int v3), (4, .int v4), (5, .int v5), (6, .int v6), (7, .long v7), (9, .int v9), (10, .int v10), (11, .int v11)] → W p l e rmL_isPutSo s m args below meth c H locs t (12 * t) Q (F0 m 174 ls []) := by
  intro σ τ v2 v3 v4 v5 v6 v7 v9 v10 v11 H locs ls t ht0 h Z hl
  unfold mL_isPutSo_174 at h
  refine lv_iconst (v := 0) C0.1.1 C0.1.2.1 dL_isPutSo_174 (by decide) ?_
  exact wL_isPutSo_175 C0 hA hN hT hlf hret σ τ v2 v3 v4 v5 v6 v7 v9 v10 v11 (0 : Int32) _ _ _ t (by omega) h Z (lv_sub hl [0, 1, 2, 3, 4, 5, 6, 7, 8, 9, 10] rfl)
set_option maxRecDepth 20000 in
set_option maxHeartbeats 4000000 in
theorem wL_isPutSo_151 {p : Program} {l : Launch} {e : Env} {s : State} {m : MethodId} {args : Array Value} {below : List Frame} {meth : Method} {c : Code} {D : va_G} {cyI cyJ cyO : ClassId} {A : Nat → Prop} {bs : Nat} {d d' : Nat → Nat} {Q : State → Prop} {res : Int32 × St × St} (C0 : gC p m meth c cL_isPutSo 13 (some .boolean) s args wsL_isPutSo RL) (hA : ∀ q, bs ≤ q → A q) (hN : lQN s) (hT : dT A s) (hlf : l.stackTraces = false) (hret : ∀ (r : Int32) (σ_r : St) (τ_r : St) (H : Heap) (locs : List Loc) (pc : Nat) (ls : Array Slot) (t : Nat), t ≤ 22 → (r = 0 ∨ r = 1) → some (r, σ_r, τ_r) = some res → tZ D cyI cyJ cyO A bs d σ_r d' τ_r s H locs → decode cL_isPutSo pc = .ok (.ireturn, 1) → W p l e rmL_isPutSo s m args below meth c H locs t (12 * t) Q (F0 m pc ls [.int r]))  : ∀ (σ : St) (τ : St) (v2 : Int32) (v3 : Int32) (v4 : Int32) (v5 : Int32) (v6 : Int32) (v7 : Int64) (v9 : Int32) (s0 : Int32) (H : Heap) (locs : List Loc) (ls : Array Slot) (t : Nat), t + (10) ≤ 22 → mL_isPutSo_151 σ τ v2 v3 v4 v5 v6 v7 v9 s0 = some res → tZ D cyI cyJ cyO A bs d σ d' τ s H locs → lv_has ls 13 [(0, .ref (d 0)), (1, .ref (d' 0)), (2, .int v2), (3, .int v3), (4, .int v4), (5, .int v5), (6, .int v6), (7, .long v7), (9, .int v9)] → W p l e rmL_isPutSo s m args below meth c H locs t (12 * t) Q (F0 m 151 ls [.int s0]) := by
  intro σ τ v2 v3 v4 v5 v6 v7 v9 s0 H locs ls t ht0 h Z hl
  unfold mL_isPutSo_151 at h
  refine lv_istore (lv' := [(10, .int s0), (0, .ref (d 0)), (1, .ref (d' 0)), (2, .int v2), (3, .int v3), (4, .int v4), (5, .int v5), (6, .int v6), (7, .long v7), (9, .int v9)]) C0.1.1 C0.1.2.1 dL_isPutSo_151 hl (by decide) rfl (fun ls hl => ?_)
  refine lv_aload_n C0.1.1 C0.1.2.1 dL_isPutSo_153 rfl (lv_at hl 1 rfl) ?_
  obtain ⟨x14, hx15, h⟩ := g_bd h
  refine vx_calli (vx_runV (b := d 0) (C := RX3) (As := []) (rest := []) C0.1 (tL_xi hA (fun Y => o_drop l hlf D cyI cyJ cyO A bs hA Y d σ)) (cwV 0 C0.1.2.2.2.2 gL_isPutSo_X3_drop rfl rfl rfl (by decide +kernel) ⟨Nat.le_of_ble_eq_true rfl, Nat.le_of_ble_eq_true rfl⟩) ⟨tP_blind, tZ_recvL Z, tP_pre Z hN hT _⟩ rfl rfl hl.1 rfl (lv_room (Nat.le_of_ble_eq_true rfl)) dL_isPutSo_154 ⟨by show t + 1 ≤ 22; omega, by show 12 * t + 6 ≤ 264; omega⟩) (tZ_S Z) (fun _ _ h => h) (fun _ h => h) (fun _ _ h => h) (fun E ce q9 u t1 H1 locs1 ht hvm _ hB _ hk hS h1 h2 h3 => ?_) (fun y u t1 H locs ht hvm hw hB _ hk hS => ?_)
  · exact absurd (hx15.symm.trans hB.1.1) (fun z => nomatch z)
  obtain rfl : x14 = y := Option.some.inj (hx15.symm.trans hw)
  replace Z := tZ_post Z ht hvm hB hS
  refine W.widen (k := (t + 1)) (n := 12 * (t + 1)) (by omega) (by omega) ?_
  refine lv_istore (lv' := [(11, .int x14), (10, .int s0), (0, .ref (d 0)), (1, .ref (d' 0)), (2, .int v2), (3, .int v3), (4, .int v4), (5, .int v5), (6, .int v6), (7, .long v7), (9, .int v9)]) C0.1.1 C0.1.2.1 dL_isPutSo_157 hl (by decide) rfl (fun ls hl => ?_)
  refine lv_iload C0.1.1 C0.1.2.1 dL_isPutSo_159 (lv_at hl 8 rfl) ?_
  refine lv_iconst (v := 1) C0.1.1 C0.1.2.1 dL_isPutSo_161 (by decide) ?_
  refine lv_icmp_ne (tgt := 174) C0.1.1 C0.1.2.1 dL_isPutSo_162 (by decide) (fun hc => ?_) (fun hc => ?_)
  · replace h := (if_neg hc).symm.trans h
    exact wL_isPutSo_174 C0 hA hN hT hlf hret ((aDrop σ).2) τ v2 v3 v4 v5 v6 v7 v9 s0 x14 _ _ _ (t + 1) (by omega) h Z (lv_sub hl [2, 3, 4, 5, 6, 7, 8, 9, 10, 1, 0] rfl)
  · replace h := (if_pos hc).symm.trans h
    refine lv_iload C0.1.1 C0.1.2.1 dL_isPutSo_165 (lv_at hl 0 rfl) ?_
    refine lv_if_ne (tgt := 174) C0.1.1 C0.1.2.1 dL_isPutSo_167 (by decide) (fun hc => ?_) (fun hc => ?_)
    · replace h := (if_neg hc).symm.trans h
      exact wL_isPutSo_174 C0 hA hN hT hlf hret ((aDrop σ).2) τ v2 v3 v4 v5 v6 v7 v9 s0 x14 _ _ _ (t + 1) (by omega) h Z (lv_sub hl [2, 3, 4, 5, 6, 7, 8, 9, 10, 1, 0] rfl)
    · replace h := (if_pos hc).symm.trans h
      refine lv_iconst (v := 1) C0.1.1 C0.1.2.1 dL_isPutSo_170 (by decide) ?_
      refine lv_goto (tgt := 175) C0.1.1 C0.1.2.1 dL_isPutSo_171 (by decide) ?_
      exact wL_isPutSo_175 C0 hA hN hT hlf hret ((aDrop σ).2) τ v2 v3 v4 v5 v6 v7 v9 s0 x14 (1 : Int32) _ _ _ (t + 1) (by omega) h Z (lv_sub hl [2, 3, 4, 5, 6, 7, 8, 9, 10, 1, 0] rfl)
set_option maxRecDepth 20000 in
set_option maxHeartbeats 4000000 in
theorem wL_isPutSo_150 {p : Program} {l : Launch} {e : Env} {s : State} {m : MethodId} {args : Array Value} {below : List Frame} {meth : Method} {c : Code} {D : va_G} {cyI cyJ cyO : ClassId} {A : Nat → Prop} {bs : Nat} {d d' : Nat → Nat} {Q : State → Prop} {res : Int32 × St × St} (C0 : gC p m meth c cL_isPutSo 13 (some .boolean) s args wsL_isPutSo RL) (hA : ∀ q, bs ≤ q → A q) (hN : lQN s) (hT : dT A s) (hlf : l.stackTraces = false) (hret : ∀ (r : Int32) (σ_r : St) (τ_r : St) (H : Heap) (locs : List Loc) (pc : Nat) (ls : Array Slot) (t : Nat), t ≤ 22 → (r = 0 ∨ r = 1) → some (r, σ_r, τ_r) = some res → tZ D cyI cyJ cyO A bs d σ_r d' τ_r s H locs → decode cL_isPutSo pc = .ok (.ireturn, 1) → W p l e rmL_isPutSo s m args below meth c H locs t (12 * t) Q (F0 m pc ls [.int r]))  : ∀ (σ : St) (τ : St) (v2 : Int32) (v3 : Int32) (v4 : Int32) (v5 : Int32) (v6 : Int32) (v7 : Int64) (v9 : Int32) (H : Heap) (locs : List Loc) (ls : Array Slot) (t : Nat), t + (10) ≤ 22 → mL_isPutSo_150 σ τ v2 v3 v4 v5 v6 v7 v9 = some res → tZ D cyI cyJ cyO A bs d σ d' τ s H locs → lv_has ls 13 [(0, .ref (d 0)), (1, .ref (d' 0)), (2, .int v2), (3, .int v3), (4, .int v4), (5, .int v5), (6, .int v6), (7, .long v7), (9, .int v9)] → W p l e rmL_isPutSo s m args below meth c H locs t (12 * t) Q (F0 m 150 ls []) := by
  intro σ τ v2 v3 v4 v5 v6 v7 v9 H locs ls t ht0 h Z hl
  unfold mL_isPutSo_150 at h
  refine lv_iconst (v := 0) C0.1.1 C0.1.2.1 dL_isPutSo_150 (by decide) ?_
  exact wL_isPutSo_151 C0 hA hN hT hlf hret σ τ v2 v3 v4 v5 v6 v7 v9 (0 : Int32) _ _ _ t (by omega) h Z (lv_sub hl [0, 1, 2, 3, 4, 5, 6, 7, 8] rfl)
set_option maxRecDepth 20000 in
set_option maxHeartbeats 4000000 in
theorem wL_isPutSo_81 {p : Program} {l : Launch} {e : Env} {s : State} {m : MethodId} {args : Array Value} {below : List Frame} {meth : Method} {c : Code} {D : va_G} {cyI cyJ cyO : ClassId} {A : Nat → Prop} {bs : Nat} {d d' : Nat → Nat} {Q : State → Prop} {res : Int32 × St × St} (C0 : gC p m meth c cL_isPutSo 13 (some .boolean) s args wsL_isPutSo RL) (hA : ∀ q, bs ≤ q → A q) (hN : lQN s) (hT : dT A s) (hlf : l.stackTraces = false) (hret : ∀ (r : Int32) (σ_r : St) (τ_r : St) (H : Heap) (locs : List Loc) (pc : Nat) (ls : Array Slot) (t : Nat), t ≤ 22 → (r = 0 ∨ r = 1) → some (r, σ_r, τ_r) = some res → tZ D cyI cyJ cyO A bs d σ_r d' τ_r s H locs → decode cL_isPutSo pc = .ok (.ireturn, 1) → W p l e rmL_isPutSo s m args below meth c H locs t (12 * t) Q (F0 m pc ls [.int r])) {r57 : St → St → Int32 → Int32 → Int32 → Int32 → Int32 → Int64 → Int32 → Option (Int32 × St × St)} {n57 : Nat} (hr57 : ∀ (σ : St) (τ : St) (v2 : Int32) (v3 : Int32) (v4 : Int32) (v5 : Int32) (v6 : Int32) (v7 : Int64) (v9 : Int32) (H : Heap) (locs : List Loc) (ls : Array Slot) (t : Nat), t + (19 + n57 * 0) ≤ 22 → r57 σ τ v2 v3 v4 v5 v6 v7 v9 = some res → tZ D cyI cyJ cyO A bs d σ d' τ s H locs → lv_has ls 13 [(0, .ref (d 0)), (1, .ref (d' 0)), (2, .int v2), (3, .int v3), (4, .int v4), (5, .int v5), (6, .int v6), (7, .long v7), (9, .int v9)] → W p l e rmL_isPutSo s m args below meth c H locs t (12 * t) Q (F0 m 57 ls [])) : ∀ (σ : St) (τ : St) (v2 : Int32) (v3 : Int32) (v5 : Int32) (v6 : Int32) (v7 : Int64) (v9 : Int32) (s0 : Int32) (s1 : Int32) (H : Heap) (locs : List Loc) (ls : Array Slot) (t : Nat), t + (19 + n57 * 0) ≤ 22 → mL_isPutSo_81 r57 σ τ v2 v3 v5 v6 v7 v9 s0 s1 = some res → tZ D cyI cyJ cyO A bs d σ d' τ s H locs → lv_has ls 13 [(0, .ref (d 0)), (1, .ref (d' 0)), (2, .int v2), (3, .int v3), (5, .int v5), (6, .int v6), (7, .long v7), (9, .int v9)] → W p l e rmL_isPutSo s m args below meth c H locs t (12 * t) Q (F0 m 81 ls [.int s1, .int s0]) := by
  intro σ τ v2 v3 v5 v6 v7 v9 s0 s1 H locs ls t ht0 h Z hl
  unfold mL_isPutSo_81 at h
  refine lv_iadd C0.1.1 C0.1.2.1 dL_isPutSo_81 ?_
  refine lv_istore (lv' := [(4, .int (s0 + s1)), (0, .ref (d 0)), (1, .ref (d' 0)), (2, .int v2), (3, .int v3), (5, .int v5), (6, .int v6), (7, .long v7), (9, .int v9)]) C0.1.1 C0.1.2.1 dL_isPutSo_82 hl (by decide) rfl (fun ls hl => ?_)
  refine lv_iinc (v := v9 + (1 : Int32)) (lv' := [(9, .int (v9 + (1 : Int32))), (4, .int (s0 + s1)), (0, .ref (d 0)), (1, .ref (d' 0)), (2, .int v2), (3, .int v3), (5, .int v5), (6, .int v6), (7, .long v7)]) C0.1.1 C0.1.2.1 dL_isPutSo_84 hl (k := 8) rfl rfl (by decide) rfl (fun ls hl => ?_)
  refine lv_goto (tgt := 57) C0.1.1 C0.1.2.1 dL_isPutSo_87 (by decide) ?_
  exact hr57 σ τ v2 v3 (s0 + s1) v5 v6 v7 (v9 + (1 : Int32)) _ _ _ t (by omega) h Z (lv_sub hl [2, 3, 4, 5, 1, 6, 7, 8, 0] rfl)
set_option maxRecDepth 20000 in
set_option maxHeartbeats 4000000 in
theorem wL_isPutSo_57_b {p : Program} {l : Launch} {e : Env} {s : State} {m : MethodId} {args : Array Value} {below : List Frame} {meth : Method} {c : Code} {D : va_G} {cyI cyJ cyO : ClassId} {A : Nat → Prop} {bs : Nat} {d d' : Nat → Nat} {Q : State → Prop} {res : Int32 × St × St} (C0 : gC p m meth c cL_isPutSo 13 (some .boolean) s args wsL_isPutSo RL) (hA : ∀ q, bs ≤ q → A q) (hN : lQN s) (hT : dT A s) (hlf : l.stackTraces = false) (hret : ∀ (r : Int32) (σ_r : St) (τ_r : St) (H : Heap) (locs : List Loc) (pc : Nat) (ls : Array Slot) (t : Nat), t ≤ 22 → (r = 0 ∨ r = 1) → some (r, σ_r, τ_r) = some res → tZ D cyI cyJ cyO A bs d σ_r d' τ_r s H locs → decode cL_isPutSo pc = .ok (.ireturn, 1) → W p l e rmL_isPutSo s m args below meth c H locs t (12 * t) Q (F0 m pc ls [.int r])) {r57 : St → St → Int32 → Int32 → Int32 → Int32 → Int32 → Int64 → Int32 → Option (Int32 × St × St)} {n57 : Nat} (hr57 : ∀ (σ : St) (τ : St) (v2 : Int32) (v3 : Int32) (v4 : Int32) (v5 : Int32) (v6 : Int32) (v7 : Int64) (v9 : Int32) (H : Heap) (locs : List Loc) (ls : Array Slot) (t : Nat), t + (19 + n57 * 0) ≤ 22 → r57 σ τ v2 v3 v4 v5 v6 v7 v9 = some res → tZ D cyI cyJ cyO A bs d σ d' τ s H locs → lv_has ls 13 [(0, .ref (d 0)), (1, .ref (d' 0)), (2, .int v2), (3, .int v3), (4, .int v4), (5, .int v5), (6, .int v6), (7, .long v7), (9, .int v9)] → W p l e rmL_isPutSo s m args below meth c H locs t (12 * t) Q (F0 m 57 ls [])) : ∀ (σ : St) (τ : St) (v2 : Int32) (v3 : Int32) (v4 : Int32) (v5 : Int32) (v6 : Int32) (v7 : Int64) (v9 : Int32) (H : Heap) (locs : List Loc) (ls : Array Slot) (t : Nat), t + (19 + n57 * 0) ≤ 22 → mL_isPutSo_57_b r57 σ τ v2 v3 v4 v5 v6 v7 v9 = some res → tZ D cyI cyJ cyO A bs d σ d' τ s H locs → lv_has ls 13 [(0, .ref (d 0)), (1, .ref (d' 0)), (2, .int v2), (3, .int v3), (4, .int v4), (5, .int v5), (6, .int v6), (7, .long v7), (9, .int v9)] → W p l e rmL_isPutSo s m args below meth c H locs t (12 * t) Q (F0 m 57 ls []) := by
  intro σ τ v2 v3 v4 v5 v6 v7 v9 H locs ls t ht0 h Z hl
  unfold mL_isPutSo_57_b at h
  refine lv_iload C0.1.1 C0.1.2.1 dL_isPutSo_57 (lv_at hl 8 rfl) ?_
  refine lv_bipush (v := 30) C0.1.1 C0.1.2.1 dL_isPutSo_59 (by decide +kernel) ?_
  refine lv_icmp_ge (tgt := 90) C0.1.1 C0.1.2.1 dL_isPutSo_61 (by decide) (fun hc => ?_) (fun hc => ?_)
  · replace h := (if_pos hc).symm.trans h
    refine lv_aload_n C0.1.1 C0.1.2.1 dL_isPutSo_90 rfl (lv_at hl 0 rfl) ?_
    refine va_calli (va_runV (b := d 0) (C := RX3) (As := []) (rest := []) C0.1 (tL_i hA (fun Y => o_layers l D cyI cyJ cyO A bs hA Y d σ)) (cwV 0 C0.1.2.2.2.2 gL_isPutSo_X3_layers rfl rfl rfl (by decide +kernel) ⟨Nat.le_of_ble_eq_true rfl, Nat.le_of_ble_eq_true rfl⟩) ⟨tP_blind, tZ_recvL Z, tP_pre Z hN hT _⟩ rfl rfl hl.1 rfl (lv_room (Nat.le_of_ble_eq_true rfl)) dL_isPutSo_91 ⟨by show t + 0 ≤ 22; omega, by show 12 * t + 0 ≤ 264; omega⟩) (tZ_S Z) (fun _ _ h => h) (fun _ h => h) (fun y u t1 H locs ht hvm hw hB _ hk hS => ?_)
    subst hw
    replace Z := tZ_post Z ht hvm hB hS
    refine lv_istore (lv' := [(9, .int (aLayers σ)), (0, .ref (d 0)), (1, .ref (d' 0)), (2, .int v2), (3, .int v3), (4, .int v4), (5, .int v5), (6, .int v6), (7, .long v7)]) C0.1.1 C0.1.2.1 dL_isPutSo_94 hl (by decide) rfl (fun ls hl => ?_)
    refine lv_aload_n C0.1.1 C0.1.2.1 dL_isPutSo_96 rfl (lv_at hl 1 rfl) ?_
    obtain ⟨x18, hx19, h⟩ := g_bd h
    refine vx_calli (vx_runV (b := d 0) (C := RX3) (As := []) (rest := []) C0.1 (tL_xi hA (fun Y => o_open l hlf D cyI cyJ cyO A bs hA Y d σ)) (cwV 0 C0.1.2.2.2.2 gL_isPutSo_X3_open rfl rfl rfl (by decide +kernel) ⟨Nat.le_of_ble_eq_true rfl, Nat.le_of_ble_eq_true rfl⟩) ⟨tP_blind, tZ_recvL Z, tP_pre Z hN hT _⟩ rfl rfl hl.1 rfl (lv_room (Nat.le_of_ble_eq_true rfl)) dL_isPutSo_97 ⟨by show t + 1 ≤ 22; omega, by show 12 * t + 6 ≤ 264; omega⟩) (tZ_S Z) (fun _ _ h => h) (fun _ h => h) (fun _ _ h => h) (fun E ce q9 u t1 H1 locs1 ht hvm _ hB _ hk hS h1 h2 h3 => ?_) (fun y u t1 H locs ht hvm hw hB _ hk hS => ?_)
    · exact absurd (hx19.symm.trans hB.1.1) (fun z => nomatch z)
    obtain rfl : x18 = y := Option.some.inj (hx19.symm.trans hw)
    replace Z := tZ_post Z ht hvm hB hS
    refine W.widen (k := (t + 1)) (n := 12 * (t + 1)) (by omega) (by omega) ?_
    refine lv_iload C0.1.1 C0.1.2.1 dL_isPutSo_100 (lv_at hl 0 rfl) ?_
    refine lv_iconst (v := 1) C0.1.1 C0.1.2.1 dL_isPutSo_102 (by decide) ?_
    refine lv_iadd C0.1.1 C0.1.2.1 dL_isPutSo_103 ?_
    refine lv_icmp_ne (tgt := 150) C0.1.1 C0.1.2.1 dL_isPutSo_104 (by decide) (fun hc => ?_) (fun hc => ?_)
    · replace h := (if_neg hc).symm.trans h
      exact wL_isPutSo_150 C0 hA hN hT hlf hret ((aOpen σ).2) τ v2 v3 v4 v5 v6 v7 (aLayers σ) _ _ _ (t + 1) (by omega) h Z (lv_sub hl [1, 2, 3, 4, 5, 6, 7, 8, 0] rfl)
    · replace h := (if_pos hc).symm.trans h
      refine lv_aload_n C0.1.1 C0.1.2.1 dL_isPutSo_107 rfl (lv_at hl 1 rfl) ?_
      refine lv_iload_n C0.1.1 C0.1.2.1 dL_isPutSo_108 rfl (lv_at hl 3 rfl) ?_
      refine lv_iload_n C0.1.1 C0.1.2.1 dL_isPutSo_109 rfl (lv_at hl 4 rfl) ?_
      obtain ⟨x20, hx21, h⟩ := g_bd h
      refine vx_calli (vx_runV (b := d 0) (C := RX3) (As := [.int v2, .int v3]) (rest := []) C0.1 (tL_xi hA (fun Y => o_put l hlf D cyI cyJ cyO A bs hA Y d ((aOpen σ).2) v2 v3)) (cwV 2 C0.1.2.2.2.2 gL_isPutSo_X3_put rfl rfl rfl (by decide +kernel) ⟨Nat.le_of_ble_eq_true rfl, Nat.le_of_ble_eq_true rfl⟩) ⟨tP_blind, tZ_recvL Z, tP_pre Z hN hT _⟩ rfl rfl hl.1 rfl (lv_room (Nat.le_of_ble_eq_true rfl)) dL_isPutSo_110 ⟨by show (t + 1) + 4 ≤ 22; omega, by show 12 * (t + 1) + 15 ≤ 264; omega⟩) (tZ_S Z) (fun _ _ h => h) (fun _ h => h) (fun _ _ h => h) (fun E ce q9 u t1 H1 locs1 ht hvm _ hB _ hk hS h1 h2 h3 => ?_) (fun y u t1 H locs ht hvm hw hB _ hk hS => ?_)
      · exact absurd (hx21.symm.trans hB.1.1) (fun z => nomatch z)
      obtain rfl : x20 = y := Option.some.inj (hx21.symm.trans hw)
      replace Z := tZ_post Z ht hvm hB hS
      refine W.widen (k := (t + 5)) (n := 12 * (t + 5)) (by omega) (by omega) ?_
      refine lv_iload C0.1.1 C0.1.2.1 dL_isPutSo_113 (lv_at hl 5 rfl) ?_
      refine lv_icmp_ne (tgt := 150) C0.1.1 C0.1.2.1 dL_isPutSo_115 (by decide) (fun hc => ?_) (fun hc => ?_)
      · replace h := (if_neg hc).symm.trans h
        exact wL_isPutSo_150 C0 hA hN hT hlf hret ((aPut ((aOpen σ).2) v2 v3).2) τ v2 v3 v4 v5 v6 v7 (aLayers σ) _ _ _ (t + 5) (by omega) h Z (lv_sub hl [1, 2, 3, 4, 5, 6, 7, 8, 0] rfl)
      · replace h := (if_pos hc).symm.trans h
        refine lv_aload_n C0.1.1 C0.1.2.1 dL_isPutSo_118 rfl (lv_at hl 1 rfl) ?_
        refine lv_iload_n C0.1.1 C0.1.2.1 dL_isPutSo_119 rfl (lv_at hl 3 rfl) ?_
        obtain ⟨x22, hx23, h⟩ := g_bd h
        refine vx_calll (vx_runV (b := d 0) (C := RX3) (As := [.int v2]) (rest := []) C0.1 (tL_xl hA (fun Y => o_value l hlf D cyI cyJ cyO A bs hA Y d ((aPut ((aOpen σ).2) v2 v3).2) v2)) (cwV 1 C0.1.2.2.2.2 gL_isPutSo_X3_value rfl rfl rfl (by decide +kernel) ⟨Nat.le_of_ble_eq_true rfl, Nat.le_of_ble_eq_true rfl⟩) ⟨tP_blind, tZ_recvL Z, tP_pre Z hN hT _⟩ rfl rfl hl.1 rfl (lv_room (Nat.le_of_ble_eq_true rfl)) dL_isPutSo_120 ⟨by show (t + 5) + 2 ≤ 22; omega, by show 12 * (t + 5) + 12 ≤ 264; omega⟩) (tZ_S Z) (fun _ _ h => h) (fun _ h => h) (fun _ _ h => h) (fun E ce q9 u t1 H1 locs1 ht hvm _ hB _ hk hS h1 h2 h3 => ?_) (fun y u t1 H locs ht hvm hw hB _ hk hS => ?_)
        · exact absurd (hx23.symm.trans hB.1.1) (fun z => nomatch z)
        obtain rfl : x22 = y := Option.some.inj (hx23.symm.trans hw)
        replace Z := tZ_post Z ht hvm hB hS
        refine W.widen (k := (t + 7)) (n := 12 * (t + 7)) (by omega) (by omega) ?_
        refine lv_iload_n C0.1.1 C0.1.2.1 dL_isPutSo_123 rfl (lv_at hl 4 rfl) ?_
        refine lv_i2l C0.1.1 C0.1.2.1 dL_isPutSo_124 rfl ?_
        refine W.lcmp C0.1.1 C0.1.2.1 dL_isPutSo_125 ?_
        refine lv_if_ne (tgt := 150) C0.1.1 C0.1.2.1 dL_isPutSo_126 (by decide) (fun hc => ?_) (fun hc => ?_)
        · replace h := (if_neg hc).symm.trans h
          exact wL_isPutSo_150 C0 hA hN hT hlf hret ((aPut ((aOpen σ).2) v2 v3).2) τ v2 v3 v4 v5 v6 v7 (aLayers σ) _ _ _ (t + 7) (by omega) h Z (lv_sub hl [1, 2, 3, 4, 5, 6, 7, 8, 0] rfl)
        · replace h := (if_pos hc).symm.trans h
          refine lv_aload_n C0.1.1 C0.1.2.1 dL_isPutSo_129 rfl (lv_at hl 1 rfl) ?_
          refine lv_iload_n C0.1.1 C0.1.2.1 dL_isPutSo_130 rfl (lv_at hl 3 rfl) ?_
          obtain ⟨x24, hx25, h⟩ := g_bd h
          refine vx_calli (vx_runV (b := d 0) (C := RX3) (As := [.int v2]) (rest := []) C0.1 (tL_xi hA (fun Y => o_signs l hlf D cyI cyJ cyO A bs hA Y d ((aPut ((aOpen σ).2) v2 v3).2) v2)) (cwV 1 C0.1.2.2.2.2 gL_isPutSo_X3_signs rfl rfl rfl (by decide +kernel) ⟨Nat.le_of_ble_eq_true rfl, Nat.le_of_ble_eq_true rfl⟩) ⟨tP_blind, tZ_recvL Z, tP_pre Z hN hT _⟩ rfl rfl hl.1 rfl (lv_room (Nat.le_of_ble_eq_true rfl)) dL_isPutSo_131 ⟨by show (t + 7) + 1 ≤ 22; omega, by show 12 * (t + 7) + 6 ≤ 264; omega⟩) (tZ_S Z) (fun _ _ h => h) (fun _ h => h) (fun _ _ h => h) (fun E ce q9 u t1 H1 locs1 ht hvm _ hB _ hk hS h1 h2 h3 => ?_) (fun y u t1 H locs ht hvm hw hB _ hk hS => ?_)
          · exact absurd (hx25.symm.trans hB.1.1) (fun z => nomatch z)
          obtain rfl : x24 = y := Option.some.inj (hx25.symm.trans hw)
          replace Z := tZ_post Z ht hvm hB hS
          refine W.widen (k := (t + 8)) (n := 12 * (t + 8)) (by omega) (by omega) ?_
          refine lv_iconst (v := 1) C0.1.1 C0.1.2.1 dL_isPutSo_134 (by decide) ?_
          refine lv_icmp_ne (tgt := 150) C0.1.1 C0.1.2.1 dL_isPutSo_135 (by decide) (fun hc => ?_) (fun hc => ?_)
          · replace h := (if_neg hc).symm.trans h
            exact wL_isPutSo_150 C0 hA hN hT hlf hret ((aPut ((aOpen σ).2) v2 v3).2) τ v2 v3 v4 v5 v6 v7 (aLayers σ) _ _ _ (t + 8) (by omega) h Z (lv_sub hl [1, 2, 3, 4, 5, 6, 7, 8, 0] rfl)
          · replace h := (if_pos hc).symm.trans h
            refine lv_aload_n C0.1.1 C0.1.2.1 dL_isPutSo_138 rfl (lv_at hl 1 rfl) ?_
            refine lv_iload_n C0.1.1 C0.1.2.1 dL_isPutSo_139 rfl (lv_at hl 3 rfl) ?_
            obtain ⟨x26, hx27, h⟩ := g_bd h
            refine vx_calli (vx_runV (b := d 0) (C := RX3) (As := [.int v2]) (rest := []) C0.1 (tL_xi hA (fun Y => o_level l hlf D cyI cyJ cyO A bs hA Y d ((aPut ((aOpen σ).2) v2 v3).2) v2)) (cwV 1 C0.1.2.2.2.2 gL_isPutSo_X3_level rfl rfl rfl (by decide +kernel) ⟨Nat.le_of_ble_eq_true rfl, Nat.le_of_ble_eq_true rfl⟩) ⟨tP_blind, tZ_recvL Z, tP_pre Z hN hT _⟩ rfl rfl hl.1 rfl (lv_room (Nat.le_of_ble_eq_true rfl)) dL_isPutSo_140 ⟨by show (t + 8) + 1 ≤ 22; omega, by show 12 * (t + 8) + 6 ≤ 264; omega⟩) (tZ_S Z) (fun _ _ h => h) (fun _ h => h) (fun _ _ h => h) (fun E ce q9 u t1 H1 locs1 ht hvm _ hB _ hk hS h1 h2 h3 => ?_) (fun y u t1 H locs ht hvm hw hB _ hk hS => ?_)
            · exact absurd (hx27.symm.trans hB.1.1) (fun z => nomatch z)
            obtain rfl : x26 = y := Option.some.inj (hx27.symm.trans hw)
            replace Z := tZ_post Z ht hvm hB hS
            refine W.widen (k := (t + 9)) (n := 12 * (t + 9)) (by omega) (by omega) ?_
            refine lv_if_ne (tgt := 150) C0.1.1 C0.1.2.1 dL_isPutSo_143 (by decide) (fun hc => ?_) (fun hc => ?_)
            · replace h := (if_neg hc).symm.trans h
              exact wL_isPutSo_150 C0 hA hN hT hlf hret ((aPut ((aOpen σ).2) v2 v3).2) τ v2 v3 v4 v5 v6 v7 (aLayers σ) _ _ _ (t + 9) (by omega) h Z (lv_sub hl [1, 2, 3, 4, 5, 6, 7, 8, 0] rfl)
            · replace h := (if_pos hc).symm.trans h
              refine lv_iconst (v := 1) C0.1.1 C0.1.2.1 dL_isPutSo_146 (by decide) ?_
              refine lv_goto (tgt := 151) C0.1.1 C0.1.2.1 dL_isPutSo_147 (by decide) ?_
              exact wL_isPutSo_151 C0 hA hN hT hlf hret ((aPut ((aOpen σ).2) v2 v3).2) τ v2 v3 v4 v5 v6 v7 (aLayers σ) (1 : Int32) _ _ _ (t + 9) (by omega) h Z (lv_sub hl [1, 2, 3, 4, 5, 6, 7, 8, 0] rfl)
  · replace h := (if_neg hc).symm.trans h
    refine lv_iload C0.1.1 C0.1.2.1 dL_isPutSo_64 (lv_at hl 4 rfl) ?_
    refine lv_aload_n C0.1.1 C0.1.2.1 dL_isPutSo_66 rfl (lv_at hl 0 rfl) ?_
    refine lv_iload C0.1.1 C0.1.2.1 dL_isPutSo_67 (lv_at hl 8 rfl) ?_
    refine lv_iload_n C0.1.1 C0.1.2.1 dL_isPutSo_69 rfl (lv_at hl 2 rfl) ?_
    obtain ⟨x28, hx29, h⟩ := g_bd h
    refine va_calli (va_runV (b := d 0) (C := RX3) (As := [.int v9, .int v2]) (rest := [.int v4]) C0.1 (tL_i hA (fun Y => o_depends l D cyI cyJ cyO A bs hA Y d σ v9 v2 x28 hx29)) (cwV 2 C0.1.2.2.2.2 gL_isPutSo_X3_depends rfl rfl rfl (by decide +kernel) ⟨Nat.le_of_ble_eq_true rfl, Nat.le_of_ble_eq_true rfl⟩) ⟨tP_blind, tZ_recvL Z, tP_pre Z hN hT _⟩ rfl rfl hl.1 rfl (lv_room (Nat.le_of_ble_eq_true rfl)) dL_isPutSo_70 ⟨by show t + 0 ≤ 22; omega, by show 12 * t + 0 ≤ 264; omega⟩) (tZ_S Z) (fun _ _ h => h) (fun _ h => h) (fun y u t1 H locs ht hvm hw hB _ hk hS => ?_)
    subst hw
    replace Z := tZ_post Z ht hvm hB hS
    refine lv_if_eq (tgt := 80) C0.1.1 C0.1.2.1 dL_isPutSo_73 (by decide) (fun hc => ?_) (fun hc => ?_)
    · replace h := (if_pos hc).symm.trans h
      refine lv_iconst (v := 0) C0.1.1 C0.1.2.1 dL_isPutSo_80 (by decide) ?_
      exact wL_isPutSo_81 C0 hA hN hT hlf hret hr57 σ τ v2 v3 v5 v6 v7 v9 v4 (0 : Int32) _ _ _ t (by omega) h Z (lv_sub hl [0, 1, 2, 3, 5, 6, 7, 8] rfl)
    · replace h := (if_neg hc).symm.trans h
      refine lv_iconst (v := 1) C0.1.1 C0.1.2.1 dL_isPutSo_76 (by decide) ?_
      refine lv_goto (tgt := 81) C0.1.1 C0.1.2.1 dL_isPutSo_77 (by decide) ?_
      exact wL_isPutSo_81 C0 hA hN hT hlf hret hr57 σ τ v2 v3 v5 v6 v7 v9 v4 (1 : Int32) _ _ _ t (by omega) h Z (lv_sub hl [0, 1, 2, 3, 5, 6, 7, 8] rfl)
theorem wL_isPutSo_57 {p : Program} {l : Launch} {e : Env} {s : State} {m : MethodId} {args : Array Value} {below : List Frame} {meth : Method} {c : Code} {D : va_G} {cyI cyJ cyO : ClassId} {A : Nat → Prop} {bs : Nat} {d d' : Nat → Nat} {Q : State → Prop} {res : Int32 × St × St} (C0 : gC p m meth c cL_isPutSo 13 (some .boolean) s args wsL_isPutSo RL) (hA : ∀ q, bs ≤ q → A q) (hN : lQN s) (hT : dT A s) (hlf : l.stackTraces = false) (hret : ∀ (r : Int32) (σ_r : St) (τ_r : St) (H : Heap) (locs : List Loc) (pc : Nat) (ls : Array Slot) (t : Nat), t ≤ 22 → (r = 0 ∨ r = 1) → some (r, σ_r, τ_r) = some res → tZ D cyI cyJ cyO A bs d σ_r d' τ_r s H locs → decode cL_isPutSo pc = .ok (.ireturn, 1) → W p l e rmL_isPutSo s m args below meth c H locs t (12 * t) Q (F0 m pc ls [.int r]))  : ∀ (n_ : Nat), ∀ (σ : St) (τ : St) (v2 : Int32) (v3 : Int32) (v4 : Int32) (v5 : Int32) (v6 : Int32) (v7 : Int64) (v9 : Int32) (H : Heap) (locs : List Loc) (ls : Array Slot) (t : Nat), t + (19 + n_ * 0) ≤ 22 → mL_isPutSo_57 n_ σ τ v2 v3 v4 v5 v6 v7 v9 = some res → tZ D cyI cyJ cyO A bs d σ d' τ s H locs → lv_has ls 13 [(0, .ref (d 0)), (1, .ref (d' 0)), (2, .int v2), (3, .int v3), (4, .int v4), (5, .int v5), (6, .int v6), (7, .long v7), (9, .int v9)] → W p l e rmL_isPutSo s m args below meth c H locs t (12 * t) Q (F0 m 57 ls []) := by
  intro n_
  induction n_ with
  | zero => intro _ _ _ _ _ _ _ _ _ _ _ _ _ _ h; cases h
  | succ n_ ih =>
    intro σ τ v2 v3 v4 v5 v6 v7 v9 H locs ls t ht0 h Z hl
    exact wL_isPutSo_57_b C0 hA hN hT hlf hret ih σ τ v2 v3 v4 v5 v6 v7 v9 H locs ls t (by omega) h Z hl
set_option maxRecDepth 20000 in
set_option maxHeartbeats 4000000 in
theorem wL_isPutSo_53 {p : Program} {l : Launch} {e : Env} {s : State} {m : MethodId} {args : Array Value} {below : List Frame} {meth : Method} {c : Code} {D : va_G} {cyI cyJ cyO : ClassId} {A : Nat → Prop} {bs : Nat} {d d' : Nat → Nat} {Q : State → Prop} {res : Int32 × St × St} (C0 : gC p m meth c cL_isPutSo 13 (some .boolean) s args wsL_isPutSo RL) (hA : ∀ q, bs ≤ q → A q) (hN : lQN s) (hT : dT A s) (hlf : l.stackTraces = false) (hret : ∀ (r : Int32) (σ_r : St) (τ_r : St) (H : Heap) (locs : List Loc) (pc : Nat) (ls : Array Slot) (t : Nat), t ≤ 22 → (r = 0 ∨ r = 1) → some (r, σ_r, τ_r) = some res → tZ D cyI cyJ cyO A bs d σ_r d' τ_r s H locs → decode cL_isPutSo pc = .ok (.ireturn, 1) → W p l e rmL_isPutSo s m args below meth c H locs t (12 * t) Q (F0 m pc ls [.int r]))  : ∀ (σ : St) (τ : St) (s0 : Int32) (H : Heap) (locs : List Loc) (ls : Array Slot) (t : Nat), t + (0) ≤ 22 → mL_isPutSo_53 σ τ s0 = some res → tZ D cyI cyJ cyO A bs d σ d' τ s H locs → lv_has ls 13 [] → W p l e rmL_isPutSo s m args below meth c H locs t (12 * t) Q (F0 m 53 ls [.int s0]) := by
  intro σ τ s0 H locs ls t ht0 h Z hl
  unfold mL_isPutSo_53 at h
  obtain ⟨hn30, h⟩ := g_yi h
  exact hret s0 σ τ _ _ _ _ t (by omega) hn30 h Z dL_isPutSo_53
set_option maxRecDepth 20000 in
set_option maxHeartbeats 4000000 in
theorem wL_isPutSo_52 {p : Program} {l : Launch} {e : Env} {s : State} {m : MethodId} {args : Array Value} {below : List Frame} {meth : Method} {c : Code} {D : va_G} {cyI cyJ cyO : ClassId} {A : Nat → Prop} {bs : Nat} {d d' : Nat → Nat} {Q : State → Prop} {res : Int32 × St × St} (C0 : gC p m meth c cL_isPutSo 13 (some .boolean) s args wsL_isPutSo RL) (hA : ∀ q, bs ≤ q → A q) (hN : lQN s) (hT : dT A s) (hlf : l.stackTraces = false) (hret : ∀ (r : Int32) (σ_r : St) (τ_r : St) (H : Heap) (locs : List Loc) (pc : Nat) (ls : Array Slot) (t : Nat), t ≤ 22 → (r = 0 ∨ r = 1) → some (r, σ_r, τ_r) = some res → tZ D cyI cyJ cyO A bs d σ_r d' τ_r s H locs → decode cL_isPutSo pc = .ok (.ireturn, 1) → W p l e rmL_isPutSo s m args below meth c H locs t (12 * t) Q (F0 m pc ls [.int r]))  : ∀ (σ : St) (τ : St) (H : Heap) (locs : List Loc) (ls : Array Slot) (t : Nat), t + (0) ≤ 22 → mL_isPutSo_52 σ τ = some res → tZ D cyI cyJ cyO A bs d σ d' τ s H locs → lv_has ls 13 [] → W p l e rmL_isPutSo s m args below meth c H locs t (12 * t) Q (F0 m 52 ls []) := by
  intro σ τ H locs ls t ht0 h Z hl
  unfold mL_isPutSo_52 at h
  refine lv_iconst (v := 0) C0.1.1 C0.1.2.1 dL_isPutSo_52 (by decide) ?_
  exact wL_isPutSo_53 C0 hA hN hT hlf hret σ τ (0 : Int32) _ _ _ t (by omega) h Z (lv_sub hl [] rfl)
set_option maxRecDepth 20000 in
set_option maxHeartbeats 4000000 in
theorem zL_isPutSo (l : Launch) (hlf : l.stackTraces = false) (D : va_G) (cyI cyJ cyO : ClassId) (A : Nat → Prop) (bs : Nat) (hA : ∀ q, bs ≤ q → A q) (d : Nat → Nat) (σ : St) (d' : Nat → Nat) (τ : St) (p2 : Int32) (p3 : Int32) (res : Int32 × St × St) (h : mL_isPutSo σ τ p2 p3 = some res) : Met l yL_isPutSo wsL_isPutSo rmL_isPutSo (va_Pc [.ref (d 0), .ref (d' 0), .int p2, .int p3] (lP (tW D cyI cyJ cyO A bs d σ d' τ) A)) (va_Qi (fun (r : Int32) (u : St × St) => res.1 = r ∧ res.2 = u) (fun (u : St × St) => tW D cyI cyJ cyO A bs d u.1 d' u.2) A) 22 264 A := by
  refine Met.ofW (cc := cL_isPutSo) (maxL := 13) (ret := (some .boolean)) (by decide) rfl ?_
  intro p e s m args below meth c s₁ B hml hv
  obtain ⟨hav, hv⟩ := hv
  obtain ⟨hv, hN, hT⟩ := hv
  have C0 : gC p m meth c cL_isPutSo 13 (some .boolean) s args wsL_isPutSo RL := ⟨⟨B.exec, B.bytes, hml, findClass_of_methodNamed B.named, atoms_spec (ws := wsL_isPutSo) B.pre⟩, B.returns, B.notSynchronized⟩
  have Z := tZ_start hA hv
  have hret : ∀ (r : Int32) (σ_r : St) (τ_r : St) (H : Heap) (locs : List Loc) (pc : Nat) (ls : Array Slot) (t : Nat), t ≤ 22 → (r = 0 ∨ r = 1) → some (r, σ_r, τ_r) = some res → tZ D cyI cyJ cyO A bs d σ_r d' τ_r s H locs → decode cL_isPutSo pc = .ok (.ireturn, 1) → W p l e rmL_isPutSo s m args below meth c H locs t (12 * t) (MQ below (va_Qi (fun (r : Int32) (u : St × St) => res.1 = r ∧ res.2 = u) (fun (u : St × St) => tW D cyI cyJ cyO A bs d u.1 d' u.2) A) args s 22 264 A) (F0 m pc ls [.int r]) := by
    intro r σ_r τ_r H locs pc ls t ht1 hb9 h Z hd
    replace h := Option.some.inj h
    subst h
    refine W.widen (k := 22) (n := 264) (by omega) (by omega) ?_
    exact W.zret C0.1.1 C0.1.2.1 C0.2.1 (g_nb hb9) (fun t ht hW => ⟨⟨r, (σ_r, τ_r), rfl, ⟨rfl, rfl⟩, tZ_end Z ht hW⟩, va_S.F (tZ_S Z) ht⟩) (tZ_S Z).2.2 hd C0.2.2
  have hl := lv_entry ([.ref (d 0), .ref (d' 0), .int p2, .int p3]) (n := 13) (Nat.le_of_ble_eq_true rfl)
  rw [hav, lg_entry_eq]
  generalize (lg_sl ([.ref (d 0), .ref (d' 0), .int p2, .int p3]) ++ List.replicate (13 - (lg_sl ([.ref (d 0), .ref (d' 0), .int p2, .int p3])).length) Slot.unset).toArray = ls at hl ⊢
  have hl : lv_has ls 13 [(0, .ref (d 0)), (1, .ref (d' 0)), (2, .int p2), (3, .int p3)] := hl
  rw [← hav]
  unfold mL_isPutSo at h
  obtain ⟨t, ht0⟩ : ∃ t : Nat, t = 0 := ⟨0, rfl⟩
  refine W.widen (k := t) (n := 12 * t) (Nat.zero_le _) (Nat.zero_le _) ?_
  refine lv_iconst (v := 1) C0.1.1 C0.1.2.1 dL_isPutSo_0 (by decide) ?_
  refine lv_istore (lv' := [(4, .int (1 : Int32)), (0, .ref (d 0)), (1, .ref (d' 0)), (2, .int p2), (3, .int p3)]) C0.1.1 C0.1.2.1 dL_isPutSo_1 hl (by decide) rfl (fun ls hl => ?_)
  refine lv_aload_n C0.1.1 C0.1.2.1 dL_isPutSo_3 rfl (lv_at hl 1 rfl) ?_
  refine va_calli (va_runV (b := d 0) (C := RX3) (As := []) (rest := []) C0.1 (tL_i hA (fun Y => o_foundAnew l D cyI cyJ cyO A bs hA Y d σ)) (cwV 0 C0.1.2.2.2.2 gL_isPutSo_X3_foundAnew rfl rfl rfl (by decide +kernel) ⟨Nat.le_of_ble_eq_true rfl, Nat.le_of_ble_eq_true rfl⟩) ⟨tP_blind, tZ_recvL Z, tP_pre Z hN hT _⟩ rfl rfl hl.1 rfl (lv_room (Nat.le_of_ble_eq_true rfl)) dL_isPutSo_4 ⟨by show t + 0 ≤ 22; omega, by show 12 * t + 0 ≤ 264; omega⟩) (tZ_S Z) (fun _ _ h => h) (fun _ h => h) (fun y u t1 H locs ht hvm hw hB _ hk hS => ?_)
  subst hw
  replace Z := tZ_post Z ht hvm hB hS
  refine lv_istore (lv' := [(5, .int (aFound σ)), (4, .int (1 : Int32)), (0, .ref (d 0)), (1, .ref (d' 0)), (2, .int p2), (3, .int p3)]) C0.1.1 C0.1.2.1 dL_isPutSo_7 hl (by decide) rfl (fun ls hl => ?_)
  refine lv_aload_n C0.1.1 C0.1.2.1 dL_isPutSo_9 rfl (lv_at hl 2 rfl) ?_
  refine lv_iload_n C0.1.1 C0.1.2.1 dL_isPutSo_10 rfl (lv_at hl 4 rfl) ?_
  obtain ⟨x45, hx46, h⟩ := g_bd h
  refine vx_calli (vx_runV (b := d 0) (C := RX3) (As := [.int p2]) (rest := []) C0.1 (tL_xi hA (fun Y => o_signs l hlf D cyI cyJ cyO A bs hA Y d σ p2)) (cwV 1 C0.1.2.2.2.2 gL_isPutSo_X3_signs rfl rfl rfl (by decide +kernel) ⟨Nat.le_of_ble_eq_true rfl, Nat.le_of_ble_eq_true rfl⟩) ⟨tP_blind, tZ_recvL Z, tP_pre Z hN hT _⟩ rfl rfl hl.1 rfl (lv_room (Nat.le_of_ble_eq_true rfl)) dL_isPutSo_11 ⟨by show t + 1 ≤ 22; omega, by show 12 * t + 6 ≤ 264; omega⟩) (tZ_S Z) (fun _ _ h => h) (fun _ h => h) (fun _ _ h => h) (fun E ce q9 u t1 H1 locs1 ht hvm _ hB _ hk hS h1 h2 h3 => ?_) (fun y u t1 H locs ht hvm hw hB _ hk hS => ?_)
  · exact absurd (hx46.symm.trans hB.1.1) (fun z => nomatch z)
  obtain rfl : x45 = y := Option.some.inj (hx46.symm.trans hw)
  replace Z := tZ_post Z ht hvm hB hS
  refine W.widen (k := (t + 1)) (n := 12 * (t + 1)) (by omega) (by omega) ?_
  refine lv_istore (lv' := [(6, .int x45), (5, .int (aFound σ)), (4, .int (1 : Int32)), (0, .ref (d 0)), (1, .ref (d' 0)), (2, .int p2), (3, .int p3)]) C0.1.1 C0.1.2.1 dL_isPutSo_14 hl (by decide) rfl (fun ls hl => ?_)
  refine lv_aload_n C0.1.1 C0.1.2.1 dL_isPutSo_16 rfl (lv_at hl 3 rfl) ?_
  refine lv_iload_n C0.1.1 C0.1.2.1 dL_isPutSo_17 rfl (lv_at hl 5 rfl) ?_
  refine lv_iconst (v := 0) C0.1.1 C0.1.2.1 dL_isPutSo_18 (by decide) ?_
  obtain ⟨x47, hx48, h⟩ := g_bd h
  refine va_calll (vx_runSW (As := [.ref (d 0), .int p2, .int (0 : Int32)]) (rest := []) C0.1 (tL_l hA (fun Y => zL_value l hlf D cyI cyJ cyO A bs hA Y d σ p2 (0 : Int32) x47 hx48)) (vx_cwSW 3 C0.1.2.2.2.2 gL_isPutSo_L_value rfl rfl rfl (by decide +kernel) ⟨Nat.le_of_ble_eq_true rfl, Nat.le_of_ble_eq_true rfl⟩) ⟨tP_blind, tP_pre Z hN hT _⟩ rfl rfl hl.1 rfl (lv_room (Nat.le_of_ble_eq_true rfl)) dL_isPutSo_19 ⟨by show (t + 1) + 2 ≤ 22; omega, by show 12 * (t + 1) + 24 ≤ 264; omega⟩) (tZ_S Z) (fun _ _ h => h) (fun _ h => h) (fun y u t1 H locs ht hvm hw hB _ hk hS => ?_)
  replace Z := tZ_post Z ht hvm hB hS
  subst hw
  refine W.widen (k := (t + 3)) (n := 12 * (t + 3)) (by omega) (by omega) ?_
  refine lv_lstore (lv' := [(7, .long x47), (6, .int x45), (5, .int (aFound σ)), (4, .int (1 : Int32)), (0, .ref (d 0)), (1, .ref (d' 0)), (2, .int p2), (3, .int p3)]) C0.1.1 C0.1.2.1 dL_isPutSo_22 hl (by decide) rfl (fun ls hl => ?_)
  refine lv_aload_n C0.1.1 C0.1.2.1 dL_isPutSo_24 rfl (lv_at hl 4 rfl) ?_
  refine va_calli (va_runV (b := d 0) (C := RX3) (As := []) (rest := []) C0.1 (tL_i hA (fun Y => o_layers l D cyI cyJ cyO A bs hA Y d σ)) (cwV 0 C0.1.2.2.2.2 gL_isPutSo_X3_layers rfl rfl rfl (by decide +kernel) ⟨Nat.le_of_ble_eq_true rfl, Nat.le_of_ble_eq_true rfl⟩) ⟨tP_blind, tZ_recvL Z, tP_pre Z hN hT _⟩ rfl rfl hl.1 rfl (lv_room (Nat.le_of_ble_eq_true rfl)) dL_isPutSo_25 ⟨by show (t + 3) + 0 ≤ 22; omega, by show 12 * (t + 3) + 0 ≤ 264; omega⟩) (tZ_S Z) (fun _ _ h => h) (fun _ h => h) (fun y u t1 H locs ht hvm hw hB _ hk hS => ?_)
  subst hw
  replace Z := tZ_post Z ht hvm hB hS
  refine lv_iconst (v := 4) C0.1.1 C0.1.2.1 dL_isPutSo_28 (by decide) ?_
  refine lv_icmp_ne (tgt := 54) C0.1.1 C0.1.2.1 dL_isPutSo_29 (by decide) (fun hc => ?_) (fun hc => ?_)
  · replace h := (if_neg hc).symm.trans h
    refine lv_iconst (v := 0) C0.1.1 C0.1.2.1 dL_isPutSo_54 (by decide) ?_
    refine lv_istore (lv' := [(9, .int (0 : Int32)), (7, .long x47), (6, .int x45), (5, .int (aFound σ)), (4, .int (1 : Int32)), (0, .ref (d 0)), (1, .ref (d' 0)), (2, .int p2), (3, .int p3)]) C0.1.1 C0.1.2.1 dL_isPutSo_55 hl (by decide) rfl (fun ls hl => ?_)
    exact wL_isPutSo_57 C0 hA hN hT hlf hret 31 σ τ p2 p3 (1 : Int32) (aFound σ) x45 x47 (0 : Int32) _ _ _ (t + 3) (by omega) h Z (lv_sub hl [5, 6, 7, 8, 4, 3, 2, 1, 0] rfl)
  · replace h := (if_pos hc).symm.trans h
    refine lv_aload_n C0.1.1 C0.1.2.1 dL_isPutSo_32 rfl (lv_at hl 4 rfl) ?_
    obtain ⟨x51, hx52, h⟩ := g_bd h
    refine vx_calli (vx_runV (b := d 0) (C := RX3) (As := []) (rest := []) C0.1 (tL_xi hA (fun Y => o_keep l hlf D cyI cyJ cyO A bs hA Y d σ)) (cwV 0 C0.1.2.2.2.2 gL_isPutSo_X3_keep rfl rfl rfl (by decide +kernel) ⟨Nat.le_of_ble_eq_true rfl, Nat.le_of_ble_eq_true rfl⟩) ⟨tP_blind, tZ_recvL Z, tP_pre Z hN hT _⟩ rfl rfl hl.1 rfl (lv_room (Nat.le_of_ble_eq_true rfl)) dL_isPutSo_33 ⟨by show (t + 3) + 1 ≤ 22; omega, by show 12 * (t + 3) + 6 ≤ 264; omega⟩) (tZ_S Z) (fun _ _ h => h) (fun _ h => h) (fun _ _ h => h) (fun E ce q9 u t1 H1 locs1 ht hvm _ hB _ hk hS h1 h2 h3 => ?_) (fun y u t1 H locs ht hvm hw hB _ hk hS => ?_)
    · exact absurd (hx52.symm.trans hB.1.1) (fun z => nomatch z)
    obtain rfl : x51 = y := Option.some.inj (hx52.symm.trans hw)
    replace Z := tZ_post Z ht hvm hB hS
    refine W.widen (k := (t + 4)) (n := 12 * (t + 4)) (by omega) (by omega) ?_
    refine lv_iconst (v := 3) C0.1.1 C0.1.2.1 dL_isPutSo_36 (by decide) ?_
    refine lv_icmp_ne (tgt := 52) C0.1.1 C0.1.2.1 dL_isPutSo_37 (by decide) (fun hc => ?_) (fun hc => ?_)
    · replace h := (if_neg hc).symm.trans h
      exact wL_isPutSo_52 C0 hA hN hT hlf hret ((aKeep σ).2) τ _ _ _ (t + 4) (by omega) h Z (lv_sub hl [] rfl)
    · replace h := (if_pos hc).symm.trans h
      refine lv_aload_n C0.1.1 C0.1.2.1 dL_isPutSo_40 rfl (lv_at hl 5 rfl) ?_
      obtain ⟨x53, hx54, h⟩ := g_bd h
      refine vx_calli (vx_runV (b := d' 0) (C := RX3) (As := []) (rest := []) C0.1 (tR_xi hA (fun Y => o_keep l hlf D cyI cyJ cyO A bs hA Y d' τ)) (cwV 0 C0.1.2.2.2.2 gL_isPutSo_X3_keep rfl rfl rfl (by decide +kernel) ⟨Nat.le_of_ble_eq_true rfl, Nat.le_of_ble_eq_true rfl⟩) ⟨tP_blind, tZ_recvR Z, tP_pre Z hN hT _⟩ rfl rfl hl.1 rfl (lv_room (Nat.le_of_ble_eq_true rfl)) dL_isPutSo_41 ⟨by show (t + 4) + 1 ≤ 22; omega, by show 12 * (t + 4) + 6 ≤ 264; omega⟩) (tZ_S Z) (fun _ _ h => h) (fun _ h => h) (fun _ _ h => h) (fun E ce q9 u t1 H1 locs1 ht hvm _ hB _ hk hS h1 h2 h3 => ?_) (fun y u t1 H locs ht hvm hw hB _ hk hS => ?_)
      · exact absurd (hx54.symm.trans hB.1.1) (fun z => nomatch z)
      obtain rfl : x53 = y := Option.some.inj (hx54.symm.trans hw)
      replace Z := tZ_post Z ht hvm hB hS
      refine W.widen (k := (t + 5)) (n := 12 * (t + 5)) (by omega) (by omega) ?_
      refine lv_iconst (v := 3) C0.1.1 C0.1.2.1 dL_isPutSo_44 (by decide) ?_
      refine lv_icmp_ne (tgt := 52) C0.1.1 C0.1.2.1 dL_isPutSo_45 (by decide) (fun hc => ?_) (fun hc => ?_)
      · replace h := (if_neg hc).symm.trans h
        exact wL_isPutSo_52 C0 hA hN hT hlf hret ((aKeep σ).2) ((aKeep τ).2) _ _ _ (t + 5) (by omega) h Z (lv_sub hl [] rfl)
      · replace h := (if_pos hc).symm.trans h
        refine lv_iconst (v := 1) C0.1.1 C0.1.2.1 dL_isPutSo_48 (by decide) ?_
        refine lv_goto (tgt := 53) C0.1.1 C0.1.2.1 dL_isPutSo_49 (by decide) ?_
        exact wL_isPutSo_53 C0 hA hN hT hlf hret ((aKeep σ).2) ((aKeep τ).2) (1 : Int32) _ _ _ (t + 5) (by omega) h Z (lv_sub hl [] rfl)
