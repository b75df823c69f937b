/-! the walk of L_isSoughtSo -/
abbrev rmL_isSoughtSo : Room := { frames := 64, cells := 23, slots := 276, locals := 1576 }
theorem kL_isSoughtSo_c62 : Cond.constantLong RL 62 (4000000000000) ∈ wsL_isSoughtSo := by decide +kernel
set_option maxRecDepth 20000 in
set_option maxHeartbeats 4000000 in
theorem wL_isSoughtSo_212 {p : Program} {l : Launch} {e : Env} {s : State} {m : MethodId} {args : Array Value} {below : List Frame} {meth : Method} {c : Code} {D : va_G} {cyI cyJ cyO : ClassId} {A : Nat → Prop} {bs : Nat} {d d' : Nat → Nat} {Q : State → Prop} {res : Int32 × St × St} (C0 : gC p m meth c cL_isSoughtSo 12 (some .boolean) s args wsL_isSoughtSo RL) (hA : ∀ q, bs ≤ q → A q) (hN : lQN s) (hT : dT A s) (hlf : l.stackTraces = false) (hret : ∀ (r : Int32) (σ_r : St) (τ_r : St) (H : Heap) (locs : List Loc) (pc : Nat) (ls : Array Slot) (t : Nat), t ≤ 23 → (r = 0 ∨ r = 1) → some (r, σ_r, τ_r) = some res → tZ D cyI cyJ cyO A bs d σ_r d' τ_r s H locs → decode cL_isSoughtSo pc = .ok (.ireturn, 1) → W p l e rmL_isSoughtSo s m args below meth c H locs t (12 * t) Q (F0 m pc ls [.int r]))  : ∀ (σ : St) (τ : St) (v8 : Int32) (H : Heap) (locs : List Loc) (ls : Array Slot) (t : Nat), t + (0) ≤ 23 → mL_isSoughtSo_212 σ τ v8 = some res → tZ D cyI cyJ cyO A bs d σ d' τ s H locs → lv_has ls 12 [(8, .int v8)] → W p l e rmL_isSoughtSo s m args below meth c H locs t (12 * t) Q (F0 m 212 ls []) := by
  intro σ τ v8 H locs ls t ht0 h Z hl
  unfold mL_isSoughtSo_212 at h
  refine lv_iload C0.1.1 C0.1.2.1 dL_isSoughtSo_212 (lv_at hl 0 rfl) ?_
  obtain ⟨hn1, h⟩ := g_yi h
  exact hret v8 σ τ _ _ _ _ t (by omega) hn1 h Z dL_isSoughtSo_214
set_option maxRecDepth 20000 in
set_option maxHeartbeats 4000000 in
theorem wL_isSoughtSo_210 {p : Program} {l : Launch} {e : Env} {s : State} {m : MethodId} {args : Array Value} {below : List Frame} {meth : Method} {c : Code} {D : va_G} {cyI cyJ cyO : ClassId} {A : Nat → Prop} {bs : Nat} {d d' : Nat → Nat} {Q : State → Prop} {res : Int32 × St × St} (C0 : gC p m meth c cL_isSoughtSo 12 (some .boolean) s args wsL_isSoughtSo RL) (hA : ∀ q, bs ≤ q → A q) (hN : lQN s) (hT : dT A s) (hlf : l.stackTraces = false) (hret : ∀ (r : Int32) (σ_r : St) (τ_r : St) (H : Heap) (locs : List Loc) (pc : Nat) (ls : Array Slot) (t : Nat), t ≤ 23 → (r = 0 ∨ r = 1) → some (r, σ_r, τ_r) = some res → tZ D cyI cyJ cyO A bs d σ_r d' τ_r s H locs → decode cL_isSoughtSo pc = .ok (.ireturn, 1) → W p l e rmL_isSoughtSo s m args below meth c H locs t (12 * t) Q (F0 m pc ls [.int r]))  : ∀ (σ : St) (τ : St) (s0 : Int32) (H : Heap) (locs : List Loc) (ls : Array Slot) (t : Nat), t + (0) ≤ 23 → mL_isSoughtSo_210 σ τ s0 = some res → tZ D cyI cyJ cyO A bs d σ d' τ s H locs → lv_has ls 12 [] → W p l e rmL_isSoughtSo s m args below meth c H locs t (12 * t) Q (F0 m 210 ls [.int s0]) := by
  intro σ τ s0 H locs ls t ht0 h Z hl
  unfold mL_isSoughtSo_210 at h
  refine lv_istore (lv' := [(8, .int s0)]) C0.1.1 C0.1.2.1 dL_isSoughtSo_210 hl (by decide) rfl (fun ls hl => ?_)
  exact wL_isSoughtSo_212 C0 hA hN hT hlf hret σ τ s0 _ _ _ t (by omega) h Z (lv_sub hl [0] rfl)
set_option maxRecDepth 20000 in
set_option maxHeartbeats 4000000 in
theorem wL_isSoughtSo_209 {p : Program} {l : Launch} {e : Env} {s : State} {m : MethodId} {args : Array Value} {below : List Frame} {meth : Method} {c : Code} {D : va_G} {cyI cyJ cyO : ClassId} {A : Nat → Prop} {bs : Nat} {d d' : Nat → Nat} {Q : State → Prop} {res : Int32 × St × St} (C0 : gC p m meth c cL_isSoughtSo 12 (some .boolean) s args wsL_isSoughtSo RL) (hA : ∀ q, bs ≤ q → A q) (hN : lQN s) (hT : dT A s) (hlf : l.stackTraces = false) (hret : ∀ (r : Int32) (σ_r : St) (τ_r : St) (H : Heap) (locs : List Loc) (pc : Nat) (ls : Array Slot) (t : Nat), t ≤ 23 → (r = 0 ∨ r = 1) → some (r, σ_r, τ_r) = some res → tZ D cyI cyJ cyO A bs d σ_r d' τ_r s H locs → decode cL_isSoughtSo pc = .ok (.ireturn, 1) → W p l e rmL_isSoughtSo s m args below meth c H locs t (12 * t) Q (F0 m pc ls [.int r]))  : ∀ (σ : St) (τ : St) (H : Heap) (locs : List Loc) (ls : Array Slot) (t : Nat), t + (0) ≤ 23 → mL_isSoughtSo_209 σ τ = some res → tZ D cyI cyJ cyO A bs d σ d' τ s H locs → lv_has ls 12 [] → W p l e rmL_isSoughtSo s m args below meth c H locs t (12 * t) Q (F0 m 209 ls []) := by
  intro σ τ H locs ls t ht0 h Z hl
  unfold mL_isSoughtSo_209 at h
  refine lv_iconst (v := 0) C0.1.1 C0.1.2.1 dL_isSoughtSo_209 (by decide) ?_
  exact wL_isSoughtSo_210 C0 hA hN hT hlf hret σ τ (0 : Int32) _ _ _ t (by omega) h Z (lv_sub hl [] rfl)
set_option maxRecDepth 20000 in
set_option maxHeartbeats 4000000 in
theorem wL_isSoughtSo_202 {p : Program} {l : Launch} {e : Env} {s : State} {m : MethodId} {args : Array Value} {below : List Frame} {meth : Method} {c : Code} {D : va_G} {cyI cyJ cyO : ClassId} {A : Nat → Prop} {bs : Nat} {d d' : Nat → Nat} {Q : State → Prop} {res : Int32 × St × St} (C0 : gC p m meth c cL_isSoughtSo 12 (some .boolean) s args wsL_isSoughtSo RL) (hA : ∀ q, bs ≤ q → A q) (hN : lQN s) (hT : dT A s) (hlf : l.stackTraces = false) (hret : ∀ (r : Int32) (σ_r : St) (τ_r : St) (H : Heap) (locs : List Loc) (pc : Nat) (ls : Array Slot) (t : Nat), t ≤ 23 → (r = 0 ∨ r = 1) → some (r, σ_r, τ_r) = some res → tZ D cyI cyJ cyO A bs d σ_r d' τ_r s H locs → decode cL_isSoughtSo pc = .ok (.ireturn, 1) → W p l e rmL_isSoughtSo s m args below meth c H locs t (12 * t) Q (F0 m pc ls [.int r]))  : ∀ (σ : St) (τ : St) (s0 : Int32) (s1 : Int32) (H : Heap) (locs : List Loc) (ls : Array Slot) (t : Nat), t + (0) ≤ 23 → mL_isSoughtSo_202 σ τ s0 s1 = some res → tZ D cyI cyJ cyO A bs d σ d' τ s H locs → lv_has ls 12 [] → W p l e rmL_isSoughtSo s m args below meth c H locs t (12 * t) Q (F0 m 202 ls [.int s1, .int s0]) := by
  intro σ τ s0 s1 H locs ls t ht0 h Z hl
  unfold mL_isSoughtSo_202 at h
  refine lv_icmp_ne (tgt := 209) C0.1.1 C0.1.2.1 dL_isSoughtSo_202 (by decide) (fun hc => ?_) (fun hc => ?_)
  · replace h := (if_neg hc).symm.trans h
    exact wL_isSoughtSo_209 C0 hA hN hT hlf hret σ τ _ _ _ t (by omega) h Z (lv_sub hl [] rfl)
  · replace h := (if_pos hc).symm.trans h
    refine lv_iconst (v := 1) C0.1.1 C0.1.2.1 dL_isSoughtSo_205 (by decide) ?_
    refine lv_goto (tgt := 210) C0.1.1 C0.1.2.1 dL_isSoughtSo_206 (by decide) ?_
    exact wL_isSoughtSo_210 C0 hA hN hT hlf hret σ τ (1 : Int32) _ _ _ t (by omega) h Z (lv_sub hl [] rfl)
set_option maxRecDepth 20000 in
set_option maxHeartbeats 4000000 in
theorem wL_isSoughtSo_189 {p : Program} {l : Launch} {e : Env} {s : State} {m : MethodId} {args : Array Value} {below : List Frame} {meth : Method} {c : Code} {D : va_G} {cyI cyJ cyO : ClassId} {A : Nat → Prop} {bs : Nat} {d d' : Nat → Nat} {Q : State → Prop} {res : Int32 × St × St} (C0 : gC p m meth c cL_isSoughtSo 12 (some .boolean) s args wsL_isSoughtSo RL) (hA : ∀ q, bs ≤ q → A q) (hN : lQN s) (hT : dT A s) (hlf : l.stackTraces = false) (hret : ∀ (r : Int32) (σ_r : St) (τ_r : St) (H : Heap) (locs : List Loc) (pc : Nat) (ls : Array Slot) (t : Nat), t ≤ 23 → (r = 0 ∨ r = 1) → some (r, σ_r, τ_r) = some res → tZ D cyI cyJ cyO A bs d σ_r d' τ_r s H locs → decode cL_isSoughtSo pc = .ok (.ireturn, 1) → W p l e rmL_isSoughtSo s m args below meth c H locs t (12 * t) Q (F0 m pc ls [.int r]))  : ∀ (σ : St) (τ : St) (v3 : Int32) (v6 : Int64) (s0 : Int32) (H : Heap) (locs : List Loc) (ls : Array Slot) (t : Nat), t + (0) ≤ 23 → mL_isSoughtSo_189 σ τ v3 v6 s0 = some res → tZ D cyI cyJ cyO A bs d σ d' τ s H locs → lv_has ls 12 [(3, .int v3), (6, .long v6)] → W p l e rmL_isSoughtSo s m args below meth c H locs t (12 * t) Q (F0 m 189 ls [.int s0]) := by
  intro σ τ v3 v6 s0 H locs ls t ht0 h Z hl
  unfold mL_isSoughtSo_189 at h
  refine lv_lload C0.1.1 C0.1.2.1 dL_isSoughtSo_189 (lv_at hl 1 rfl) ?_
  refine lv_iload_n C0.1.1 C0.1.2.1 dL_isSoughtSo_191 rfl (lv_at hl 0 rfl) ?_
  refine lv_i2l C0.1.1 C0.1.2.1 dL_isSoughtSo_192 rfl ?_
  refine W.lcmp C0.1.1 C0.1.2.1 dL_isSoughtSo_193 ?_
  refine lv_if_ge (tgt := 201) C0.1.1 C0.1.2.1 dL_isSoughtSo_194 (by decide) (fun hc => ?_) (fun hc => ?_)
  · replace h := (if_pos hc).symm.trans h
    refine lv_iconst (v := 0) C0.1.1 C0.1.2.1 dL_isSoughtSo_201 (by decide) ?_
    exact wL_isSoughtSo_202 C0 hA hN hT hlf hret σ τ s0 (0 : Int32) _ _ _ t (by omega) h Z (lv_sub hl [] rfl)
  · replace h := (if_neg hc).symm.trans h
    refine lv_iconst (v := 1) C0.1.1 C0.1.2.1 dL_isSoughtSo_197 (by decide) ?_
    refine lv_goto (tgt := 202) C0.1.1 C0.1.2.1 dL_isSoughtSo_198 (by decide) ?_
    exact wL_isSoughtSo_202 C0 hA hN hT hlf hret σ τ s0 (1 : Int32) _ _ _ t (by omega) h Z (lv_sub hl [] rfl)
set_option maxRecDepth 20000 in
set_option maxHeartbeats 4000000 in
theorem wL_isSoughtSo_112 {p : Program} {l : Launch} {e : Env} {s : State} {m : MethodId} {args : Array Value} {below : List Frame} {meth : Method} {c : Code} {D : va_G} {cyI cyJ cyO : ClassId} {A : Nat → Prop} {bs : Nat} {d d' : Nat → Nat} {Q : State → Prop} {res : Int32 × St × St} (C0 : gC p m meth c cL_isSoughtSo 12 (some .boolean) s args wsL_isSoughtSo RL) (hA : ∀ q, bs ≤ q → A q) (hN : lQN s) (hT : dT A s) (hlf : l.stackTraces = false) (hret : ∀ (r : Int32) (σ_r : St) (τ_r : St) (H : Heap) (locs : List Loc) (pc : Nat) (ls : Array Slot) (t : Nat), t ≤ 23 → (r = 0 ∨ r = 1) → some (r, σ_r, τ_r) = some res → tZ D cyI cyJ cyO A bs d σ_r d' τ_r s H locs → decode cL_isSoughtSo pc = .ok (.ireturn, 1) → W p l e rmL_isSoughtSo s m args below meth c H locs t (12 * t) Q (F0 m pc ls [.int r]))  : ∀ (σ : St) (τ : St) (v2 : Int32) (v3 : Int32) (v4 : Int32) (v5 : Int32) (v6 : Int64) (s0 : Int32) (H : Heap) (locs : List Loc) (ls : Array Slot) (t : Nat), t + (10) ≤ 23 → mL_isSoughtSo_112 σ τ v2 v3 v4 v5 v6 s0 = some res → tZ D cyI cyJ cyO A bs d σ d' τ s H locs → lv_has ls 12 [(0, .ref (d 0)), (1, .ref (d' 0)), (2, .int v2), (3, .int v3), (4, .int v4), (5, .int v5), (6, .long v6)] → W p l e rmL_isSoughtSo s m args below meth c H locs t (12 * t) Q (F0 m 112 ls [.int s0]) := by
  intro σ τ v2 v3 v4 v5 v6 s0 H locs ls t ht0 h Z hl
  unfold mL_isSoughtSo_112 at h
  refine lv_istore (lv' := [(8, .int s0), (0, .ref (d 0)), (1, .ref (d' 0)), (2, .int v2), (3, .int v3), (4, .int v4), (5, .int v5), (6, .long v6)]) C0.1.1 C0.1.2.1 dL_isSoughtSo_112 hl (by decide) rfl (fun ls hl => ?_)
  refine lv_iload C0.1.1 C0.1.2.1 dL_isSoughtSo_114 (lv_at hl 0 rfl) ?_
  refine lv_if_eq (tgt := 212) C0.1.1 C0.1.2.1 dL_isSoughtSo_116 (by decide) (fun hc => ?_) (fun hc => ?_)
  · replace h := (if_pos hc).symm.trans h
    exact wL_isSoughtSo_212 C0 hA hN hT hlf hret σ τ s0 _ _ _ t (by omega) h Z (lv_sub hl [0] rfl)
  · replace h := (if_neg hc).symm.trans h
    refine lv_lload C0.1.1 C0.1.2.1 dL_isSoughtSo_119 (lv_at hl 7 rfl) ?_
    refine lv_iload_n C0.1.1 C0.1.2.1 dL_isSoughtSo_121 rfl (lv_at hl 4 rfl) ?_
    refine lv_i2l C0.1.1 C0.1.2.1 dL_isSoughtSo_122 rfl ?_
    refine W.lcmp C0.1.1 C0.1.2.1 dL_isSoughtSo_123 ?_
    refine lv_if_eq (tgt := 212) C0.1.1 C0.1.2.1 dL_isSoughtSo_124 (by decide) (fun hc => ?_) (fun hc => ?_)
    · replace h := (if_pos hc).symm.trans h
      exact wL_isSoughtSo_212 C0 hA hN hT hlf hret σ τ s0 _ _ _ t (by omega) h Z (lv_sub hl [0] rfl)
    · replace h := (if_neg hc).symm.trans h
      refine lv_iload C0.1.1 C0.1.2.1 dL_isSoughtSo_127 (lv_at hl 6 rfl) ?_
      refine lv_if_le (tgt := 212) C0.1.1 C0.1.2.1 dL_isSoughtSo_129 (by decide) (fun hc => ?_) (fun hc => ?_)
      · replace h := (if_pos hc).symm.trans h
        exact wL_isSoughtSo_212 C0 hA hN hT hlf hret σ τ s0 _ _ _ t (by omega) h Z (lv_sub hl [0] rfl)
      · replace h := (if_neg hc).symm.trans h
        refine lv_aload_n C0.1.1 C0.1.2.1 dL_isSoughtSo_132 rfl (lv_at hl 1 rfl) ?_
        refine lv_iload C0.1.1 C0.1.2.1 dL_isSoughtSo_133 (lv_at hl 5 rfl) ?_
        refine lv_iload C0.1.1 C0.1.2.1 dL_isSoughtSo_135 (lv_at hl 6 rfl) ?_
        refine lv_iconst (v := 1) C0.1.1 C0.1.2.1 dL_isSoughtSo_137 (by decide) ?_
        refine lv_isub C0.1.1 C0.1.2.1 dL_isSoughtSo_138 ?_
        obtain ⟨x2, hx3, h⟩ := g_bd h
        refine vx_calli (vx_runV (b := d 0) (C := RX3) (As := [.int v4, .int (v5 - (1 : Int32))]) (rest := []) C0.1 (tL_xi hA (fun Y => o_put l hlf D cyI cyJ cyO A bs hA Y d σ v4 (v5 - (1 : Int32)))) (cwV 2 C0.1.2.2.2.2 gL_isSoughtSo_X3_put rfl rfl rfl (by decide +kernel) ⟨Nat.le_of_ble_eq_true rfl, Nat.le_of_ble_eq_true rfl⟩) ⟨tP_blind, tZ_recvL Z, tP_pre Z hN hT _⟩ rfl rfl hl.1 rfl (lv_room (Nat.le_of_ble_eq_true rfl)) dL_isSoughtSo_139 ⟨by show t + 4 ≤ 23; omega, by show 12 * t + 15 ≤ 276; omega⟩) (tZ_S Z) (fun _ _ h => h) (fun _ h => h) (fun _ _ h => h) (fun E ce q9 u t1 H1 locs1 ht hvm _ hB _ hk hS h1 h2 h3 => ?_) (fun y u t1 H locs ht hvm hw hB _ hk hS => ?_)
        · exact absurd (hx3.symm.trans hB.1.1) (fun z => nomatch z)
        obtain rfl : x2 = y := Option.some.inj (hx3.symm.trans hw)
        replace Z := tZ_post Z ht hvm hB hS
        refine W.widen (k := (t + 4)) (n := 12 * (t + 4)) (by omega) (by omega) ?_
        refine lv_istore (lv' := [(9, .int x2), (8, .int s0), (0, .ref (d 0)), (1, .ref (d' 0)), (2, .int v2), (3, .int v3), (4, .int v4), (5, .int v5), (6, .long v6)]) C0.1.1 C0.1.2.1 dL_isSoughtSo_142 hl (by decide) rfl (fun ls hl => ?_)
        refine lv_aload_n C0.1.1 C0.1.2.1 dL_isSoughtSo_144 rfl (lv_at hl 2 rfl) ?_
        refine lv_iload_n C0.1.1 C0.1.2.1 dL_isSoughtSo_145 rfl (lv_at hl 4 rfl) ?_
        refine lv_iconst (v := 0) C0.1.1 C0.1.2.1 dL_isSoughtSo_146 (by decide) ?_
        obtain ⟨x4, hx5, h⟩ := g_bd h
        refine va_calll (vx_runSW (As := [.ref (d 0), .int v2, .int (0 : Int32)]) (rest := []) C0.1 (tL_l hA (fun Y => zL_value l hlf D cyI cyJ cyO A bs hA Y d ((aPut σ v4 (v5 - (1 : Int32))).2) v2 (0 : Int32) x4 hx5)) (vx_cwSW 3 C0.1.2.2.2.2 gL_isSoughtSo_L_value rfl rfl rfl (by decide +kernel) ⟨Nat.le_of_ble_eq_true rfl, Nat.le_of_ble_eq_true rfl⟩) ⟨tP_blind, tP_pre Z hN hT _⟩ rfl rfl hl.1 rfl (lv_room (Nat.le_of_ble_eq_true rfl)) dL_isSoughtSo_147 ⟨by show (t + 4) + 2 ≤ 23; omega, by show 12 * (t + 4) + 24 ≤ 276; omega⟩) (tZ_S Z) (fun _ _ h => h) (fun _ h => h) (fun y u t1 H locs ht hvm hw hB _ hk hS => ?_)
        replace Z := tZ_post Z ht hvm hB hS
        subst hw
        refine W.widen (k := (t + 6)) (n := 12 * (t + 6)) (by omega) (by omega) ?_
        refine lv_lstore (lv' := [(10, .long x4), (9, .int x2), (8, .int s0), (0, .ref (d 0)), (1, .ref (d' 0)), (2, .int v2), (3, .int v3), (4, .int v4), (5, .int v5), (6, .long v6)]) C0.1.1 C0.1.2.1 dL_isSoughtSo_150 hl (by decide) rfl (fun ls hl => ?_)
        refine lv_iload C0.1.1 C0.1.2.1 dL_isSoughtSo_152 (lv_at hl 1 rfl) ?_
        refine lv_aload_n C0.1.1 C0.1.2.1 dL_isSoughtSo_154 rfl (lv_at hl 4 rfl) ?_
        refine lv_iload C0.1.1 C0.1.2.1 dL_isSoughtSo_155 (lv_at hl 7 rfl) ?_
        refine lv_iload C0.1.1 C0.1.2.1 dL_isSoughtSo_157 (lv_at hl 8 rfl) ?_
        refine lv_iconst (v := 1) C0.1.1 C0.1.2.1 dL_isSoughtSo_159 (by decide) ?_
        refine lv_isub C0.1.1 C0.1.2.1 dL_isSoughtSo_160 ?_
        obtain ⟨x6, hx7, h⟩ := g_bd h
        refine vx_calli (vx_runV (b := d' 0) (C := RX3) (As := [.int v4, .int (v5 - (1 : Int32))]) (rest := [.int x2]) C0.1 (tR_xi hA (fun Y => o_put l hlf D cyI cyJ cyO A bs hA Y d' τ v4 (v5 - (1 : Int32)))) (cwV 2 C0.1.2.2.2.2 gL_isSoughtSo_X3_put rfl rfl rfl (by decide +kernel) ⟨Nat.le_of_ble_eq_true rfl, Nat.le_of_ble_eq_true rfl⟩) ⟨tP_blind, tZ_recvR Z, tP_pre Z hN hT _⟩ rfl rfl hl.1 rfl (lv_room (Nat.le_of_ble_eq_true rfl)) dL_isSoughtSo_161 ⟨by show (t + 6) + 4 ≤ 23; omega, by show 12 * (t + 6) + 15 ≤ 276; omega⟩) (tZ_S Z) (fun _ _ h => h) (fun _ h => h) (fun _ _ h => h) (fun E ce q9 u t1 H1 locs1 ht hvm _ hB _ hk hS h1 h2 h3 => ?_) (fun y u t1 H locs ht hvm hw hB _ hk hS => ?_)
        · exact absurd (hx7.symm.trans hB.1.1) (fun z => nomatch z)
        obtain rfl : x6 = y := Option.some.inj (hx7.symm.trans hw)
        replace Z := tZ_post Z ht hvm hB hS
        refine W.widen (k := (t + 10)) (n := 12 * (t + 10)) (by omega) (by omega) ?_
        refine lv_icmp_ne (tgt := 209) C0.1.1 C0.1.2.1 dL_isSoughtSo_164 (by decide) (fun hc => ?_) (fun hc => ?_)
        · replace h := (if_neg hc).symm.trans h
          exact wL_isSoughtSo_209 C0 hA hN hT hlf hret ((aPut σ v4 (v5 - (1 : Int32))).2) ((aPut τ v4 (v5 - (1 : Int32))).2) _ _ _ (t + 10) (by omega) h Z (lv_sub hl [] rfl)
        · replace h := (if_pos hc).symm.trans h
          refine lv_lload C0.1.1 C0.1.2.1 dL_isSoughtSo_167 (lv_at hl 0 rfl) ?_
          refine lv_ldc2 C0.1.1 C0.1.2.1 C0.1.2.2.2.1 (C0.1.2.2.2.2 _ kL_isSoughtSo_c62) dL_isSoughtSo_169 ?_
          refine W.lcmp C0.1.1 C0.1.2.1 dL_isSoughtSo_172 ?_
          refine lv_if_eq (tgt := 209) C0.1.1 C0.1.2.1 dL_isSoughtSo_173 (by decide) (fun hc => ?_) (fun hc => ?_)
          · replace h := (if_pos hc).symm.trans h
            exact wL_isSoughtSo_209 C0 hA hN hT hlf hret ((aPut σ v4 (v5 - (1 : Int32))).2) ((aPut τ v4 (v5 - (1 : Int32))).2) _ _ _ (t + 10) (by omega) h Z (lv_sub hl [] rfl)
          · replace h := (if_neg hc).symm.trans h
            refine lv_lload C0.1.1 C0.1.2.1 dL_isSoughtSo_176 (lv_at hl 0 rfl) ?_
            refine lv_iload_n C0.1.1 C0.1.2.1 dL_isSoughtSo_178 rfl (lv_at hl 6 rfl) ?_
            refine lv_i2l C0.1.1 C0.1.2.1 dL_isSoughtSo_179 rfl ?_
            refine W.lcmp C0.1.1 C0.1.2.1 dL_isSoughtSo_180 ?_
            refine lv_if_le (tgt := 188) C0.1.1 C0.1.2.1 dL_isSoughtSo_181 (by decide) (fun hc => ?_) (fun hc => ?_)
            · replace h := (if_pos hc).symm.trans h
              refine lv_iconst (v := 0) C0.1.1 C0.1.2.1 dL_isSoughtSo_188 (by decide) ?_
              exact wL_isSoughtSo_189 C0 hA hN hT hlf hret ((aPut σ v4 (v5 - (1 : Int32))).2) ((aPut τ v4 (v5 - (1 : Int32))).2) v3 v6 (0 : Int32) _ _ _ (t + 10) (by omega) h Z (lv_sub hl [6, 9] rfl)
            · replace h := (if_neg hc).symm.trans h
              refine lv_iconst (v := 1) C0.1.1 C0.1.2.1 dL_isSoughtSo_184 (by decide) ?_
              refine lv_goto (tgt := 189) C0.1.1 C0.1.2.1 dL_isSoughtSo_185 (by decide) ?_
              exact wL_isSoughtSo_189 C0 hA hN hT hlf hret ((aPut σ v4 (v5 - (1 : Int32))).2) ((aPut τ v4 (v5 - (1 : Int32))).2) v3 v6 (1 : Int32) _ _ _ (t + 10) (by omega) h Z (lv_sub hl [6, 9] rfl)
set_option maxRecDepth 20000 in
set_option maxHeartbeats 4000000 in
theorem wL_isSoughtSo_111 {p : Program} {l : Launch} {e : Env} {s : State} {m : MethodId} {args : Array Value} {below : List Frame} {meth : Method} {c : Code} {D : va_G} {cyI cyJ cyO : ClassId} {A : Nat → Prop} {bs : Nat} {d d' : Nat → Nat} {Q : State → Prop} {res : Int32 × St × St} (C0 : gC p m meth c cL_isSoughtSo 12 (some .boolean) s args wsL_isSoughtSo RL) (hA : ∀ q, bs ≤ q → A q) (hN : lQN s) (hT : dT A s) (hlf : l.stackTraces = false) (hret : ∀ (r : Int32) (σ_r : St) (τ_r : St) (H : Heap) (locs : List Loc) (pc : Nat) (ls : Array Slot) (t : Nat), t ≤ 23 → (r = 0 ∨ r = 1) → some (r, σ_r, τ_r) = some res → tZ D cyI cyJ cyO A bs d σ_r d' τ_r s H locs → decode cL_isSoughtSo pc = .ok (.ireturn, 1) → W p l e rmL_isSoughtSo s m args below meth c H locs t (12 * t) Q (F0 m pc ls [.int r]))  : ∀ (σ : St) (τ : St) (v2 : Int32) (v3 : Int32) (v4 : Int32) (v5 : Int32) (v6 : Int64) (H : Heap) (locs : List Loc) (ls : Array Slot) (t : Nat), t + (10) ≤ 23 → mL_isSoughtSo_111 σ τ v2 v3 v4 v5 v6 = some res → tZ D cyI cyJ cyO A bs d σ d' τ s H locs → lv_has ls 12 [(0, .ref (d 0)), (1, .ref (d' 0)), (2, .int v2), (3, .int v3), (4, .int v4), (5, .int v5), (6, .long v6)] → W p l e rmL_isSoughtSo s m args below meth c H locs t (12 * t) Q (F0 m 111 ls []) := by
  intro σ τ v2 v3 v4 v5 v6 H locs ls t ht0 h Z hl
  unfold mL_isSoughtSo_111 at h
  refine lv_iconst (v := 0) C0.1.1 C0.1.2.1 dL_isSoughtSo_111 (by decide) ?_
  exact wL_isSoughtSo_112 C0 hA hN hT hlf hret σ τ v2 v3 v4 v5 v6 (0 : Int32) _ _ _ t (by omega) h Z (lv_sub hl [0, 1, 2, 3, 4, 5, 6] rfl)
set_option maxRecDepth 20000 in
set_option maxHeartbeats 4000000 in
theorem wL_isSoughtSo_41 {p : Program} {l : Launch} {e : Env} {s : State} {m : MethodId} {args : Array Value} {below : List Frame} {meth : Method} {c : Code} {D : va_G} {cyI cyJ cyO : ClassId} {A : Nat → Prop} {bs : Nat} {d d' : Nat → Nat} {Q : State → Prop} {res : Int32 × St × St} (C0 : gC p m meth c cL_isSoughtSo 12 (some .boolean) s args wsL_isSoughtSo RL) (hA : ∀ q, bs ≤ q → A q) (hN : lQN s) (hT : dT A s) (hlf : l.stackTraces = false) (hret : ∀ (r : Int32) (σ_r : St) (τ_r : St) (H : Heap) (locs : List Loc) (pc : Nat) (ls : Array Slot) (t : Nat), t ≤ 23 → (r = 0 ∨ r = 1) → some (r, σ_r, τ_r) = some res → tZ D cyI cyJ cyO A bs d σ_r d' τ_r s H locs → decode cL_isSoughtSo pc = .ok (.ireturn, 1) → W p l e rmL_isSoughtSo s m args below meth c H locs t (12 * t) Q (F0 m pc ls [.int r]))  : ∀ (σ : St) (τ : St) (s0 : Int32) (H : Heap) (locs : List Loc) (ls : Array Slot) (t : Nat), t + (0) ≤ 23 → mL_isSoughtSo_41 σ τ s0 = some res → tZ D cyI cyJ cyO A bs d σ d' τ s H locs → lv_has ls 12 [] → W p l e rmL_isSoughtSo s m args below meth c H locs t (12 * t) Q (F0 m 41 ls [.int s0]) := by
  intro σ τ s0 H locs ls t ht0 h Z hl
  unfold mL_isSoughtSo_41 at h
  obtain ⟨hn8, h⟩ := g_yi h
  exact hret s0 σ τ _ _ _ _ t (by omega) hn8 h Z dL_isSoughtSo_41
set_option maxRecDepth 20000 in
set_option maxHeartbeats 4000000 in
theorem zL_isSoughtSo (l : Launch) (hlf : l.stackTraces = false) (D : va_G) (cyI cyJ cyO : ClassId) (A : Nat → Prop) (bs : Nat) (hA : ∀ q, bs ≤ q → A q) (d : Nat → Nat) (σ : St) (d' : Nat → Nat) (τ : St) (p2 : Int32) (p3 : Int32) (p4 : Int32) (res : Int32 × St × St) (h : mL_isSoughtSo σ τ p2 p3 p4 = some res) : Met l yL_isSoughtSo wsL_isSoughtSo rmL_isSoughtSo (va_Pc [.ref (d 0), .ref (d' 0), .int p2, .int p3, .int p4] (lP (tW D cyI cyJ cyO A bs d σ d' τ) A)) (va_Qi (fun (r : Int32) (u : St × St) => res.1 = r ∧ res.2 = u) (fun (u : St × St) => tW D cyI cyJ cyO A bs d u.1 d' u.2) A) 23 276 A := by
  refine Met.ofW (cc := cL_isSoughtSo) (maxL := 12) (ret := (some .boolean)) (by decide) rfl ?_
  intro p e s m args below meth c s₁ B hml hv
  obtain ⟨hav, hv⟩ := hv
  obtain ⟨hv, hN, hT⟩ := hv
  have C0 : gC p m meth c cL_isSoughtSo 12 (some .boolean) s args wsL_isSoughtSo RL := ⟨⟨B.exec, B.bytes, hml, findClass_of_methodNamed B.named, atoms_spec (ws := wsL_isSoughtSo) B.pre⟩, B.returns, B.notSynchronized⟩
  have Z := tZ_start hA hv
  have hret : ∀ (r : Int32) (σ_r : St) (τ_r : St) (H : Heap) (locs : List Loc) (pc : Nat) (ls : Array Slot) (t : Nat), t ≤ 23 → (r = 0 ∨ r = 1) → some (r, σ_r, τ_r) = some res → tZ D cyI cyJ cyO A bs d σ_r d' τ_r s H locs → decode cL_isSoughtSo pc = .ok (.ireturn, 1) → W p l e rmL_isSoughtSo s m args below meth c H locs t (12 * t) (MQ below (va_Qi (fun (r : Int32) (u : St × St) => res.1 = r ∧ res.2 = u) (fun (u : St × St) => tW D cyI cyJ cyO A bs d u.1 d' u.2) A) args s 23 276 A) (F0 m pc ls [.int r]) := by
    intro r σ_r τ_r H locs pc ls t ht1 hb9 h Z hd
    replace h := Option.some.inj h
    subst h
    refine W.widen (k := 23) (n := 276) (by omega) (by omega) ?_
    exact W.zret C0.1.1 C0.1.2.1 C0.2.1 (g_nb hb9) (fun t ht hW => ⟨⟨r, (σ_r, τ_r), rfl, ⟨rfl, rfl⟩, tZ_end Z ht hW⟩, va_S.F (tZ_S Z) ht⟩) (tZ_S Z).2.2 hd C0.2.2
  have hl := lv_entry ([.ref (d 0), .ref (d' 0), .int p2, .int p3, .int p4]) (n := 12) (Nat.le_of_ble_eq_true rfl)
  rw [hav, lg_entry_eq]
  generalize (lg_sl ([.ref (d 0), .ref (d' 0), .int p2, .int p3, .int p4]) ++ List.replicate (12 - (lg_sl ([.ref (d 0), .ref (d' 0), .int p2, .int p3, .int p4])).length) Slot.unset).toArray = ls at hl ⊢
  have hl : lv_has ls 12 [(0, .ref (d 0)), (1, .ref (d' 0)), (2, .int p2), (3, .int p3), (4, .int p4)] := hl
  rw [← hav]
  unfold mL_isSoughtSo at h
  obtain ⟨t, ht0⟩ : ∃ t : Nat, t = 0 := ⟨0, rfl⟩
  refine W.widen (k := t) (n := 12 * t) (Nat.zero_le _) (Nat.zero_le _) ?_
  refine lv_aload_n C0.1.1 C0.1.2.1 dL_isSoughtSo_0 rfl (lv_at hl 0 rfl) ?_
  refine lv_iload_n C0.1.1 C0.1.2.1 dL_isSoughtSo_1 rfl (lv_at hl 2 rfl) ?_
  refine lv_iload_n C0.1.1 C0.1.2.1 dL_isSoughtSo_2 rfl (lv_at hl 3 rfl) ?_
  refine lv_iload C0.1.1 C0.1.2.1 dL_isSoughtSo_3 (lv_at hl 4 rfl) ?_
  refine lv_iconst (v := 0) C0.1.1 C0.1.2.1 dL_isSoughtSo_5 (by decide) ?_
  refine lv_sipush (v := 5000) C0.1.1 C0.1.2.1 dL_isSoughtSo_6 (by decide +kernel) ?_
  obtain ⟨x23, hx24, h⟩ := g_bd h
  refine va_calli (vx_runSW (As := [.ref (d 0), .int p2, .int p3, .int p4, .int (0 : Int32), .int (5000 : Int32)]) (rest := []) C0.1 (tL_i hA (fun Y => zL_seek l hlf D cyI cyJ cyO A bs hA Y d σ p2 p3 p4 (0 : Int32) (5000 : Int32) x23 hx24)) (vx_cwSW 6 C0.1.2.2.2.2 gL_isSoughtSo_L_seek rfl rfl rfl (by decide +kernel) ⟨Nat.le_of_ble_eq_true rfl, Nat.le_of_ble_eq_true rfl⟩) ⟨tP_blind, tP_pre Z hN hT _⟩ rfl rfl hl.1 rfl (lv_room (Nat.le_of_ble_eq_true rfl)) dL_isSoughtSo_9 ⟨by show t + 4 ≤ 23; omega, by show 12 * t + 48 ≤ 276; omega⟩) (tZ_S Z) (fun _ _ h => h) (fun _ h => h) (fun y u t1 H locs ht hvm hw hB _ hk hS => ?_)
  replace Z := tZ_post Z ht hvm hB hS
  obtain ⟨rfl, rfl⟩ := hw
  refine W.widen (k := (t + 4)) (n := 12 * (t + 4)) (by omega) (by omega) ?_
  refine lv_istore (lv' := [(5, .int x23.1), (0, .ref (d 0)), (1, .ref (d' 0)), (2, .int p2), (3, .int p3), (4, .int p4)]) C0.1.1 C0.1.2.1 dL_isSoughtSo_12 hl (by decide) rfl (fun ls hl => ?_)
  refine lv_iload C0.1.1 C0.1.2.1 dL_isSoughtSo_14 (lv_at hl 0 rfl) ?_
  refine lv_if_ge (tgt := 42) C0.1.1 C0.1.2.1 dL_isSoughtSo_16 (by decide) (fun hc => ?_) (fun hc => ?_)
  · replace h := (if_pos hc).symm.trans h
    refine lv_aload_n C0.1.1 C0.1.2.1 dL_isSoughtSo_42 rfl (lv_at hl 1 rfl) ?_
    refine lv_iload_n C0.1.1 C0.1.2.1 dL_isSoughtSo_43 rfl (lv_at hl 3 rfl) ?_
    obtain ⟨x25, hx26, h⟩ := g_bd h
    refine vx_calll (vx_runV (b := d 0) (C := RX3) (As := [.int p2]) (rest := []) C0.1 (tL_xl hA (fun Y => o_value l hlf D cyI cyJ cyO A bs hA Y d x23.2 p2)) (cwV 1 C0.1.2.2.2.2 gL_isSoughtSo_X3_value rfl rfl rfl (by decide +kernel) ⟨Nat.le_of_ble_eq_true rfl, Nat.le_of_ble_eq_true rfl⟩) ⟨tP_blind, tZ_recvL Z, tP_pre Z hN hT _⟩ rfl rfl hl.1 rfl (lv_room (Nat.le_of_ble_eq_true rfl)) dL_isSoughtSo_44 ⟨by show (t + 4) + 2 ≤ 23; omega, by show 12 * (t + 4) + 12 ≤ 276; omega⟩) (tZ_S Z) (fun _ _ h => h) (fun _ h => h) (fun _ _ h => h) (fun E ce q9 u t1 H1 locs1 ht hvm _ hB _ hk hS h1 h2 h3 => ?_) (fun y u t1 H locs ht hvm hw hB _ hk hS => ?_)
    · exact absurd (hx26.symm.trans hB.1.1) (fun z => nomatch z)
    obtain rfl : x25 = y := Option.some.inj (hx26.symm.trans hw)
    replace Z := tZ_post Z ht hvm hB hS
    refine W.widen (k := (t + 6)) (n := 12 * (t + 6)) (by omega) (by omega) ?_
    refine lv_lstore (lv' := [(6, .long x25), (5, .int x23.1), (0, .ref (d 0)), (1, .ref (d' 0)), (2, .int p2), (3, .int p3), (4, .int p4)]) C0.1.1 C0.1.2.1 dL_isSoughtSo_47 hl (by decide) rfl (fun ls hl => ?_)
    refine lv_iload C0.1.1 C0.1.2.1 dL_isSoughtSo_49 (lv_at hl 1 rfl) ?_
    refine lv_sipush (v := 5000) C0.1.1 C0.1.2.1 dL_isSoughtSo_51 (by decide +kernel) ?_
    refine lv_icmp_gt (tgt := 111) C0.1.1 C0.1.2.1 dL_isSoughtSo_54 (by decide) (fun hc => ?_) (fun hc => ?_)
    · replace h := (if_pos hc).symm.trans h
      exact wL_isSoughtSo_111 C0 hA hN hT hlf hret x23.2 τ p2 p3 p4 x23.1 x25 _ _ _ (t + 6) (by omega) h Z (lv_sub hl [2, 3, 4, 5, 6, 1, 0] rfl)
    · replace h := (if_neg hc).symm.trans h
      refine lv_aload_n C0.1.1 C0.1.2.1 dL_isSoughtSo_57 rfl (lv_at hl 2 rfl) ?_
      refine lv_iload C0.1.1 C0.1.2.1 dL_isSoughtSo_58 (lv_at hl 6 rfl) ?_
      obtain ⟨x27, hx28, h⟩ := g_bd h
      refine vx_calll (vx_runV (b := d 0) (C := RX3) (As := [.int p4]) (rest := []) C0.1 (tL_xl hA (fun Y => o_value l hlf D cyI cyJ cyO A bs hA Y d x23.2 p4)) (cwV 1 C0.1.2.2.2.2 gL_isSoughtSo_X3_value rfl rfl rfl (by decide +kernel) ⟨Nat.le_of_ble_eq_true rfl, Nat.le_of_ble_eq_true rfl⟩) ⟨tP_blind, tZ_recvL Z, tP_pre Z hN hT _⟩ rfl rfl hl.1 rfl (lv_room (Nat.le_of_ble_eq_true rfl)) dL_isSoughtSo_60 ⟨by show (t + 6) + 2 ≤ 23; omega, by show 12 * (t + 6) + 12 ≤ 276; omega⟩) (tZ_S Z) (fun _ _ h => h) (fun _ h => h) (fun _ _ h => h) (fun E ce q9 u t1 H1 locs1 ht hvm _ hB _ hk hS h1 h2 h3 => ?_) (fun y u t1 H locs ht hvm hw hB _ hk hS => ?_)
      · exact absurd (hx28.symm.trans hB.1.1) (fun z => nomatch z)
      obtain rfl : x27 = y := Option.some.inj (hx28.symm.trans hw)
      replace Z := tZ_post Z ht hvm hB hS
      refine W.widen (k := (t + 8)) (n := 12 * (t + 8)) (by omega) (by omega) ?_
      refine lv_iload C0.1.1 C0.1.2.1 dL_isSoughtSo_63 (lv_at hl 1 rfl) ?_
      refine lv_i2l C0.1.1 C0.1.2.1 dL_isSoughtSo_65 rfl ?_
      refine W.lcmp C0.1.1 C0.1.2.1 dL_isSoughtSo_66 ?_
      refine lv_if_ne (tgt := 111) C0.1.1 C0.1.2.1 dL_isSoughtSo_67 (by decide) (fun hc => ?_) (fun hc => ?_)
      · replace h := (if_neg hc).symm.trans h
        exact wL_isSoughtSo_111 C0 hA hN hT hlf hret x23.2 τ p2 p3 p4 x23.1 x25 _ _ _ (t + 8) (by omega) h Z (lv_sub hl [2, 3, 4, 5, 6, 1, 0] rfl)
      · replace h := (if_pos hc).symm.trans h
        refine lv_aload_n C0.1.1 C0.1.2.1 dL_isSoughtSo_70 rfl (lv_at hl 2 rfl) ?_
        refine lv_iload C0.1.1 C0.1.2.1 dL_isSoughtSo_71 (lv_at hl 6 rfl) ?_
        obtain ⟨x29, hx30, h⟩ := g_bd h
        refine vx_calli (vx_runV (b := d 0) (C := RX3) (As := [.int p4]) (rest := []) C0.1 (tL_xi hA (fun Y => o_signs l hlf D cyI cyJ cyO A bs hA Y d x23.2 p4)) (cwV 1 C0.1.2.2.2.2 gL_isSoughtSo_X3_signs rfl rfl rfl (by decide +kernel) ⟨Nat.le_of_ble_eq_true rfl, Nat.le_of_ble_eq_true rfl⟩) ⟨tP_blind, tZ_recvL Z, tP_pre Z hN hT _⟩ rfl rfl hl.1 rfl (lv_room (Nat.le_of_ble_eq_true rfl)) dL_isSoughtSo_73 ⟨by show (t + 8) + 1 ≤ 23; omega, by show 12 * (t + 8) + 6 ≤ 276; omega⟩) (tZ_S Z) (fun _ _ h => h) (fun _ h => h) (fun _ _ h => h) (fun E ce q9 u t1 H1 locs1 ht hvm _ hB _ hk hS h1 h2 h3 => ?_) (fun y u t1 H locs ht hvm hw hB _ hk hS => ?_)
        · exact absurd (hx30.symm.trans hB.1.1) (fun z => nomatch z)
        obtain rfl : x29 = y := Option.some.inj (hx30.symm.trans hw)
        replace Z := tZ_post Z ht hvm hB hS
        refine W.widen (k := (t + 9)) (n := 12 * (t + 9)) (by omega) (by omega) ?_
        refine lv_iconst (v := 1) C0.1.1 C0.1.2.1 dL_isSoughtSo_76 (by decide) ?_
        refine lv_icmp_ne (tgt := 111) C0.1.1 C0.1.2.1 dL_isSoughtSo_77 (by decide) (fun hc => ?_) (fun hc => ?_)
        · replace h := (if_neg hc).symm.trans h
          exact wL_isSoughtSo_111 C0 hA hN hT hlf hret x23.2 τ p2 p3 p4 x23.1 x25 _ _ _ (t + 9) (by omega) h Z (lv_sub hl [2, 3, 4, 5, 6, 1, 0] rfl)
        · replace h := (if_pos hc).symm.trans h
          refine lv_aload_n C0.1.1 C0.1.2.1 dL_isSoughtSo_80 rfl (lv_at hl 2 rfl) ?_
          refine lv_iload_n C0.1.1 C0.1.2.1 dL_isSoughtSo_81 rfl (lv_at hl 4 rfl) ?_
          refine lv_iload C0.1.1 C0.1.2.1 dL_isSoughtSo_82 (lv_at hl 6 rfl) ?_
          obtain ⟨x31, hx32, h⟩ := g_bd h
          refine va_calli (va_runV (b := d 0) (C := RX3) (As := [.int p2, .int p4]) (rest := []) C0.1 (tL_i hA (fun Y => o_depends l D cyI cyJ cyO A bs hA Y d x23.2 p2 p4 x31 hx32)) (cwV 2 C0.1.2.2.2.2 gL_isSoughtSo_X3_depends rfl rfl rfl (by decide +kernel) ⟨Nat.le_of_ble_eq_true rfl, Nat.le_of_ble_eq_true rfl⟩) ⟨tP_blind, tZ_recvL Z, tP_pre Z hN hT _⟩ rfl rfl hl.1 rfl (lv_room (Nat.le_of_ble_eq_true rfl)) dL_isSoughtSo_84 ⟨by show (t + 9) + 0 ≤ 23; omega, by show 12 * (t + 9) + 0 ≤ 276; omega⟩) (tZ_S Z) (fun _ _ h => h) (fun _ h => h) (fun y u t1 H locs ht hvm hw hB _ hk hS => ?_)
          subst hw
          replace Z := tZ_post Z ht hvm hB hS
          refine lv_if_eq (tgt := 111) C0.1.1 C0.1.2.1 dL_isSoughtSo_87 (by decide) (fun hc => ?_) (fun hc => ?_)
          · replace h := (if_pos hc).symm.trans h
            exact wL_isSoughtSo_111 C0 hA hN hT hlf hret x23.2 τ p2 p3 p4 x23.1 x25 _ _ _ (t + 9) (by omega) h Z (lv_sub hl [2, 3, 4, 5, 6, 1, 0] rfl)
          · replace h := (if_neg hc).symm.trans h
            refine lv_aload_n C0.1.1 C0.1.2.1 dL_isSoughtSo_90 rfl (lv_at hl 3 rfl) ?_
            refine lv_iload_n C0.1.1 C0.1.2.1 dL_isSoughtSo_91 rfl (lv_at hl 4 rfl) ?_
            refine lv_iload_n C0.1.1 C0.1.2.1 dL_isSoughtSo_92 rfl (lv_at hl 5 rfl) ?_
            refine lv_iload C0.1.1 C0.1.2.1 dL_isSoughtSo_93 (lv_at hl 6 rfl) ?_
            refine lv_iconst (v := 0) C0.1.1 C0.1.2.1 dL_isSoughtSo_95 (by decide) ?_
            refine lv_sipush (v := 5000) C0.1.1 C0.1.2.1 dL_isSoughtSo_96 (by decide +kernel) ?_
            obtain ⟨x33, hx34, h⟩ := g_bd h
            refine va_calli (vx_runSW (As := [.ref (d' 0), .int p2, .int p3, .int p4, .int (0 : Int32), .int (5000 : Int32)]) (rest := []) C0.1 (tR_i hA (fun Y => zL_seek l hlf D cyI cyJ cyO A bs hA Y d' τ p2 p3 p4 (0 : Int32) (5000 : Int32) x33 hx34)) (vx_cwSW 6 C0.1.2.2.2.2 gL_isSoughtSo_L_seek rfl rfl rfl (by decide +kernel) ⟨Nat.le_of_ble_eq_true rfl, Nat.le_of_ble_eq_true rfl⟩) ⟨tP_blind, tP_pre Z hN hT _⟩ rfl rfl hl.1 rfl (lv_room (Nat.le_of_ble_eq_true rfl)) dL_isSoughtSo_99 ⟨by show (t + 9) + 4 ≤ 23; omega, by show 12 * (t + 9) + 48 ≤ 276; omega⟩) (tZ_S Z) (fun _ _ h => h) (fun _ h => h) (fun y u t1 H locs ht hvm hw hB _ hk hS => ?_)
            replace Z := tZ_post Z ht hvm hB hS
            obtain ⟨rfl, rfl⟩ := hw
            refine W.widen (k := (t + 13)) (n := 12 * (t + 13)) (by omega) (by omega) ?_
            refine lv_iload C0.1.1 C0.1.2.1 dL_isSoughtSo_102 (lv_at hl 1 rfl) ?_
            refine lv_icmp_ne (tgt := 111) C0.1.1 C0.1.2.1 dL_isSoughtSo_104 (by decide) (fun hc => ?_) (fun hc => ?_)
            · replace h := (if_neg hc).symm.trans h
              exact wL_isSoughtSo_111 C0 hA hN hT hlf hret x23.2 x33.2 p2 p3 p4 x23.1 x25 _ _ _ (t + 13) (by omega) h Z (lv_sub hl [2, 3, 4, 5, 6, 1, 0] rfl)
            · replace h := (if_pos hc).symm.trans h
              refine lv_iconst (v := 1) C0.1.1 C0.1.2.1 dL_isSoughtSo_107 (by decide) ?_
              refine lv_goto (tgt := 112) C0.1.1 C0.1.2.1 dL_isSoughtSo_108 (by decide) ?_
              exact wL_isSoughtSo_112 C0 hA hN hT hlf hret x23.2 x33.2 p2 p3 p4 x23.1 x25 (1 : Int32) _ _ _ (t + 13) (by omega) h Z (lv_sub hl [2, 3, 4, 5, 6, 1, 0] rfl)
  · replace h := (if_neg hc).symm.trans h
    refine lv_aload_n C0.1.1 C0.1.2.1 dL_isSoughtSo_19 rfl (lv_at hl 2 rfl) ?_
    refine lv_iload_n C0.1.1 C0.1.2.1 dL_isSoughtSo_20 rfl (lv_at hl 3 rfl) ?_
    refine lv_iload_n C0.1.1 C0.1.2.1 dL_isSoughtSo_21 rfl (lv_at hl 4 rfl) ?_
    refine lv_iload C0.1.1 C0.1.2.1 dL_isSoughtSo_22 (lv_at hl 5 rfl) ?_
    refine lv_iconst (v := 0) C0.1.1 C0.1.2.1 dL_isSoughtSo_24 (by decide) ?_
    refine lv_sipush (v := 5000) C0.1.1 C0.1.2.1 dL_isSoughtSo_25 (by decide +kernel) ?_
    obtain ⟨x35, hx36, h⟩ := g_bd h
    refine va_calli (vx_runSW (As := [.ref (d' 0), .int p2, .int p3, .int p4, .int (0 : Int32), .int (5000 : Int32)]) (rest := []) C0.1 (tR_i hA (fun Y => zL_seek l hlf D cyI cyJ cyO A bs hA Y d' τ p2 p3 p4 (0 : Int32) (5000 : Int32) x35 hx36)) (vx_cwSW 6 C0.1.2.2.2.2 gL_isSoughtSo_L_seek rfl rfl rfl (by decide +kernel) ⟨Nat.le_of_ble_eq_true rfl, Nat.le_of_ble_eq_true rfl⟩) ⟨tP_blind, tP_pre Z hN hT _⟩ rfl rfl hl.1 rfl (lv_room (Nat.le_of_ble_eq_true rfl)) dL_isSoughtSo_28 ⟨by show (t + 4) + 4 ≤ 23; omega, by show 12 * (t + 4) + 48 ≤ 276; omega⟩) (tZ_S Z) (fun _ _ h => h) (fun _ h => h) (fun y u t1 H locs ht hvm hw hB _ hk hS => ?_)
    replace Z := tZ_post Z ht hvm hB hS
    obtain ⟨rfl, rfl⟩ := hw
    refine W.widen (k := (t + 8)) (n := 12 * (t + 8)) (by omega) (by omega) ?_
    refine lv_iload C0.1.1 C0.1.2.1 dL_isSoughtSo_31 (lv_at hl 0 rfl) ?_
    refine lv_icmp_ne (tgt := 40) C0.1.1 C0.1.2.1 dL_isSoughtSo_33 (by decide) (fun hc => ?_) (fun hc => ?_)
    · replace h := (if_neg hc).symm.trans h
      refine lv_iconst (v := 0) C0.1.1 C0.1.2.1 dL_isSoughtSo_40 (by decide) ?_
      exact wL_isSoughtSo_41 C0 hA hN hT hlf hret x23.2 x35.2 (0 : Int32) _ _ _ (t + 8) (by omega) h Z (lv_sub hl [] rfl)
    · replace h := (if_pos hc).symm.trans h
      refine lv_iconst (v := 1) C0.1.1 C0.1.2.1 dL_isSoughtSo_36 (by decide) ?_
      refine lv_goto (tgt := 41) C0.1.1 C0.1.2.1 dL_isSoughtSo_37 (by decide) ?_
      exact wL_isSoughtSo_41 C0 hA hN hT hlf hret x23.2 x35.2 (1 : Int32) _ _ _ (t + 8) (by omega) h Z (lv_sub hl [] rfl)
