/-! the walk of L_law -/
theorem kL_law_c131 : Cond.constant RL 131 (1000000) ∈ wsL_law := by decide +kernel
theorem kL_law_c38 : Cond.constant RL 38 (-99999) ∈ wsL_law := by decide +kernel
set_option maxRecDepth 20000 in
set_option maxHeartbeats 4000000 in
theorem wL_law_198 {p : Program} {l : Launch} {e : Env} {s : State} {m : MethodId} {args : Array Value} {below : List Frame} {meth : Method} {c : Code} {D : va_G} {cyI cyJ cyO : ClassId} {A : Nat → Prop} {bs : Nat} {d d' : Nat → Nat} {b L : Nat} {xs : Nat → Int32} {Q : State → Prop} {res : Int32} (C0 : gC p m meth c cL_law 6 (some .boolean) s args wsL_law RL) (hA : ∀ q, bs ≤ q → A q) (hN : lQN s) (hT : dT A s) (hlf : l.stackTraces = false) (hX : va_X b L xs s s.heap) (hbl : b < s.heap.size) (hbA : ¬ A b) (hret : ∀ (r : Int32) (σ_r : St) (τ_r : St) (H : Heap) (locs : List Loc) (pc : Nat) (ls : Array Slot) (t : Nat), t ≤ 212724 → (r = 0 ∨ r = 1) → some r = some res → tZ D cyI cyJ cyO A bs d σ_r d' τ_r s H locs → decode cL_law pc = .ok (.ireturn, 1) → W p l e room_1 s m args below meth c H locs t (12 * t) Q (F0 m pc ls [.int r]))  : ∀ (σ : St) (τ : St) (s0 : Int32) (H : Heap) (locs : List Loc) (ls : Array Slot) (t : Nat), t + (0) ≤ 212724 → mL_law_198 L xs σ τ s0 = some res → tZ D cyI cyJ cyO A bs d σ d' τ s H locs → lv_has ls 6 [] → W p l e room_1 s m args below meth c H locs t (12 * t) Q (F0 m 198 ls [.int s0]) := by
  intro σ τ s0 H locs ls t ht0 h Z hl
  unfold mL_law_198 at h
  obtain ⟨hn1, h⟩ := g_yi h
  exact hret s0 σ τ _ _ _ _ t (by omega) hn1 h Z dL_law_198
set_option maxRecDepth 20000 in
set_option maxHeartbeats 4000000 in
theorem wL_law_197 {p : Program} {l : Launch} {e : Env} {s : State} {m : MethodId} {args : Array Value} {below : List Frame} {meth : Method} {c : Code} {D : va_G} {cyI cyJ cyO : ClassId} {A : Nat → Prop} {bs : Nat} {d d' : Nat → Nat} {b L : Nat} {xs : Nat → Int32} {Q : State → Prop} {res : Int32} (C0 : gC p m meth c cL_law 6 (some .boolean) s args wsL_law RL) (hA : ∀ q, bs ≤ q → A q) (hN : lQN s) (hT : dT A s) (hlf : l.stackTraces = false) (hX : va_X b L xs s s.heap) (hbl : b < s.heap.size) (hbA : ¬ A b) (hret : ∀ (r : Int32) (σ_r : St) (τ_r : St) (H : Heap) (locs : List Loc) (pc : Nat) (ls : Array Slot) (t : Nat), t ≤ 212724 → (r = 0 ∨ r = 1) → some r = some res → tZ D cyI cyJ cyO A bs d σ_r d' τ_r s H locs → decode cL_law pc = .ok (.ireturn, 1) → W p l e room_1 s m args below meth c H locs t (12 * t) Q (F0 m pc ls [.int r]))  : ∀ (σ : St) (τ : St) (H : Heap) (locs : List Loc) (ls : Array Slot) (t : Nat), t + (0) ≤ 212724 → mL_law_197 L xs σ τ = some res → tZ D cyI cyJ cyO A bs d σ d' τ s H locs → lv_has ls 6 [] → W p l e room_1 s m args below meth c H locs t (12 * t) Q (F0 m 197 ls []) := by
  intro σ τ H locs ls t ht0 h Z hl
  unfold mL_law_197 at h
  refine lv_iconst (v := 0) C0.1.1 C0.1.2.1 dL_law_197 (by decide) ?_
  exact wL_law_198 C0 hA hN hT hlf hX hbl hbA hret σ τ (0 : Int32) _ _ _ t (by omega) h Z (lv_sub hl [] rfl)
set_option maxRecDepth 20000 in
set_option maxHeartbeats 4000000 in
theorem wL_law_172 {p : Program} {l : Launch} {e : Env} {s : State} {m : MethodId} {args : Array Value} {below : List Frame} {meth : Method} {c : Code} {D : va_G} {cyI cyJ cyO : ClassId} {A : Nat → Prop} {bs : Nat} {d d' : Nat → Nat} {b L : Nat} {xs : Nat → Int32} {Q : State → Prop} {res : Int32} (C0 : gC p m meth c cL_law 6 (some .boolean) s args wsL_law RL) (hA : ∀ q, bs ≤ q → A q) (hN : lQN s) (hT : dT A s) (hlf : l.stackTraces = false) (hX : va_X b L xs s s.heap) (hbl : b < s.heap.size) (hbA : ¬ A b) (hret : ∀ (r : Int32) (σ_r : St) (τ_r : St) (H : Heap) (locs : List Loc) (pc : Nat) (ls : Array Slot) (t : Nat), t ≤ 212724 → (r = 0 ∨ r = 1) → some r = some res → tZ D cyI cyJ cyO A bs d σ_r d' τ_r s H locs → decode cL_law pc = .ok (.ireturn, 1) → W p l e room_1 s m args below meth c H locs t (12 * t) Q (F0 m pc ls [.int r])) {r18 : St → St → Int32 → Option (Int32)} {n18 : Nat} (hr18 : ∀ (σ : St) (τ : St) (v3 : Int32) (H : Heap) (locs : List Loc) (ls : Array Slot) (t : Nat), t + (2582 + n18 * 2582) ≤ 212724 → r18 σ τ v3 = some res → tZ D cyI cyJ cyO A bs d σ d' τ s H locs → lv_has ls 6 [(0, .ref b), (1, .ref (d 0)), (2, .ref (d' 0)), (3, .int v3)] → W p l e room_1 s m args below meth c H locs t (12 * t) Q (F0 m 18 ls [])) : ∀ (σ : St) (τ : St) (v3 : Int32) (H : Heap) (locs : List Loc) (ls : Array Slot) (t : Nat), t + (2582 + n18 * 2582) ≤ 212724 → mL_law_172 L xs r18 σ τ v3 = some res → tZ D cyI cyJ cyO A bs d σ d' τ s H locs → lv_has ls 6 [(0, .ref b), (1, .ref (d 0)), (2, .ref (d' 0)), (3, .int v3)] → W p l e room_1 s m args below meth c H locs t (12 * t) Q (F0 m 172 ls []) := by
  intro σ τ v3 H locs ls t ht0 h Z hl
  unfold mL_law_172 at h
  refine lv_iinc (v := v3 + (1 : Int32)) (lv' := [(3, .int (v3 + (1 : Int32))), (0, .ref b), (1, .ref (d 0)), (2, .ref (d' 0))]) C0.1.1 C0.1.2.1 dL_law_172 hl (k := 3) rfl rfl (by decide) rfl (fun ls hl => ?_)
  refine lv_goto (tgt := 18) C0.1.1 C0.1.2.1 dL_law_175 (by decide) ?_
  exact hr18 σ τ (v3 + (1 : Int32)) _ _ _ t (by omega) h Z (lv_sub hl [1, 2, 3, 0] rfl)
set_option maxRecDepth 20000 in
set_option maxHeartbeats 4000000 in
theorem wL_law_170 {p : Program} {l : Launch} {e : Env} {s : State} {m : MethodId} {args : Array Value} {below : List Frame} {meth : Method} {c : Code} {D : va_G} {cyI cyJ cyO : ClassId} {A : Nat → Prop} {bs : Nat} {d d' : Nat → Nat} {b L : Nat} {xs : Nat → Int32} {Q : State → Prop} {res : Int32} (C0 : gC p m meth c cL_law 6 (some .boolean) s args wsL_law RL) (hA : ∀ q, bs ≤ q → A q) (hN : lQN s) (hT : dT A s) (hlf : l.stackTraces = false) (hX : va_X b L xs s s.heap) (hbl : b < s.heap.size) (hbA : ¬ A b) (hret : ∀ (r : Int32) (σ_r : St) (τ_r : St) (H : Heap) (locs : List Loc) (pc : Nat) (ls : Array Slot) (t : Nat), t ≤ 212724 → (r = 0 ∨ r = 1) → some r = some res → tZ D cyI cyJ cyO A bs d σ_r d' τ_r s H locs → decode cL_law pc = .ok (.ireturn, 1) → W p l e room_1 s m args below meth c H locs t (12 * t) Q (F0 m pc ls [.int r]))  : ∀ (σ : St) (τ : St) (H : Heap) (locs : List Loc) (ls : Array Slot) (t : Nat), t + (0) ≤ 212724 → mL_law_170 L xs σ τ = some res → tZ D cyI cyJ cyO A bs d σ d' τ s H locs → lv_has ls 6 [] → W p l e room_1 s m args below meth c H locs t (12 * t) Q (F0 m 170 ls []) := by
  intro σ τ H locs ls t ht0 h Z hl
  unfold mL_law_170 at h
  refine lv_iconst (v := 0) C0.1.1 C0.1.2.1 dL_law_170 (by decide) ?_
  exact hret (0 : Int32) σ τ _ _ _ _ t (by omega) (Or.inl rfl) h Z dL_law_171
set_option maxRecDepth 20000 in
set_option maxHeartbeats 4000000 in
theorem wL_law_125 {p : Program} {l : Launch} {e : Env} {s : State} {m : MethodId} {args : Array Value} {below : List Frame} {meth : Method} {c : Code} {D : va_G} {cyI cyJ cyO : ClassId} {A : Nat → Prop} {bs : Nat} {d d' : Nat → Nat} {b L : Nat} {xs : Nat → Int32} {Q : State → Prop} {res : Int32} (C0 : gC p m meth c cL_law 6 (some .boolean) s args wsL_law RL) (hA : ∀ q, bs ≤ q → A q) (hN : lQN s) (hT : dT A s) (hlf : l.stackTraces = false) (hX : va_X b L xs s s.heap) (hbl : b < s.heap.size) (hbA : ¬ A b) (hret : ∀ (r : Int32) (σ_r : St) (τ_r : St) (H : Heap) (locs : List Loc) (pc : Nat) (ls : Array Slot) (t : Nat), t ≤ 212724 → (r = 0 ∨ r = 1) → some r = some res → tZ D cyI cyJ cyO A bs d σ_r d' τ_r s H locs → decode cL_law pc = .ok (.ireturn, 1) → W p l e room_1 s m args below meth c H locs t (12 * t) Q (F0 m pc ls [.int r])) {r18 : St → St → Int32 → Option (Int32)} {n18 : Nat} (hr18 : ∀ (σ : St) (τ : St) (v3 : Int32) (H : Heap) (locs : List Loc) (ls : Array Slot) (t : Nat), t + (2582 + n18 * 2582) ≤ 212724 → r18 σ τ v3 = some res → tZ D cyI cyJ cyO A bs d σ d' τ s H locs → lv_has ls 6 [(0, .ref b), (1, .ref (d 0)), (2, .ref (d' 0)), (3, .int v3)] → W p l e room_1 s m args below meth c H locs t (12 * t) Q (F0 m 18 ls [])) : ∀ (σ : St) (τ : St) (v3 : Int32) (v4 : Int32) (H : Heap) (locs : List Loc) (ls : Array Slot) (t : Nat), t + (2605 + n18 * 2582) ≤ 212724 → mL_law_125 L xs r18 σ τ v3 v4 = some res → tZ D cyI cyJ cyO A bs d σ d' τ s H locs → lv_has ls 6 [(0, .ref b), (1, .ref (d 0)), (2, .ref (d' 0)), (3, .int v3), (4, .int v4)] → W p l e room_1 s m args below meth c H locs t (12 * t) Q (F0 m 125 ls []) := by
  intro σ τ v3 v4 H locs ls t ht0 h Z hl
  unfold mL_law_125 at h
  refine lv_iload_n C0.1.1 C0.1.2.1 dL_law_125 rfl (lv_at hl 3 rfl) ?_
  refine lv_bipush (v := 9) C0.1.1 C0.1.2.1 dL_law_126 (by decide +kernel) ?_
  refine lv_irem C0.1.1 C0.1.2.1 dL_law_128 (by decide) ?_
  refine lv_iconst (v := 2) C0.1.1 C0.1.2.1 dL_law_129 (by decide) ?_
  refine lv_icmp_ne (tgt := 172) C0.1.1 C0.1.2.1 dL_law_130 (by decide) (fun hc => ?_) (fun hc => ?_)
  · replace h := (if_neg hc).symm.trans h
    exact wL_law_172 C0 hA hN hT hlf hX hbl hbA hret hr18 σ τ v3 _ _ _ t (by omega) h Z (lv_sub hl [0, 1, 2, 3] rfl)
  · replace h := (if_pos hc).symm.trans h
    refine lv_aload_n C0.1.1 C0.1.2.1 dL_law_133 rfl (lv_at hl 1 rfl) ?_
    refine lv_aload_n C0.1.1 C0.1.2.1 dL_law_134 rfl (lv_at hl 2 rfl) ?_
    refine lv_iload C0.1.1 C0.1.2.1 dL_law_135 (lv_at hl 4 rfl) ?_
    refine lv_iconst (v := 3) C0.1.1 C0.1.2.1 dL_law_137 (by decide) ?_
    refine lv_ishr C0.1.1 C0.1.2.1 dL_law_138 ?_
    refine lv_bipush (v := 9) C0.1.1 C0.1.2.1 dL_law_139 (by decide +kernel) ?_
    obtain ⟨x2, hx3, h⟩ := g_bd h
    refine va_calli (va_runS (As := [.int (v4 >>> ((3 : Int32) &&& 31)), .int (9 : Int32)]) (rest := [.ref (d' 0), .ref (d 0)]) C0.1 (zL_low l (v4 >>> ((3 : Int32) &&& 31)) (9 : Int32) x2 hx3) (va_cwS 2 C0.1.2.2.2.2 gL_law_L_low rfl rfl rfl (by decide +kernel) ⟨Nat.le_of_ble_eq_true rfl, Nat.le_of_ble_eq_true rfl⟩) ⟨pu_blind, fun U _ _ => ⟨rfl, trivial⟩⟩ rfl rfl hl.1 rfl (lv_room (Nat.le_of_ble_eq_true rfl)) dL_law_141 ⟨by show t + 0 ≤ 600258; omega, by show 12 * t + 0 ≤ 7292778; omega⟩) (tZ_S Z) (fun _ _ h => h.elim) (fun _ h => h.elim) (fun y u t1 H locs ht hvm hw hB _ hk hS => ?_)
    subst hw
    replace Z := tZ_keep Z hk hS
    refine lv_iload C0.1.1 C0.1.2.1 dL_law_144 (lv_at hl 4 rfl) ?_
    refine lv_iconst (v := 5) C0.1.1 C0.1.2.1 dL_law_146 (by decide) ?_
    refine lv_ishr C0.1.1 C0.1.2.1 dL_law_147 ?_
    refine lv_sipush (v := 9000) C0.1.1 C0.1.2.1 dL_law_148 (by decide +kernel) ?_
    obtain ⟨x4, hx5, h⟩ := g_bd h
    refine va_calli (va_runS (As := [.int (v4 >>> ((5 : Int32) &&& 31)), .int (9000 : Int32)]) (rest := [.int x2, .ref (d' 0), .ref (d 0)]) C0.1 (zL_low l (v4 >>> ((5 : Int32) &&& 31)) (9000 : Int32) x4 hx5) (va_cwS 2 C0.1.2.2.2.2 gL_law_L_low rfl rfl rfl (by decide +kernel) ⟨Nat.le_of_ble_eq_true rfl, Nat.le_of_ble_eq_true rfl⟩) ⟨pu_blind, fun U _ _ => ⟨rfl, trivial⟩⟩ rfl rfl hl.1 rfl (lv_room (Nat.le_of_ble_eq_true rfl)) dL_law_151 ⟨by show t + 0 ≤ 600258; omega, by show 12 * t + 0 ≤ 7292778; omega⟩) (tZ_S Z) (fun _ _ h => h.elim) (fun _ h => h.elim) (fun y u t1 H locs ht hvm hw hB _ hk hS => ?_)
    subst hw
    replace Z := tZ_keep Z hk hS
    refine lv_iload C0.1.1 C0.1.2.1 dL_law_154 (lv_at hl 4 rfl) ?_
    refine lv_bipush (v := 8) C0.1.1 C0.1.2.1 dL_law_156 (by decide +kernel) ?_
    refine lv_ishr C0.1.1 C0.1.2.1 dL_law_158 ?_
    refine lv_bipush (v := 9) C0.1.1 C0.1.2.1 dL_law_159 (by decide +kernel) ?_
    obtain ⟨x6, hx7, h⟩ := g_bd h
    refine va_calli (va_runS (As := [.int (v4 >>> ((8 : Int32) &&& 31)), .int (9 : Int32)]) (rest := [.int x4, .int x2, .ref (d' 0), .ref (d 0)]) C0.1 (zL_low l (v4 >>> ((8 : Int32) &&& 31)) (9 : Int32) x6 hx7) (va_cwS 2 C0.1.2.2.2.2 gL_law_L_low rfl rfl rfl (by decide +kernel) ⟨Nat.le_of_ble_eq_true rfl, Nat.le_of_ble_eq_true rfl⟩) ⟨pu_blind, fun U _ _ => ⟨rfl, trivial⟩⟩ rfl rfl hl.1 rfl (lv_room (Nat.le_of_ble_eq_true rfl)) dL_law_161 ⟨by show t + 0 ≤ 600258; omega, by show 12 * t + 0 ≤ 7292778; omega⟩) (tZ_S Z) (fun _ _ h => h.elim) (fun _ h => h.elim) (fun y u t1 H locs ht hvm hw hB _ hk hS => ?_)
    subst hw
    replace Z := tZ_keep Z hk hS
    obtain ⟨x8, hx9, h⟩ := g_bd h
    refine va_calli (va_runS (As := [.ref (d 0), .ref (d' 0), .int x2, .int x4, .int x6]) (rest := []) C0.1 (zL_isSoughtSo l hlf D cyI cyJ cyO A bs hA d σ d' τ x2 x4 x6 x8 hx9) (va_cwS 5 C0.1.2.2.2.2 gL_law_L_isSoughtSo rfl rfl rfl (by decide +kernel) ⟨Nat.le_of_ble_eq_true rfl, Nat.le_of_ble_eq_true rfl⟩) ⟨tP_blind, tP_pre Z hN hT _⟩ rfl rfl hl.1 rfl (lv_room (Nat.le_of_ble_eq_true rfl)) dL_law_164 ⟨by show t + 23 ≤ 600258; omega, by show 12 * t + 276 ≤ 7292778; omega⟩) (tZ_S Z) (fun _ _ h => h) (fun _ h => h) (fun y u t1 H locs ht hvm hw hB _ hk hS => ?_)
    replace Z := tZ_post Z ht hvm hB hS
    obtain ⟨rfl, rfl⟩ := hw
    refine W.widen (k := (t + 23)) (n := 12 * (t + 23)) (by omega) (by omega) ?_
    refine lv_if_ne (tgt := 172) C0.1.1 C0.1.2.1 dL_law_167 (by decide) (fun hc => ?_) (fun hc => ?_)
    · replace h := (if_neg hc).symm.trans h
      exact wL_law_172 C0 hA hN hT hlf hX hbl hbA hret hr18 x8.2.1 x8.2.2 v3 _ _ _ (t + 23) (by omega) h Z (lv_sub hl [0, 1, 2, 3] rfl)
    · replace h := (if_pos hc).symm.trans h
      exact wL_law_170 C0 hA hN hT hlf hX hbl hbA hret x8.2.1 x8.2.2 _ _ _ (t + 23) (by omega) h Z (lv_sub hl [] rfl)
set_option maxRecDepth 20000 in
set_option maxHeartbeats 4000000 in
theorem wL_law_89 {p : Program} {l : Launch} {e : Env} {s : State} {m : MethodId} {args : Array Value} {below : List Frame} {meth : Method} {c : Code} {D : va_G} {cyI cyJ cyO : ClassId} {A : Nat → Prop} {bs : Nat} {d d' : Nat → Nat} {b L : Nat} {xs : Nat → Int32} {Q : State → Prop} {res : Int32} (C0 : gC p m meth c cL_law 6 (some .boolean) s args wsL_law RL) (hA : ∀ q, bs ≤ q → A q) (hN : lQN s) (hT : dT A s) (hlf : l.stackTraces = false) (hX : va_X b L xs s s.heap) (hbl : b < s.heap.size) (hbA : ¬ A b) (hret : ∀ (r : Int32) (σ_r : St) (τ_r : St) (H : Heap) (locs : List Loc) (pc : Nat) (ls : Array Slot) (t : Nat), t ≤ 212724 → (r = 0 ∨ r = 1) → some r = some res → tZ D cyI cyJ cyO A bs d σ_r d' τ_r s H locs → decode cL_law pc = .ok (.ireturn, 1) → W p l e room_1 s m args below meth c H locs t (12 * t) Q (F0 m pc ls [.int r])) {r18 : St → St → Int32 → Option (Int32)} {n18 : Nat} (hr18 : ∀ (σ : St) (τ : St) (v3 : Int32) (H : Heap) (locs : List Loc) (ls : Array Slot) (t : Nat), t + (2582 + n18 * 2582) ≤ 212724 → r18 σ τ v3 = some res → tZ D cyI cyJ cyO A bs d σ d' τ s H locs → lv_has ls 6 [(0, .ref b), (1, .ref (d 0)), (2, .ref (d' 0)), (3, .int v3)] → W p l e room_1 s m args below meth c H locs t (12 * t) Q (F0 m 18 ls [])) : ∀ (σ : St) (τ : St) (v3 : Int32) (v4 : Int32) (H : Heap) (locs : List Loc) (ls : Array Slot) (t : Nat), t + (2627 + n18 * 2582) ≤ 212724 → mL_law_89 L xs r18 σ τ v3 v4 = some res → tZ D cyI cyJ cyO A bs d σ d' τ s H locs → lv_has ls 6 [(0, .ref b), (1, .ref (d 0)), (2, .ref (d' 0)), (3, .int v3), (4, .int v4)] → W p l e room_1 s m args below meth c H locs t (12 * t) Q (F0 m 89 ls []) := by
  intro σ τ v3 v4 H locs ls t ht0 h Z hl
  unfold mL_law_89 at h
  refine lv_iload_n C0.1.1 C0.1.2.1 dL_law_89 rfl (lv_at hl 3 rfl) ?_
  refine lv_bipush (v := 9) C0.1.1 C0.1.2.1 dL_law_90 (by decide +kernel) ?_
  refine lv_irem C0.1.1 C0.1.2.1 dL_law_92 (by decide) ?_
  refine lv_bipush (v := 6) C0.1.1 C0.1.2.1 dL_law_93 (by decide +kernel) ?_
  refine lv_icmp_ne (tgt := 125) C0.1.1 C0.1.2.1 dL_law_95 (by decide) (fun hc => ?_) (fun hc => ?_)
  · replace h := (if_neg hc).symm.trans h
    exact wL_law_125 C0 hA hN hT hlf hX hbl hbA hret hr18 σ τ v3 v4 _ _ _ t (by omega) h Z (lv_sub hl [0, 1, 2, 3, 4] rfl)
  · replace h := (if_pos hc).symm.trans h
    refine lv_aload_n C0.1.1 C0.1.2.1 dL_law_98 rfl (lv_at hl 1 rfl) ?_
    refine lv_aload_n C0.1.1 C0.1.2.1 dL_law_99 rfl (lv_at hl 2 rfl) ?_
    refine lv_iload C0.1.1 C0.1.2.1 dL_law_100 (lv_at hl 4 rfl) ?_
    refine lv_iconst (v := 3) C0.1.1 C0.1.2.1 dL_law_102 (by decide) ?_
    refine lv_ishr C0.1.1 C0.1.2.1 dL_law_103 ?_
    refine lv_bipush (v := 9) C0.1.1 C0.1.2.1 dL_law_104 (by decide +kernel) ?_
    obtain ⟨x10, hx11, h⟩ := g_bd h
    refine va_calli (va_runS (As := [.int (v4 >>> ((3 : Int32) &&& 31)), .int (9 : Int32)]) (rest := [.ref (d' 0), .ref (d 0)]) C0.1 (zL_low l (v4 >>> ((3 : Int32) &&& 31)) (9 : Int32) x10 hx11) (va_cwS 2 C0.1.2.2.2.2 gL_law_L_low rfl rfl rfl (by decide +kernel) ⟨Nat.le_of_ble_eq_true rfl, Nat.le_of_ble_eq_true rfl⟩) ⟨pu_blind, fun U _ _ => ⟨rfl, trivial⟩⟩ rfl rfl hl.1 rfl (lv_room (Nat.le_of_ble_eq_true rfl)) dL_law_106 ⟨by show t + 0 ≤ 600258; omega, by show 12 * t + 0 ≤ 7292778; omega⟩) (tZ_S Z) (fun _ _ h => h.elim) (fun _ h => h.elim) (fun y u t1 H locs ht hvm hw hB _ hk hS => ?_)
    subst hw
    replace Z := tZ_keep Z hk hS
    refine lv_iload C0.1.1 C0.1.2.1 dL_law_109 (lv_at hl 4 rfl) ?_
    refine lv_bipush (v := 7) C0.1.1 C0.1.2.1 dL_law_111 (by decide +kernel) ?_
    refine lv_ishr C0.1.1 C0.1.2.1 dL_law_113 ?_
    refine lv_ldc C0.1.1 C0.1.2.1 C0.1.2.2.2.1 (C0.1.2.2.2.2 _ kL_law_c131) dL_law_114 ?_
    obtain ⟨x12, hx13, h⟩ := g_bd h
    refine va_calli (va_runS (As := [.int (v4 >>> ((7 : Int32) &&& 31)), .int (1000000 : Int32)]) (rest := [.int x10, .ref (d' 0), .ref (d 0)]) C0.1 (zL_low l (v4 >>> ((7 : Int32) &&& 31)) (1000000 : Int32) x12 hx13) (va_cwS 2 C0.1.2.2.2.2 gL_law_L_low rfl rfl rfl (by decide +kernel) ⟨Nat.le_of_ble_eq_true rfl, Nat.le_of_ble_eq_true rfl⟩) ⟨pu_blind, fun U _ _ => ⟨rfl, trivial⟩⟩ rfl rfl hl.1 rfl (lv_room (Nat.le_of_ble_eq_true rfl)) dL_law_116 ⟨by show t + 0 ≤ 600258; omega, by show 12 * t + 0 ≤ 7292778; omega⟩) (tZ_S Z) (fun _ _ h => h.elim) (fun _ h => h.elim) (fun y u t1 H locs ht hvm hw hB _ hk hS => ?_)
    subst hw
    replace Z := tZ_keep Z hk hS
    obtain ⟨x14, hx15, h⟩ := g_bd h
    refine va_calli (va_runS (As := [.ref (d 0), .ref (d' 0), .int x10, .int x12]) (rest := []) C0.1 (zL_isPutSo l hlf D cyI cyJ cyO A bs hA d σ d' τ x10 x12 x14 hx15) (va_cwS 4 C0.1.2.2.2.2 gL_law_L_isPutSo rfl rfl rfl (by decide +kernel) ⟨Nat.le_of_ble_eq_true rfl, Nat.le_of_ble_eq_true rfl⟩) ⟨tP_blind, tP_pre Z hN hT _⟩ rfl rfl hl.1 rfl (lv_room (Nat.le_of_ble_eq_true rfl)) dL_law_119 ⟨by show t + 22 ≤ 600258; omega, by show 12 * t + 264 ≤ 7292778; omega⟩) (tZ_S Z) (fun _ _ h => h) (fun _ h => h) (fun y u t1 H locs ht hvm hw hB _ hk hS => ?_)
    replace Z := tZ_post Z ht hvm hB hS
    obtain ⟨rfl, rfl⟩ := hw
    refine W.widen (k := (t + 22)) (n := 12 * (t + 22)) (by omega) (by omega) ?_
    refine lv_if_eq (tgt := 170) C0.1.1 C0.1.2.1 dL_law_122 (by decide) (fun hc => ?_) (fun hc => ?_)
    · replace h := (if_pos hc).symm.trans h
      exact wL_law_170 C0 hA hN hT hlf hX hbl hbA hret x14.2.1 x14.2.2 _ _ _ (t + 22) (by omega) h Z (lv_sub hl [] rfl)
    · replace h := (if_neg hc).symm.trans h
      exact wL_law_125 C0 hA hN hT hlf hX hbl hbA hret hr18 x14.2.1 x14.2.2 v3 v4 _ _ _ (t + 22) (by omega) h Z (lv_sub hl [0, 1, 2, 3, 4] rfl)
set_option maxRecDepth 20000 in
set_option maxHeartbeats 4000000 in
theorem wL_law_87 {p : Program} {l : Launch} {e : Env} {s : State} {m : MethodId} {args : Array Value} {below : List Frame} {meth : Method} {c : Code} {D : va_G} {cyI cyJ cyO : ClassId} {A : Nat → Prop} {bs : Nat} {d d' : Nat → Nat} {b L : Nat} {xs : Nat → Int32} {Q : State → Prop} {res : Int32} (C0 : gC p m meth c cL_law 6 (some .boolean) s args wsL_law RL) (hA : ∀ q, bs ≤ q → A q) (hN : lQN s) (hT : dT A s) (hlf : l.stackTraces = false) (hX : va_X b L xs s s.heap) (hbl : b < s.heap.size) (hbA : ¬ A b) (hret : ∀ (r : Int32) (σ_r : St) (τ_r : St) (H : Heap) (locs : List Loc) (pc : Nat) (ls : Array Slot) (t : Nat), t ≤ 212724 → (r = 0 ∨ r = 1) → some r = some res → tZ D cyI cyJ cyO A bs d σ_r d' τ_r s H locs → decode cL_law pc = .ok (.ireturn, 1) → W p l e room_1 s m args below meth c H locs t (12 * t) Q (F0 m pc ls [.int r]))  : ∀ (σ : St) (τ : St) (H : Heap) (locs : List Loc) (ls : Array Slot) (t : Nat), t + (0) ≤ 212724 → mL_law_87 L xs σ τ = some res → tZ D cyI cyJ cyO A bs d σ d' τ s H locs → lv_has ls 6 [] → W p l e room_1 s m args below meth c H locs t (12 * t) Q (F0 m 87 ls []) := by
  intro σ τ H locs ls t ht0 h Z hl
  unfold mL_law_87 at h
  refine lv_iconst (v := 0) C0.1.1 C0.1.2.1 dL_law_87 (by decide) ?_
  exact hret (0 : Int32) σ τ _ _ _ _ t (by omega) (Or.inl rfl) h Z dL_law_88
set_option maxRecDepth 20000 in
set_option maxHeartbeats 4000000 in
theorem wL_law_72 {p : Program} {l : Launch} {e : Env} {s : State} {m : MethodId} {args : Array Value} {below : List Frame} {meth : Method} {c : Code} {D : va_G} {cyI cyJ cyO : ClassId} {A : Nat → Prop} {bs : Nat} {d d' : Nat → Nat} {b L : Nat} {xs : Nat → Int32} {Q : State → Prop} {res : Int32} (C0 : gC p m meth c cL_law 6 (some .boolean) s args wsL_law RL) (hA : ∀ q, bs ≤ q → A q) (hN : lQN s) (hT : dT A s) (hlf : l.stackTraces = false) (hX : va_X b L xs s s.heap) (hbl : b < s.heap.size) (hbA : ¬ A b) (hret : ∀ (r : Int32) (σ_r : St) (τ_r : St) (H : Heap) (locs : List Loc) (pc : Nat) (ls : Array Slot) (t : Nat), t ≤ 212724 → (r = 0 ∨ r = 1) → some r = some res → tZ D cyI cyJ cyO A bs d σ_r d' τ_r s H locs → decode cL_law pc = .ok (.ireturn, 1) → W p l e room_1 s m args below meth c H locs t (12 * t) Q (F0 m pc ls [.int r])) {r18 : St → St → Int32 → Option (Int32)} {n18 : Nat} (hr18 : ∀ (σ : St) (τ : St) (v3 : Int32) (H : Heap) (locs : List Loc) (ls : Array Slot) (t : Nat), t + (2582 + n18 * 2582) ≤ 212724 → r18 σ τ v3 = some res → tZ D cyI cyJ cyO A bs d σ d' τ s H locs → lv_has ls 6 [(0, .ref b), (1, .ref (d 0)), (2, .ref (d' 0)), (3, .int v3)] → W p l e room_1 s m args below meth c H locs t (12 * t) Q (F0 m 18 ls [])) : ∀ (σ : St) (τ : St) (v3 : Int32) (v4 : Int32) (H : Heap) (locs : List Loc) (ls : Array Slot) (t : Nat), t + (4900 + n18 * 2582) ≤ 212724 → mL_law_72 L xs r18 σ τ v3 v4 = some res → tZ D cyI cyJ cyO A bs d σ d' τ s H locs → lv_has ls 6 [(0, .ref b), (1, .ref (d 0)), (2, .ref (d' 0)), (3, .int v3), (4, .int v4)] → W p l e room_1 s m args below meth c H locs t (12 * t) Q (F0 m 72 ls []) := by
  intro σ τ v3 v4 H locs ls t ht0 h Z hl
  unfold mL_law_72 at h
  refine lv_iload_n C0.1.1 C0.1.2.1 dL_law_72 rfl (lv_at hl 3 rfl) ?_
  refine lv_bipush (v := 8) C0.1.1 C0.1.2.1 dL_law_73 (by decide +kernel) ?_
  refine lv_irem C0.1.1 C0.1.2.1 dL_law_75 (by decide) ?_
  refine lv_iconst (v := 2) C0.1.1 C0.1.2.1 dL_law_76 (by decide) ?_
  refine lv_icmp_ne (tgt := 89) C0.1.1 C0.1.2.1 dL_law_77 (by decide) (fun hc => ?_) (fun hc => ?_)
  · replace h := (if_neg hc).symm.trans h
    exact wL_law_89 C0 hA hN hT hlf hX hbl hbA hret hr18 σ τ v3 v4 _ _ _ t (by omega) h Z (lv_sub hl [0, 1, 2, 3, 4] rfl)
  · replace h := (if_pos hc).symm.trans h
    refine lv_aload_n C0.1.1 C0.1.2.1 dL_law_80 rfl (lv_at hl 1 rfl) ?_
    obtain ⟨x16, hx17, h⟩ := g_bd h
    refine va_calli (va_runS (As := [.ref (d 0)]) (rest := []) C0.1 (tL_i hA (fun Y => zL_areCellsSo l hlf D cyI cyJ cyO A bs hA Y d σ x16 hx17)) (va_cwS 1 C0.1.2.2.2.2 gL_law_L_areCellsSo rfl rfl rfl (by decide +kernel) ⟨Nat.le_of_ble_eq_true rfl, Nat.le_of_ble_eq_true rfl⟩) ⟨tP_blind, tP_pre Z hN hT _⟩ rfl rfl hl.1 rfl (lv_room (Nat.le_of_ble_eq_true rfl)) dL_law_81 ⟨by show t + 2273 ≤ 600258; omega, by show 12 * t + 27276 ≤ 7292778; omega⟩) (tZ_S Z) (fun _ _ h => h) (fun _ h => h) (fun y u t1 H locs ht hvm hw hB _ hk hS => ?_)
    replace Z := tZ_post Z ht hvm hB hS
    subst hw
    refine W.widen (k := (t + 2273)) (n := 12 * (t + 2273)) (by omega) (by omega) ?_
    refine lv_if_ne (tgt := 89) C0.1.1 C0.1.2.1 dL_law_84 (by decide) (fun hc => ?_) (fun hc => ?_)
    · replace h := (if_neg hc).symm.trans h
      exact wL_law_89 C0 hA hN hT hlf hX hbl hbA hret hr18 σ τ v3 v4 _ _ _ (t + 2273) (by omega) h Z (lv_sub hl [0, 1, 2, 3, 4] rfl)
    · replace h := (if_pos hc).symm.trans h
      exact wL_law_87 C0 hA hN hT hlf hX hbl hbA hret σ τ _ _ _ (t + 2273) (by omega) h Z (lv_sub hl [] rfl)
set_option maxRecDepth 20000 in
set_option maxHeartbeats 4000000 in
theorem wL_law_57 {p : Program} {l : Launch} {e : Env} {s : State} {m : MethodId} {args : Array Value} {below : List Frame} {meth : Method} {c : Code} {D : va_G} {cyI cyJ cyO : ClassId} {A : Nat → Prop} {bs : Nat} {d d' : Nat → Nat} {b L : Nat} {xs : Nat → Int32} {Q : State → Prop} {res : Int32} (C0 : gC p m meth c cL_law 6 (some .boolean) s args wsL_law RL) (hA : ∀ q, bs ≤ q → A q) (hN : lQN s) (hT : dT A s) (hlf : l.stackTraces = false) (hX : va_X b L xs s s.heap) (hbl : b < s.heap.size) (hbA : ¬ A b) (hret : ∀ (r : Int32) (σ_r : St) (τ_r : St) (H : Heap) (locs : List Loc) (pc : Nat) (ls : Array Slot) (t : Nat), t ≤ 212724 → (r = 0 ∨ r = 1) → some r = some res → tZ D cyI cyJ cyO A bs d σ_r d' τ_r s H locs → decode cL_law pc = .ok (.ireturn, 1) → W p l e room_1 s m args below meth c H locs t (12 * t) Q (F0 m pc ls [.int r])) {r18 : St → St → Int32 → Option (Int32)} {n18 : Nat} (hr18 : ∀ (σ : St) (τ : St) (v3 : Int32) (H : Heap) (locs : List Loc) (ls : Array Slot) (t : Nat), t + (2582 + n18 * 2582) ≤ 212724 → r18 σ τ v3 = some res → tZ D cyI cyJ cyO A bs d σ d' τ s H locs → lv_has ls 6 [(0, .ref b), (1, .ref (d 0)), (2, .ref (d' 0)), (3, .int v3)] → W p l e room_1 s m args below meth c H locs t (12 * t) Q (F0 m 18 ls [])) : ∀ (σ : St) (τ : St) (v3 : Int32) (v4 : Int32) (H : Heap) (locs : List Loc) (ls : Array Slot) (t : Nat), t + (5156 + n18 * 2582) ≤ 212724 → mL_law_57 L xs r18 σ τ v3 v4 = some res → tZ D cyI cyJ cyO A bs d σ d' τ s H locs → lv_has ls 6 [(0, .ref b), (1, .ref (d 0)), (2, .ref (d' 0)), (3, .int v3), (4, .int v4)] → W p l e room_1 s m args below meth c H locs t (12 * t) Q (F0 m 57 ls []) := by
  intro σ τ v3 v4 H locs ls t ht0 h Z hl
  unfold mL_law_57 at h
  refine lv_iload_n C0.1.1 C0.1.2.1 dL_law_57 rfl (lv_at hl 3 rfl) ?_
  refine lv_iconst (v := 5) C0.1.1 C0.1.2.1 dL_law_58 (by decide) ?_
  refine lv_irem C0.1.1 C0.1.2.1 dL_law_59 (by decide) ?_
  refine lv_iconst (v := 3) C0.1.1 C0.1.2.1 dL_law_60 (by decide) ?_
  refine lv_icmp_ne (tgt := 72) C0.1.1 C0.1.2.1 dL_law_61 (by decide) (fun hc => ?_) (fun hc => ?_)
  · replace h := (if_neg hc).symm.trans h
    exact wL_law_72 C0 hA hN hT hlf hX hbl hbA hret hr18 σ τ v3 v4 _ _ _ t (by omega) h Z (lv_sub hl [0, 1, 2, 3, 4] rfl)
  · replace h := (if_pos hc).symm.trans h
    refine lv_aload_n C0.1.1 C0.1.2.1 dL_law_64 rfl (lv_at hl 1 rfl) ?_
    refine lv_aload_n C0.1.1 C0.1.2.1 dL_law_65 rfl (lv_at hl 2 rfl) ?_
    obtain ⟨x18, hx19, h⟩ := g_bd h
    refine va_calli (va_runS (As := [.ref (d 0), .ref (d' 0)]) (rest := []) C0.1 (zL_areAlike l hlf D cyI cyJ cyO A bs hA d σ d' τ x18 hx19) (va_cwS 2 C0.1.2.2.2.2 gL_law_L_areAlike rfl rfl rfl (by decide +kernel) ⟨Nat.le_of_ble_eq_true rfl, Nat.le_of_ble_eq_true rfl⟩) ⟨tP_blind, tP_pre Z hN hT _⟩ rfl rfl hl.1 rfl (lv_room (Nat.le_of_ble_eq_true rfl)) dL_law_66 ⟨by show t + 256 ≤ 600258; omega, by show 12 * t + 3072 ≤ 7292778; omega⟩) (tZ_S Z) (fun _ _ h => h) (fun _ h => h) (fun y u t1 H locs ht hvm hw hB _ hk hS => ?_)
    replace Z := tZ_post Z ht hvm hB hS
    subst hw
    refine W.widen (k := (t + 256)) (n := 12 * (t + 256)) (by omega) (by omega) ?_
    refine lv_if_eq (tgt := 87) C0.1.1 C0.1.2.1 dL_law_69 (by decide) (fun hc => ?_) (fun hc => ?_)
    · replace h := (if_pos hc).symm.trans h
      exact wL_law_87 C0 hA hN hT hlf hX hbl hbA hret σ τ _ _ _ (t + 256) (by omega) h Z (lv_sub hl [] rfl)
    · replace h := (if_neg hc).symm.trans h
      exact wL_law_72 C0 hA hN hT hlf hX hbl hbA hret hr18 σ τ v3 v4 _ _ _ (t + 256) (by omega) h Z (lv_sub hl [0, 1, 2, 3, 4] rfl)
set_option maxRecDepth 20000 in
set_option maxHeartbeats 4000000 in
theorem wL_law_18_b {p : Program} {l : Launch} {e : Env} {s : State} {m : MethodId} {args : Array Value} {below : List Frame} {meth : Method} {c : Code} {D : va_G} {cyI cyJ cyO : ClassId} {A : Nat → Prop} {bs : Nat} {d d' : Nat → Nat} {b L : Nat} {xs : Nat → Int32} {Q : State → Prop} {res : Int32} (C0 : gC p m meth c cL_law 6 (some .boolean) s args wsL_law RL) (hA : ∀ q, bs ≤ q → A q) (hN : lQN s) (hT : dT A s) (hlf : l.stackTraces = false) (hX : va_X b L xs s s.heap) (hbl : b < s.heap.size) (hbA : ¬ A b) (hret : ∀ (r : Int32) (σ_r : St) (τ_r : St) (H : Heap) (locs : List Loc) (pc : Nat) (ls : Array Slot) (t : Nat), t ≤ 212724 → (r = 0 ∨ r = 1) → some r = some res → tZ D cyI cyJ cyO A bs d σ_r d' τ_r s H locs → decode cL_law pc = .ok (.ireturn, 1) → W p l e room_1 s m args below meth c H locs t (12 * t) Q (F0 m pc ls [.int r])) {r18 : St → St → Int32 → Option (Int32)} {n18 : Nat} (hr18 : ∀ (σ : St) (τ : St) (v3 : Int32) (H : Heap) (locs : List Loc) (ls : Array Slot) (t : Nat), t + (2582 + n18 * 2582) ≤ 212724 → r18 σ τ v3 = some res → tZ D cyI cyJ cyO A bs d σ d' τ s H locs → lv_has ls 6 [(0, .ref b), (1, .ref (d 0)), (2, .ref (d' 0)), (3, .int v3)] → W p l e room_1 s m args below meth c H locs t (12 * t) Q (F0 m 18 ls [])) : ∀ (σ : St) (τ : St) (v3 : Int32) (H : Heap) (locs : List Loc) (ls : Array Slot) (t : Nat), t + (5164 + n18 * 2582) ≤ 212724 → mL_law_18_b L xs r18 σ τ v3 = some res → tZ D cyI cyJ cyO A bs d σ d' τ s H locs → lv_has ls 6 [(0, .ref b), (1, .ref (d 0)), (2, .ref (d' 0)), (3, .int v3)] → W p l e room_1 s m args below meth c H locs t (12 * t) Q (F0 m 18 ls []) := by
  intro σ τ v3 H locs ls t ht0 h Z hl
  unfold mL_law_18_b at h
  refine lv_iload_n C0.1.1 C0.1.2.1 dL_law_18 rfl (lv_at hl 3 rfl) ?_
  refine lv_bipush (v := 80) C0.1.1 C0.1.2.1 dL_law_19 (by decide +kernel) ?_
  refine lv_icmp_ge (tgt := 178) C0.1.1 C0.1.2.1 dL_law_21 (by decide) (fun hc => ?_) (fun hc => ?_)
  · replace h := (if_pos hc).symm.trans h
    refine lv_aload_n C0.1.1 C0.1.2.1 dL_law_178 rfl (lv_at hl 1 rfl) ?_
    refine lv_aload_n C0.1.1 C0.1.2.1 dL_law_179 rfl (lv_at hl 2 rfl) ?_
    obtain ⟨x20, hx21, h⟩ := g_bd h
    refine va_calli (va_runS (As := [.ref (d 0), .ref (d' 0)]) (rest := []) C0.1 (zL_areAlike l hlf D cyI cyJ cyO A bs hA d σ d' τ x20 hx21) (va_cwS 2 C0.1.2.2.2.2 gL_law_L_areAlike rfl rfl rfl (by decide +kernel) ⟨Nat.le_of_ble_eq_true rfl, Nat.le_of_ble_eq_true rfl⟩) ⟨tP_blind, tP_pre Z hN hT _⟩ rfl rfl hl.1 rfl (lv_room (Nat.le_of_ble_eq_true rfl)) dL_law_180 ⟨by show t + 256 ≤ 600258; omega, by show 12 * t + 3072 ≤ 7292778; omega⟩) (tZ_S Z) (fun _ _ h => h) (fun _ h => h) (fun y u t1 H locs ht hvm hw hB _ hk hS => ?_)
    replace Z := tZ_post Z ht hvm hB hS
    subst hw
    refine W.widen (k := (t + 256)) (n := 12 * (t + 256)) (by omega) (by omega) ?_
    refine lv_if_eq (tgt := 197) C0.1.1 C0.1.2.1 dL_law_183 (by decide) (fun hc => ?_) (fun hc => ?_)
    · replace h := (if_pos hc).symm.trans h
      exact wL_law_197 C0 hA hN hT hlf hX hbl hbA hret σ τ _ _ _ (t + 256) (by omega) h Z (lv_sub hl [] rfl)
    · replace h := (if_neg hc).symm.trans h
      refine lv_aload_n C0.1.1 C0.1.2.1 dL_law_186 rfl (lv_at hl 1 rfl) ?_
      obtain ⟨x22, hx23, h⟩ := g_bd h
      refine va_calli (va_runS (As := [.ref (d 0)]) (rest := []) C0.1 (tL_i hA (fun Y => zL_areCellsSo l hlf D cyI cyJ cyO A bs hA Y d σ x22 hx23)) (va_cwS 1 C0.1.2.2.2.2 gL_law_L_areCellsSo rfl rfl rfl (by decide +kernel) ⟨Nat.le_of_ble_eq_true rfl, Nat.le_of_ble_eq_true rfl⟩) ⟨tP_blind, tP_pre Z hN hT _⟩ rfl rfl hl.1 rfl (lv_room (Nat.le_of_ble_eq_true rfl)) dL_law_187 ⟨by show (t + 256) + 2273 ≤ 600258; omega, by show 12 * (t + 256) + 27276 ≤ 7292778; omega⟩) (tZ_S Z) (fun _ _ h => h) (fun _ h => h) (fun y u t1 H locs ht hvm hw hB _ hk hS => ?_)
      replace Z := tZ_post Z ht hvm hB hS
      subst hw
      refine W.widen (k := (t + 2529)) (n := 12 * (t + 2529)) (by omega) (by omega) ?_
      refine lv_if_eq (tgt := 197) C0.1.1 C0.1.2.1 dL_law_190 (by decide) (fun hc => ?_) (fun hc => ?_)
      · replace h := (if_pos hc).symm.trans h
        exact wL_law_197 C0 hA hN hT hlf hX hbl hbA hret σ τ _ _ _ (t + 2529) (by omega) h Z (lv_sub hl [] rfl)
      · replace h := (if_neg hc).symm.trans h
        refine lv_iconst (v := 1) C0.1.1 C0.1.2.1 dL_law_193 (by decide) ?_
        refine lv_goto (tgt := 198) C0.1.1 C0.1.2.1 dL_law_194 (by decide) ?_
        exact wL_law_198 C0 hA hN hT hlf hX hbl hbA hret σ τ (1 : Int32) _ _ _ (t + 2529) (by omega) h Z (lv_sub hl [] rfl)
  · replace h := (if_neg hc).symm.trans h
    refine lv_aload_n C0.1.1 C0.1.2.1 dL_law_24 rfl (lv_at hl 0 rfl) ?_
    refine lv_iload_n C0.1.1 C0.1.2.1 dL_law_25 rfl (lv_at hl 3 rfl) ?_
    obtain ⟨x24, hx25, h⟩ := g_bd h
    refine va_calli (va_runS (As := [.ref b, .int v3]) (rest := []) C0.1 (zL_cell l b L xs v3 x24 hx25) (va_cwS 2 C0.1.2.2.2.2 gL_law_L_cell rfl rfl rfl (by decide +kernel) ⟨Nat.le_of_ble_eq_true rfl, Nat.le_of_ble_eq_true rfl⟩) ⟨cx_blind, cx_pre hX hbl hbA (tZ_S Z) _⟩ rfl rfl hl.1 rfl (lv_room (Nat.le_of_ble_eq_true rfl)) dL_law_26 ⟨by show t + 0 ≤ 600258; omega, by show 12 * t + 0 ≤ 7292778; omega⟩) (tZ_S Z) (fun _ _ h => h.elim) (fun _ h => h.elim) (fun y u t1 H locs ht hvm hw hB _ hk hS => ?_)
    subst hw
    replace Z := tZ_keep Z hk hS
    refine lv_istore (lv' := [(4, .int x24), (0, .ref b), (1, .ref (d 0)), (2, .ref (d' 0)), (3, .int v3)]) C0.1.1 C0.1.2.1 dL_law_29 hl (by decide) rfl (fun ls hl => ?_)
    refine lv_aload_n C0.1.1 C0.1.2.1 dL_law_31 rfl (lv_at hl 2 rfl) ?_
    refine lv_iload C0.1.1 C0.1.2.1 dL_law_32 (lv_at hl 0 rfl) ?_
    obtain ⟨x26, hx27, h⟩ := g_bd h
    refine va_calli (va_runS (As := [.ref (d 0), .int x24]) (rest := []) C0.1 (tL_i hA (fun Y => zL_act l hlf D cyI cyJ cyO A bs hA Y d σ x24 x26 hx27)) (va_cwS 2 C0.1.2.2.2.2 gL_law_L_act rfl rfl rfl (by decide +kernel) ⟨Nat.le_of_ble_eq_true rfl, Nat.le_of_ble_eq_true rfl⟩) ⟨tP_blind, tP_pre Z hN hT _⟩ rfl rfl hl.1 rfl (lv_room (Nat.le_of_ble_eq_true rfl)) dL_law_34 ⟨by show t + 4 ≤ 600258; omega, by show 12 * t + 48 ≤ 7292778; omega⟩) (tZ_S Z) (fun _ _ h => h) (fun _ h => h) (fun y u t1 H locs ht hvm hw hB _ hk hS => ?_)
    replace Z := tZ_post Z ht hvm hB hS
    obtain ⟨rfl, rfl⟩ := hw
    refine W.widen (k := (t + 4)) (n := 12 * (t + 4)) (by omega) (by omega) ?_
    refine lv_istore (lv' := [(5, .int x26.1), (4, .int x24), (0, .ref b), (1, .ref (d 0)), (2, .ref (d' 0)), (3, .int v3)]) C0.1.1 C0.1.2.1 dL_law_37 hl (by decide) rfl (fun ls hl => ?_)
    refine lv_iload C0.1.1 C0.1.2.1 dL_law_39 (lv_at hl 0 rfl) ?_
    refine lv_ldc C0.1.1 C0.1.2.1 C0.1.2.2.2.1 (C0.1.2.2.2.2 _ kL_law_c38) dL_law_41 ?_
    refine lv_icmp_eq (tgt := 57) C0.1.1 C0.1.2.1 dL_law_43 (by decide) (fun hc => ?_) (fun hc => ?_)
    · replace h := (if_pos hc).symm.trans h
      exact wL_law_57 C0 hA hN hT hlf hX hbl hbA hret hr18 x26.2 τ v3 x24 _ _ _ (t + 4) (by omega) h Z (lv_sub hl [2, 3, 4, 5, 1] rfl)
    · replace h := (if_neg hc).symm.trans h
      refine lv_aload_n C0.1.1 C0.1.2.1 dL_law_46 rfl (lv_at hl 4 rfl) ?_
      refine lv_iload C0.1.1 C0.1.2.1 dL_law_47 (lv_at hl 1 rfl) ?_
      obtain ⟨x28, hx29, h⟩ := g_bd h
      refine va_calli (va_runS (As := [.ref (d' 0), .int x24]) (rest := []) C0.1 (tR_i hA (fun Y => zL_act l hlf D cyI cyJ cyO A bs hA Y d' τ x24 x28 hx29)) (va_cwS 2 C0.1.2.2.2.2 gL_law_L_act rfl rfl rfl (by decide +kernel) ⟨Nat.le_of_ble_eq_true rfl, Nat.le_of_ble_eq_true rfl⟩) ⟨tP_blind, tP_pre Z hN hT _⟩ rfl rfl hl.1 rfl (lv_room (Nat.le_of_ble_eq_true rfl)) dL_law_49 ⟨by show (t + 4) + 4 ≤ 600258; omega, by show 12 * (t + 4) + 48 ≤ 7292778; omega⟩) (tZ_S Z) (fun _ _ h => h) (fun _ h => h) (fun y u t1 H locs ht hvm hw hB _ hk hS => ?_)
      replace Z := tZ_post Z ht hvm hB hS
      obtain ⟨rfl, rfl⟩ := hw
      refine W.widen (k := (t + 8)) (n := 12 * (t + 8)) (by omega) (by omega) ?_
      refine lv_iload C0.1.1 C0.1.2.1 dL_law_52 (lv_at hl 0 rfl) ?_
      refine lv_icmp_ne (tgt := 87) C0.1.1 C0.1.2.1 dL_law_54 (by decide) (fun hc => ?_) (fun hc => ?_)
      · replace h := (if_neg hc).symm.trans h
        exact wL_law_87 C0 hA hN hT hlf hX hbl hbA hret x26.2 x28.2 _ _ _ (t + 8) (by omega) h Z (lv_sub hl [] rfl)
      · replace h := (if_pos hc).symm.trans h
        exact wL_law_57 C0 hA hN hT hlf hX hbl hbA hret hr18 x26.2 x28.2 v3 x24 _ _ _ (t + 8) (by omega) h Z (lv_sub hl [2, 3, 4, 5, 1] rfl)
theorem wL_law_18 {p : Program} {l : Launch} {e : Env} {s : State} {m : MethodId} {args : Array Value} {below : List Frame} {meth : Method} {c : Code} {D : va_G} {cyI cyJ cyO : ClassId} {A : Nat → Prop} {bs : Nat} {d d' : Nat → Nat} {b L : Nat} {xs : Nat → Int32} {Q : State → Prop} {res : Int32} (C0 : gC p m meth c cL_law 6 (some .boolean) s args wsL_law RL) (hA : ∀ q, bs ≤ q → A q) (hN : lQN s) (hT : dT A s) (hlf : l.stackTraces = false) (hX : va_X b L xs s s.heap) (hbl : b < s.heap.size) (hbA : ¬ A b) (hret : ∀ (r : Int32) (σ_r : St) (τ_r : St) (H : Heap) (locs : List Loc) (pc : Nat) (ls : Array Slot) (t : Nat), t ≤ 212724 → (r = 0 ∨ r = 1) → some r = some res → tZ D cyI cyJ cyO A bs d σ_r d' τ_r s H locs → decode cL_law pc = .ok (.ireturn, 1) → W p l e room_1 s m args below meth c H locs t (12 * t) Q (F0 m pc ls [.int r]))  : ∀ (n_ : Nat), ∀ (σ : St) (τ : St) (v3 : Int32) (H : Heap) (locs : List Loc) (ls : Array Slot) (t : Nat), t + (2582 + n_ * 2582) ≤ 212724 → mL_law_18 L xs n_ σ τ v3 = some res → tZ D cyI cyJ cyO A bs d σ d' τ s H locs → lv_has ls 6 [(0, .ref b), (1, .ref (d 0)), (2, .ref (d' 0)), (3, .int v3)] → W p l e room_1 s m args below meth c H locs t (12 * t) Q (F0 m 18 ls []) := by
  intro n_
  induction n_ with
  | zero => intro _ _ _ _ _ _ _ _ h; cases h
  | succ n_ ih =>
    intro σ τ v3 H locs ls t ht0 h Z hl
    exact wL_law_18_b C0 hA hN hT hlf hX hbl hbA hret ih σ τ v3 H locs ls t (by omega) h Z hl
