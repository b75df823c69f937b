/-! the walk of L_areAlike -/
abbrev rmL_areAlike : Room := { frames := 62, cells := 256, slots := 3072, locals := 1508 }
set_option maxRecDepth 20000 in
set_option maxHeartbeats 4000000 in
theorem wL_areAlike_127 {p : Program} {l : Launch} {e : Env} {s : State} {m : MethodId} {args : Array Value} {below : List Frame} {meth : Method} {c : Code} {D : va_G} {cyI cyJ cyO : ClassId} {A : Nat → Prop} {bs : Nat} {d d' : Nat → Nat} {Q : State → Prop} {σ : St} {τ : St} {res : Int32} (C0 : gC p m meth c cL_areAlike 4 (some .boolean) s args wsL_areAlike RL) (hA : ∀ q, bs ≤ q → A q) (hN : lQN s) (hT : dT A s) (hlf : l.stackTraces = false) (hret : ∀ (r : Int32) (H : Heap) (locs : List Loc) (pc : Nat) (ls : Array Slot) (t : Nat), t ≤ 256 → (r = 0 ∨ r = 1) → some r = some res → tZ D cyI cyJ cyO A bs d σ d' τ s H locs → decode cL_areAlike pc = .ok (.ireturn, 1) → W p l e rmL_areAlike s m args below meth c H locs t (12 * t) Q (F0 m pc ls [.int r]))  : ∀ (v2 : Int32) (H : Heap) (locs : List Loc) (ls : Array Slot) (t : Nat), t + (0) ≤ 256 → mL_areAlike_127 σ τ v2 = some res → tZ D cyI cyJ cyO A bs d σ d' τ s H locs → lv_has ls 4 [(2, .int v2)] → W p l e rmL_areAlike s m args below meth c H locs t (12 * t) Q (F0 m 127 ls []) := by
  intro v2 H locs ls t ht0 h Z hl
  unfold mL_areAlike_127 at h
  refine lv_iload_n C0.1.1 C0.1.2.1 dL_areAlike_127 rfl (lv_at hl 0 rfl) ?_
  obtain ⟨hn1, h⟩ := g_yi h
  exact hret v2 _ _ _ _ t (by omega) hn1 h Z dL_areAlike_128
set_option maxRecDepth 20000 in
set_option maxHeartbeats 4000000 in
theorem wL_areAlike_120 {p : Program} {l : Launch} {e : Env} {s : State} {m : MethodId} {args : Array Value} {below : List Frame} {meth : Method} {c : Code} {D : va_G} {cyI cyJ cyO : ClassId} {A : Nat → Prop} {bs : Nat} {d d' : Nat → Nat} {Q : State → Prop} {σ : St} {τ : St} {res : Int32} (C0 : gC p m meth c cL_areAlike 4 (some .boolean) s args wsL_areAlike RL) (hA : ∀ q, bs ≤ q → A q) (hN : lQN s) (hT : dT A s) (hlf : l.stackTraces = false) (hret : ∀ (r : Int32) (H : Heap) (locs : List Loc) (pc : Nat) (ls : Array Slot) (t : Nat), t ≤ 256 → (r = 0 ∨ r = 1) → some r = some res → tZ D cyI cyJ cyO A bs d σ d' τ s H locs → decode cL_areAlike pc = .ok (.ireturn, 1) → W p l e rmL_areAlike s m args below meth c H locs t (12 * t) Q (F0 m pc ls [.int r])) {r63 : Int32 → Int32 → Option (Int32)} {n63 : Nat} (hr63 : ∀ (v2 : Int32) (v3 : Int32) (H : Heap) (locs : List Loc) (ls : Array Slot) (t : Nat), t + (8 + n63 * 8) ≤ 256 → r63 v2 v3 = some res → tZ D cyI cyJ cyO A bs d σ d' τ s H locs → lv_has ls 4 [(0, .ref (d 0)), (1, .ref (d' 0)), (2, .int v2), (3, .int v3)] → W p l e rmL_areAlike s m args below meth c H locs t (12 * t) Q (F0 m 63 ls [])) : ∀ (v3 : Int32) (s0 : Int32) (H : Heap) (locs : List Loc) (ls : Array Slot) (t : Nat), t + (8 + n63 * 8) ≤ 256 → mL_areAlike_120 σ τ r63 v3 s0 = some res → tZ D cyI cyJ cyO A bs d σ d' τ s H locs → lv_has ls 4 [(0, .ref (d 0)), (1, .ref (d' 0)), (3, .int v3)] → W p l e rmL_areAlike s m args below meth c H locs t (12 * t) Q (F0 m 120 ls [.int s0]) := by
  intro v3 s0 H locs ls t ht0 h Z hl
  unfold mL_areAlike_120 at h
  refine lv_istore_n (lv' := [(2, .int s0), (0, .ref (d 0)), (1, .ref (d' 0)), (3, .int v3)]) C0.1.1 C0.1.2.1 dL_areAlike_120 rfl hl (by decide) rfl (fun ls hl => ?_)
  refine lv_iinc (v := v3 + (1 : Int32)) (lv' := [(3, .int (v3 + (1 : Int32))), (2, .int s0), (0, .ref (d 0)), (1, .ref (d' 0))]) C0.1.1 C0.1.2.1 dL_areAlike_121 hl (k := 3) rfl rfl (by decide) rfl (fun ls hl => ?_)
  refine lv_goto (tgt := 63) C0.1.1 C0.1.2.1 dL_areAlike_124 (by decide) ?_
  exact hr63 s0 (v3 + (1 : Int32)) _ _ _ t (by omega) h Z (lv_sub hl [2, 3, 1, 0] rfl)
set_option maxRecDepth 20000 in
set_option maxHeartbeats 4000000 in
theorem wL_areAlike_119 {p : Program} {l : Launch} {e : Env} {s : State} {m : MethodId} {args : Array Value} {below : List Frame} {meth : Method} {c : Code} {D : va_G} {cyI cyJ cyO : ClassId} {A : Nat → Prop} {bs : Nat} {d d' : Nat → Nat} {Q : State → Prop} {σ : St} {τ : St} {res : Int32} (C0 : gC p m meth c cL_areAlike 4 (some .boolean) s args wsL_areAlike RL) (hA : ∀ q, bs ≤ q → A q) (hN : lQN s) (hT : dT A s) (hlf : l.stackTraces = false) (hret : ∀ (r : Int32) (H : Heap) (locs : List Loc) (pc : Nat) (ls : Array Slot) (t : Nat), t ≤ 256 → (r = 0 ∨ r = 1) → some r = some res → tZ D cyI cyJ cyO A bs d σ d' τ s H locs → decode cL_areAlike pc = .ok (.ireturn, 1) → W p l e rmL_areAlike s m args below meth c H locs t (12 * t) Q (F0 m pc ls [.int r])) {r63 : Int32 → Int32 → Option (Int32)} {n63 : Nat} (hr63 : ∀ (v2 : Int32) (v3 : Int32) (H : Heap) (locs : List Loc) (ls : Array Slot) (t : Nat), t + (8 + n63 * 8) ≤ 256 → r63 v2 v3 = some res → tZ D cyI cyJ cyO A bs d σ d' τ s H locs → lv_has ls 4 [(0, .ref (d 0)), (1, .ref (d' 0)), (2, .int v2), (3, .int v3)] → W p l e rmL_areAlike s m args below meth c H locs t (12 * t) Q (F0 m 63 ls [])) : ∀ (v3 : Int32) (H : Heap) (locs : List Loc) (ls : Array Slot) (t : Nat), t + (8 + n63 * 8) ≤ 256 → mL_areAlike_119 σ τ r63 v3 = some res → tZ D cyI cyJ cyO A bs d σ d' τ s H locs → lv_has ls 4 [(0, .ref (d 0)), (1, .ref (d' 0)), (3, .int v3)] → W p l e rmL_areAlike s m args below meth c H locs t (12 * t) Q (F0 m 119 ls []) := by
  intro v3 H locs ls t ht0 h Z hl
  unfold mL_areAlike_119 at h
  refine lv_iconst (v := 0) C0.1.1 C0.1.2.1 dL_areAlike_119 (by decide) ?_
  exact wL_areAlike_120 C0 hA hN hT hlf hret hr63 v3 (0 : Int32) _ _ _ t (by omega) h Z (lv_sub hl [0, 1, 2] rfl)
set_option maxRecDepth 20000 in
set_option maxHeartbeats 4000000 in
theorem wL_areAlike_63_b {p : Program} {l : Launch} {e : Env} {s : State} {m : MethodId} {args : Array Value} {below : List Frame} {meth : Method} {c : Code} {D : va_G} {cyI cyJ cyO : ClassId} {A : Nat → Prop} {bs : Nat} {d d' : Nat → Nat} {Q : State → Prop} {σ : St} {τ : St} {res : Int32} (C0 : gC p m meth c cL_areAlike 4 (some .boolean) s args wsL_areAlike RL) (hA : ∀ q, bs ≤ q → A q) (hN : lQN s) (hT : dT A s) (hlf : l.stackTraces = false) (hret : ∀ (r : Int32) (H : Heap) (locs : List Loc) (pc : Nat) (ls : Array Slot) (t : Nat), t ≤ 256 → (r = 0 ∨ r = 1) → some r = some res → tZ D cyI cyJ cyO A bs d σ d' τ s H locs → decode cL_areAlike pc = .ok (.ireturn, 1) → W p l e rmL_areAlike s m args below meth c H locs t (12 * t) Q (F0 m pc ls [.int r])) {r63 : Int32 → Int32 → Option (Int32)} {n63 : Nat} (hr63 : ∀ (v2 : Int32) (v3 : Int32) (H : Heap) (locs : List Loc) (ls : Array Slot) (t : Nat), t + (8 + n63 * 8) ≤ 256 → r63 v2 v3 = some res → tZ D cyI cyJ cyO A bs d σ d' τ s H locs → lv_has ls 4 [(0, .ref (d 0)), (1, .ref (d' 0)), (2, .int v2), (3, .int v3)] → W p l e rmL_areAlike s m args below meth c H locs t (12 * t) Q (F0 m 63 ls [])) : ∀ (v2 : Int32) (v3 : Int32) (H : Heap) (locs : List Loc) (ls : Array Slot) (t : Nat), t + (16 + n63 * 8) ≤ 256 → mL_areAlike_63_b σ τ r63 v2 v3 = some res → tZ D cyI cyJ cyO A bs d σ d' τ s H locs → lv_has ls 4 [(0, .ref (d 0)), (1, .ref (d' 0)), (2, .int v2), (3, .int v3)] → W p l e rmL_areAlike s m args below meth c H locs t (12 * t) Q (F0 m 63 ls []) := by
  intro v2 v3 H locs ls t ht0 h Z hl
  unfold mL_areAlike_63_b at h
  refine lv_iload_n C0.1.1 C0.1.2.1 dL_areAlike_63 rfl (lv_at hl 3 rfl) ?_
  refine lv_bipush (v := 30) C0.1.1 C0.1.2.1 dL_areAlike_64 (by decide +kernel) ?_
  refine lv_icmp_ge (tgt := 127) C0.1.1 C0.1.2.1 dL_areAlike_66 (by decide) (fun hc => ?_) (fun hc => ?_)
  · replace h := (if_pos hc).symm.trans h
    exact wL_areAlike_127 C0 hA hN hT hlf hret v2 _ _ _ t (by omega) h Z (lv_sub hl [2] rfl)
  · replace h := (if_neg hc).symm.trans h
    refine lv_iload_n C0.1.1 C0.1.2.1 dL_areAlike_69 rfl (lv_at hl 2 rfl) ?_
    refine lv_if_eq (tgt := 127) C0.1.1 C0.1.2.1 dL_areAlike_70 (by decide) (fun hc => ?_) (fun hc => ?_)
    · replace h := (if_pos hc).symm.trans h
      exact wL_areAlike_127 C0 hA hN hT hlf hret v2 _ _ _ t (by omega) h Z (lv_sub hl [2] rfl)
    · replace h := (if_neg hc).symm.trans h
      refine lv_aload_n C0.1.1 C0.1.2.1 dL_areAlike_73 rfl (lv_at hl 0 rfl) ?_
      refine lv_iload_n C0.1.1 C0.1.2.1 dL_areAlike_74 rfl (lv_at hl 3 rfl) ?_
      refine lv_iconst (v := 0) C0.1.1 C0.1.2.1 dL_areAlike_75 (by decide) ?_
      obtain ⟨x2, hx3, h⟩ := g_bd h
      refine va_calll (vx_runSW (As := [.ref (d 0), .int v3, .int (0 : Int32)]) (rest := []) C0.1 (tL_l hA (fun Y => zL_value l hlf D cyI cyJ cyO A bs hA Y d σ v3 (0 : Int32) x2 hx3)) (vx_cwSW 3 C0.1.2.2.2.2 gL_areAlike_L_value rfl rfl rfl (by decide +kernel) ⟨Nat.le_of_ble_eq_true rfl, Nat.le_of_ble_eq_true rfl⟩) ⟨tP_blind, tP_pre Z hN hT _⟩ rfl rfl hl.1 rfl (lv_room (Nat.le_of_ble_eq_true rfl)) dL_areAlike_76 ⟨by show t + 2 ≤ 256; omega, by show 12 * t + 24 ≤ 3072; omega⟩) (tZ_S Z) (fun _ _ h => h) (fun _ h => h) (fun y u t1 H locs ht hvm hw hB _ hk hS => ?_)
      replace Z := tZ_post Z ht hvm hB hS
      subst hw
      refine W.widen (k := (t + 2)) (n := 12 * (t + 2)) (by omega) (by omega) ?_
      refine lv_aload_n C0.1.1 C0.1.2.1 dL_areAlike_79 rfl (lv_at hl 1 rfl) ?_
      refine lv_iload_n C0.1.1 C0.1.2.1 dL_areAlike_80 rfl (lv_at hl 3 rfl) ?_
      refine lv_iconst (v := 0) C0.1.1 C0.1.2.1 dL_areAlike_81 (by decide) ?_
      obtain ⟨x4, hx5, h⟩ := g_bd h
      refine va_calll (vx_runSW (As := [.ref (d' 0), .int v3, .int (0 : Int32)]) (rest := [.long x2]) C0.1 (tR_l hA (fun Y => zL_value l hlf D cyI cyJ cyO A bs hA Y d' τ v3 (0 : Int32) x4 hx5)) (vx_cwSW 3 C0.1.2.2.2.2 gL_areAlike_L_value rfl rfl rfl (by decide +kernel) ⟨Nat.le_of_ble_eq_true rfl, Nat.le_of_ble_eq_true rfl⟩) ⟨tP_blind, tP_pre Z hN hT _⟩ rfl rfl hl.1 rfl (lv_room (Nat.le_of_ble_eq_true rfl)) dL_areAlike_82 ⟨by show (t + 2) + 2 ≤ 256; omega, by show 12 * (t + 2) + 24 ≤ 3072; omega⟩) (tZ_S Z) (fun _ _ h => h) (fun _ h => h) (fun y u t1 H locs ht hvm hw hB _ hk hS => ?_)
      replace Z := tZ_post Z ht hvm hB hS
      subst hw
      refine W.widen (k := (t + 4)) (n := 12 * (t + 4)) (by omega) (by omega) ?_
      refine W.lcmp C0.1.1 C0.1.2.1 dL_areAlike_85 ?_
      refine lv_if_ne (tgt := 119) C0.1.1 C0.1.2.1 dL_areAlike_86 (by decide) (fun hc => ?_) (fun hc => ?_)
      · replace h := (if_neg hc).symm.trans h
        exact wL_areAlike_119 C0 hA hN hT hlf hret hr63 v3 _ _ _ (t + 4) (by omega) h Z (lv_sub hl [0, 1, 3] rfl)
      · replace h := (if_pos hc).symm.trans h
        refine lv_aload_n C0.1.1 C0.1.2.1 dL_areAlike_89 rfl (lv_at hl 0 rfl) ?_
        refine lv_iload_n C0.1.1 C0.1.2.1 dL_areAlike_90 rfl (lv_at hl 3 rfl) ?_
        obtain ⟨x6, hx7, h⟩ := g_bd h
        refine vx_calli (vx_runV (b := d 0) (C := RX3) (As := [.int v3]) (rest := []) C0.1 (tL_xi hA (fun Y => o_signs l hlf D cyI cyJ cyO A bs hA Y d σ v3)) (cwV 1 C0.1.2.2.2.2 gL_areAlike_X3_signs rfl rfl rfl (by decide +kernel) ⟨Nat.le_of_ble_eq_true rfl, Nat.le_of_ble_eq_true rfl⟩) ⟨tP_blind, tZ_recvL Z, tP_pre Z hN hT _⟩ rfl rfl hl.1 rfl (lv_room (Nat.le_of_ble_eq_true rfl)) dL_areAlike_91 ⟨by show (t + 4) + 1 ≤ 256; omega, by show 12 * (t + 4) + 6 ≤ 3072; omega⟩) (tZ_S Z) (fun _ _ h => h) (fun _ h => h) (fun _ _ h => h) (fun E ce q9 u t1 H1 locs1 ht hvm _ hB _ hk hS h1 h2 h3 => ?_) (fun y u t1 H locs ht hvm hw hB _ hk hS => ?_)
        · exact absurd (hx7.symm.trans hB.1.1) (fun z => nomatch z)
        obtain rfl : x6 = y := Option.some.inj (hx7.symm.trans hw)
        replace Z := tZ_post Z ht hvm hB hS
        refine W.widen (k := (t + 5)) (n := 12 * (t + 5)) (by omega) (by omega) ?_
        refine lv_aload_n C0.1.1 C0.1.2.1 dL_areAlike_94 rfl (lv_at hl 1 rfl) ?_
        refine lv_iload_n C0.1.1 C0.1.2.1 dL_areAlike_95 rfl (lv_at hl 3 rfl) ?_
        obtain ⟨x8, hx9, h⟩ := g_bd h
        refine vx_calli (vx_runV (b := d' 0) (C := RX3) (As := [.int v3]) (rest := [.int x6]) C0.1 (tR_xi hA (fun Y => o_signs l hlf D cyI cyJ cyO A bs hA Y d' τ v3)) (cwV 1 C0.1.2.2.2.2 gL_areAlike_X3_signs rfl rfl rfl (by decide +kernel) ⟨Nat.le_of_ble_eq_true rfl, Nat.le_of_ble_eq_true rfl⟩) ⟨tP_blind, tZ_recvR Z, tP_pre Z hN hT _⟩ rfl rfl hl.1 rfl (lv_room (Nat.le_of_ble_eq_true rfl)) dL_areAlike_96 ⟨by show (t + 5) + 1 ≤ 256; omega, by show 12 * (t + 5) + 6 ≤ 3072; omega⟩) (tZ_S Z) (fun _ _ h => h) (fun _ h => h) (fun _ _ h => h) (fun E ce q9 u t1 H1 locs1 ht hvm _ hB _ hk hS h1 h2 h3 => ?_) (fun y u t1 H locs ht hvm hw hB _ hk hS => ?_)
        · exact absurd (hx9.symm.trans hB.1.1) (fun z => nomatch z)
        obtain rfl : x8 = y := Option.some.inj (hx9.symm.trans hw)
        replace Z := tZ_post Z ht hvm hB hS
        refine W.widen (k := (t + 6)) (n := 12 * (t + 6)) (by omega) (by omega) ?_
        refine lv_icmp_ne (tgt := 119) C0.1.1 C0.1.2.1 dL_areAlike_99 (by decide) (fun hc => ?_) (fun hc => ?_)
        · replace h := (if_neg hc).symm.trans h
          exact wL_areAlike_119 C0 hA hN hT hlf hret hr63 v3 _ _ _ (t + 6) (by omega) h Z (lv_sub hl [0, 1, 3] rfl)
        · replace h := (if_pos hc).symm.trans h
          refine lv_aload_n C0.1.1 C0.1.2.1 dL_areAlike_102 rfl (lv_at hl 0 rfl) ?_
          refine lv_iload_n C0.1.1 C0.1.2.1 dL_areAlike_103 rfl (lv_at hl 3 rfl) ?_
          obtain ⟨x10, hx11, h⟩ := g_bd h
          refine vx_calli (vx_runV (b := d 0) (C := RX3) (As := [.int v3]) (rest := []) C0.1 (tL_xi hA (fun Y => o_level l hlf D cyI cyJ cyO A bs hA Y d σ v3)) (cwV 1 C0.1.2.2.2.2 gL_areAlike_X3_level rfl rfl rfl (by decide +kernel) ⟨Nat.le_of_ble_eq_true rfl, Nat.le_of_ble_eq_true rfl⟩) ⟨tP_blind, tZ_recvL Z, tP_pre Z hN hT _⟩ rfl rfl hl.1 rfl (lv_room (Nat.le_of_ble_eq_true rfl)) dL_areAlike_104 ⟨by show (t + 6) + 1 ≤ 256; omega, by show 12 * (t + 6) + 6 ≤ 3072; omega⟩) (tZ_S Z) (fun _ _ h => h) (fun _ h => h) (fun _ _ h => h) (fun E ce q9 u t1 H1 locs1 ht hvm _ hB _ hk hS h1 h2 h3 => ?_) (fun y u t1 H locs ht hvm hw hB _ hk hS => ?_)
          · exact absurd (hx11.symm.trans hB.1.1) (fun z => nomatch z)
          obtain rfl : x10 = y := Option.some.inj (hx11.symm.trans hw)
          replace Z := tZ_post Z ht hvm hB hS
          refine W.widen (k := (t + 7)) (n := 12 * (t + 7)) (by omega) (by omega) ?_
          refine lv_aload_n C0.1.1 C0.1.2.1 dL_areAlike_107 rfl (lv_at hl 1 rfl) ?_
          refine lv_iload_n C0.1.1 C0.1.2.1 dL_areAlike_108 rfl (lv_at hl 3 rfl) ?_
          obtain ⟨x12, hx13, h⟩ := g_bd h
          refine vx_calli (vx_runV (b := d' 0) (C := RX3) (As := [.int v3]) (rest := [.int x10]) C0.1 (tR_xi hA (fun Y => o_level l hlf D cyI cyJ cyO A bs hA Y d' τ v3)) (cwV 1 C0.1.2.2.2.2 gL_areAlike_X3_level rfl rfl rfl (by decide +kernel) ⟨Nat.le_of_ble_eq_true rfl, Nat.le_of_ble_eq_true rfl⟩) ⟨tP_blind, tZ_recvR Z, tP_pre Z hN hT _⟩ rfl rfl hl.1 rfl (lv_room (Nat.le_of_ble_eq_true rfl)) dL_areAlike_109 ⟨by show (t + 7) + 1 ≤ 256; omega, by show 12 * (t + 7) + 6 ≤ 3072; omega⟩) (tZ_S Z) (fun _ _ h => h) (fun _ h => h) (fun _ _ h => h) (fun E ce q9 u t1 H1 locs1 ht hvm _ hB _ hk hS h1 h2 h3 => ?_) (fun y u t1 H locs ht hvm hw hB _ hk hS => ?_)
          · exact absurd (hx13.symm.trans hB.1.1) (fun z => nomatch z)
          obtain rfl : x12 = y := Option.some.inj (hx13.symm.trans hw)
          replace Z := tZ_post Z ht hvm hB hS
          refine W.widen (k := (t + 8)) (n := 12 * (t + 8)) (by omega) (by omega) ?_
          refine lv_icmp_ne (tgt := 119) C0.1.1 C0.1.2.1 dL_areAlike_112 (by decide) (fun hc => ?_) (fun hc => ?_)
          · replace h := (if_neg hc).symm.trans h
            exact wL_areAlike_119 C0 hA hN hT hlf hret hr63 v3 _ _ _ (t + 8) (by omega) h Z (lv_sub hl [0, 1, 3] rfl)
          · replace h := (if_pos hc).symm.trans h
            refine lv_iconst (v := 1) C0.1.1 C0.1.2.1 dL_areAlike_115 (by decide) ?_
            refine lv_goto (tgt := 120) C0.1.1 C0.1.2.1 dL_areAlike_116 (by decide) ?_
            exact wL_areAlike_120 C0 hA hN hT hlf hret hr63 v3 (1 : Int32) _ _ _ (t + 8) (by omega) h Z (lv_sub hl [0, 1, 3] rfl)
theorem wL_areAlike_63 {p : Program} {l : Launch} {e : Env} {s : State} {m : MethodId} {args : Array Value} {below : List Frame} {meth : Method} {c : Code} {D : va_G} {cyI cyJ cyO : ClassId} {A : Nat → Prop} {bs : Nat} {d d' : Nat → Nat} {Q : State → Prop} {σ : St} {τ : St} {res : Int32} (C0 : gC p m meth c cL_areAlike 4 (some .boolean) s args wsL_areAlike RL) (hA : ∀ q, bs ≤ q → A q) (hN : lQN s) (hT : dT A s) (hlf : l.stackTraces = false) (hret : ∀ (r : Int32) (H : Heap) (locs : List Loc) (pc : Nat) (ls : Array Slot) (t : Nat), t ≤ 256 → (r = 0 ∨ r = 1) → some r = some res → tZ D cyI cyJ cyO A bs d σ d' τ s H locs → decode cL_areAlike pc = .ok (.ireturn, 1) → W p l e rmL_areAlike s m args below meth c H locs t (12 * t) Q (F0 m pc ls [.int r]))  : ∀ (n_ : Nat), ∀ (v2 : Int32) (v3 : Int32) (H : Heap) (locs : List Loc) (ls : Array Slot) (t : Nat), t + (8 + n_ * 8) ≤ 256 → mL_areAlike_63 σ τ n_ v2 v3 = some res → tZ D cyI cyJ cyO A bs d σ d' τ s H locs → lv_has ls 4 [(0, .ref (d 0)), (1, .ref (d' 0)), (2, .int v2), (3, .int v3)] → W p l e rmL_areAlike s m args below meth c H locs t (12 * t) Q (F0 m 63 ls []) := by
  intro n_
  induction n_ with
  | zero => intro _ _ _ _ _ _ _ h; cases h
  | succ n_ ih =>
    intro v2 v3 H locs ls t ht0 h Z hl
    exact wL_areAlike_63_b C0 hA hN hT hlf hret ih v2 v3 H locs ls t (by omega) h Z hl
set_option maxRecDepth 20000 in
set_option maxHeartbeats 4000000 in
theorem wL_areAlike_60 {p : Program} {l : Launch} {e : Env} {s : State} {m : MethodId} {args : Array Value} {below : List Frame} {meth : Method} {c : Code} {D : va_G} {cyI cyJ cyO : ClassId} {A : Nat → Prop} {bs : Nat} {d d' : Nat → Nat} {Q : State → Prop} {σ : St} {τ : St} {res : Int32} (C0 : gC p m meth c cL_areAlike 4 (some .boolean) s args wsL_areAlike RL) (hA : ∀ q, bs ≤ q → A q) (hN : lQN s) (hT : dT A s) (hlf : l.stackTraces = false) (hret : ∀ (r : Int32) (H : Heap) (locs : List Loc) (pc : Nat) (ls : Array Slot) (t : Nat), t ≤ 256 → (r = 0 ∨ r = 1) → some r = some res → tZ D cyI cyJ cyO A bs d σ d' τ s H locs → decode cL_areAlike pc = .ok (.ireturn, 1) → W p l e rmL_areAlike s m args below meth c H locs t (12 * t) Q (F0 m pc ls [.int r]))  : ∀ (s0 : Int32) (H : Heap) (locs : List Loc) (ls : Array Slot) (t : Nat), t + (256) ≤ 256 → mL_areAlike_60 σ τ s0 = some res → tZ D cyI cyJ cyO A bs d σ d' τ s H locs → lv_has ls 4 [(0, .ref (d 0)), (1, .ref (d' 0))] → W p l e rmL_areAlike s m args below meth c H locs t (12 * t) Q (F0 m 60 ls [.int s0]) := by
  intro s0 H locs ls t ht0 h Z hl
  unfold mL_areAlike_60 at h
  refine lv_istore_n (lv' := [(2, .int s0), (0, .ref (d 0)), (1, .ref (d' 0))]) C0.1.1 C0.1.2.1 dL_areAlike_60 rfl hl (by decide) rfl (fun ls hl => ?_)
  refine lv_iconst (v := 0) C0.1.1 C0.1.2.1 dL_areAlike_61 (by decide) ?_
  refine lv_istore_n (lv' := [(3, .int (0 : Int32)), (2, .int s0), (0, .ref (d 0)), (1, .ref (d' 0))]) C0.1.1 C0.1.2.1 dL_areAlike_62 rfl hl (by decide) rfl (fun ls hl => ?_)
  exact wL_areAlike_63 C0 hA hN hT hlf hret 31 s0 (0 : Int32) _ _ _ t (by omega) h Z (lv_sub hl [2, 3, 1, 0] rfl)
set_option maxRecDepth 20000 in
set_option maxHeartbeats 4000000 in
theorem wL_areAlike_59 {p : Program} {l : Launch} {e : Env} {s : State} {m : MethodId} {args : Array Value} {below : List Frame} {meth : Method} {c : Code} {D : va_G} {cyI cyJ cyO : ClassId} {A : Nat → Prop} {bs : Nat} {d d' : Nat → Nat} {Q : State → Prop} {σ : St} {τ : St} {res : Int32} (C0 : gC p m meth c cL_areAlike 4 (some .boolean) s args wsL_areAlike RL) (hA : ∀ q, bs ≤ q → A q) (hN : lQN s) (hT : dT A s) (hlf : l.stackTraces = false) (hret : ∀ (r : Int32) (H : Heap) (locs : List Loc) (pc : Nat) (ls : Array Slot) (t : Nat), t ≤ 256 → (r = 0 ∨ r = 1) → some r = some res → tZ D cyI cyJ cyO A bs d σ d' τ s H locs → decode cL_areAlike pc = .ok (.ireturn, 1) → W p l e rmL_areAlike s m args below meth c H locs t (12 * t) Q (F0 m pc ls [.int r]))  : ∀ (H : Heap) (locs : List Loc) (ls : Array Slot) (t : Nat), t + (256) ≤ 256 → mL_areAlike_59 σ τ = some res → tZ D cyI cyJ cyO A bs d σ d' τ s H locs → lv_has ls 4 [(0, .ref (d 0)), (1, .ref (d' 0))] → W p l e rmL_areAlike s m args below meth c H locs t (12 * t) Q (F0 m 59 ls []) := by
  intro H locs ls t ht0 h Z hl
  unfold mL_areAlike_59 at h
  refine lv_iconst (v := 0) C0.1.1 C0.1.2.1 dL_areAlike_59 (by decide) ?_
  exact wL_areAlike_60 C0 hA hN hT hlf hret (0 : Int32) _ _ _ t (by omega) h Z (lv_sub hl [0, 1] rfl)
set_option maxRecDepth 20000 in
set_option maxHeartbeats 4000000 in
theorem zL_areAlike (l : Launch) (hlf : l.stackTraces = false) (D : va_G) (cyI cyJ cyO : ClassId) (A : Nat → Prop) (bs : Nat) (hA : ∀ q, bs ≤ q → A q) (d : Nat → Nat) (σ : St) (d' : Nat → Nat) (τ : St)  (res : Int32) (h : mL_areAlike σ τ = some res) : Met l yL_areAlike wsL_areAlike rmL_areAlike (va_Pc [.ref (d 0), .ref (d' 0)] (lP (tW D cyI cyJ cyO A bs d σ d' τ) A)) (va_Qi (fun (r : Int32) (_ : Unit) => res = r) (fun (u : Unit) => tW D cyI cyJ cyO A bs d σ d' τ) A) 256 3072 A := by
  refine Met.ofW (cc := cL_areAlike) (maxL := 4) (ret := (some .boolean)) (by decide) rfl ?_
  intro p e s m args below meth c s₁ B hml hv
  obtain ⟨hav, hv⟩ := hv
  obtain ⟨hv, hN, hT⟩ := hv
  have C0 : gC p m meth c cL_areAlike 4 (some .boolean) s args wsL_areAlike RL := ⟨⟨B.exec, B.bytes, hml, findClass_of_methodNamed B.named, atoms_spec (ws := wsL_areAlike) B.pre⟩, B.returns, B.notSynchronized⟩
  have Z := tZ_start hA hv
  have hret : ∀ (r : Int32) (H : Heap) (locs : List Loc) (pc : Nat) (ls : Array Slot) (t : Nat), t ≤ 256 → (r = 0 ∨ r = 1) → some r = some res → tZ D cyI cyJ cyO A bs d σ d' τ s H locs → decode cL_areAlike pc = .ok (.ireturn, 1) → W p l e rmL_areAlike s m args below meth c H locs t (12 * t) (MQ below (va_Qi (fun (r : Int32) (_ : Unit) => res = r) (fun (u : Unit) => tW D cyI cyJ cyO A bs d σ d' τ) A) args s 256 3072 A) (F0 m pc ls [.int r]) := by
    intro r H locs pc ls t ht1 hb9 h Z hd
    replace h := Option.some.inj h
    subst h
    refine W.widen (k := 256) (n := 3072) (by omega) (by omega) ?_
    exact W.zret C0.1.1 C0.1.2.1 C0.2.1 (g_nb hb9) (fun t ht hW => ⟨⟨r, (), rfl, rfl, tZ_end Z ht hW⟩, va_S.F (tZ_S Z) ht⟩) (tZ_S Z).2.2 hd C0.2.2
  have hl := lv_entry ([.ref (d 0), .ref (d' 0)]) (n := 4) (Nat.le_of_ble_eq_true rfl)
  rw [hav, lg_entry_eq]
  generalize (lg_sl ([.ref (d 0), .ref (d' 0)]) ++ List.replicate (4 - (lg_sl ([.ref (d 0), .ref (d' 0)])).length) Slot.unset).toArray = ls at hl ⊢
  have hl : lv_has ls 4 [(0, .ref (d 0)), (1, .ref (d' 0))] := hl
  rw [← hav]
  unfold mL_areAlike at h
  obtain ⟨t, ht0⟩ : ∃ t : Nat, t = 0 := ⟨0, rfl⟩
  refine W.widen (k := t) (n := 12 * t) (Nat.zero_le _) (Nat.zero_le _) ?_
  refine lv_aload_n C0.1.1 C0.1.2.1 dL_areAlike_0 rfl (lv_at hl 0 rfl) ?_
  refine va_calli (va_runV (b := d 0) (C := RX3) (As := []) (rest := []) C0.1 (tL_i hA (fun Y => o_drafted l D cyI cyJ cyO A bs hA Y d σ)) (cwV 0 C0.1.2.2.2.2 gL_areAlike_X3_drafted rfl rfl rfl (by decide +kernel) ⟨Nat.le_of_ble_eq_true rfl, Nat.le_of_ble_eq_true rfl⟩) ⟨tP_blind, tZ_recvL Z, tP_pre Z hN hT _⟩ rfl rfl hl.1 rfl (lv_room (Nat.le_of_ble_eq_true rfl)) dL_areAlike_1 ⟨by show t + 0 ≤ 256; omega, by show 12 * t + 0 ≤ 3072; omega⟩) (tZ_S Z) (fun _ _ h => h) (fun _ h => h) (fun y u t1 H locs ht hvm hw hB _ hk hS => ?_)
  subst hw
  replace Z := tZ_post Z ht hvm hB hS
  refine lv_aload_n C0.1.1 C0.1.2.1 dL_areAlike_4 rfl (lv_at hl 1 rfl) ?_
  refine va_calli (va_runV (b := d' 0) (C := RX3) (As := []) (rest := [.int (aDrafted σ)]) C0.1 (tR_i hA (fun Y => o_drafted l D cyI cyJ cyO A bs hA Y d' τ)) (cwV 0 C0.1.2.2.2.2 gL_areAlike_X3_drafted rfl rfl rfl (by decide +kernel) ⟨Nat.le_of_ble_eq_true rfl, Nat.le_of_ble_eq_true rfl⟩) ⟨tP_blind, tZ_recvR Z, tP_pre Z hN hT _⟩ rfl rfl hl.1 rfl (lv_room (Nat.le_of_ble_eq_true rfl)) dL_areAlike_5 ⟨by show t + 0 ≤ 256; omega, by show 12 * t + 0 ≤ 3072; omega⟩) (tZ_S Z) (fun _ _ h => h) (fun _ h => h) (fun y u t1 H locs ht hvm hw hB _ hk hS => ?_)
  subst hw
  replace Z := tZ_post Z ht hvm hB hS
  refine lv_icmp_ne (tgt := 59) C0.1.1 C0.1.2.1 dL_areAlike_8 (by decide) (fun hc => ?_) (fun hc => ?_)
  · replace h := (if_neg hc).symm.trans h
    exact wL_areAlike_59 C0 hA hN hT hlf hret _ _ _ t (by omega) h Z (lv_sub hl [0, 1] rfl)
  · replace h := (if_pos hc).symm.trans h
    refine lv_aload_n C0.1.1 C0.1.2.1 dL_areAlike_11 rfl (lv_at hl 0 rfl) ?_
    refine va_calli (va_runV (b := d 0) (C := RX3) (As := []) (rest := []) C0.1 (tL_i hA (fun Y => o_fault l D cyI cyJ cyO A bs hA Y d σ)) (cwV 0 C0.1.2.2.2.2 gL_areAlike_X3_fault rfl rfl rfl (by decide +kernel) ⟨Nat.le_of_ble_eq_true rfl, Nat.le_of_ble_eq_true rfl⟩) ⟨tP_blind, tZ_recvL Z, tP_pre Z hN hT _⟩ rfl rfl hl.1 rfl (lv_room (Nat.le_of_ble_eq_true rfl)) dL_areAlike_12 ⟨by show t + 0 ≤ 256; omega, by show 12 * t + 0 ≤ 3072; omega⟩) (tZ_S Z) (fun _ _ h => h) (fun _ h => h) (fun y u t1 H locs ht hvm hw hB _ hk hS => ?_)
    subst hw
    replace Z := tZ_post Z ht hvm hB hS
    refine lv_aload_n C0.1.1 C0.1.2.1 dL_areAlike_15 rfl (lv_at hl 1 rfl) ?_
    refine va_calli (va_runV (b := d' 0) (C := RX3) (As := []) (rest := [.int (aFault σ)]) C0.1 (tR_i hA (fun Y => o_fault l D cyI cyJ cyO A bs hA Y d' τ)) (cwV 0 C0.1.2.2.2.2 gL_areAlike_X3_fault rfl rfl rfl (by decide +kernel) ⟨Nat.le_of_ble_eq_true rfl, Nat.le_of_ble_eq_true rfl⟩) ⟨tP_blind, tZ_recvR Z, tP_pre Z hN hT _⟩ rfl rfl hl.1 rfl (lv_room (Nat.le_of_ble_eq_true rfl)) dL_areAlike_16 ⟨by show t + 0 ≤ 256; omega, by show 12 * t + 0 ≤ 3072; omega⟩) (tZ_S Z) (fun _ _ h => h) (fun _ h => h) (fun y u t1 H locs ht hvm hw hB _ hk hS => ?_)
    subst hw
    replace Z := tZ_post Z ht hvm hB hS
    refine lv_icmp_ne (tgt := 59) C0.1.1 C0.1.2.1 dL_areAlike_19 (by decide) (fun hc => ?_) (fun hc => ?_)
    · replace h := (if_neg hc).symm.trans h
      exact wL_areAlike_59 C0 hA hN hT hlf hret _ _ _ t (by omega) h Z (lv_sub hl [0, 1] rfl)
    · replace h := (if_pos hc).symm.trans h
      refine lv_aload_n C0.1.1 C0.1.2.1 dL_areAlike_22 rfl (lv_at hl 0 rfl) ?_
      refine va_calli (va_runV (b := d 0) (C := RX3) (As := []) (rest := []) C0.1 (tL_i hA (fun Y => o_layers l D cyI cyJ cyO A bs hA Y d σ)) (cwV 0 C0.1.2.2.2.2 gL_areAlike_X3_layers rfl rfl rfl (by decide +kernel) ⟨Nat.le_of_ble_eq_true rfl, Nat.le_of_ble_eq_true rfl⟩) ⟨tP_blind, tZ_recvL Z, tP_pre Z hN hT _⟩ rfl rfl hl.1 rfl (lv_room (Nat.le_of_ble_eq_true rfl)) dL_areAlike_23 ⟨by show t + 0 ≤ 256; omega, by show 12 * t + 0 ≤ 3072; omega⟩) (tZ_S Z) (fun _ _ h => h) (fun _ h => h) (fun y u t1 H locs ht hvm hw hB _ hk hS => ?_)
      subst hw
      replace Z := tZ_post Z ht hvm hB hS
      refine lv_aload_n C0.1.1 C0.1.2.1 dL_areAlike_26 rfl (lv_at hl 1 rfl) ?_
      refine va_calli (va_runV (b := d' 0) (C := RX3) (As := []) (rest := [.int (aLayers σ)]) C0.1 (tR_i hA (fun Y => o_layers l D cyI cyJ cyO A bs hA Y d' τ)) (cwV 0 C0.1.2.2.2.2 gL_areAlike_X3_layers rfl rfl rfl (by decide +kernel) ⟨Nat.le_of_ble_eq_true rfl, Nat.le_of_ble_eq_true rfl⟩) ⟨tP_blind, tZ_recvR Z, tP_pre Z hN hT _⟩ rfl rfl hl.1 rfl (lv_room (Nat.le_of_ble_eq_true rfl)) dL_areAlike_27 ⟨by show t + 0 ≤ 256; omega, by show 12 * t + 0 ≤ 3072; omega⟩) (tZ_S Z) (fun _ _ h => h) (fun _ h => h) (fun y u t1 H locs ht hvm hw hB _ hk hS => ?_)
      subst hw
      replace Z := tZ_post Z ht hvm hB hS
      refine lv_icmp_ne (tgt := 59) C0.1.1 C0.1.2.1 dL_areAlike_30 (by decide) (fun hc => ?_) (fun hc => ?_)
      · replace h := (if_neg hc).symm.trans h
        exact wL_areAlike_59 C0 hA hN hT hlf hret _ _ _ t (by omega) h Z (lv_sub hl [0, 1] rfl)
      · replace h := (if_pos hc).symm.trans h
        refine lv_aload_n C0.1.1 C0.1.2.1 dL_areAlike_33 rfl (lv_at hl 0 rfl) ?_
        refine va_calli (va_runV (b := d 0) (C := RX3) (As := []) (rest := []) C0.1 (tL_i hA (fun Y => o_faulty l D cyI cyJ cyO A bs hA Y d σ)) (cwV 0 C0.1.2.2.2.2 gL_areAlike_X3_faulty rfl rfl rfl (by decide +kernel) ⟨Nat.le_of_ble_eq_true rfl, Nat.le_of_ble_eq_true rfl⟩) ⟨tP_blind, tZ_recvL Z, tP_pre Z hN hT _⟩ rfl rfl hl.1 rfl (lv_room (Nat.le_of_ble_eq_true rfl)) dL_areAlike_34 ⟨by show t + 0 ≤ 256; omega, by show 12 * t + 0 ≤ 3072; omega⟩) (tZ_S Z) (fun _ _ h => h) (fun _ h => h) (fun y u t1 H locs ht hvm hw hB _ hk hS => ?_)
        subst hw
        replace Z := tZ_post Z ht hvm hB hS
        refine lv_aload_n C0.1.1 C0.1.2.1 dL_areAlike_37 rfl (lv_at hl 1 rfl) ?_
        refine va_calli (va_runV (b := d' 0) (C := RX3) (As := []) (rest := [.int (aFaulty σ)]) C0.1 (tR_i hA (fun Y => o_faulty l D cyI cyJ cyO A bs hA Y d' τ)) (cwV 0 C0.1.2.2.2.2 gL_areAlike_X3_faulty rfl rfl rfl (by decide +kernel) ⟨Nat.le_of_ble_eq_true rfl, Nat.le_of_ble_eq_true rfl⟩) ⟨tP_blind, tZ_recvR Z, tP_pre Z hN hT _⟩ rfl rfl hl.1 rfl (lv_room (Nat.le_of_ble_eq_true rfl)) dL_areAlike_38 ⟨by show t + 0 ≤ 256; omega, by show 12 * t + 0 ≤ 3072; omega⟩) (tZ_S Z) (fun _ _ h => h) (fun _ h => h) (fun y u t1 H locs ht hvm hw hB _ hk hS => ?_)
        subst hw
        replace Z := tZ_post Z ht hvm hB hS
        refine lv_icmp_ne (tgt := 59) C0.1.1 C0.1.2.1 dL_areAlike_41 (by decide) (fun hc => ?_) (fun hc => ?_)
        · replace h := (if_neg hc).symm.trans h
          exact wL_areAlike_59 C0 hA hN hT hlf hret _ _ _ t (by omega) h Z (lv_sub hl [0, 1] rfl)
        · replace h := (if_pos hc).symm.trans h
          refine lv_aload_n C0.1.1 C0.1.2.1 dL_areAlike_44 rfl (lv_at hl 0 rfl) ?_
          refine va_calli (va_runV (b := d 0) (C := RX3) (As := []) (rest := []) C0.1 (tL_i hA (fun Y => o_foundAnew l D cyI cyJ cyO A bs hA Y d σ)) (cwV 0 C0.1.2.2.2.2 gL_areAlike_X3_foundAnew rfl rfl rfl (by decide +kernel) ⟨Nat.le_of_ble_eq_true rfl, Nat.le_of_ble_eq_true rfl⟩) ⟨tP_blind, tZ_recvL Z, tP_pre Z hN hT _⟩ rfl rfl hl.1 rfl (lv_room (Nat.le_of_ble_eq_true rfl)) dL_areAlike_45 ⟨by show t + 0 ≤ 256; omega, by show 12 * t + 0 ≤ 3072; omega⟩) (tZ_S Z) (fun _ _ h => h) (fun _ h => h) (fun y u t1 H locs ht hvm hw hB _ hk hS => ?_)
          subst hw
          replace Z := tZ_post Z ht hvm hB hS
          refine lv_aload_n C0.1.1 C0.1.2.1 dL_areAlike_48 rfl (lv_at hl 1 rfl) ?_
          refine va_calli (va_runV (b := d' 0) (C := RX3) (As := []) (rest := [.int (aFound σ)]) C0.1 (tR_i hA (fun Y => o_foundAnew l D cyI cyJ cyO A bs hA Y d' τ)) (cwV 0 C0.1.2.2.2.2 gL_areAlike_X3_foundAnew rfl rfl rfl (by decide +kernel) ⟨Nat.le_of_ble_eq_true rfl, Nat.le_of_ble_eq_true rfl⟩) ⟨tP_blind, tZ_recvR Z, tP_pre Z hN hT _⟩ rfl rfl hl.1 rfl (lv_room (Nat.le_of_ble_eq_true rfl)) dL_areAlike_49 ⟨by show t + 0 ≤ 256; omega, by show 12 * t + 0 ≤ 3072; omega⟩) (tZ_S Z) (fun _ _ h => h) (fun _ h => h) (fun y u t1 H locs ht hvm hw hB _ hk hS => ?_)
          subst hw
          replace Z := tZ_post Z ht hvm hB hS
          refine lv_icmp_ne (tgt := 59) C0.1.1 C0.1.2.1 dL_areAlike_52 (by decide) (fun hc => ?_) (fun hc => ?_)
          · replace h := (if_neg hc).symm.trans h
            exact wL_areAlike_59 C0 hA hN hT hlf hret _ _ _ t (by omega) h Z (lv_sub hl [0, 1] rfl)
          · replace h := (if_pos hc).symm.trans h
            refine lv_iconst (v := 1) C0.1.1 C0.1.2.1 dL_areAlike_55 (by decide) ?_
            refine lv_goto (tgt := 60) C0.1.1 C0.1.2.1 dL_areAlike_56 (by decide) ?_
            exact wL_areAlike_60 C0 hA hN hT hlf hret (1 : Int32) _ _ _ t (by omega) h Z (lv_sub hl [0, 1] rfl)
