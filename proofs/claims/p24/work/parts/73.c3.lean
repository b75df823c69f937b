/-! the office is made -/
abbrev rmX3_init : Room := { frames := 3, cells := 11, slots := 232, locals := 200 }
abbrev nuX3 : List Value := [.null, .null, .null, .null, .null, .null, .null, .int 0, .int 0]
/-- the office's eight cells while its rows of formulas are filled -/
def XE (d : Nat → Nat) (cyI cyJ cyO : ClassId) (eA rs rr : Nat) (u v : Nat → Option Nat) : va_W := [(d 0, .inr (5, [.ref (d 1), .ref (d 2), .ref eA, .ref (d 3), .ref (d 4), .ref (d 5), .ref (d 6), .int 0, .int 0])), (d 1, .inr (2, [.ref (d 7), .int 0])), (d 2, .inr (4, [.ref rs, .ref rr, .int 0])), (d 3, .inl (cyO, 30, .inr (.inr (.inr (.inr u))))), (d 4, .inl (cyO, 120, .inr (.inr (.inr (.inr v))))), (d 5, .inl (cyJ, 30, .inr (.inl (fun _ => 0)))), (d 6, .inl (cyJ, 30, .inr (.inl (fun _ => 0)))), (d 7, .inl (cyI, 15, .inl (fun _ => 0)))]
theorem arrV_cg {cA : ClassId} {n : Nat} {f g : Nat → Value} (h : ∀ k, k < n → f k = g k) : arrV cA n f = arrV cA n g := by
  unfold arrV
  congr 1
  apply Array.ext
  · simp
  · intro i h1 h2
    simp only [Array.getElem_ofFn]
    exact h i (by simpa using h1)
theorem kX3_init_in : ∀ w ∈ wsX30, w ∈ wsX3_init := by decide +kernel
theorem kX3_init_in0 : ∀ w ∈ wsX00, w ∈ wsX3_init := by decide +kernel
theorem kX3_init_in1 : ∀ w ∈ wsX10, w ∈ wsX3_init := by decide +kernel
theorem kX3_init_in2 : ∀ w ∈ wsX20, w ∈ wsX3_init := by decide +kernel
theorem kX3_init_I : Cond.arrayClass .int ∈ wsX3_init := by decide +kernel
theorem kX3_init_J : Cond.arrayClass .long ∈ wsX3_init := by decide +kernel
theorem kX3_init_14 : Cond.fieldLink RX3 14 "GoalseekOffice" "draft" "LGoalseekOffice$Draft;" ∈ wsX3_init := by decide +kernel
theorem kX3_init_21 : Cond.fieldLink RX3 21 "GoalseekOffice" "reckoner" "LGoalseekOffice$Reckoner;" ∈ wsX3_init := by decide +kernel
theorem kX3_init_30 : Cond.fieldLink RX3 30 "GoalseekOffice" "empty" "LGoalseekOffice$Formula;" ∈ wsX3_init := by decide +kernel
theorem kX3_init_34 : Cond.fieldLink RX3 34 "GoalseekOffice" "formulas" "[LGoalseekOffice$Formula;" ∈ wsX3_init := by decide +kernel
theorem kX3_init_38 : Cond.fieldLink RX3 38 "GoalseekOffice" "remembered" "[LGoalseekOffice$Formula;" ∈ wsX3_init := by decide +kernel
theorem kX3_init_41 : Cond.fieldLink RX3 41 "GoalseekOffice" "values" "[J" ∈ wsX3_init := by decide +kernel
theorem kX3_init_45 : Cond.fieldLink RX3 45 "GoalseekOffice" "trial" "[J" ∈ wsX3_init := by decide +kernel
theorem kX3_init_c0 : Cond.classLink RX3 11 RX0 ∈ wsX3_init := by decide +kernel
theorem kX3_init_c2 : Cond.classLink RX3 18 RX2 ∈ wsX3_init := by decide +kernel
theorem kX3_init_c1 : Cond.classLink RX3 25 RX1 ∈ wsX3_init := by decide +kernel
theorem kX3_init_i0 : Cond.instantiable RX0 2 ∈ wsX3_init := by decide +kernel
theorem kX3_init_i2 : Cond.instantiable RX2 3 ∈ wsX3_init := by decide +kernel
theorem kX3_init_i1 : Cond.instantiable RX1 2 ∈ wsX3_init := by decide +kernel
theorem kX3_init_n0 : Cond.initialized RX0 ∈ wsX3_init := by decide +kernel
theorem kX3_init_n2 : Cond.initialized RX2 ∈ wsX3_init := by decide +kernel
theorem kX3_init_n1 : Cond.initialized RX1 ∈ wsX3_init := by decide +kernel
theorem kX3_init_m0 : Cond.instanceMethod yX0_init ∈ wsX3_init := by decide +kernel
theorem kX3_init_m2 : Cond.instanceMethod yX2_init ∈ wsX3_init := by decide +kernel
theorem kX3_init_m1 : Cond.instanceMethod yX1_init ∈ wsX3_init := by decide +kernel
theorem kX3_init_o1 : Cond.methodLink RX3 5 objectInit ∈ wsX3_init := by decide +kernel
theorem kX3_init_o2 : Cond.instanceMethod objectInit ∈ wsX3_init := by decide +kernel
theorem kX3_init_o3 : Cond.code objectInit ⟨#[0xb1]⟩ 1 none ∈ wsX3_init := by decide +kernel
set_option maxRecDepth 20000 in
set_option maxHeartbeats 4000000 in
theorem wX3_init_76 {p : Program} {l : Launch} {e : Env} {s : State} {m : MethodId} {args : Array Value} {below : List Frame} {meth : Method} {c : Code} {D : va_G} {cyI cyJ cyO : ClassId} {A : Nat → Prop} {bs : Nat} {P : List Nat} {g : Nat → va_E} {d : Nat → Nat} {eA rs rr : Nat} {cells slots : Nat} {Q : State → Prop} (C0 : gC p m meth c cX3_init 2 none s args wsX3_init RX3) (hE : ∃ vs, eA ∈ P ∧ g eA = .inr (3, vs))
    (hend : ∀ (u v : Nat → Option Nat) (H : Heap) (locs : List Loc) (ls : Array Slot), (∀ j, j < 30 → u j = some eA) → gZ D (gT cyI cyJ cyO) (XE d cyI cyJ cyO eA rs rr u v ++ va_pl P g) A bs s H locs → lv_has ls 2 [(0, .ref (d 0))] → True → W p l e rmX3_init s m args below meth c H locs cells slots Q (F0 m 101 ls [])) :
    ∀ (y k : Nat) (u v : Nat → Option Nat) (H : Heap) (locs : List Loc) (ls : Array Slot), k + y = 30 → (∀ j, j < k → u j = some eA) → True → gZ D (gT cyI cyJ cyO) (XE d cyI cyJ cyO eA rs rr u v ++ va_pl P g) A bs s H locs → lv_has ls 2 [(0, .ref (d 0)), (1, .int (nI k))] → W p l e rmX3_init s m args below meth c H locs cells slots Q (F0 m 76 ls []) := by
  intro y
  induction y with
  | zero =>
    intro k u v H locs ls hk hu hf Z hl
    refine lv_iload_n C0.1.1 C0.1.2.1 dX3_init_76 rfl (lv_at hl 1 rfl) ?_
    refine lv_aload_n C0.1.1 C0.1.2.1 dX3_init_77 rfl (lv_at hl 0 rfl) ?_
    refine g_get C0.1 Z 0 (ci := 5) rfl rfl 3 (by decide) kX3_init_in kX3_init_34 rfl rfl dX3_init_78 ?_
    refine g_alen C0.1 Z 3 2 rfl rfl (v := nI 30) rfl dX3_init_81 ?_
    refine lv_icmp_ge (tgt := 101) C0.1.1 C0.1.2.1 dX3_init_82 (by decide) (fun hc => ?_) (fun hc => absurd (nI_le (by omega) (by omega)) hc)
    have hk' : k = 30 := by omega
    subst hk'
    exact hend u v _ _ _ hu Z (lv_sub hl [0] rfl) hf
  | succ y ih =>
    intro k u v H locs ls hk hu hf Z hl
    obtain ⟨vs, hE1, hE2⟩ := hE
    refine lv_iload_n C0.1.1 C0.1.2.1 dX3_init_76 rfl (lv_at hl 1 rfl) ?_
    refine lv_aload_n C0.1.1 C0.1.2.1 dX3_init_77 rfl (lv_at hl 0 rfl) ?_
    refine g_get C0.1 Z 0 (ci := 5) rfl rfl 3 (by decide) kX3_init_in kX3_init_34 rfl rfl dX3_init_78 ?_
    refine g_alen C0.1 Z 3 2 rfl rfl (v := nI 30) rfl dX3_init_81 ?_
    refine lv_icmp_ge (tgt := 101) C0.1.1 C0.1.2.1 dX3_init_82 (by decide) (fun hc => absurd hc (nI_ge (by omega) (by omega))) (fun hc => ?_)
    refine lv_aload_n C0.1.1 C0.1.2.1 dX3_init_85 rfl (lv_at hl 0 rfl) ?_
    refine g_get C0.1 Z 0 (ci := 5) rfl rfl 3 (by decide) kX3_init_in kX3_init_34 rfl rfl dX3_init_86 ?_
    refine lv_iload_n C0.1.1 C0.1.2.1 dX3_init_89 rfl (lv_at hl 1 rfl) ?_
    refine lv_aload_n C0.1.1 C0.1.2.1 dX3_init_90 rfl (lv_at hl 0 rfl) ?_
    refine g_get C0.1 Z 0 (ci := 5) rfl rfl 2 (by decide) kX3_init_in kX3_init_30 rfl rfl dX3_init_91 ?_
    obtain ⟨k1, hk1⟩ := va_pl_get (X := XE d cyI cyJ cyO eA rs rr u v) (f := g) hE1
    rw [hE2] at hk1
    refine va_astq (r := (RX1, TX1, 2)) C0.1.1 C0.1.2.1 Z.2.1 Z.1 Z.2.2.1 Z.2.2.2.1 3 2 k1 3 (n := 30) (f := u) rfl rfl hk1 rfl (vp_in_nI (by omega) (by omega)) dX3_init_94 (fun H1 locs1 h1 h2 h3 => ?_)
    rw [nI_clamp (by omega)] at h1 h2
    have Z1 : gZ D (gT cyI cyJ cyO) (XE d cyI cyJ cyO eA rs rr (va_up u k (some eA)) v ++ va_pl P g) A bs s H1 locs1 := ⟨h1, Z.2.1, h2, h3, Z.2.2.2.2⟩
    refine lv_iinc (v := nI (k + 1)) (lv' := [(1, .int (nI (k + 1))), (0, .ref (d 0))]) C0.1.1 C0.1.2.1 dX3_init_95 hl (k := 1) rfl (nI_1 k) (by decide) rfl (fun ls hl => ?_)
    refine lv_goto (tgt := 76) C0.1.1 C0.1.2.1 dX3_init_98 (by decide) ?_
    refine ih (k + 1) _ _ _ _ _ (by omega) (fun j hj => ?_) trivial Z1 (lv_sub hl [1, 0] rfl)
    by_cases ej : j = k
    · subst ej; exact up_s _ _ _
    · rw [up_n ej]; exact hu j (by omega)
set_option maxRecDepth 20000 in
set_option maxHeartbeats 4000000 in
theorem wX3_init_103 {p : Program} {l : Launch} {e : Env} {s : State} {m : MethodId} {args : Array Value} {below : List Frame} {meth : Method} {c : Code} {D : va_G} {cyI cyJ cyO : ClassId} {A : Nat → Prop} {bs : Nat} {P : List Nat} {g : Nat → va_E} {d : Nat → Nat} {eA rs rr : Nat} {cells slots : Nat} {Q : State → Prop} (C0 : gC p m meth c cX3_init 2 none s args wsX3_init RX3) (hE : ∃ vs, eA ∈ P ∧ g eA = .inr (3, vs))
    (hend : ∀ (u v : Nat → Option Nat) (H : Heap) (locs : List Loc) (ls : Array Slot), (∀ j, j < 120 → v j = some eA) → gZ D (gT cyI cyJ cyO) (XE d cyI cyJ cyO eA rs rr u v ++ va_pl P g) A bs s H locs → lv_has ls 2 [(0, .ref (d 0))] → (∀ j, j < 30 → u j = some eA) → W p l e rmX3_init s m args below meth c H locs cells slots Q (F0 m 128 ls [])) :
    ∀ (y k : Nat) (u v : Nat → Option Nat) (H : Heap) (locs : List Loc) (ls : Array Slot), k + y = 120 → (∀ j, j < k → v j = some eA) → (∀ j, j < 30 → u j = some eA) → gZ D (gT cyI cyJ cyO) (XE d cyI cyJ cyO eA rs rr u v ++ va_pl P g) A bs s H locs → lv_has ls 2 [(0, .ref (d 0)), (1, .int (nI k))] → W p l e rmX3_init s m args below meth c H locs cells slots Q (F0 m 103 ls []) := by
  intro y
  induction y with
  | zero =>
    intro k u v H locs ls hk hu hf Z hl
    refine lv_iload_n C0.1.1 C0.1.2.1 dX3_init_103 rfl (lv_at hl 1 rfl) ?_
    refine lv_aload_n C0.1.1 C0.1.2.1 dX3_init_104 rfl (lv_at hl 0 rfl) ?_
    refine g_get C0.1 Z 0 (ci := 5) rfl rfl 4 (by decide) kX3_init_in kX3_init_38 rfl rfl dX3_init_105 ?_
    refine g_alen C0.1 Z 4 2 rfl rfl (v := nI 120) rfl dX3_init_108 ?_
    refine lv_icmp_ge (tgt := 128) C0.1.1 C0.1.2.1 dX3_init_109 (by decide) (fun hc => ?_) (fun hc => absurd (nI_le (by omega) (by omega)) hc)
    have hk' : k = 120 := by omega
    subst hk'
    exact hend u v _ _ _ hu Z (lv_sub hl [0] rfl) hf
  | succ y ih =>
    intro k u v H locs ls hk hu hf Z hl
    obtain ⟨vs, hE1, hE2⟩ := hE
    refine lv_iload_n C0.1.1 C0.1.2.1 dX3_init_103 rfl (lv_at hl 1 rfl) ?_
    refine lv_aload_n C0.1.1 C0.1.2.1 dX3_init_104 rfl (lv_at hl 0 rfl) ?_
    refine g_get C0.1 Z 0 (ci := 5) rfl rfl 4 (by decide) kX3_init_in kX3_init_38 rfl rfl dX3_init_105 ?_
    refine g_alen C0.1 Z 4 2 rfl rfl (v := nI 120) rfl dX3_init_108 ?_
    refine lv_icmp_ge (tgt := 128) C0.1.1 C0.1.2.1 dX3_init_109 (by decide) (fun hc => absurd hc (nI_ge (by omega) (by omega))) (fun hc => ?_)
    refine lv_aload_n C0.1.1 C0.1.2.1 dX3_init_112 rfl (lv_at hl 0 rfl) ?_
    refine g_get C0.1 Z 0 (ci := 5) rfl rfl 4 (by decide) kX3_init_in kX3_init_38 rfl rfl dX3_init_113 ?_
    refine lv_iload_n C0.1.1 C0.1.2.1 dX3_init_116 rfl (lv_at hl 1 rfl) ?_
    refine lv_aload_n C0.1.1 C0.1.2.1 dX3_init_117 rfl (lv_at hl 0 rfl) ?_
    refine g_get C0.1 Z 0 (ci := 5) rfl rfl 2 (by decide) kX3_init_in kX3_init_30 rfl rfl dX3_init_118 ?_
    obtain ⟨k1, hk1⟩ := va_pl_get (X := XE d cyI cyJ cyO eA rs rr u v) (f := g) hE1
    rw [hE2] at hk1
    refine va_astq (r := (RX1, TX1, 2)) C0.1.1 C0.1.2.1 Z.2.1 Z.1 Z.2.2.1 Z.2.2.2.1 4 2 k1 3 (n := 120) (f := v) rfl rfl hk1 rfl (vp_in_nI (by omega) (by omega)) dX3_init_121 (fun H1 locs1 h1 h2 h3 => ?_)
    rw [nI_clamp (by omega)] at h1 h2
    have Z1 : gZ D (gT cyI cyJ cyO) (XE d cyI cyJ cyO eA rs rr u (va_up v k (some eA)) ++ va_pl P g) A bs s H1 locs1 := ⟨h1, Z.2.1, h2, h3, Z.2.2.2.2⟩
    refine lv_iinc (v := nI (k + 1)) (lv' := [(1, .int (nI (k + 1))), (0, .ref (d 0))]) C0.1.1 C0.1.2.1 dX3_init_122 hl (k := 1) rfl (nI_1 k) (by decide) rfl (fun ls hl => ?_)
    refine lv_goto (tgt := 103) C0.1.1 C0.1.2.1 dX3_init_125 (by decide) ?_
    refine ih (k + 1) _ _ _ _ _ (by omega) (fun j hj => ?_) hf Z1 (lv_sub hl [1, 0] rfl)
    by_cases ej : j = k
    · subst ej; exact up_s _ _ _
    · rw [up_n ej]; exact hu j (by omega)
set_option maxRecDepth 20000 in
set_option maxHeartbeats 8000000 in
/-- GoalseekOffice() -/
theorem zX3_init (l : Launch) (D : va_G) (cyI cyJ cyO : ClassId) (A : Nat → Prop) (bs : Nat) (hA : ∀ q, bs ≤ q → A q) (b : Nat) : Met l yX3_init wsX3_init rmX3_init (va_Pc [.ref b] (fun U => (gW D (gT cyI cyJ cyO) [(b, .inr (5, nuX3))] A bs U ∧ dN U) ∧ va_AO "GoalseekOffice$Formula" U)) (va_Qv (fun (u : (Nat → Nat) × Nat × List Nat × (Nat → va_E)) => u.1 0 = b) (fun (u : (Nat → Nat) × Nat × List Nat × (Nat → va_E)) U => dW D cyI cyJ cyO A bs u.2.2.1 u.2.2.2 u.1 u.2.1 (u.1 5) (u.1 6) 0 0 0 (fun _ => 0) (fun _ => 0) (fun _ => 0) (fun _ _ => 0) (fun _ => 0) (fun _ => 0) (fun _ _ => 0) (fun _ => 0) (fun _ => 0) U) A) 11 232 A := by
  refine Met.ofW (cc := cX3_init) (maxL := 2) (ret := none) (by decide) rfl ?_
  intro p e s m args below meth c s₁ B hml hv
  obtain ⟨hav, ⟨hv, hN⟩, hO⟩ := hv
  have C0 : gC p m meth c cX3_init 2 none s args wsX3_init RX3 := ⟨⟨B.exec, B.bytes, hml, findClass_of_methodNamed B.named, atoms_spec (ws := wsX3_init) B.pre⟩, B.returns, B.notSynchronized⟩
  have hnm : meth.name = "<init>" := (name_of_methodNamed B.named B.method).1
  have Z := g_start hA hv
  have hl := lv_entry ([.ref b]) (n := 2) (Nat.le_of_ble_eq_true rfl)
  rw [hav, lg_entry_eq]
  generalize (lg_sl ([.ref b]) ++ List.replicate (2 - (lg_sl ([.ref b])).length) Slot.unset).toArray = ls at hl ⊢
  have hl : lv_has ls 2 [(0, .ref b)] := hl
  rw [← hav]
  refine lv_aload_n C0.1.1 C0.1.2.1 dX3_init_0 rfl (lv_at hl 0 rfl) ?_
  refine W.objInit C0.1.1 C0.1.2.1 C0.1.2.2.2.1 (C0.1.2.2.2.2 _ kX3_init_o1) (C0.1.2.2.2.2 _ kX3_init_o2) (C0.1.2.2.2.2 _ kX3_init_o3) rfl (hl.1.trans C0.1.2.2.1.symm) rfl dX3_init_1 (Nat.le_of_ble_eq_true rfl) (Nat.le_of_ble_eq_true rfl) ?_
  refine W.eq (g2 := F0 m 4 ls []) rfl ?_
  refine lv_aload_n C0.1.1 C0.1.2.1 dX3_init_4 rfl (lv_at hl 0 rfl) ?_
  refine g_new C0.1 (C := RX0) (ci := 2) (fs := [.null, .int 0]) kX3_init_in0 tyX0 tyX0_ok kX3_init_c0 kX3_init_i0 kX3_init_n0 rfl (fun j hj => by rcases (show j = 0 ∨ j = 1 by omega) with rfl | rfl <;> rfl) Z (Nat.le_of_ble_eq_true rfl) (Nat.le_of_ble_eq_true rfl) dX3_init_5 (fun q1 H Z => ?_)
  refine lv_dup C0.1.1 C0.1.2.1 dX3_init_8 rfl ?_
  refine x_callv (va_runIN (b := q1) (As := []) (rest := [.ref q1, .ref b]) C0.1 (zX0_init l D cyI cyJ cyO A bs Z.2.2.2.2.2 (b, .inr (5, nuX3)) q1) ⟨va_cnB 0 C0.1.2.2.2.2 gX3_init_X0_init_n13 rfl rfl rfl (hN.1 _ (List.mem_of_getElem? (i := 2) rfl)) (C0.1.2.2.2.2 _ kX3_init_n0) (by decide +kernel) ⟨Nat.le_of_ble_eq_true rfl, Nat.le_of_ble_eq_true rfl⟩, rfl, C0.1.2.2.2.2 _ kX3_init_m0⟩ ⟨gN_blind, gN_pre Z hN _⟩ rfl rfl hl.1 rfl (lv_room (Nat.le_of_ble_eq_true rfl)) dX3_init_9 ⟨Nat.le_of_ble_eq_true rfl, Nat.le_of_ble_eq_true rfl⟩) Z.2.2.2.1 (fun u t H1 locs1 ht hvm hB hS => g_post Z ht hvm hB hS) (fun q7 H locs hw Z => ?_)
  refine g_putF C0.1 hnm Z 0 (ci := 5) rfl rfl 0 (by decide) kX3_init_in kX3_init_14 rfl rfl tyX3 tyX3_ok nmX3 rfl (by rfl) (by rfl) (Nat.le_of_ble_eq_true rfl) dX3_init_12 rfl (fun H locs Z => ?_)
  refine lv_aload_n C0.1.1 C0.1.2.1 dX3_init_15 rfl (lv_at hl 0 rfl) ?_
  refine g_new C0.1 (C := RX2) (ci := 4) (fs := [.null, .null, .int 0]) kX3_init_in2 tyX2 tyX2_ok kX3_init_c2 kX3_init_i2 kX3_init_n2 rfl (fun j hj => by rcases (show j = 0 ∨ j = 1 ∨ j = 2 by omega) with rfl | rfl | rfl <;> rfl) Z (Nat.le_of_ble_eq_true rfl) (Nat.le_of_ble_eq_true rfl) dX3_init_16 (fun q2 H Z => ?_)
  refine lv_dup C0.1.1 C0.1.2.1 dX3_init_19 rfl ?_
  refine x_callv (va_runIN (b := q2) (As := []) (rest := [.ref q2, .ref b]) C0.1 (zX2_init l D cyI cyJ cyO A bs Z.2.2.2.2.2 (b, .inr (5, [.ref q1, .null, .null, .null, .null, .null, .null, .int 0, .int 0])) (q1, .inr (2, [.ref q7, .int 0])) (q7, .inl (cyI, 15, .inl (fun _ => 0))) q2) ⟨va_cnB 0 C0.1.2.2.2.2 gX3_init_X2_init_n20 rfl rfl rfl (hN.1 _ (List.mem_of_getElem? (i := 5) rfl)) (C0.1.2.2.2.2 _ kX3_init_n2) (by decide +kernel) ⟨Nat.le_of_ble_eq_true rfl, Nat.le_of_ble_eq_true rfl⟩, rfl, C0.1.2.2.2.2 _ kX3_init_m2⟩ ⟨gN_blind, gN_pre Z hN _⟩ rfl rfl hl.1 rfl (lv_room (Nat.le_of_ble_eq_true rfl)) dX3_init_20 ⟨Nat.le_of_ble_eq_true rfl, Nat.le_of_ble_eq_true rfl⟩) Z.2.2.2.1 (fun u t H1 locs1 ht hvm hB hS => g_post Z ht hvm hB hS) (fun qr H locs hw Z => ?_)
  refine g_putF C0.1 hnm Z 0 (ci := 5) rfl rfl 1 (by decide) kX3_init_in kX3_init_21 rfl rfl tyX3 tyX3_ok nmX3 rfl (by rfl) (by rfl) (Nat.le_of_ble_eq_true rfl) dX3_init_23 rfl (fun H locs Z => ?_)
  refine lv_aload_n C0.1.1 C0.1.2.1 dX3_init_26 rfl (lv_at hl 0 rfl) ?_
  obtain ⟨X6, hX6⟩ : ∃ X : va_W, X = [(b, .inr (5, [.ref q1, .ref q2, .null, .null, .null, .null, .null, .int 0, .int 0])), (q1, .inr (2, [.ref q7, .int 0])), (q7, .inl (cyI, 15, .inl (fun _ => 0))), (q2, .inr (4, [.ref qr.1, .ref qr.2, .int 0])), (qr.1, .inl (cyI, 0, .inl (fun _ => 0))), (qr.2, .inl (cyJ, 0, .inr (.inl (fun _ => 0))))] := ⟨_, rfl⟩
  have Z : gZ D (gT cyI cyJ cyO) (X6 ++ va_pl [] (fun _ => .inr (3, []))) A bs s H locs := by subst hX6; exact Z
  refine d_newF C0.1 kX3_init_in1 kX3_init_c1 kX3_init_i1 kX3_init_n1 Z (Nat.le_of_ble_eq_true rfl) (Nat.le_of_ble_eq_true rfl) dX3_init_27 (fun qF H hq1 Z => ?_)
  refine lv_dup C0.1.1 C0.1.2.1 dX3_init_30 rfl ?_
  refine lv_iconst (v := 0) C0.1.1 C0.1.2.1 dX3_init_31 (by decide) ?_
  refine d_newI C0.1 kX3_init_I Z (N' := 0) (by decide) rfl (Nat.le_of_ble_eq_true rfl) (Nat.le_of_ble_eq_true rfl) (Nat.le_of_ble_eq_true rfl) dX3_init_32 (fun qS H hq2 Z => ?_)
  have hne : qF ≠ qS := fun z => hq2 (by rw [z]; simp)
  refine x_callv (va_runIN (b := qF) (As := [.ref qS]) (rest := [.ref qF, .ref b]) C0.1 (zX1_init l D cyI cyJ cyO A bs Z.2.2.2.2.2 X6 _ _ qF qS 0 (fun _ => 0) (by simp) (by simp [va_up, hne]) ⟨by simp, fun _ => 0, by simp [va_up], fun _ _ => rfl⟩ 1 0 (by rfl)) ⟨va_cnB 1 C0.1.2.2.2.2 gX3_init_X1_init_n27 rfl rfl rfl (hN.1 _ (List.mem_of_getElem? (i := 7) rfl)) (C0.1.2.2.2.2 _ kX3_init_n1) (by decide +kernel) ⟨Nat.le_of_ble_eq_true rfl, Nat.le_of_ble_eq_true rfl⟩, rfl, C0.1.2.2.2.2 _ kX3_init_m1⟩ ⟨gN_blind, gN_pre Z hN _⟩ rfl rfl hl.1 rfl (lv_room (Nat.le_of_ble_eq_true rfl)) dX3_init_34 ⟨Nat.le_of_ble_eq_true rfl, Nat.le_of_ble_eq_true rfl⟩) Z.2.2.2.1 (fun u t H1 locs1 ht hvm hB hS => g_post Z ht hvm hB hS) (fun _ H locs hw Z => ?_)
  obtain ⟨g2, hg2⟩ : ∃ g2 : Nat → va_E, g2 = va_up (va_up (va_up (fun _ => .inr (3, [])) qF (.inr (3, [.null, .int 0]))) qS (.inl (cyI, 0, .inl (fun _ => 0)))) qF (.inr (3, [.ref qS, .int 0])) := ⟨_, rfl⟩
  have eF : g2 qF = .inr (3, [.ref qS, .int 0]) := by rw [hg2]; exact up_s _ _ _
  have eS : g2 qS = .inl (cyI, 0, .inl (fun _ => 0)) := by rw [hg2, up_n (Ne.symm hne)]; exact up_s _ _ _
  have Z : gZ D (gT cyI cyJ cyO) [(b, .inr (5, [.ref q1, .ref q2, .null, .null, .null, .null, .null, .int 0, .int 0])), (q1, .inr (2, [.ref q7, .int 0])), (q7, .inl (cyI, 15, .inl (fun _ => 0))), (q2, .inr (4, [.ref qr.1, .ref qr.2, .int 0])), (qr.1, .inl (cyI, 0, .inl (fun _ => 0))), (qr.2, .inl (cyJ, 0, .inr (.inl (fun _ => 0)))), (qF, g2 qF), (qS, g2 qS)] A bs s H locs := by
    rw [hg2]
    subst hX6
    exact Z
  refine g_putF C0.1 hnm Z 0 (ci := 5) rfl rfl 2 (by decide) kX3_init_in kX3_init_30 rfl rfl tyX3 tyX3_ok nmX3 rfl (by rfl) (by rfl) (Nat.le_of_ble_eq_true rfl) dX3_init_37 rfl (fun H locs Z => ?_)
  refine lv_aload_n C0.1.1 C0.1.2.1 dX3_init_40 rfl (lv_at hl 0 rfl) ?_
  refine lv_bipush (v := 30) C0.1.1 C0.1.2.1 dX3_init_41 (by decide +kernel) ?_
  refine g_newO C0.1 hO kX3_init_c1 Z (N' := 30) (by decide) rfl (Nat.le_of_ble_eq_true rfl) (Nat.le_of_ble_eq_true rfl) (Nat.le_of_ble_eq_true rfl) dX3_init_43 (fun q3 H Z => ?_)
  refine g_putF C0.1 hnm Z 0 (ci := 5) rfl rfl 3 (by decide) kX3_init_in kX3_init_34 rfl rfl tyX3 tyX3_ok nmX3 rfl (by rfl) (by rfl) (Nat.le_of_ble_eq_true rfl) dX3_init_46 rfl (fun H locs Z => ?_)
  refine lv_aload_n C0.1.1 C0.1.2.1 dX3_init_49 rfl (lv_at hl 0 rfl) ?_
  refine lv_bipush (v := 120) C0.1.1 C0.1.2.1 dX3_init_50 (by decide +kernel) ?_
  refine g_newO C0.1 hO kX3_init_c1 Z (N' := 120) (by decide) rfl (Nat.le_of_ble_eq_true rfl) (Nat.le_of_ble_eq_true rfl) (Nat.le_of_ble_eq_true rfl) dX3_init_52 (fun q4 H Z => ?_)
  refine g_putF C0.1 hnm Z 0 (ci := 5) rfl rfl 4 (by decide) kX3_init_in kX3_init_38 rfl rfl tyX3 tyX3_ok nmX3 rfl (by rfl) (by rfl) (Nat.le_of_ble_eq_true rfl) dX3_init_55 rfl (fun H locs Z => ?_)
  refine lv_aload_n C0.1.1 C0.1.2.1 dX3_init_58 rfl (lv_at hl 0 rfl) ?_
  refine lv_bipush (v := 30) C0.1.1 C0.1.2.1 dX3_init_59 (by decide +kernel) ?_
  refine g_newL C0.1 kX3_init_J Z (N' := 30) (by decide) rfl (Nat.le_of_ble_eq_true rfl) (Nat.le_of_ble_eq_true rfl) (Nat.le_of_ble_eq_true rfl) dX3_init_61 (fun q5 H Z => ?_)
  refine g_putF C0.1 hnm Z 0 (ci := 5) rfl rfl 5 (by decide) kX3_init_in kX3_init_41 rfl rfl tyX3 tyX3_ok nmX3 rfl (by rfl) (by rfl) (Nat.le_of_ble_eq_true rfl) dX3_init_63 rfl (fun H locs Z => ?_)
  refine lv_aload_n C0.1.1 C0.1.2.1 dX3_init_66 rfl (lv_at hl 0 rfl) ?_
  refine lv_bipush (v := 30) C0.1.1 C0.1.2.1 dX3_init_67 (by decide +kernel) ?_
  refine g_newL C0.1 kX3_init_J Z (N' := 30) (by decide) rfl (Nat.le_of_ble_eq_true rfl) (Nat.le_of_ble_eq_true rfl) (Nat.le_of_ble_eq_true rfl) dX3_init_69 (fun q6 H Z => ?_)
  refine g_putF C0.1 hnm Z 0 (ci := 5) rfl rfl 6 (by decide) kX3_init_in kX3_init_45 rfl rfl tyX3 tyX3_ok nmX3 rfl (by rfl) (by rfl) (Nat.le_of_ble_eq_true rfl) dX3_init_71 rfl (fun H locs Z => ?_)
  obtain ⟨d, hd⟩ : ∃ d : Nat → Nat, d = fun k => [b, q1, q2, q3, q4, q5, q6, q7].getD k 0 := ⟨_, rfl⟩
  have Z : gZ D (gT cyI cyJ cyO) (XE d cyI cyJ cyO qF qr.1 qr.2 (fun _ => none) (fun _ => none) ++ va_pl [qF, qS] g2) A bs s H locs := by
    subst hd
    exact ⟨Z.1.sub [0, 1, 3, 8, 9, 10, 11, 2, 6, 7] rfl, Z.2.1, Z.2.2.1.sub [0, 1, 3, 8, 9, 10, 11, 2, 6, 7] (by decide) rfl, Z.2.2.2⟩
  have hb : d 0 = b := by subst hd; rfl
  rw [← hb] at hl
  refine lv_iconst (v := 0) C0.1.1 C0.1.2.1 dX3_init_74 (by decide) ?_
  refine lv_istore_n (lv' := [(1, .int 0), (0, .ref (d 0))]) C0.1.1 C0.1.2.1 dX3_init_75 rfl hl (by decide) rfl (fun ls hl => ?_)
  refine wX3_init_76 C0 ⟨_, by simp, eF⟩ (fun u v H locs ls hu Z hl _ => ?_) 30 0 _ _ _ _ _ rfl (fun _ z => absurd z (Nat.not_lt_zero _)) trivial Z (lv_sub hl [1, 0] rfl)
  refine lv_iconst (v := 0) C0.1.1 C0.1.2.1 dX3_init_101 (by decide) ?_
  refine lv_istore_n (lv' := [(1, .int 0), (0, .ref (d 0))]) C0.1.1 C0.1.2.1 dX3_init_102 rfl hl (by decide) rfl (fun ls hl => ?_)
  refine wX3_init_103 C0 ⟨_, by simp, eF⟩ (fun u v H locs ls hv' Z hl hu => ?_) 120 0 _ _ _ _ _ rfl (fun _ z => absurd z (Nat.not_lt_zero _)) hu Z (lv_sub hl [1, 0] rfl)
  have Z : gZ D (gT cyI cyJ cyO) (XD d cyI cyJ cyO qF (d 5) (d 6) qr.1 qr.2 0 (fun _ => qF) (fun _ => qF) 0 0 0 (fun _ => 0) (fun _ => 0) (fun _ => 0) ++ va_pl [qF, qS] g2) A bs s H locs := by
    refine ⟨fun k q hk => ?_, Z.2.1, ⟨fun i j p q h1 h2 h3 => ?_, fun k q hk => ?_⟩, Z.2.2.2⟩
    · rcases k with _ | _ | _ | _ | _ | k
      · exact Z.1 0 q hk
      · exact Z.1 1 q hk
      · exact Z.1 2 q hk
      · cases hk
        have h0 := Z.1 3 _ rfl
        refine h0.trans ?_
        show some (vp_cell cyO (30, _)) = some (vp_cell cyO (30, _))
        rw [vp_cell_q, vp_cell_q, arrV_cg (fun k hk => by rw [hu k hk])]
      · cases hk
        have h0 := Z.1 4 _ rfl
        refine h0.trans ?_
        show some (vp_cell cyO (120, _)) = some (vp_cell cyO (120, _))
        rw [vp_cell_q, vp_cell_q, arrV_cg (fun k hk => by rw [hv' k hk])]
      · exact Z.1 (k + 5) q hk
    · have ad : ∀ (i : Nat) (p : Nat × va_E), (XD d cyI cyJ cyO qF (d 5) (d 6) qr.1 qr.2 0 (fun _ => qF) (fun _ => qF) 0 0 0 (fun _ => 0) (fun _ => 0) (fun _ => 0) ++ va_pl [qF, qS] g2)[i]? = some p → ∃ e, (XE d cyI cyJ cyO qF qr.1 qr.2 u v ++ va_pl [qF, qS] g2)[i]? = some (p.1, e) := fun i p h => by
        rcases i with _ | _ | _ | _ | _ | i
        · exact ⟨_, by cases h; rfl⟩
        · exact ⟨_, by cases h; rfl⟩
        · exact ⟨_, by cases h; rfl⟩
        · exact ⟨_, by cases h; rfl⟩
        · exact ⟨_, by cases h; rfl⟩
        · exact ⟨p.2, h⟩
      obtain ⟨e1, a1⟩ := ad i p h1
      obtain ⟨e2, a2⟩ := ad j q h2
      exact Z.2.2.1.1 i j _ _ a1 a2 h3
    · rcases k with _ | _ | _ | _ | _ | k
      · cases hk; exact Z.2.2.1.2 0 _ rfl
      · cases hk; exact Z.2.2.1.2 1 _ rfl
      · cases hk; exact Z.2.2.1.2 2 _ rfl
      · cases hk; exact Z.2.2.1.2 3 (d 3, .inl (cyO, 30, .inr (.inr (.inr (.inr u))))) rfl
      · cases hk; exact Z.2.2.1.2 4 (d 4, .inl (cyO, 120, .inr (.inr (.inr (.inr v))))) rfl
      · exact Z.2.2.1.2 (k + 5) q hk
  have hF : isF cyI [qF, qS] g2 qF 0 0 (fun _ => 0) := ⟨by simp, qS, eF, by simp, fun _ => 0, eS, fun _ _ => rfl⟩
  refine W.vret C0.1.1 C0.1.2.1 C0.2.1 (fun t ht hW => ⟨⟨(d, qF, [qF, qS], g2), rfl, hb, ⟨qr.1, qr.2, 0, fun _ => qF, fun _ => qF, g_end Z ht hW, fun k _ => hF, fun k _ => hF, hF⟩⟩, va_S.F Z.2.2.2.1 ht⟩) Z.2.2.2.1.2.2 dX3_init_128 C0.2.2
