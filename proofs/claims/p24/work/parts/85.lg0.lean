/-! the walk of L_low -/
abbrev rmL_low : Room := { frames := 0, cells := 0, slots := 0, locals := 0 }
theorem kL_low_c7 : Cond.constant RL 7 (2147483647) ∈ wsL_low := by decide +kernel
set_option maxRecDepth 20000 in
set_option maxHeartbeats 4000000 in
theorem zL_low (l : Launch) (p0 : Int32) (p1 : Int32) (res : Int32) (h : mL_low p0 p1 = some res) : Met l yL_low wsL_low rmL_low (va_Pc [.int p0, .int p1] (fun _ => True)) (va_Qi (fun (r : Int32) (_ : Unit) => res = r) (fun _ _ => True) (fun _ => False)) 0 0 (fun _ => False) := by
  refine Met.ofW (cc := cL_low) (maxL := 2) (ret := (some .int)) (by decide) rfl ?_
  intro p e s m args below meth c s₁ B hml hv
  obtain ⟨hav, hv⟩ := hv
  have C0 : gC p m meth c cL_low 2 (some .int) s args wsL_low RL := ⟨⟨B.exec, B.bytes, hml, findClass_of_methodNamed B.named, atoms_spec (ws := wsL_low) B.pre⟩, B.returns, B.notSynchronized⟩
  have Z : va_S (fun _ => False) s.heap s.heap [] := va_S.rf
  have hret : ∀ (r : Int32) (H : Heap) (locs : List Loc) (pc : Nat) (ls : Array Slot) (t : Nat), t ≤ 0 → some r = some res → va_S (fun _ => False) s.heap H locs → decode cL_low pc = .ok (.ireturn, 1) → W p l e rmL_low s m args below meth c H locs t (12 * t) (MQ below (va_Qi (fun (r : Int32) (_ : Unit) => res = r) (fun _ _ => True) (fun _ => False)) args s 0 0 (fun _ => False)) (F0 m pc ls [.int r]) := by
    intro r H locs pc ls t ht1 h Z hd
    replace h := Option.some.inj h
    subst h
    refine W.widen (k := 0) (n := 0) (by omega) (by omega) ?_
    exact W.iret C0.1.1 C0.1.2.1 C0.2.1 (fun t ht hW => ⟨⟨r, (), rfl, rfl, trivial⟩, va_S.F (Z) ht⟩) (Z).2.2 hd C0.2.2
  have hl := lv_entry ([.int p0, .int p1]) (n := 2) (Nat.le_of_ble_eq_true rfl)
  rw [hav, lg_entry_eq]
  generalize (lg_sl ([.int p0, .int p1]) ++ List.replicate (2 - (lg_sl ([.int p0, .int p1])).length) Slot.unset).toArray = ls at hl ⊢
  have hl : lv_has ls 2 [(0, .int p0), (1, .int p1)] := hl
  rw [← hav]
  unfold mL_low at h
  obtain ⟨t, ht0⟩ : ∃ t : Nat, t = 0 := ⟨0, rfl⟩
  refine W.widen (k := t) (n := 12 * t) (Nat.zero_le _) (Nat.zero_le _) ?_
  refine lv_iload_n C0.1.1 C0.1.2.1 dL_low_0 rfl (lv_at hl 0 rfl) ?_
  refine lv_ldc C0.1.1 C0.1.2.1 C0.1.2.2.2.1 (C0.1.2.2.2.2 _ kL_low_c7) dL_low_1 ?_
  refine lv_iand C0.1.1 C0.1.2.1 dL_low_3 ?_
  refine lv_iload_n C0.1.1 C0.1.2.1 dL_low_4 rfl (lv_at hl 1 rfl) ?_
  obtain ⟨hn2, h⟩ := g_ni h
  refine lv_irem C0.1.1 C0.1.2.1 dL_low_5 hn2 ?_
  exact hret ((p0 &&& (2147483647 : Int32)) - (p0 &&& (2147483647 : Int32)) / p1 * p1) _ _ _ _ t (by omega) h Z dL_low_6
/-! the walk of L_does -/
abbrev rmL_does : Room := { frames := 63, cells := 4, slots := 48, locals := 1531 }
theorem kL_does_l41 : Cond.classLink RL 41 "java/lang/IllegalStateException" ∈ wsL_does := by decide +kernel
theorem kL_does_l39 : Cond.classLink RL 39 "java/lang/IllegalArgumentException" ∈ wsL_does := by decide +kernel
theorem kL_does_l36 : Cond.classLink RL 36 "java/lang/IndexOutOfBoundsException" ∈ wsL_does := by decide +kernel
theorem kL_does_c38 : Cond.constant RL 38 (-99999) ∈ wsL_does := by decide +kernel
set_option maxRecDepth 20000 in
set_option maxHeartbeats 4000000 in
theorem wL_does_93 {p : Program} {l : Launch} {e : Env} {s : State} {m : MethodId} {args : Array Value} {below : List Frame} {meth : Method} {c : Code} {D : va_G} {cyI cyJ cyO : ClassId} {A : Nat → Prop} {bs : Nat} {d : Nat → Nat} {F : va_W} {Q : State → Prop} {res : Int32 × St} (C0 : gC p m meth c cL_does 4 (some .int) s args wsL_does RL) (hA : ∀ q, bs ≤ q → A q) (hN : lQN s) (hT : dT A s) (hlf : l.stackTraces = false) (htab : c.exceptionTable.toList = tableOf [(0, 93, 94, 36), (0, 93, 98, 39), (0, 93, 102, 41)]) (hret : ∀ (r : Int32) (σ_r : St) (H : Heap) (locs : List Loc) (pc : Nat) (ls : Array Slot) (t : Nat), t ≤ 4 → some (r, σ_r) = some res → aZ F D cyI cyJ cyO A bs d σ_r s H locs → decode cL_does pc = .ok (.ireturn, 1) → W p l e rmL_does s m args below meth c H locs t (12 * t) Q (F0 m pc ls [.int r]))  : ∀ (σ : St) (s0 : Int32) (H : Heap) (locs : List Loc) (ls : Array Slot) (t : Nat), t + (0) ≤ 4 → mL_does_93 σ s0 = some res → aZ F D cyI cyJ cyO A bs d σ s H locs → lv_has ls 4 [] → W p l e rmL_does s m args below meth c H locs t (12 * t) Q (F0 m 93 ls [.int s0]) := by
  intro σ s0 H locs ls t ht0 h Z hl
  unfold mL_does_93 at h
  exact hret s0 σ _ _ _ _ t (by omega) h Z dL_does_93
set_option maxRecDepth 20000 in
set_option maxHeartbeats 4000000 in
theorem zL_does (l : Launch) (hlf : l.stackTraces = false) (D : va_G) (cyI cyJ cyO : ClassId) (A : Nat → Prop) (bs : Nat) (hA : ∀ q, bs ≤ q → A q) (F : va_W) (d : Nat → Nat) (σ : St) (p1 : Int32) (p2 : Int32) (res : Int32 × St) (h : mL_does σ p1 p2 = some res) : Met l yL_does wsL_does rmL_does (va_Pc [.ref (d 0), .int p1, .int p2] (lP (aW F D cyI cyJ cyO A bs d σ) A)) (va_Qi (fun (r : Int32) (u : St) => res.1 = r ∧ res.2 = u) (fun (u : St) => aW F D cyI cyJ cyO A bs d u) A) 4 48 A := by
  refine Met_ofWH (cc := cL_does) (maxL := 4) (ret := (some .int)) (by decide) rfl ?_
  intro p e s m args below meth c s₁ B hml htab hv
  obtain ⟨hav, hv⟩ := hv
  obtain ⟨hv, hN, hT⟩ := hv
  have C0 : gC p m meth c cL_does 4 (some .int) s args wsL_does RL := ⟨⟨B.exec, B.bytes, hml, findClass_of_methodNamed B.named, atoms_spec (ws := wsL_does) B.pre⟩, B.returns, B.notSynchronized⟩
  have Z := aZ_start hA hv
  have hret : ∀ (r : Int32) (σ_r : St) (H : Heap) (locs : List Loc) (pc : Nat) (ls : Array Slot) (t : Nat), t ≤ 4 → some (r, σ_r) = some res → aZ F D cyI cyJ cyO A bs d σ_r s H locs → decode cL_does pc = .ok (.ireturn, 1) → W p l e rmL_does s m args below meth c H locs t (12 * t) (MQ below (va_Qi (fun (r : Int32) (u : St) => res.1 = r ∧ res.2 = u) (fun (u : St) => aW F D cyI cyJ cyO A bs d u) A) args s 4 48 A) (F0 m pc ls [.int r]) := by
    intro r σ_r H locs pc ls t ht1 h Z hd
    replace h := Option.some.inj h
    subst h
    refine W.widen (k := 4) (n := 48) (by omega) (by omega) ?_
    exact W.iret C0.1.1 C0.1.2.1 C0.2.1 (fun t ht hW => ⟨⟨r, σ_r, rfl, ⟨rfl, rfl⟩, aZ_end Z ht hW⟩, va_S.F (aZ_S Z) ht⟩) (aZ_S Z).2.2 hd C0.2.2
  have hl := lv_entry ([.ref (d 0), .int p1, .int p2]) (n := 4) (Nat.le_of_ble_eq_true rfl)
  rw [hav, lg_entry_eq]
  generalize (lg_sl ([.ref (d 0), .int p1, .int p2]) ++ List.replicate (4 - (lg_sl ([.ref (d 0), .int p1, .int p2])).length) Slot.unset).toArray = ls at hl ⊢
  have hl : lv_has ls 4 [(0, .ref (d 0)), (1, .int p1), (2, .int p2)] := hl
  rw [← hav]
  unfold mL_does at h
  obtain ⟨t, ht0⟩ : ∃ t : Nat, t = 0 := ⟨0, rfl⟩
  refine W.widen (k := t) (n := 12 * t) (Nat.zero_le _) (Nat.zero_le _) ?_
  refine lv_iload_n C0.1.1 C0.1.2.1 dL_does_0 rfl (lv_at hl 1 rfl) ?_
  refine lv_if_ne (tgt := 12) C0.1.1 C0.1.2.1 dL_does_1 (by decide) (fun hc => ?_) (fun hc => ?_)
  · replace h := (if_neg hc).symm.trans h
    refine lv_iload_n C0.1.1 C0.1.2.1 dL_does_12 rfl (lv_at hl 1 rfl) ?_
    refine lv_iconst (v := 1) C0.1.1 C0.1.2.1 dL_does_13 (by decide) ?_
    refine lv_icmp_ne (tgt := 25) C0.1.1 C0.1.2.1 dL_does_14 (by decide) (fun hc => ?_) (fun hc => ?_)
    · replace h := (if_neg hc).symm.trans h
      refine lv_iload_n C0.1.1 C0.1.2.1 dL_does_25 rfl (lv_at hl 1 rfl) ?_
      refine lv_iconst (v := 2) C0.1.1 C0.1.2.1 dL_does_26 (by decide) ?_
      refine lv_icmp_ne (tgt := 38) C0.1.1 C0.1.2.1 dL_does_27 (by decide) (fun hc => ?_) (fun hc => ?_)
      · replace h := (if_neg hc).symm.trans h
        refine lv_iload_n C0.1.1 C0.1.2.1 dL_does_38 rfl (lv_at hl 1 rfl) ?_
        refine lv_iconst (v := 3) C0.1.1 C0.1.2.1 dL_does_39 (by decide) ?_
        refine lv_icmp_ne (tgt := 51) C0.1.1 C0.1.2.1 dL_does_40 (by decide) (fun hc => ?_) (fun hc => ?_)
        · replace h := (if_neg hc).symm.trans h
          refine lv_iload_n C0.1.1 C0.1.2.1 dL_does_51 rfl (lv_at hl 1 rfl) ?_
          refine lv_iconst (v := 4) C0.1.1 C0.1.2.1 dL_does_52 (by decide) ?_
          refine lv_icmp_ne (tgt := 64) C0.1.1 C0.1.2.1 dL_does_53 (by decide) (fun hc => ?_) (fun hc => ?_)
          · replace h := (if_neg hc).symm.trans h
            refine lv_iload_n C0.1.1 C0.1.2.1 dL_does_64 rfl (lv_at hl 1 rfl) ?_
            refine lv_iconst (v := 5) C0.1.1 C0.1.2.1 dL_does_65 (by decide) ?_
            refine lv_icmp_ne (tgt := 76) C0.1.1 C0.1.2.1 dL_does_66 (by decide) (fun hc => ?_) (fun hc => ?_)
            · replace h := (if_neg hc).symm.trans h
              refine lv_iload_n C0.1.1 C0.1.2.1 dL_does_76 rfl (lv_at hl 1 rfl) ?_
              refine lv_bipush (v := 6) C0.1.1 C0.1.2.1 dL_does_77 (by decide +kernel) ?_
              refine lv_icmp_ne (tgt := 89) C0.1.1 C0.1.2.1 dL_does_79 (by decide) (fun hc => ?_) (fun hc => ?_)
              · replace h := (if_neg hc).symm.trans h
                refine lv_aload_n C0.1.1 C0.1.2.1 dL_does_89 rfl (lv_at hl 0 rfl) ?_
                refine vx_calli (vx_runV (b := d 0) (C := RX3) (As := []) (rest := []) C0.1 (o_keep l hlf D cyI cyJ cyO A bs hA F d σ) (cwV 0 C0.1.2.2.2.2 gL_does_X3_keep rfl rfl rfl (by decide +kernel) ⟨Nat.le_of_ble_eq_true rfl, Nat.le_of_ble_eq_true rfl⟩) ⟨aP_blind, aZ_recv Z, aP_pre Z hN hT _⟩ rfl rfl hl.1 rfl (lv_room (Nat.le_of_ble_eq_true rfl)) dL_does_90 ⟨by show t + 1 ≤ 4; omega, by show 12 * t + 6 ≤ 48; omega⟩) (aZ_S Z) (fun _ _ h => h) (fun _ h => h) (fun _ _ h => h) (fun E ce q9 u t1 H1 locs1 ht hvm _ hB _ hk hS h1 h2 h3 => ?_) (fun y u t1 H locs ht hvm hw hB _ hk hS => ?_)
                · obtain ⟨⟨hno, hE⟩, hB⟩ := hB
                  have Z := aZ_post Z ht hvm hB hS
                  replace h := (oc_n hno).symm.trans h
                  replace hE : E = "java/lang/IllegalStateException" := hE
                  subst hE
                  refine vx_catch (E := "java/lang/IllegalStateException") C0.1.2.2.2.1 [⟨0, 93, 94, 36⟩, ⟨0, 93, 98, 39⟩] ⟨0, 93, 102, 41⟩ [] htab (List.forall_mem_cons.mpr ⟨.inr ⟨by decide, _, C0.1.2.2.2.2 _ kL_does_l36, hN.2 ("java/lang/IllegalStateException", "java/lang/IndexOutOfBoundsException") (by decide +kernel)⟩, List.forall_mem_cons.mpr ⟨.inr ⟨by decide, _, C0.1.2.2.2.2 _ kL_does_l39, hN.2 ("java/lang/IllegalStateException", "java/lang/IllegalArgumentException") (by decide +kernel)⟩, fun _ z => nomatch z⟩⟩) (by decide) (by decide) (C0.1.2.2.2.2 _ kL_does_l41) (nestW_use hN.1 (.castable "java/lang/IllegalStateException" "java/lang/IllegalStateException") (by decide +kernel)) h1 h2 h3 ?_
                  refine lv_astore_n (lv' := [(3, .ref q9), (0, .ref (d 0)), (1, .int p1), (2, .int p2)]) C0.1.1 C0.1.2.1 dL_does_102 rfl hl (by decide) rfl (fun ls hl => ?_)
                  refine lv_ldc C0.1.1 C0.1.2.1 C0.1.2.2.2.1 (C0.1.2.2.2.2 _ kL_does_c38) dL_does_103 ?_
                  refine W.widen (k := (t + 1)) (n := 12 * (t + 1)) (by omega) (by omega) ?_
                  exact hret _ ((aKeep σ).2) _ _ _ _ (t + 1) (by omega) h Z dL_does_105
                replace h := (oc_s hw).symm.trans h
                replace Z := aZ_post Z ht hvm hB hS
                refine W.widen (k := (t + 1)) (n := 12 * (t + 1)) (by omega) (by omega) ?_
                exact wL_does_93 C0 hA hN hT hlf htab hret ((aKeep σ).2) y _ _ _ (t + 1) (by omega) h Z (lv_sub hl [] rfl)
              · replace h := (if_pos hc).symm.trans h
                refine lv_aload_n C0.1.1 C0.1.2.1 dL_does_82 rfl (lv_at hl 0 rfl) ?_
                refine vx_calli (vx_runV (b := d 0) (C := RX3) (As := []) (rest := []) C0.1 (o_drop l hlf D cyI cyJ cyO A bs hA F d σ) (cwV 0 C0.1.2.2.2.2 gL_does_X3_drop rfl rfl rfl (by decide +kernel) ⟨Nat.le_of_ble_eq_true rfl, Nat.le_of_ble_eq_true rfl⟩) ⟨aP_blind, aZ_recv Z, aP_pre Z hN hT _⟩ rfl rfl hl.1 rfl (lv_room (Nat.le_of_ble_eq_true rfl)) dL_does_83 ⟨by show t + 1 ≤ 4; omega, by show 12 * t + 6 ≤ 48; omega⟩) (aZ_S Z) (fun _ _ h => h) (fun _ h => h) (fun _ _ h => h) (fun E ce q9 u t1 H1 locs1 ht hvm _ hB _ hk hS h1 h2 h3 => ?_) (fun y u t1 H locs ht hvm hw hB _ hk hS => ?_)
                · obtain ⟨⟨hno, hE⟩, hB⟩ := hB
                  have Z := aZ_post Z ht hvm hB hS
                  replace h := (oc_n hno).symm.trans h
                  replace hE : E = "java/lang/IllegalStateException" := hE
                  subst hE
                  refine vx_catch (E := "java/lang/IllegalStateException") C0.1.2.2.2.1 [⟨0, 93, 94, 36⟩, ⟨0, 93, 98, 39⟩] ⟨0, 93, 102, 41⟩ [] htab (List.forall_mem_cons.mpr ⟨.inr ⟨by decide, _, C0.1.2.2.2.2 _ kL_does_l36, hN.2 ("java/lang/IllegalStateException", "java/lang/IndexOutOfBoundsException") (by decide +kernel)⟩, List.forall_mem_cons.mpr ⟨.inr ⟨by decide, _, C0.1.2.2.2.2 _ kL_does_l39, hN.2 ("java/lang/IllegalStateException", "java/lang/IllegalArgumentException") (by decide +kernel)⟩, fun _ z => nomatch z⟩⟩) (by decide) (by decide) (C0.1.2.2.2.2 _ kL_does_l41) (nestW_use hN.1 (.castable "java/lang/IllegalStateException" "java/lang/IllegalStateException") (by decide +kernel)) h1 h2 h3 ?_
                  refine lv_astore_n (lv' := [(3, .ref q9), (0, .ref (d 0)), (1, .int p1), (2, .int p2)]) C0.1.1 C0.1.2.1 dL_does_102 rfl hl (by decide) rfl (fun ls hl => ?_)
                  refine lv_ldc C0.1.1 C0.1.2.1 C0.1.2.2.2.1 (C0.1.2.2.2.2 _ kL_does_c38) dL_does_103 ?_
                  refine W.widen (k := (t + 1)) (n := 12 * (t + 1)) (by omega) (by omega) ?_
                  exact hret _ ((aDrop σ).2) _ _ _ _ (t + 1) (by omega) h Z dL_does_105
                replace h := (oc_s hw).symm.trans h
                replace Z := aZ_post Z ht hvm hB hS
                refine W.widen (k := (t + 1)) (n := 12 * (t + 1)) (by omega) (by omega) ?_
                refine lv_goto (tgt := 93) C0.1.1 C0.1.2.1 dL_does_86 (by decide) ?_
                exact wL_does_93 C0 hA hN hT hlf htab hret ((aDrop σ).2) y _ _ _ (t + 1) (by omega) h Z (lv_sub hl [] rfl)
            · replace h := (if_pos hc).symm.trans h
              refine lv_aload_n C0.1.1 C0.1.2.1 dL_does_69 rfl (lv_at hl 0 rfl) ?_
              refine vx_calli (vx_runV (b := d 0) (C := RX3) (As := []) (rest := []) C0.1 (o_open l hlf D cyI cyJ cyO A bs hA F d σ) (cwV 0 C0.1.2.2.2.2 gL_does_X3_open rfl rfl rfl (by decide +kernel) ⟨Nat.le_of_ble_eq_true rfl, Nat.le_of_ble_eq_true rfl⟩) ⟨aP_blind, aZ_recv Z, aP_pre Z hN hT _⟩ rfl rfl hl.1 rfl (lv_room (Nat.le_of_ble_eq_true rfl)) dL_does_70 ⟨by show t + 1 ≤ 4; omega, by show 12 * t + 6 ≤ 48; omega⟩) (aZ_S Z) (fun _ _ h => h) (fun _ h => h) (fun _ _ h => h) (fun E ce q9 u t1 H1 locs1 ht hvm _ hB _ hk hS h1 h2 h3 => ?_) (fun y u t1 H locs ht hvm hw hB _ hk hS => ?_)
              · obtain ⟨⟨hno, hE⟩, hB⟩ := hB
                have Z := aZ_post Z ht hvm hB hS
                replace h := (oc_n hno).symm.trans h
                replace hE : E = "java/lang/IllegalStateException" := hE
                subst hE
                refine vx_catch (E := "java/lang/IllegalStateException") C0.1.2.2.2.1 [⟨0, 93, 94, 36⟩, ⟨0, 93, 98, 39⟩] ⟨0, 93, 102, 41⟩ [] htab (List.forall_mem_cons.mpr ⟨.inr ⟨by decide, _, C0.1.2.2.2.2 _ kL_does_l36, hN.2 ("java/lang/IllegalStateException", "java/lang/IndexOutOfBoundsException") (by decide +kernel)⟩, List.forall_mem_cons.mpr ⟨.inr ⟨by decide, _, C0.1.2.2.2.2 _ kL_does_l39, hN.2 ("java/lang/IllegalStateException", "java/lang/IllegalArgumentException") (by decide +kernel)⟩, fun _ z => nomatch z⟩⟩) (by decide) (by decide) (C0.1.2.2.2.2 _ kL_does_l41) (nestW_use hN.1 (.castable "java/lang/IllegalStateException" "java/lang/IllegalStateException") (by decide +kernel)) h1 h2 h3 ?_
                refine lv_astore_n (lv' := [(3, .ref q9), (0, .ref (d 0)), (1, .int p1), (2, .int p2)]) C0.1.1 C0.1.2.1 dL_does_102 rfl hl (by decide) rfl (fun ls hl => ?_)
                refine lv_ldc C0.1.1 C0.1.2.1 C0.1.2.2.2.1 (C0.1.2.2.2.2 _ kL_does_c38) dL_does_103 ?_
                refine W.widen (k := (t + 1)) (n := 12 * (t + 1)) (by omega) (by omega) ?_
                exact hret _ ((aOpen σ).2) _ _ _ _ (t + 1) (by omega) h Z dL_does_105
              replace h := (oc_s hw).symm.trans h
              replace Z := aZ_post Z ht hvm hB hS
              refine W.widen (k := (t + 1)) (n := 12 * (t + 1)) (by omega) (by omega) ?_
              refine lv_goto (tgt := 93) C0.1.1 C0.1.2.1 dL_does_73 (by decide) ?_
              exact wL_does_93 C0 hA hN hT hlf htab hret ((aOpen σ).2) y _ _ _ (t + 1) (by omega) h Z (lv_sub hl [] rfl)
          · replace h := (if_pos hc).symm.trans h
            refine lv_aload_n C0.1.1 C0.1.2.1 dL_does_56 rfl (lv_at hl 0 rfl) ?_
            refine lv_iload_n C0.1.1 C0.1.2.1 dL_does_57 rfl (lv_at hl 2 rfl) ?_
            refine vx_calli (vx_runV (b := d 0) (C := RX3) (As := [.int p2]) (rest := []) C0.1 (o_clear l hlf D cyI cyJ cyO A bs hA F d σ p2) (cwV 1 C0.1.2.2.2.2 gL_does_X3_clear rfl rfl rfl (by decide +kernel) ⟨Nat.le_of_ble_eq_true rfl, Nat.le_of_ble_eq_true rfl⟩) ⟨aP_blind, aZ_recv Z, aP_pre Z hN hT _⟩ rfl rfl hl.1 rfl (lv_room (Nat.le_of_ble_eq_true rfl)) dL_does_58 ⟨by show t + 1 ≤ 4; omega, by show 12 * t + 6 ≤ 48; omega⟩) (aZ_S Z) (fun _ _ h => h) (fun _ h => h) (fun _ _ h => h) (fun E ce q9 u t1 H1 locs1 ht hvm _ hB _ hk hS h1 h2 h3 => ?_) (fun y u t1 H locs ht hvm hw hB _ hk hS => ?_)
            · obtain ⟨⟨hno, hE⟩, hB⟩ := hB
              have Z := aZ_post Z ht hvm hB hS
              replace h := (oc_n hno).symm.trans h
              replace hE : E = "java/lang/IndexOutOfBoundsException" := hE
              subst hE
              refine vx_catch (E := "java/lang/IndexOutOfBoundsException") C0.1.2.2.2.1 [] ⟨0, 93, 94, 36⟩ [⟨0, 93, 98, 39⟩, ⟨0, 93, 102, 41⟩] htab (fun _ z => nomatch z) (by decide) (by decide) (C0.1.2.2.2.2 _ kL_does_l36) (nestW_use hN.1 (.castable "java/lang/IndexOutOfBoundsException" "java/lang/IndexOutOfBoundsException") (by decide +kernel)) h1 h2 h3 ?_
              refine lv_astore_n (lv' := [(3, .ref q9), (0, .ref (d 0)), (1, .int p1), (2, .int p2)]) C0.1.1 C0.1.2.1 dL_does_94 rfl hl (by decide) rfl (fun ls hl => ?_)
              refine lv_ldc C0.1.1 C0.1.2.1 C0.1.2.2.2.1 (C0.1.2.2.2.2 _ kL_does_c38) dL_does_95 ?_
              refine W.widen (k := (t + 1)) (n := 12 * (t + 1)) (by omega) (by omega) ?_
              exact hret _ ((aClear σ p2).2) _ _ _ _ (t + 1) (by omega) h Z dL_does_97
            replace h := (oc_s hw).symm.trans h
            replace Z := aZ_post Z ht hvm hB hS
            refine W.widen (k := (t + 1)) (n := 12 * (t + 1)) (by omega) (by omega) ?_
            refine lv_goto (tgt := 93) C0.1.1 C0.1.2.1 dL_does_61 (by decide) ?_
            exact wL_does_93 C0 hA hN hT hlf htab hret ((aClear σ p2).2) y _ _ _ (t + 1) (by omega) h Z (lv_sub hl [] rfl)
        · replace h := (if_pos hc).symm.trans h
          refine lv_aload_n C0.1.1 C0.1.2.1 dL_does_43 rfl (lv_at hl 0 rfl) ?_
          refine lv_iload_n C0.1.1 C0.1.2.1 dL_does_44 rfl (lv_at hl 2 rfl) ?_
          refine vx_calli (vx_runV (b := d 0) (C := RX3) (As := [.int p2]) (rest := []) C0.1 (o_set l hlf D cyI cyJ cyO A bs hA F d σ p2) (cwV 1 C0.1.2.2.2.2 gL_does_X3_set rfl rfl rfl (by decide +kernel) ⟨Nat.le_of_ble_eq_true rfl, Nat.le_of_ble_eq_true rfl⟩) ⟨aP_blind, aZ_recv Z, aP_pre Z hN hT _⟩ rfl rfl hl.1 rfl (lv_room (Nat.le_of_ble_eq_true rfl)) dL_does_45 ⟨by show t + 4 ≤ 4; omega, by show 12 * t + 29 ≤ 48; omega⟩) (aZ_S Z) (fun _ _ h => h) (fun _ h => h) (fun _ _ h => h) (fun E ce q9 u t1 H1 locs1 ht hvm _ hB _ hk hS h1 h2 h3 => ?_) (fun y u t1 H locs ht hvm hw hB _ hk hS => ?_)
          · obtain ⟨⟨hno, hE⟩, hB⟩ := hB
            have Z := aZ_post Z ht hvm hB hS
            replace h := (oc_n hno).symm.trans h
            rcases hE with hE | hE | hE
            · replace hE : E = "java/lang/IndexOutOfBoundsException" := hE
              subst hE
              refine vx_catch (E := "java/lang/IndexOutOfBoundsException") C0.1.2.2.2.1 [] ⟨0, 93, 94, 36⟩ [⟨0, 93, 98, 39⟩, ⟨0, 93, 102, 41⟩] htab (fun _ z => nomatch z) (by decide) (by decide) (C0.1.2.2.2.2 _ kL_does_l36) (nestW_use hN.1 (.castable "java/lang/IndexOutOfBoundsException" "java/lang/IndexOutOfBoundsException") (by decide +kernel)) h1 h2 h3 ?_
              refine lv_astore_n (lv' := [(3, .ref q9), (0, .ref (d 0)), (1, .int p1), (2, .int p2)]) C0.1.1 C0.1.2.1 dL_does_94 rfl hl (by decide) rfl (fun ls hl => ?_)
              refine lv_ldc C0.1.1 C0.1.2.1 C0.1.2.2.2.1 (C0.1.2.2.2.2 _ kL_does_c38) dL_does_95 ?_
              refine W.widen (k := (t + 4)) (n := 12 * (t + 4)) (by omega) (by omega) ?_
              exact hret _ ((aSet σ p2).2) _ _ _ _ (t + 4) (by omega) h Z dL_does_97
            · replace hE : E = "java/lang/IllegalArgumentException" := hE
              subst hE
              refine vx_catch (E := "java/lang/IllegalArgumentException") C0.1.2.2.2.1 [⟨0, 93, 94, 36⟩] ⟨0, 93, 98, 39⟩ [⟨0, 93, 102, 41⟩] htab (List.forall_mem_cons.mpr ⟨.inr ⟨by decide, _, C0.1.2.2.2.2 _ kL_does_l36, hN.2 ("java/lang/IllegalArgumentException", "java/lang/IndexOutOfBoundsException") (by decide +kernel)⟩, fun _ z => nomatch z⟩) (by decide) (by decide) (C0.1.2.2.2.2 _ kL_does_l39) (nestW_use hN.1 (.castable "java/lang/IllegalArgumentException" "java/lang/IllegalArgumentException") (by decide +kernel)) h1 h2 h3 ?_
              refine lv_astore_n (lv' := [(3, .ref q9), (0, .ref (d 0)), (1, .int p1), (2, .int p2)]) C0.1.1 C0.1.2.1 dL_does_98 rfl hl (by decide) rfl (fun ls hl => ?_)
              refine lv_ldc C0.1.1 C0.1.2.1 C0.1.2.2.2.1 (C0.1.2.2.2.2 _ kL_does_c38) dL_does_99 ?_
              refine W.widen (k := (t + 4)) (n := 12 * (t + 4)) (by omega) (by omega) ?_
              exact hret _ ((aSet σ p2).2) _ _ _ _ (t + 4) (by omega) h Z dL_does_101
            · replace hE : E = "java/lang/IllegalStateException" := hE
              subst hE
              refine vx_catch (E := "java/lang/IllegalStateException") C0.1.2.2.2.1 [⟨0, 93, 94, 36⟩, ⟨0, 93, 98, 39⟩] ⟨0, 93, 102, 41⟩ [] htab (List.forall_mem_cons.mpr ⟨.inr ⟨by decide, _, C0.1.2.2.2.2 _ kL_does_l36, hN.2 ("java/lang/IllegalStateException", "java/lang/IndexOutOfBoundsException") (by decide +kernel)⟩, List.forall_mem_cons.mpr ⟨.inr ⟨by decide, _, C0.1.2.2.2.2 _ kL_does_l39, hN.2 ("java/lang/IllegalStateException", "java/lang/IllegalArgumentException") (by decide +kernel)⟩, fun _ z => nomatch z⟩⟩) (by decide) (by decide) (C0.1.2.2.2.2 _ kL_does_l41) (nestW_use hN.1 (.castable "java/lang/IllegalStateException" "java/lang/IllegalStateException") (by decide +kernel)) h1 h2 h3 ?_
              refine lv_astore_n (lv' := [(3, .ref q9), (0, .ref (d 0)), (1, .int p1), (2, .int p2)]) C0.1.1 C0.1.2.1 dL_does_102 rfl hl (by decide) rfl (fun ls hl => ?_)
              refine lv_ldc C0.1.1 C0.1.2.1 C0.1.2.2.2.1 (C0.1.2.2.2.2 _ kL_does_c38) dL_does_103 ?_
              refine W.widen (k := (t + 4)) (n := 12 * (t + 4)) (by omega) (by omega) ?_
              exact hret _ ((aSet σ p2).2) _ _ _ _ (t + 4) (by omega) h Z dL_does_105
          replace h := (oc_s hw).symm.trans h
          replace Z := aZ_post Z ht hvm hB hS
          refine W.widen (k := (t + 4)) (n := 12 * (t + 4)) (by omega) (by omega) ?_
          refine lv_goto (tgt := 93) C0.1.1 C0.1.2.1 dL_does_48 (by decide) ?_
          exact wL_does_93 C0 hA hN hT hlf htab hret ((aSet σ p2).2) y _ _ _ (t + 4) (by omega) h Z (lv_sub hl [] rfl)
      · replace h := (if_pos hc).symm.trans h
        refine lv_aload_n C0.1.1 C0.1.2.1 dL_does_30 rfl (lv_at hl 0 rfl) ?_
        refine lv_iload_n C0.1.1 C0.1.2.1 dL_does_31 rfl (lv_at hl 2 rfl) ?_
        refine vx_calli (vx_runV (b := d 0) (C := RX3) (As := [.int p2]) (rest := []) C0.1 (o_sign l hlf D cyI cyJ cyO A bs hA F d σ p2) (cwV 1 C0.1.2.2.2.2 gL_does_X3_sign rfl rfl rfl (by decide +kernel) ⟨Nat.le_of_ble_eq_true rfl, Nat.le_of_ble_eq_true rfl⟩) ⟨aP_blind, aZ_recv Z, aP_pre Z hN hT _⟩ rfl rfl hl.1 rfl (lv_room (Nat.le_of_ble_eq_true rfl)) dL_does_32 ⟨by show t + 1 ≤ 4; omega, by show 12 * t + 6 ≤ 48; omega⟩) (aZ_S Z) (fun _ _ h => h) (fun _ h => h) (fun _ _ h => h) (fun E ce q9 u t1 H1 locs1 ht hvm _ hB _ hk hS h1 h2 h3 => ?_) (fun y u t1 H locs ht hvm hw hB _ hk hS => ?_)
        · obtain ⟨⟨hno, hE⟩, hB⟩ := hB
          have Z := aZ_post Z ht hvm hB hS
          replace h := (oc_n hno).symm.trans h
          rcases hE with hE | hE
          · replace hE : E = "java/lang/IllegalArgumentException" := hE
            subst hE
            refine vx_catch (E := "java/lang/IllegalArgumentException") C0.1.2.2.2.1 [⟨0, 93, 94, 36⟩] ⟨0, 93, 98, 39⟩ [⟨0, 93, 102, 41⟩] htab (List.forall_mem_cons.mpr ⟨.inr ⟨by decide, _, C0.1.2.2.2.2 _ kL_does_l36, hN.2 ("java/lang/IllegalArgumentException", "java/lang/IndexOutOfBoundsException") (by decide +kernel)⟩, fun _ z => nomatch z⟩) (by decide) (by decide) (C0.1.2.2.2.2 _ kL_does_l39) (nestW_use hN.1 (.castable "java/lang/IllegalArgumentException" "java/lang/IllegalArgumentException") (by decide +kernel)) h1 h2 h3 ?_
            refine lv_astore_n (lv' := [(3, .ref q9), (0, .ref (d 0)), (1, .int p1), (2, .int p2)]) C0.1.1 C0.1.2.1 dL_does_98 rfl hl (by decide) rfl (fun ls hl => ?_)
            refine lv_ldc C0.1.1 C0.1.2.1 C0.1.2.2.2.1 (C0.1.2.2.2.2 _ kL_does_c38) dL_does_99 ?_
            refine W.widen (k := (t + 1)) (n := 12 * (t + 1)) (by omega) (by omega) ?_
            exact hret _ ((aSign σ p2).2) _ _ _ _ (t + 1) (by omega) h Z dL_does_101
          · replace hE : E = "java/lang/IllegalStateException" := hE
            subst hE
            refine vx_catch (E := "java/lang/IllegalStateException") C0.1.2.2.2.1 [⟨0, 93, 94, 36⟩, ⟨0, 93, 98, 39⟩] ⟨0, 93, 102, 41⟩ [] htab (List.forall_mem_cons.mpr ⟨.inr ⟨by decide, _, C0.1.2.2.2.2 _ kL_does_l36, hN.2 ("java/lang/IllegalStateException", "java/lang/IndexOutOfBoundsException") (by decide +kernel)⟩, List.forall_mem_cons.mpr ⟨.inr ⟨by decide, _, C0.1.2.2.2.2 _ kL_does_l39, hN.2 ("java/lang/IllegalStateException", "java/lang/IllegalArgumentException") (by decide +kernel)⟩, fun _ z => nomatch z⟩⟩) (by decide) (by decide) (C0.1.2.2.2.2 _ kL_does_l41) (nestW_use hN.1 (.castable "java/lang/IllegalStateException" "java/lang/IllegalStateException") (by decide +kernel)) h1 h2 h3 ?_
            refine lv_astore_n (lv' := [(3, .ref q9), (0, .ref (d 0)), (1, .int p1), (2, .int p2)]) C0.1.1 C0.1.2.1 dL_does_102 rfl hl (by decide) rfl (fun ls hl => ?_)
            refine lv_ldc C0.1.1 C0.1.2.1 C0.1.2.2.2.1 (C0.1.2.2.2.2 _ kL_does_c38) dL_does_103 ?_
            refine W.widen (k := (t + 1)) (n := 12 * (t + 1)) (by omega) (by omega) ?_
            exact hret _ ((aSign σ p2).2) _ _ _ _ (t + 1) (by omega) h Z dL_does_105
        replace h := (oc_s hw).symm.trans h
        replace Z := aZ_post Z ht hvm hB hS
        refine W.widen (k := (t + 1)) (n := 12 * (t + 1)) (by omega) (by omega) ?_
        refine lv_goto (tgt := 93) C0.1.1 C0.1.2.1 dL_does_35 (by decide) ?_
        exact wL_does_93 C0 hA hN hT hlf htab hret ((aSign σ p2).2) y _ _ _ (t + 1) (by omega) h Z (lv_sub hl [] rfl)
    · replace h := (if_pos hc).symm.trans h
      refine lv_aload_n C0.1.1 C0.1.2.1 dL_does_17 rfl (lv_at hl 0 rfl) ?_
      refine lv_iload_n C0.1.1 C0.1.2.1 dL_does_18 rfl (lv_at hl 2 rfl) ?_
      refine vx_calli (vx_runV (b := d 0) (C := RX3) (As := [.int p2]) (rest := []) C0.1 (o_cell l hlf D cyI cyJ cyO A bs hA F d σ p2) (cwV 1 C0.1.2.2.2.2 gL_does_X3_cell rfl rfl rfl (by decide +kernel) ⟨Nat.le_of_ble_eq_true rfl, Nat.le_of_ble_eq_true rfl⟩) ⟨aP_blind, aZ_recv Z, aP_pre Z hN hT _⟩ rfl rfl hl.1 rfl (lv_room (Nat.le_of_ble_eq_true rfl)) dL_does_19 ⟨by show t + 2 ≤ 4; omega, by show 12 * t + 12 ≤ 48; omega⟩) (aZ_S Z) (fun _ _ h => h) (fun _ h => h) (fun _ _ h => h) (fun E ce q9 u t1 H1 locs1 ht hvm _ hB _ hk hS h1 h2 h3 => ?_) (fun y u t1 H locs ht hvm hw hB _ hk hS => ?_)
      · obtain ⟨⟨hno, hE⟩, hB⟩ := hB
        have Z := aZ_post Z ht hvm hB hS
        replace h := (oc_n hno).symm.trans h
        rcases hE with hE | hE
        · replace hE : E = "java/lang/IndexOutOfBoundsException" := hE
          subst hE
          refine vx_catch (E := "java/lang/IndexOutOfBoundsException") C0.1.2.2.2.1 [] ⟨0, 93, 94, 36⟩ [⟨0, 93, 98, 39⟩, ⟨0, 93, 102, 41⟩] htab (fun _ z => nomatch z) (by decide) (by decide) (C0.1.2.2.2.2 _ kL_does_l36) (nestW_use hN.1 (.castable "java/lang/IndexOutOfBoundsException" "java/lang/IndexOutOfBoundsException") (by decide +kernel)) h1 h2 h3 ?_
          refine lv_astore_n (lv' := [(3, .ref q9), (0, .ref (d 0)), (1, .int p1), (2, .int p2)]) C0.1.1 C0.1.2.1 dL_does_94 rfl hl (by decide) rfl (fun ls hl => ?_)
          refine lv_ldc C0.1.1 C0.1.2.1 C0.1.2.2.2.1 (C0.1.2.2.2.2 _ kL_does_c38) dL_does_95 ?_
          refine W.widen (k := (t + 2)) (n := 12 * (t + 2)) (by omega) (by omega) ?_
          exact hret _ ((aCell σ p2).2) _ _ _ _ (t + 2) (by omega) h Z dL_does_97
        · replace hE : E = "java/lang/IllegalStateException" := hE
          subst hE
          refine vx_catch (E := "java/lang/IllegalStateException") C0.1.2.2.2.1 [⟨0, 93, 94, 36⟩, ⟨0, 93, 98, 39⟩] ⟨0, 93, 102, 41⟩ [] htab (List.forall_mem_cons.mpr ⟨.inr ⟨by decide, _, C0.1.2.2.2.2 _ kL_does_l36, hN.2 ("java/lang/IllegalStateException", "java/lang/IndexOutOfBoundsException") (by decide +kernel)⟩, List.forall_mem_cons.mpr ⟨.inr ⟨by decide, _, C0.1.2.2.2.2 _ kL_does_l39, hN.2 ("java/lang/IllegalStateException", "java/lang/IllegalArgumentException") (by decide +kernel)⟩, fun _ z => nomatch z⟩⟩) (by decide) (by decide) (C0.1.2.2.2.2 _ kL_does_l41) (nestW_use hN.1 (.castable "java/lang/IllegalStateException" "java/lang/IllegalStateException") (by decide +kernel)) h1 h2 h3 ?_
          refine lv_astore_n (lv' := [(3, .ref q9), (0, .ref (d 0)), (1, .int p1), (2, .int p2)]) C0.1.1 C0.1.2.1 dL_does_102 rfl hl (by decide) rfl (fun ls hl => ?_)
          refine lv_ldc C0.1.1 C0.1.2.1 C0.1.2.2.2.1 (C0.1.2.2.2.2 _ kL_does_c38) dL_does_103 ?_
          refine W.widen (k := (t + 2)) (n := 12 * (t + 2)) (by omega) (by omega) ?_
          exact hret _ ((aCell σ p2).2) _ _ _ _ (t + 2) (by omega) h Z dL_does_105
      replace h := (oc_s hw).symm.trans h
      replace Z := aZ_post Z ht hvm hB hS
      refine W.widen (k := (t + 2)) (n := 12 * (t + 2)) (by omega) (by omega) ?_
      refine lv_goto (tgt := 93) C0.1.1 C0.1.2.1 dL_does_22 (by decide) ?_
      exact wL_does_93 C0 hA hN hT hlf htab hret ((aCell σ p2).2) y _ _ _ (t + 2) (by omega) h Z (lv_sub hl [] rfl)
  · replace h := (if_pos hc).symm.trans h
    refine lv_aload_n C0.1.1 C0.1.2.1 dL_does_4 rfl (lv_at hl 0 rfl) ?_
    refine lv_iload_n C0.1.1 C0.1.2.1 dL_does_5 rfl (lv_at hl 2 rfl) ?_
    refine vx_calli (vx_runV (b := d 0) (C := RX3) (As := [.int p2]) (rest := []) C0.1 (o_number l hlf D cyI cyJ cyO A bs hA F d σ p2) (cwV 1 C0.1.2.2.2.2 gL_does_X3_number rfl rfl rfl (by decide +kernel) ⟨Nat.le_of_ble_eq_true rfl, Nat.le_of_ble_eq_true rfl⟩) ⟨aP_blind, aZ_recv Z, aP_pre Z hN hT _⟩ rfl rfl hl.1 rfl (lv_room (Nat.le_of_ble_eq_true rfl)) dL_does_6 ⟨by show t + 2 ≤ 4; omega, by show 12 * t + 12 ≤ 48; omega⟩) (aZ_S Z) (fun _ _ h => h) (fun _ h => h) (fun _ _ h => h) (fun E ce q9 u t1 H1 locs1 ht hvm _ hB _ hk hS h1 h2 h3 => ?_) (fun y u t1 H locs ht hvm hw hB _ hk hS => ?_)
    · obtain ⟨⟨hno, hE⟩, hB⟩ := hB
      have Z := aZ_post Z ht hvm hB hS
      replace h := (oc_n hno).symm.trans h
      rcases hE with hE | hE
      · replace hE : E = "java/lang/IllegalArgumentException" := hE
        subst hE
        refine vx_catch (E := "java/lang/IllegalArgumentException") C0.1.2.2.2.1 [⟨0, 93, 94, 36⟩] ⟨0, 93, 98, 39⟩ [⟨0, 93, 102, 41⟩] htab (List.forall_mem_cons.mpr ⟨.inr ⟨by decide, _, C0.1.2.2.2.2 _ kL_does_l36, hN.2 ("java/lang/IllegalArgumentException", "java/lang/IndexOutOfBoundsException") (by decide +kernel)⟩, fun _ z => nomatch z⟩) (by decide) (by decide) (C0.1.2.2.2.2 _ kL_does_l39) (nestW_use hN.1 (.castable "java/lang/IllegalArgumentException" "java/lang/IllegalArgumentException") (by decide +kernel)) h1 h2 h3 ?_
        refine lv_astore_n (lv' := [(3, .ref q9), (0, .ref (d 0)), (1, .int p1), (2, .int p2)]) C0.1.1 C0.1.2.1 dL_does_98 rfl hl (by decide) rfl (fun ls hl => ?_)
        refine lv_ldc C0.1.1 C0.1.2.1 C0.1.2.2.2.1 (C0.1.2.2.2.2 _ kL_does_c38) dL_does_99 ?_
        refine W.widen (k := (t + 2)) (n := 12 * (t + 2)) (by omega) (by omega) ?_
        exact hret _ ((aNum σ p2).2) _ _ _ _ (t + 2) (by omega) h Z dL_does_101
      · replace hE : E = "java/lang/IllegalStateException" := hE
        subst hE
        refine vx_catch (E := "java/lang/IllegalStateException") C0.1.2.2.2.1 [⟨0, 93, 94, 36⟩, ⟨0, 93, 98, 39⟩] ⟨0, 93, 102, 41⟩ [] htab (List.forall_mem_cons.mpr ⟨.inr ⟨by decide, _, C0.1.2.2.2.2 _ kL_does_l36, hN.2 ("java/lang/IllegalStateException", "java/lang/IndexOutOfBoundsException") (by decide +kernel)⟩, List.forall_mem_cons.mpr ⟨.inr ⟨by decide, _, C0.1.2.2.2.2 _ kL_does_l39, hN.2 ("java/lang/IllegalStateException", "java/lang/IllegalArgumentException") (by decide +kernel)⟩, fun _ z => nomatch z⟩⟩) (by decide) (by decide) (C0.1.2.2.2.2 _ kL_does_l41) (nestW_use hN.1 (.castable "java/lang/IllegalStateException" "java/lang/IllegalStateException") (by decide +kernel)) h1 h2 h3 ?_
        refine lv_astore_n (lv' := [(3, .ref q9), (0, .ref (d 0)), (1, .int p1), (2, .int p2)]) C0.1.1 C0.1.2.1 dL_does_102 rfl hl (by decide) rfl (fun ls hl => ?_)
        refine lv_ldc C0.1.1 C0.1.2.1 C0.1.2.2.2.1 (C0.1.2.2.2.2 _ kL_does_c38) dL_does_103 ?_
        refine W.widen (k := (t + 2)) (n := 12 * (t + 2)) (by omega) (by omega) ?_
        exact hret _ ((aNum σ p2).2) _ _ _ _ (t + 2) (by omega) h Z dL_does_105
    replace h := (oc_s hw).symm.trans h
    replace Z := aZ_post Z ht hvm hB hS
    refine W.widen (k := (t + 2)) (n := 12 * (t + 2)) (by omega) (by omega) ?_
    refine lv_goto (tgt := 93) C0.1.1 C0.1.2.1 dL_does_9 (by decide) ?_
    exact wL_does_93 C0 hA hN hT hlf htab hret ((aNum σ p2).2) y _ _ _ (t + 2) (by omega) h Z (lv_sub hl [] rfl)
/-! the walk of L_put -/
abbrev rmL_put : Room := { frames := 63, cells := 4, slots := 48, locals := 1531 }
theorem kL_put_l36 : Cond.classLink RL 36 "java/lang/IndexOutOfBoundsException" ∈ wsL_put := by decide +kernel
theorem kL_put_c38 : Cond.constant RL 38 (-99999) ∈ wsL_put := by decide +kernel
theorem kL_put_l39 : Cond.classLink RL 39 "java/lang/IllegalArgumentException" ∈ wsL_put := by decide +kernel
set_option maxRecDepth 20000 in
set_option maxHeartbeats 4000000 in
theorem zL_put (l : Launch) (hlf : l.stackTraces = false) (D : va_G) (cyI cyJ cyO : ClassId) (A : Nat → Prop) (bs : Nat) (hA : ∀ q, bs ≤ q → A q) (F : va_W) (d : Nat → Nat) (σ : St) (p1 : Int32) (p2 : Int32) (res : Int32 × St) (h : mL_put σ p1 p2 = some res) : Met l yL_put wsL_put rmL_put (va_Pc [.ref (d 0), .int p1, .int p2] (lP (aW F D cyI cyJ cyO A bs d σ) A)) (va_Qi (fun (r : Int32) (u : St) => res.1 = r ∧ res.2 = u) (fun (u : St) => aW F D cyI cyJ cyO A bs d u) A) 4 48 A := by
  refine Met_ofWH (cc := cL_put) (maxL := 4) (ret := (some .int)) (by decide) rfl ?_
  intro p e s m args below meth c s₁ B hml htab hv
  obtain ⟨hav, hv⟩ := hv
  obtain ⟨hv, hN, hT⟩ := hv
  have C0 : gC p m meth c cL_put 4 (some .int) s args wsL_put RL := ⟨⟨B.exec, B.bytes, hml, findClass_of_methodNamed B.named, atoms_spec (ws := wsL_put) B.pre⟩, B.returns, B.notSynchronized⟩
  have Z := aZ_start hA hv
  have hret : ∀ (r : Int32) (σ_r : St) (H : Heap) (locs : List Loc) (pc : Nat) (ls : Array Slot) (t : Nat), t ≤ 4 → some (r, σ_r) = some res → aZ F D cyI cyJ cyO A bs d σ_r s H locs → decode cL_put pc = .ok (.ireturn, 1) → W p l e rmL_put s m args below meth c H locs t (12 * t) (MQ below (va_Qi (fun (r : Int32) (u : St) => res.1 = r ∧ res.2 = u) (fun (u : St) => aW F D cyI cyJ cyO A bs d u) A) args s 4 48 A) (F0 m pc ls [.int r]) := by
    intro r σ_r H locs pc ls t ht1 h Z hd
    replace h := Option.some.inj h
    subst h
    refine W.widen (k := 4) (n := 48) (by omega) (by omega) ?_
    exact W.iret C0.1.1 C0.1.2.1 C0.2.1 (fun t ht hW => ⟨⟨r, σ_r, rfl, ⟨rfl, rfl⟩, aZ_end Z ht hW⟩, va_S.F (aZ_S Z) ht⟩) (aZ_S Z).2.2 hd C0.2.2
  have hl := lv_entry ([.ref (d 0), .int p1, .int p2]) (n := 4) (Nat.le_of_ble_eq_true rfl)
  rw [hav, lg_entry_eq]
  generalize (lg_sl ([.ref (d 0), .int p1, .int p2]) ++ List.replicate (4 - (lg_sl ([.ref (d 0), .int p1, .int p2])).length) Slot.unset).toArray = ls at hl ⊢
  have hl : lv_has ls 4 [(0, .ref (d 0)), (1, .int p1), (2, .int p2)] := hl
  rw [← hav]
  unfold mL_put at h
  obtain ⟨t, ht0⟩ : ∃ t : Nat, t = 0 := ⟨0, rfl⟩
  refine W.widen (k := t) (n := 12 * t) (Nat.zero_le _) (Nat.zero_le _) ?_
  refine lv_aload_n C0.1.1 C0.1.2.1 dL_put_0 rfl (lv_at hl 0 rfl) ?_
  refine lv_iload_n C0.1.1 C0.1.2.1 dL_put_1 rfl (lv_at hl 1 rfl) ?_
  refine lv_iload_n C0.1.1 C0.1.2.1 dL_put_2 rfl (lv_at hl 2 rfl) ?_
  refine vx_calli (vx_runV (b := d 0) (C := RX3) (As := [.int p1, .int p2]) (rest := []) C0.1 (o_put l hlf D cyI cyJ cyO A bs hA F d σ p1 p2) (cwV 2 C0.1.2.2.2.2 gL_put_X3_put rfl rfl rfl (by decide +kernel) ⟨Nat.le_of_ble_eq_true rfl, Nat.le_of_ble_eq_true rfl⟩) ⟨aP_blind, aZ_recv Z, aP_pre Z hN hT _⟩ rfl rfl hl.1 rfl (lv_room (Nat.le_of_ble_eq_true rfl)) dL_put_3 ⟨by show t + 4 ≤ 4; omega, by show 12 * t + 15 ≤ 48; omega⟩) (aZ_S Z) (fun _ _ h => h) (fun _ h => h) (fun _ _ h => h) (fun E ce q9 u t1 H1 locs1 ht hvm _ hB _ hk hS h1 h2 h3 => ?_) (fun y u t1 H locs ht hvm hw hB _ hk hS => ?_)
  · obtain ⟨⟨hno, hE⟩, hB⟩ := hB
    have Z := aZ_post Z ht hvm hB hS
    replace h := (oc_n hno).symm.trans h
    rcases hE with hE | hE
    · replace hE : E = "java/lang/IndexOutOfBoundsException" := hE
      subst hE
      refine vx_catch (E := "java/lang/IndexOutOfBoundsException") C0.1.2.2.2.1 [] ⟨0, 6, 7, 36⟩ [⟨0, 6, 11, 39⟩] htab (fun _ z => nomatch z) (by decide) (by decide) (C0.1.2.2.2.2 _ kL_put_l36) (nestW_use hN.1 (.castable "java/lang/IndexOutOfBoundsException" "java/lang/IndexOutOfBoundsException") (by decide +kernel)) h1 h2 h3 ?_
      refine lv_astore_n (lv' := [(3, .ref q9), (0, .ref (d 0)), (1, .int p1), (2, .int p2)]) C0.1.1 C0.1.2.1 dL_put_7 rfl hl (by decide) rfl (fun ls hl => ?_)
      refine lv_ldc C0.1.1 C0.1.2.1 C0.1.2.2.2.1 (C0.1.2.2.2.2 _ kL_put_c38) dL_put_8 ?_
      refine W.widen (k := (t + 4)) (n := 12 * (t + 4)) (by omega) (by omega) ?_
      exact hret _ ((aPut σ p1 p2).2) _ _ _ _ (t + 4) (by omega) h Z dL_put_10
    · replace hE : E = "java/lang/IllegalArgumentException" := hE
      subst hE
      refine vx_catch (E := "java/lang/IllegalArgumentException") C0.1.2.2.2.1 [⟨0, 6, 7, 36⟩] ⟨0, 6, 11, 39⟩ [] htab (List.forall_mem_cons.mpr ⟨.inr ⟨by decide, _, C0.1.2.2.2.2 _ kL_put_l36, hN.2 ("java/lang/IllegalArgumentException", "java/lang/IndexOutOfBoundsException") (by decide +kernel)⟩, fun _ z => nomatch z⟩) (by decide) (by decide) (C0.1.2.2.2.2 _ kL_put_l39) (nestW_use hN.1 (.castable "java/lang/IllegalArgumentException" "java/lang/IllegalArgumentException") (by decide +kernel)) h1 h2 h3 ?_
      refine lv_astore_n (lv' := [(3, .ref q9), (0, .ref (d 0)), (1, .int p1), (2, .int p2)]) C0.1.1 C0.1.2.1 dL_put_11 rfl hl (by decide) rfl (fun ls hl => ?_)
      refine lv_ldc C0.1.1 C0.1.2.1 C0.1.2.2.2.1 (C0.1.2.2.2.2 _ kL_put_c38) dL_put_12 ?_
      refine W.widen (k := (t + 4)) (n := 12 * (t + 4)) (by omega) (by omega) ?_
      exact hret _ ((aPut σ p1 p2).2) _ _ _ _ (t + 4) (by omega) h Z dL_put_14
  replace h := (oc_s hw).symm.trans h
  replace Z := aZ_post Z ht hvm hB hS
  refine W.widen (k := (t + 4)) (n := 12 * (t + 4)) (by omega) (by omega) ?_
  exact hret y ((aPut σ p1 p2).2) _ _ _ _ (t + 4) (by omega) h Z dL_put_6
/-! the walk of L_seek -/
abbrev rmL_seek : Room := { frames := 63, cells := 4, slots := 48, locals := 1550 }
theorem kL_seek_l36 : Cond.classLink RL 36 "java/lang/IndexOutOfBoundsException" ∈ wsL_seek := by decide +kernel
theorem kL_seek_c38 : Cond.constant RL 38 (-99999) ∈ wsL_seek := by decide +kernel
theorem kL_seek_l39 : Cond.classLink RL 39 "java/lang/IllegalArgumentException" ∈ wsL_seek := by decide +kernel
theorem kL_seek_l41 : Cond.classLink RL 41 "java/lang/IllegalStateException" ∈ wsL_seek := by decide +kernel
theorem kL_seek_l51 : Cond.classLink RL 51 "java/util/NoSuchElementException" ∈ wsL_seek := by decide +kernel
set_option maxRecDepth 20000 in
set_option maxHeartbeats 4000000 in
theorem zL_seek (l : Launch) (hlf : l.stackTraces = false) (D : va_G) (cyI cyJ cyO : ClassId) (A : Nat → Prop) (bs : Nat) (hA : ∀ q, bs ≤ q → A q) (F : va_W) (d : Nat → Nat) (σ : St) (p1 : Int32) (p2 : Int32) (p3 : Int32) (p4 : Int32) (p5 : Int32) (res : Int32 × St) (h : mL_seek σ p1 p2 p3 p4 p5 = some res) : Met l yL_seek wsL_seek rmL_seek (va_Pc [.ref (d 0), .int p1, .int p2, .int p3, .int p4, .int p5] (lP (aW F D cyI cyJ cyO A bs d σ) A)) (va_Qi (fun (r : Int32) (u : St) => res.1 = r ∧ res.2 = u) (fun (u : St) => aW F D cyI cyJ cyO A bs d u) A) 4 48 A := by
  refine Met_ofWH (cc := cL_seek) (maxL := 7) (ret := (some .int)) (by decide) rfl ?_
  intro p e s m args below meth c s₁ B hml htab hv
  obtain ⟨hav, hv⟩ := hv
  obtain ⟨hv, hN, hT⟩ := hv
  have C0 : gC p m meth c cL_seek 7 (some .int) s args wsL_seek RL := ⟨⟨B.exec, B.bytes, hml, findClass_of_methodNamed B.named, atoms_spec (ws := wsL_seek) B.pre⟩, B.returns, B.notSynchronized⟩
  have Z := aZ_start hA hv
  have hret : ∀ (r : Int32) (σ_r : St) (H : Heap) (locs : List Loc) (pc : Nat) (ls : Array Slot) (t : Nat), t ≤ 4 → some (r, σ_r) = some res → aZ F D cyI cyJ cyO A bs d σ_r s H locs → decode cL_seek pc = .ok (.ireturn, 1) → W p l e rmL_seek s m args below meth c H locs t (12 * t) (MQ below (va_Qi (fun (r : Int32) (u : St) => res.1 = r ∧ res.2 = u) (fun (u : St) => aW F D cyI cyJ cyO A bs d u) A) args s 4 48 A) (F0 m pc ls [.int r]) := by
    intro r σ_r H locs pc ls t ht1 h Z hd
    replace h := Option.some.inj h
    subst h
    refine W.widen (k := 4) (n := 48) (by omega) (by omega) ?_
    exact W.iret C0.1.1 C0.1.2.1 C0.2.1 (fun t ht hW => ⟨⟨r, σ_r, rfl, ⟨rfl, rfl⟩, aZ_end Z ht hW⟩, va_S.F (aZ_S Z) ht⟩) (aZ_S Z).2.2 hd C0.2.2
  have hl := lv_entry ([.ref (d 0), .int p1, .int p2, .int p3, .int p4, .int p5]) (n := 7) (Nat.le_of_ble_eq_true rfl)
  rw [hav, lg_entry_eq]
  generalize (lg_sl ([.ref (d 0), .int p1, .int p2, .int p3, .int p4, .int p5]) ++ List.replicate (7 - (lg_sl ([.ref (d 0), .int p1, .int p2, .int p3, .int p4, .int p5])).length) Slot.unset).toArray = ls at hl ⊢
  have hl : lv_has ls 7 [(0, .ref (d 0)), (1, .int p1), (2, .int p2), (3, .int p3), (4, .int p4), (5, .int p5)] := hl
  rw [← hav]
  unfold mL_seek at h
  obtain ⟨t, ht0⟩ : ∃ t : Nat, t = 0 := ⟨0, rfl⟩
  refine W.widen (k := t) (n := 12 * t) (Nat.zero_le _) (Nat.zero_le _) ?_
  refine lv_aload_n C0.1.1 C0.1.2.1 dL_seek_0 rfl (lv_at hl 0 rfl) ?_
  refine lv_iload_n C0.1.1 C0.1.2.1 dL_seek_1 rfl (lv_at hl 1 rfl) ?_
  refine lv_iload_n C0.1.1 C0.1.2.1 dL_seek_2 rfl (lv_at hl 2 rfl) ?_
  refine lv_iload_n C0.1.1 C0.1.2.1 dL_seek_3 rfl (lv_at hl 3 rfl) ?_
  refine lv_iload C0.1.1 C0.1.2.1 dL_seek_4 (lv_at hl 4 rfl) ?_
  refine lv_iload C0.1.1 C0.1.2.1 dL_seek_6 (lv_at hl 5 rfl) ?_
  refine vx_calli (vx_runV (b := d 0) (C := RX3) (As := [.int p1, .int p2, .int p3, .int p4, .int p5]) (rest := []) C0.1 (o_seek l hlf D cyI cyJ cyO A bs hA F d σ p1 p2 p3 p4 p5) (cwV 5 C0.1.2.2.2.2 gL_seek_X3_seek rfl rfl rfl (by decide +kernel) ⟨Nat.le_of_ble_eq_true rfl, Nat.le_of_ble_eq_true rfl⟩) ⟨aP_blind, aZ_recv Z, aP_pre Z hN hT _⟩ rfl rfl hl.1 rfl (lv_room (Nat.le_of_ble_eq_true rfl)) dL_seek_8 ⟨by show t + 4 ≤ 4; omega, by show 12 * t + 18 ≤ 48; omega⟩) (aZ_S Z) (fun _ _ h => h) (fun _ h => h) (fun _ _ h => h) (fun E ce q9 u t1 H1 locs1 ht hvm _ hB _ hk hS h1 h2 h3 => ?_) (fun y u t1 H locs ht hvm hw hB _ hk hS => ?_)
  · obtain ⟨⟨hno, hE⟩, hB⟩ := hB
    have Z := aZ_post Z ht hvm hB hS
    replace h := (oc_n hno).symm.trans h
    rcases hE with hE | hE | hE | hE
    · replace hE : E = "java/lang/IndexOutOfBoundsException" := hE
      subst hE
      refine vx_catch (E := "java/lang/IndexOutOfBoundsException") C0.1.2.2.2.1 [] ⟨0, 11, 12, 36⟩ [⟨0, 11, 17, 39⟩, ⟨0, 11, 22, 41⟩, ⟨0, 11, 27, 51⟩] htab (fun _ z => nomatch z) (by decide) (by decide) (C0.1.2.2.2.2 _ kL_seek_l36) (nestW_use hN.1 (.castable "java/lang/IndexOutOfBoundsException" "java/lang/IndexOutOfBoundsException") (by decide +kernel)) h1 h2 h3 ?_
      refine lv_astore (lv' := [(6, .ref q9), (0, .ref (d 0)), (1, .int p1), (2, .int p2), (3, .int p3), (4, .int p4), (5, .int p5)]) C0.1.1 C0.1.2.1 dL_seek_12 hl (by decide) rfl (fun ls hl => ?_)
      refine lv_ldc C0.1.1 C0.1.2.1 C0.1.2.2.2.1 (C0.1.2.2.2.2 _ kL_seek_c38) dL_seek_14 ?_
      refine W.widen (k := (t + 4)) (n := 12 * (t + 4)) (by omega) (by omega) ?_
      exact hret _ ((aSeek σ p1 p2 p3 p4 p5).2) _ _ _ _ (t + 4) (by omega) h Z dL_seek_16
    · replace hE : E = "java/lang/IllegalArgumentException" := hE
      subst hE
      refine vx_catch (E := "java/lang/IllegalArgumentException") C0.1.2.2.2.1 [⟨0, 11, 12, 36⟩] ⟨0, 11, 17, 39⟩ [⟨0, 11, 22, 41⟩, ⟨0, 11, 27, 51⟩] htab (List.forall_mem_cons.mpr ⟨.inr ⟨by decide, _, C0.1.2.2.2.2 _ kL_seek_l36, hN.2 ("java/lang/IllegalArgumentException", "java/lang/IndexOutOfBoundsException") (by decide +kernel)⟩, fun _ z => nomatch z⟩) (by decide) (by decide) (C0.1.2.2.2.2 _ kL_seek_l39) (nestW_use hN.1 (.castable "java/lang/IllegalArgumentException" "java/lang/IllegalArgumentException") (by decide +kernel)) h1 h2 h3 ?_
      refine lv_astore (lv' := [(6, .ref q9), (0, .ref (d 0)), (1, .int p1), (2, .int p2), (3, .int p3), (4, .int p4), (5, .int p5)]) C0.1.1 C0.1.2.1 dL_seek_17 hl (by decide) rfl (fun ls hl => ?_)
      refine lv_ldc C0.1.1 C0.1.2.1 C0.1.2.2.2.1 (C0.1.2.2.2.2 _ kL_seek_c38) dL_seek_19 ?_
      refine W.widen (k := (t + 4)) (n := 12 * (t + 4)) (by omega) (by omega) ?_
      exact hret _ ((aSeek σ p1 p2 p3 p4 p5).2) _ _ _ _ (t + 4) (by omega) h Z dL_seek_21
    · replace hE : E = "java/lang/IllegalStateException" := hE
      subst hE
      refine vx_catch (E := "java/lang/IllegalStateException") C0.1.2.2.2.1 [⟨0, 11, 12, 36⟩, ⟨0, 11, 17, 39⟩] ⟨0, 11, 22, 41⟩ [⟨0, 11, 27, 51⟩] htab (List.forall_mem_cons.mpr ⟨.inr ⟨by decide, _, C0.1.2.2.2.2 _ kL_seek_l36, hN.2 ("java/lang/IllegalStateException", "java/lang/IndexOutOfBoundsException") (by decide +kernel)⟩, List.forall_mem_cons.mpr ⟨.inr ⟨by decide, _, C0.1.2.2.2.2 _ kL_seek_l39, hN.2 ("java/lang/IllegalStateException", "java/lang/IllegalArgumentException") (by decide +kernel)⟩, fun _ z => nomatch z⟩⟩) (by decide) (by decide) (C0.1.2.2.2.2 _ kL_seek_l41) (nestW_use hN.1 (.castable "java/lang/IllegalStateException" "java/lang/IllegalStateException") (by decide +kernel)) h1 h2 h3 ?_
      refine lv_astore (lv' := [(6, .ref q9), (0, .ref (d 0)), (1, .int p1), (2, .int p2), (3, .int p3), (4, .int p4), (5, .int p5)]) C0.1.1 C0.1.2.1 dL_seek_22 hl (by decide) rfl (fun ls hl => ?_)
      refine lv_ldc C0.1.1 C0.1.2.1 C0.1.2.2.2.1 (C0.1.2.2.2.2 _ kL_seek_c38) dL_seek_24 ?_
      refine W.widen (k := (t + 4)) (n := 12 * (t + 4)) (by omega) (by omega) ?_
      exact hret _ ((aSeek σ p1 p2 p3 p4 p5).2) _ _ _ _ (t + 4) (by omega) h Z dL_seek_26
    · replace hE : E = "java/util/NoSuchElementException" := hE
      subst hE
      refine vx_catch (E := "java/util/NoSuchElementException") C0.1.2.2.2.1 [⟨0, 11, 12, 36⟩, ⟨0, 11, 17, 39⟩, ⟨0, 11, 22, 41⟩] ⟨0, 11, 27, 51⟩ [] htab (List.forall_mem_cons.mpr ⟨.inr ⟨by decide, _, C0.1.2.2.2.2 _ kL_seek_l36, hN.2 ("java/util/NoSuchElementException", "java/lang/IndexOutOfBoundsException") (by decide +kernel)⟩, List.forall_mem_cons.mpr ⟨.inr ⟨by decide, _, C0.1.2.2.2.2 _ kL_seek_l39, hN.2 ("java/util/NoSuchElementException", "java/lang/IllegalArgumentException") (by decide +kernel)⟩, List.forall_mem_cons.mpr ⟨.inr ⟨by decide, _, C0.1.2.2.2.2 _ kL_seek_l41, hN.2 ("java/util/NoSuchElementException", "java/lang/IllegalStateException") (by decide +kernel)⟩, fun _ z => nomatch z⟩⟩⟩) (by decide) (by decide) (C0.1.2.2.2.2 _ kL_seek_l51) (nestW_use hN.1 (.castable "java/util/NoSuchElementException" "java/util/NoSuchElementException") (by decide +kernel)) h1 h2 h3 ?_
      refine lv_astore (lv' := [(6, .ref q9), (0, .ref (d 0)), (1, .int p1), (2, .int p2), (3, .int p3), (4, .int p4), (5, .int p5)]) C0.1.1 C0.1.2.1 dL_seek_27 hl (by decide) rfl (fun ls hl => ?_)
      refine lv_ldc C0.1.1 C0.1.2.1 C0.1.2.2.2.1 (C0.1.2.2.2.2 _ kL_seek_c38) dL_seek_29 ?_
      refine W.widen (k := (t + 4)) (n := 12 * (t + 4)) (by omega) (by omega) ?_
      exact hret _ ((aSeek σ p1 p2 p3 p4 p5).2) _ _ _ _ (t + 4) (by omega) h Z dL_seek_31
  replace h := (oc_s hw).symm.trans h
  replace Z := aZ_post Z ht hvm hB hS
  refine W.widen (k := (t + 4)) (n := 12 * (t + 4)) (by omega) (by omega) ?_
  exact hret y ((aSeek σ p1 p2 p3 p4 p5).2) _ _ _ _ (t + 4) (by omega) h Z dL_seek_11
/-! the walk of L_value -/
abbrev rmL_value : Room := { frames := 61, cells := 2, slots := 24, locals := 1485 }
theorem kL_value_l60 : Cond.classLink RL 60 "java/lang/ArithmeticException" ∈ wsL_value := by decide +kernel
theorem kL_value_c62 : Cond.constantLong RL 62 (4000000000000) ∈ wsL_value := by decide +kernel
set_option maxRecDepth 20000 in
set_option maxHeartbeats 4000000 in
theorem wL_value_17 {p : Program} {l : Launch} {e : Env} {s : State} {m : MethodId} {args : Array Value} {below : List Frame} {meth : Method} {c : Code} {D : va_G} {cyI cyJ cyO : ClassId} {A : Nat → Prop} {bs : Nat} {d : Nat → Nat} {F : va_W} {Q : State → Prop} {σ : St} {res : Int64} (C0 : gC p m meth c cL_value 4 (some .long) s args wsL_value RL) (hA : ∀ q, bs ≤ q → A q) (hN : lQN s) (hT : dT A s) (hlf : l.stackTraces = false) (htab : c.exceptionTable.toList = tableOf [(0, 17, 18, 60)]) (hret : ∀ (r : Int64) (H : Heap) (locs : List Loc) (pc : Nat) (ls : Array Slot) (t : Nat), t ≤ 2 → some r = some res → aZ F D cyI cyJ cyO A bs d σ s H locs → decode cL_value pc = .ok (.lreturn, 1) → W p l e rmL_value s m args below meth c H locs t (12 * t) Q (F0 m pc ls [.long r]))  : ∀ (s0 : Int64) (H : Heap) (locs : List Loc) (ls : Array Slot) (t : Nat), t + (0) ≤ 2 → mL_value_17 σ s0 = some res → aZ F D cyI cyJ cyO A bs d σ s H locs → lv_has ls 4 [] → W p l e rmL_value s m args below meth c H locs t (12 * t) Q (F0 m 17 ls [.long s0]) := by
  intro s0 H locs ls t ht0 h Z hl
  unfold mL_value_17 at h
  exact hret s0 _ _ _ _ t (by omega) h Z dL_value_17
set_option maxRecDepth 20000 in
set_option maxHeartbeats 4000000 in
theorem zL_value (l : Launch) (hlf : l.stackTraces = false) (D : va_G) (cyI cyJ cyO : ClassId) (A : Nat → Prop) (bs : Nat) (hA : ∀ q, bs ≤ q → A q) (F : va_W) (d : Nat → Nat) (σ : St) (p1 : Int32) (p2 : Int32) (res : Int64) (h : mL_value σ p1 p2 = some res) : Met l yL_value wsL_value rmL_value (va_Pc [.ref (d 0), .int p1, .int p2] (lP (aW F D cyI cyJ cyO A bs d σ) A)) (va_Ql (fun (r : Int64) (_ : Unit) => res = r) (fun (u : Unit) => aW F D cyI cyJ cyO A bs d σ) A) 2 24 A := by
  refine Met_ofWH (cc := cL_value) (maxL := 4) (ret := (some .long)) (by decide) rfl ?_
  intro p e s m args below meth c s₁ B hml htab hv
  obtain ⟨hav, hv⟩ := hv
  obtain ⟨hv, hN, hT⟩ := hv
  have C0 : gC p m meth c cL_value 4 (some .long) s args wsL_value RL := ⟨⟨B.exec, B.bytes, hml, findClass_of_methodNamed B.named, atoms_spec (ws := wsL_value) B.pre⟩, B.returns, B.notSynchronized⟩
  have Z := aZ_start hA hv
  have hret : ∀ (r : Int64) (H : Heap) (locs : List Loc) (pc : Nat) (ls : Array Slot) (t : Nat), t ≤ 2 → some r = some res → aZ F D cyI cyJ cyO A bs d σ s H locs → decode cL_value pc = .ok (.lreturn, 1) → W p l e rmL_value s m args below meth c H locs t (12 * t) (MQ below (va_Ql (fun (r : Int64) (_ : Unit) => res = r) (fun (u : Unit) => aW F D cyI cyJ cyO A bs d σ) A) args s 2 24 A) (F0 m pc ls [.long r]) := by
    intro r H locs pc ls t ht1 h Z hd
    replace h := Option.some.inj h
    subst h
    refine W.widen (k := 2) (n := 24) (by omega) (by omega) ?_
    exact W.lret C0.1.1 C0.1.2.1 C0.2.1 (fun t ht hW => ⟨⟨r, (), rfl, rfl, aZ_end Z ht hW⟩, va_S.F (aZ_S Z) ht⟩) (aZ_S Z).2.2 hd C0.2.2
  have hl := lv_entry ([.ref (d 0), .int p1, .int p2]) (n := 4) (Nat.le_of_ble_eq_true rfl)
  rw [hav, lg_entry_eq]
  generalize (lg_sl ([.ref (d 0), .int p1, .int p2]) ++ List.replicate (4 - (lg_sl ([.ref (d 0), .int p1, .int p2])).length) Slot.unset).toArray = ls at hl ⊢
  have hl : lv_has ls 4 [(0, .ref (d 0)), (1, .int p1), (2, .int p2)] := hl
  rw [← hav]
  unfold mL_value at h
  obtain ⟨t, ht0⟩ : ∃ t : Nat, t = 0 := ⟨0, rfl⟩
  refine W.widen (k := t) (n := 12 * t) (Nat.zero_le _) (Nat.zero_le _) ?_
  refine lv_iload_n C0.1.1 C0.1.2.1 dL_value_0 rfl (lv_at hl 2 rfl) ?_
  refine lv_if_eq (tgt := 12) C0.1.1 C0.1.2.1 dL_value_1 (by decide) (fun hc => ?_) (fun hc => ?_)
  · replace h := (if_pos hc).symm.trans h
    refine lv_aload_n C0.1.1 C0.1.2.1 dL_value_12 rfl (lv_at hl 0 rfl) ?_
    refine lv_iload_n C0.1.1 C0.1.2.1 dL_value_13 rfl (lv_at hl 1 rfl) ?_
    refine vx_calll (vx_runV (b := d 0) (C := RX3) (As := [.int p1]) (rest := []) C0.1 (o_value l hlf D cyI cyJ cyO A bs hA F d σ p1) (cwV 1 C0.1.2.2.2.2 gL_value_X3_value rfl rfl rfl (by decide +kernel) ⟨Nat.le_of_ble_eq_true rfl, Nat.le_of_ble_eq_true rfl⟩) ⟨aP_blind, aZ_recv Z, aP_pre Z hN hT _⟩ rfl rfl hl.1 rfl (lv_room (Nat.le_of_ble_eq_true rfl)) dL_value_14 ⟨by show t + 2 ≤ 2; omega, by show 12 * t + 12 ≤ 24; omega⟩) (aZ_S Z) (fun _ _ h => h) (fun _ h => h) (fun _ _ h => h) (fun E ce q9 u t1 H1 locs1 ht hvm _ hB _ hk hS h1 h2 h3 => ?_) (fun y u t1 H locs ht hvm hw hB _ hk hS => ?_)
    · obtain ⟨⟨hno, hE⟩, hB⟩ := hB
      have Z := aZ_post Z ht hvm hB hS
      replace h := (oc_n hno).symm.trans h
      obtain ⟨hrg, h⟩ := g_yi h
      rcases hE with hE | hE
      · exact absurd hrg hE.2
      · replace hE : E = "java/lang/ArithmeticException" := hE
        subst hE
        refine vx_catch (E := "java/lang/ArithmeticException") C0.1.2.2.2.1 [] ⟨0, 17, 18, 60⟩ [] htab (fun _ z => nomatch z) (by decide) (by decide) (C0.1.2.2.2.2 _ kL_value_l60) (nestW_use hN.1 (.castable "java/lang/ArithmeticException" "java/lang/ArithmeticException") (by decide +kernel)) h1 h2 h3 ?_
        refine lv_astore_n (lv' := [(3, .ref q9), (0, .ref (d 0)), (1, .int p1), (2, .int p2)]) C0.1.1 C0.1.2.1 dL_value_18 rfl hl (by decide) rfl (fun ls hl => ?_)
        refine lv_ldc2 C0.1.1 C0.1.2.1 C0.1.2.2.2.1 (C0.1.2.2.2.2 _ kL_value_c62) dL_value_19 ?_
        refine W.widen (k := (t + 2)) (n := 12 * (t + 2)) (by omega) (by omega) ?_
        exact hret _  _ _ _ _ (t + 2) (by omega) h Z dL_value_22
    replace h := (oc_s hw).symm.trans h
    replace Z := aZ_post Z ht hvm hB hS
    refine W.widen (k := (t + 2)) (n := 12 * (t + 2)) (by omega) (by omega) ?_
    exact wL_value_17 C0 hA hN hT hlf htab hret y _ _ _ (t + 2) (by omega) h Z (lv_sub hl [] rfl)
  · replace h := (if_neg hc).symm.trans h
    refine lv_aload_n C0.1.1 C0.1.2.1 dL_value_4 rfl (lv_at hl 0 rfl) ?_
    refine lv_iload_n C0.1.1 C0.1.2.1 dL_value_5 rfl (lv_at hl 1 rfl) ?_
    refine vx_calll (vx_runV (b := d 0) (C := RX3) (As := [.int p1]) (rest := []) C0.1 (o_valueAnew l hlf D cyI cyJ cyO A bs hA F d σ p1) (cwV 1 C0.1.2.2.2.2 gL_value_X3_valueAnew rfl rfl rfl (by decide +kernel) ⟨Nat.le_of_ble_eq_true rfl, Nat.le_of_ble_eq_true rfl⟩) ⟨aP_blind, aZ_recv Z, aP_pre Z hN hT _⟩ rfl rfl hl.1 rfl (lv_room (Nat.le_of_ble_eq_true rfl)) dL_value_6 ⟨by show t + 2 ≤ 2; omega, by show 12 * t + 12 ≤ 24; omega⟩) (aZ_S Z) (fun _ _ h => h) (fun _ h => h) (fun _ _ h => h) (fun E ce q9 u t1 H1 locs1 ht hvm _ hB _ hk hS h1 h2 h3 => ?_) (fun y u t1 H locs ht hvm hw hB _ hk hS => ?_)
    · obtain ⟨⟨hno, hE⟩, hB⟩ := hB
      have Z := aZ_post Z ht hvm hB hS
      replace h := (oc_n hno).symm.trans h
      obtain ⟨hrg, h⟩ := g_yi h
      rcases hE with hE | hE
      · exact absurd hrg hE.2
      · replace hE : E = "java/lang/ArithmeticException" := hE
        subst hE
        refine vx_catch (E := "java/lang/ArithmeticException") C0.1.2.2.2.1 [] ⟨0, 17, 18, 60⟩ [] htab (fun _ z => nomatch z) (by decide) (by decide) (C0.1.2.2.2.2 _ kL_value_l60) (nestW_use hN.1 (.castable "java/lang/ArithmeticException" "java/lang/ArithmeticException") (by decide +kernel)) h1 h2 h3 ?_
        refine lv_astore_n (lv' := [(3, .ref q9), (0, .ref (d 0)), (1, .int p1), (2, .int p2)]) C0.1.1 C0.1.2.1 dL_value_18 rfl hl (by decide) rfl (fun ls hl => ?_)
        refine lv_ldc2 C0.1.1 C0.1.2.1 C0.1.2.2.2.1 (C0.1.2.2.2.2 _ kL_value_c62) dL_value_19 ?_
        refine W.widen (k := (t + 2)) (n := 12 * (t + 2)) (by omega) (by omega) ?_
        exact hret _  _ _ _ _ (t + 2) (by omega) h Z dL_value_22
    replace h := (oc_s hw).symm.trans h
    replace Z := aZ_post Z ht hvm hB hS
    refine W.widen (k := (t + 2)) (n := 12 * (t + 2)) (by omega) (by omega) ?_
    refine lv_goto (tgt := 17) C0.1.1 C0.1.2.1 dL_value_9 (by decide) ?_
    exact wL_value_17 C0 hA hN hT hlf htab hret y _ _ _ (t + 2) (by omega) h Z (lv_sub hl [] rfl)
