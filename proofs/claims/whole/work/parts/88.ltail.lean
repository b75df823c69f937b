/-! the law's tails: what was answered is compared; what a walk of the law stands on -/
def LC (p : Program) (l : Launch) (s : State) (m : MethodId) (meth : Method) (c : Code) (b L : Nat) (xs : Nat → Int32) (A : Nat → Prop) : Prop := CallFix p m c cL_law 8 s #[Value.ref b] wsL_law RL ∧ (meth.sig.returnType = ret ∧ meth.locks = false) ∧ va_X b L xs s s.heap ∧ b < s.heap.size ∧ ¬ A b ∧ l.stackTraces = false ∧ lQN s ∧ dT A s
section LT
variable {p : Program} {l : Launch} {e : Env} {s : State} {m : MethodId} {below : List Frame} {meth : Method} {c : Code} {H : Heap} {locs : List Loc} {cells slots : Nat} {Q : State → Prop} {b L : Nat} {xs : Nat → Int32} {ls : Array Slot} {D : va_G} {A : Nat → Prop} {bs : Nat} {cyI cyJ cyO : ClassId} {a : Nat → Nat} {d0 o : Nat} {th df la fo he wt br : Int32} {dr fm sz om os st wa : Nat → Int32} {rv sk u : Nat → Int64} {Y : va_W} {x4 : Int32}
set_option maxHeartbeats 1000000 in
theorem lt_I (C : LC p l s m meth c b L xs A) (hA : ∀ q, bs ≤ q → A q) (Z : gZ D (gT cyI cyJ cyO) (XM a cyI cyJ th df la fo he wt br dr fm sz om os st wa rv sk ++ ((o, .inl (cyJ, 1, .inr (.inl u))) :: Y)) A bs s H locs) {k : Nat} (hth : th = nI k) (hk : k < 10) {y : Int32} {x : Int32} (hx : x = nI k) (hl : lv_has ls 8 [(6, .int y), (5, .int x), (0, .ref b), (1, .ref d0), (2, .ref (a 0)), (3, .ref o), (4, .int x4)]) (hu : k = 0 → u 0 = y.toInt64) (hc : cells ≤ room_1.cells ∧ slots ≤ room_1.slots) {t : Nat} {off : Int} (d0x : decode cL_law t = .ok (.aload_n 2, 1)) (d1 : decode cL_law (t + 1) = .ok (.invokevirtual 80, 3)) (d4 : decode cL_law (t + 4) = .ok (.iload 5, 2)) (d6 : decode cL_law (t + 6) = .ok (.if_icmp .eq 5, 3)) (d11 : decode cL_law (t + 11) = .ok (.iload 5, 2)) (d13 : decode cL_law (t + 13) = .ok (.ifCond .ne 15, 3)) (d16 : decode cL_law (t + 16) = .ok (.aload_n 3, 1)) (d17 : decode cL_law (t + 17) = .ok (.iconst 0, 1)) (d18 : decode cL_law (t + 18) = .ok (.laload, 1)) (d19 : decode cL_law (t + 19) = .ok (.iload 6, 2)) (d21 : decode cL_law (t + 21) = .ok (.i2l, 1)) (d22 : decode cL_law (t + 22) = .ok (.lcmp, 1)) (d23 : decode cL_law (t + 23) = .ok (.ifCond .eq 5, 3)) (d28 : decode cL_law (t + 28) = .ok (.goto off, 3)) (hoff : ((t + 28 : Nat) : Int) + off = ((1099 : Nat) : Int))
    (kk : ∀ (H1 : Heap) (locs1 : List Loc), gZ D (gT cyI cyJ cyO) (XM a cyI cyJ th df la fo he wt br dr fm sz om os st wa rv sk ++ ((o, .inl (cyJ, 1, .inr (.inl u))) :: Y)) A bs s H1 locs1 → W p l e room_1 s m #[Value.ref b] below meth c H1 locs1 cells slots Q (F0 m 1099 ls [])) : W p l e room_1 s m #[Value.ref b] below meth c H locs cells slots Q (F0 m t ls []) := by
  obtain ⟨C0, _, _, _, _, _, _, _⟩ := C
  refine lv_aload_n C0.1 C0.2.1 d0x rfl (lv_at hl 4 rfl) ?_
  refine g_callVi (b := a 0) (As := []) (rest := []) C0 Z (zX4_thrown l D cyI cyJ cyO A bs hA a ((o, .inl (cyJ, 1, .inr (.inl u))) :: Y) th df la fo he wt br dr fm sz om os st wa rv sk 0 th rfl) (cwV 0 C0.2.2.2.2 gL_law_X4_thrown rfl rfl rfl (by decide +kernel) ⟨Nat.le_of_ble_eq_true rfl, Nat.le_of_ble_eq_true rfl⟩) 0 (ci := 6) rfl rfl rfl rfl hl.1 rfl (Nat.le_of_ble_eq_true rfl) d1 hc (fun z _ H1 locs1 hz Z => ?_)
  replace hz : th = z := hz
  subst hz
  refine lv_iload C0.1 C0.2.1 d4 (lv_at hl 1 rfl) ?_
  refine lv_icmp_eq (tgt := t + 11) C0.1 C0.2.1 d6 (by omega) (fun _ => ?_) (fun hne => absurd (hth.trans hx.symm) hne)
  refine lv_iload C0.1 C0.2.1 d11 (lv_at hl 1 rfl) ?_
  refine lv_if_ne (tgt := t + 28) C0.1 C0.2.1 d13 (by omega) (fun _ => lv_goto (tgt := 1099) C0.1 C0.2.1 d28 hoff (kk _ _ Z)) (fun h0 => ?_)
  have hk0 : k = 0 := (nI_eq (by omega) (by omega)).mp ((hx.symm.trans h0).trans nI_0.symm)
  refine lv_aload_n C0.1 C0.2.1 d16 rfl (lv_at hl 5 rfl) ?_
  refine lv_iconst (v := 0) C0.1 C0.2.1 d17 (by decide) ?_
  refine g_lald C0 Z 10 1 (n := 1) (f := u) rfl rfl (i := 0) (vp_in_nI (n := 0) (by decide) (by decide)) d18 ?_
  refine lv_iload C0.1 C0.2.1 d19 (lv_at hl 0 rfl) ?_
  refine lv_i2l (v := y.toInt64) C0.1 C0.2.1 d21 rfl ?_
  refine W.lcmp C0.1 C0.2.1 d22 ?_
  refine lv_if_eq (tgt := t + 28) C0.1 C0.2.1 d23 (by omega) (fun _ => lv_goto (tgt := 1099) C0.1 C0.2.1 d28 hoff (kk _ _ Z)) (fun hne => absurd ((lg_cmp_eq _ _).mpr (hu hk0)) hne)
set_option maxHeartbeats 1000000 in
theorem lt_J (C : LC p l s m meth c b L xs A) (hA : ∀ q, bs ≤ q → A q) (Z : gZ D (gT cyI cyJ cyO) (XM a cyI cyJ th df la fo he wt br dr fm sz om os st wa rv sk ++ ((o, .inl (cyJ, 1, .inr (.inl u))) :: Y)) A bs s H locs) {k : Nat} (hth : th = nI k) (hk : k < 10) {y : Int64} {x : Int32} (hx : x = nI k) (hl : lv_has ls 8 [(6, .long y), (5, .int x), (0, .ref b), (1, .ref d0), (2, .ref (a 0)), (3, .ref o), (4, .int x4)]) (hu : k = 0 → u 0 = y) (hc : cells ≤ room_1.cells ∧ slots ≤ room_1.slots) {t : Nat} {off : Int} (d0x : decode cL_law t = .ok (.aload_n 2, 1)) (d1 : decode cL_law (t + 1) = .ok (.invokevirtual 80, 3)) (d4 : decode cL_law (t + 4) = .ok (.iload 5, 2)) (d6 : decode cL_law (t + 6) = .ok (.if_icmp .eq 5, 3)) (d11 : decode cL_law (t + 11) = .ok (.iload 5, 2)) (d13 : decode cL_law (t + 13) = .ok (.ifCond .ne 14, 3)) (d16 : decode cL_law (t + 16) = .ok (.aload_n 3, 1)) (d17 : decode cL_law (t + 17) = .ok (.iconst 0, 1)) (d18 : decode cL_law (t + 18) = .ok (.laload, 1)) (d19 : decode cL_law (t + 19) = .ok (.lload 6, 2)) (d21 : decode cL_law (t + 21) = .ok (.lcmp, 1)) (d22 : decode cL_law (t + 22) = .ok (.ifCond .eq 5, 3)) (d27 : decode cL_law (t + 27) = .ok (.goto off, 3)) (hoff : ((t + 27 : Nat) : Int) + off = ((1099 : Nat) : Int))
    (kk : ∀ (H1 : Heap) (locs1 : List Loc), gZ D (gT cyI cyJ cyO) (XM a cyI cyJ th df la fo he wt br dr fm sz om os st wa rv sk ++ ((o, .inl (cyJ, 1, .inr (.inl u))) :: Y)) A bs s H1 locs1 → W p l e room_1 s m #[Value.ref b] below meth c H1 locs1 cells slots Q (F0 m 1099 ls [])) : W p l e room_1 s m #[Value.ref b] below meth c H locs cells slots Q (F0 m t ls []) := by
  obtain ⟨C0, _, _, _, _, _, _, _⟩ := C
  refine lv_aload_n C0.1 C0.2.1 d0x rfl (lv_at hl 4 rfl) ?_
  refine g_callVi (b := a 0) (As := []) (rest := []) C0 Z (zX4_thrown l D cyI cyJ cyO A bs hA a ((o, .inl (cyJ, 1, .inr (.inl u))) :: Y) th df la fo he wt br dr fm sz om os st wa rv sk 0 th rfl) (cwV 0 C0.2.2.2.2 gL_law_X4_thrown rfl rfl rfl (by decide +kernel) ⟨Nat.le_of_ble_eq_true rfl, Nat.le_of_ble_eq_true rfl⟩) 0 (ci := 6) rfl rfl rfl rfl hl.1 rfl (Nat.le_of_ble_eq_true rfl) d1 hc (fun z _ H1 locs1 hz Z => ?_)
  replace hz : th = z := hz
  subst hz
  refine lv_iload C0.1 C0.2.1 d4 (lv_at hl 1 rfl) ?_
  refine lv_icmp_eq (tgt := t + 11) C0.1 C0.2.1 d6 (by omega) (fun _ => ?_) (fun hne => absurd (hth.trans hx.symm) hne)
  refine lv_iload C0.1 C0.2.1 d11 (lv_at hl 1 rfl) ?_
  refine lv_if_ne (tgt := t + 27) C0.1 C0.2.1 d13 (by omega) (fun _ => lv_goto (tgt := 1099) C0.1 C0.2.1 d27 hoff (kk _ _ Z)) (fun h0 => ?_)
  have hk0 : k = 0 := (nI_eq (by omega) (by omega)).mp ((hx.symm.trans h0).trans nI_0.symm)
  refine lv_aload_n C0.1 C0.2.1 d16 rfl (lv_at hl 5 rfl) ?_
  refine lv_iconst (v := 0) C0.1 C0.2.1 d17 (by decide) ?_
  refine g_lald C0 Z 10 1 (n := 1) (f := u) rfl rfl (i := 0) (vp_in_nI (n := 0) (by decide) (by decide)) d18 ?_
  refine lv_lload C0.1 C0.2.1 d19 (lv_at hl 0 rfl) ?_
  refine W.lcmp C0.1 C0.2.1 d21 ?_
  refine lv_if_eq (tgt := t + 27) C0.1 C0.2.1 d22 (by omega) (fun _ => lv_goto (tgt := 1099) C0.1 C0.2.1 d27 hoff (kk _ _ Z)) (fun hne => absurd ((lg_cmp_eq _ _).mpr (hu hk0)) hne)
set_option maxHeartbeats 1000000 in
theorem lt_Z (C : LC p l s m meth c b L xs A) (hA : ∀ q, bs ≤ q → A q) (Z : gZ D (gT cyI cyJ cyO) (XM a cyI cyJ th df la fo he wt br dr fm sz om os st wa rv sk ++ ((o, .inl (cyJ, 1, .inr (.inl u))) :: Y)) A bs s H locs) {k : Nat} (hth : th = nI k) (hk : k < 10) {y : Int32} {x : Int32} (hx : x = nI k) (hl : lv_has ls 8 [(6, .int y), (5, .int x), (0, .ref b), (1, .ref d0), (2, .ref (a 0)), (3, .ref o), (4, .int x4)]) (hu : k = 0 → u 0 = if y = 0 then 0 else 1) (hc : cells ≤ room_1.cells ∧ slots ≤ room_1.slots) {t : Nat} {off : Int} (d0x : decode cL_law t = .ok (.aload_n 2, 1)) (d1 : decode cL_law (t + 1) = .ok (.invokevirtual 80, 3)) (d4 : decode cL_law (t + 4) = .ok (.iload 5, 2)) (d6 : decode cL_law (t + 6) = .ok (.if_icmp .eq 5, 3)) (d11 : decode cL_law (t + 11) = .ok (.iload 5, 2)) (d13 : decode cL_law (t + 13) = .ok (.ifCond .ne 22, 3)) (d16 : decode cL_law (t + 16) = .ok (.aload_n 3, 1)) (d17 : decode cL_law (t + 17) = .ok (.iconst 0, 1)) (d18 : decode cL_law (t + 18) = .ok (.laload, 1)) (d19 : decode cL_law (t + 19) = .ok (.iload 6, 2)) (d21 : decode cL_law (t + 21) = .ok (.ifCond .eq 7, 3)) (d24 : decode cL_law (t + 24) = .ok (.lconst 1, 1)) (d25 : decode cL_law (t + 25) = .ok (.goto 4, 3)) (d28 : decode cL_law (t + 28) = .ok (.lconst 0, 1)) (d29 : decode cL_law (t + 29) = .ok (.lcmp, 1)) (d30 : decode cL_law (t + 30) = .ok (.ifCond .eq 5, 3)) (d35 : decode cL_law (t + 35) = .ok (.goto off, 3)) (hoff : ((t + 35 : Nat) : Int) + off = ((1099 : Nat) : Int))
    (kk : ∀ (H1 : Heap) (locs1 : List Loc), gZ D (gT cyI cyJ cyO) (XM a cyI cyJ th df la fo he wt br dr fm sz om os st wa rv sk ++ ((o, .inl (cyJ, 1, .inr (.inl u))) :: Y)) A bs s H1 locs1 → W p l e room_1 s m #[Value.ref b] below meth c H1 locs1 cells slots Q (F0 m 1099 ls [])) : W p l e room_1 s m #[Value.ref b] below meth c H locs cells slots Q (F0 m t ls []) := by
  obtain ⟨C0, _, _, _, _, _, _, _⟩ := C
  refine lv_aload_n C0.1 C0.2.1 d0x rfl (lv_at hl 4 rfl) ?_
  refine g_callVi (b := a 0) (As := []) (rest := []) C0 Z (zX4_thrown l D cyI cyJ cyO A bs hA a ((o, .inl (cyJ, 1, .inr (.inl u))) :: Y) th df la fo he wt br dr fm sz om os st wa rv sk 0 th rfl) (cwV 0 C0.2.2.2.2 gL_law_X4_thrown rfl rfl rfl (by decide +kernel) ⟨Nat.le_of_ble_eq_true rfl, Nat.le_of_ble_eq_true rfl⟩) 0 (ci := 6) rfl rfl rfl rfl hl.1 rfl (Nat.le_of_ble_eq_true rfl) d1 hc (fun z _ H1 locs1 hz Z => ?_)
  replace hz : th = z := hz
  subst hz
  refine lv_iload C0.1 C0.2.1 d4 (lv_at hl 1 rfl) ?_
  refine lv_icmp_eq (tgt := t + 11) C0.1 C0.2.1 d6 (by omega) (fun _ => ?_) (fun hne => absurd (hth.trans hx.symm) hne)
  refine lv_iload C0.1 C0.2.1 d11 (lv_at hl 1 rfl) ?_
  refine lv_if_ne (tgt := t + 35) C0.1 C0.2.1 d13 (by omega) (fun _ => lv_goto (tgt := 1099) C0.1 C0.2.1 d35 hoff (kk _ _ Z)) (fun h0 => ?_)
  have hk0 : k = 0 := (nI_eq (by omega) (by omega)).mp ((hx.symm.trans h0).trans nI_0.symm)
  have hu := hu hk0
  refine lv_aload_n C0.1 C0.2.1 d16 rfl (lv_at hl 5 rfl) ?_
  refine lv_iconst (v := 0) C0.1 C0.2.1 d17 (by decide) ?_
  refine g_lald C0 Z 10 1 (n := 1) (f := u) rfl rfl (i := 0) (vp_in_nI (n := 0) (by decide) (by decide)) d18 ?_
  refine lv_iload C0.1 C0.2.1 d19 (lv_at hl 0 rfl) ?_
  refine lv_if_eq (tgt := t + 28) C0.1 C0.2.1 d21 (by omega) (fun hy0 => ?_) (fun hy0 => ?_)
  · rw [if_pos hy0] at hu
    refine lv_lconst (v := 0) C0.1 C0.2.1 d28 (by decide) ?_
    refine W.lcmp C0.1 C0.2.1 d29 ?_
    exact lv_if_eq (tgt := t + 35) C0.1 C0.2.1 d30 (by omega) (fun _ => lv_goto (tgt := 1099) C0.1 C0.2.1 d35 hoff (kk _ _ Z)) (fun hne => absurd ((lg_cmp_eq _ _).mpr hu) hne)
  · rw [if_neg hy0] at hu
    refine lv_lconst (v := 1) C0.1 C0.2.1 d24 (by decide) ?_
    refine lv_goto (tgt := t + 29) C0.1 C0.2.1 d25 (by omega) ?_
    refine W.lcmp C0.1 C0.2.1 d29 ?_
    exact lv_if_eq (tgt := t + 35) C0.1 C0.2.1 d30 (by omega) (fun _ => lv_goto (tgt := 1099) C0.1 C0.2.1 d35 hoff (kk _ _ Z)) (fun hne => absurd ((lg_cmp_eq _ _).mpr hu) hne)
end LT
