/-! the reference is made -/
abbrev rmX4_init : Room := { frames := 1, cells := 9, slots := 2505, locals := 40 }
theorem kX4_init_in : ∀ w ∈ wsX40, w ∈ wsX4_init := by decide +kernel
theorem kX4_init_1 : Cond.arrayClass .int ∈ wsX4_init := by decide +kernel
theorem kX4_init_2 : Cond.arrayClass .long ∈ wsX4_init := by decide +kernel
theorem kX4_init_f7 : Cond.fieldLink RX4 7 "GoalseekOfficeModel" "draft" "[I" ∈ wsX4_init := by decide +kernel
theorem kX4_init_f13 : Cond.fieldLink RX4 13 "GoalseekOfficeModel" "formulas" "[I" ∈ wsX4_init := by decide +kernel
theorem kX4_init_f16 : Cond.fieldLink RX4 16 "GoalseekOfficeModel" "sizes" "[I" ∈ wsX4_init := by decide +kernel
theorem kX4_init_f19 : Cond.fieldLink RX4 19 "GoalseekOfficeModel" "oldFormulas" "[I" ∈ wsX4_init := by decide +kernel
theorem kX4_init_f22 : Cond.fieldLink RX4 22 "GoalseekOfficeModel" "oldSizes" "[I" ∈ wsX4_init := by decide +kernel
theorem kX4_init_f25 : Cond.fieldLink RX4 25 "GoalseekOfficeModel" "values" "[J" ∈ wsX4_init := by decide +kernel
theorem kX4_init_f29 : Cond.fieldLink RX4 29 "GoalseekOfficeModel" "states" "[I" ∈ wsX4_init := by decide +kernel
theorem kX4_init_f32 : Cond.fieldLink RX4 32 "GoalseekOfficeModel" "stack" "[J" ∈ wsX4_init := by decide +kernel
theorem kX4_init_f35 : Cond.fieldLink RX4 35 "GoalseekOfficeModel" "waiting" "[I" ∈ wsX4_init := by decide +kernel
theorem kX4_init_o1 : Cond.methodLink RX4 1 objectInit ∈ wsX4_init := by decide +kernel
theorem kX4_init_o2 : Cond.instanceMethod objectInit ∈ wsX4_init := by decide +kernel
theorem kX4_init_o3 : Cond.code objectInit ⟨#[0xb1]⟩ 1 none ∈ wsX4_init := by decide +kernel
abbrev nuX4 : List Value := [.int 0, .null, .int 0, .null, .null, .int 0, .null, .null, .int 0, .null, .null, .null, .int 0, .null, .int 0, .int 0]
set_option maxRecDepth 20000 in
set_option maxHeartbeats 4000000 in
theorem zX4_init (l : Launch) (D : va_G) (cyI cyJ cyO : ClassId) (A : Nat → Prop) (bs : Nat) (hA : ∀ q, bs ≤ q → A q) (b : Nat) : Met l yX4_init wsX4_init rmX4_init (va_Pc [.ref b] (fun U => gW D (gT cyI cyJ cyO) [(b, .inr (6, nuX4))] A bs U)) (va_Qv (fun (a : Nat → Nat) => a 0 = b) (fun (a : Nat → Nat) U => gW D (gT cyI cyJ cyO) (XM a cyI cyJ 0 0 0 0 0 0 0 (fun _ => 0) (fun _ => 0) (fun _ => 0) (fun _ => 0) (fun _ => 0) (fun _ => 0) (fun _ => 0) (fun _ => 0) (fun _ => 0)) A bs U) A) 9 2505 A := by
  refine Met.ofW (cc := cX4_init) (maxL := 1) (ret := none) (by decide) rfl ?_
  intro p e s m args below meth c s₁ B hml hv
  obtain ⟨hav, hv⟩ := hv
  have C0 : gC p m meth c cX4_init 1 none s args wsX4_init RX4 := ⟨⟨B.exec, B.bytes, hml, findClass_of_methodNamed B.named, atoms_spec (ws := wsX4_init) B.pre⟩, B.returns, B.notSynchronized⟩
  have hnm : meth.name = "<init>" := (name_of_methodNamed B.named B.method).1
  have Z := g_start hA hv
  have hl := lv_entry ([.ref b]) (n := 1) (Nat.le_of_ble_eq_true rfl)
  rw [hav, lg_entry_eq]
  generalize (lg_sl ([.ref b]) ++ List.replicate (1 - (lg_sl ([.ref b])).length) Slot.unset).toArray = ls at hl ⊢
  have hl : lv_has ls 1 [(0, .ref b)] := hl
  rw [← hav]
  refine lv_aload_n C0.1.1 C0.1.2.1 dX4_init_0 rfl (lv_at hl 0 rfl) ?_
  refine W.objInit C0.1.1 C0.1.2.1 C0.1.2.2.2.1 (C0.1.2.2.2.2 _ kX4_init_o1) (C0.1.2.2.2.2 _ kX4_init_o2) (C0.1.2.2.2.2 _ kX4_init_o3) rfl (hl.1.trans C0.1.2.2.1.symm) rfl dX4_init_1 (Nat.le_of_ble_eq_true rfl) (Nat.le_of_ble_eq_true rfl) ?_
  refine W.eq (g2 := F0 m 4 ls []) rfl ?_
  refine lv_aload_n C0.1.1 C0.1.2.1 dX4_init_4 rfl (lv_at hl 0 rfl) ?_
  refine lv_bipush (v := 15) C0.1.1 C0.1.2.1 dX4_init_5 (by decide +kernel) ?_
  refine g_newI C0.1 kX4_init_1 Z (N' := 15) (by decide) rfl (Nat.le_of_ble_eq_true rfl) (Nat.le_of_ble_eq_true rfl) (Nat.le_of_ble_eq_true rfl) dX4_init_7 (fun q1 H Z => ?_)
  refine g_putF C0.1 hnm Z 0 (ci := 6) rfl rfl 1 (by decide) kX4_init_in kX4_init_f7 rfl rfl tyX4 tyX4_ok nmX4 rfl (by rfl) (by rfl) (Nat.le_of_ble_eq_true rfl) dX4_init_9 rfl (fun H locs Z => ?_)
  refine lv_aload_n C0.1.1 C0.1.2.1 dX4_init_12 rfl (lv_at hl 0 rfl) ?_
  refine lv_sipush (v := 450) C0.1.1 C0.1.2.1 dX4_init_13 (by decide +kernel) ?_
  refine g_newI C0.1 kX4_init_1 Z (N' := 450) (by decide) rfl (Nat.le_of_ble_eq_true rfl) (Nat.le_of_ble_eq_true rfl) (Nat.le_of_ble_eq_true rfl) dX4_init_16 (fun q2 H Z => ?_)
  refine g_putF C0.1 hnm Z 0 (ci := 6) rfl rfl 3 (by decide) kX4_init_in kX4_init_f13 rfl rfl tyX4 tyX4_ok nmX4 rfl (by rfl) (by rfl) (Nat.le_of_ble_eq_true rfl) dX4_init_18 rfl (fun H locs Z => ?_)
  refine lv_aload_n C0.1.1 C0.1.2.1 dX4_init_21 rfl (lv_at hl 0 rfl) ?_
  refine lv_bipush (v := 30) C0.1.1 C0.1.2.1 dX4_init_22 (by decide +kernel) ?_
  refine g_newI C0.1 kX4_init_1 Z (N' := 30) (by decide) rfl (Nat.le_of_ble_eq_true rfl) (Nat.le_of_ble_eq_true rfl) (Nat.le_of_ble_eq_true rfl) dX4_init_24 (fun q3 H Z => ?_)
  refine g_putF C0.1 hnm Z 0 (ci := 6) rfl rfl 4 (by decide) kX4_init_in kX4_init_f16 rfl rfl tyX4 tyX4_ok nmX4 rfl (by rfl) (by rfl) (Nat.le_of_ble_eq_true rfl) dX4_init_26 rfl (fun H locs Z => ?_)
  refine lv_aload_n C0.1.1 C0.1.2.1 dX4_init_29 rfl (lv_at hl 0 rfl) ?_
  refine lv_sipush (v := 1800) C0.1.1 C0.1.2.1 dX4_init_30 (by decide +kernel) ?_
  refine g_newI C0.1 kX4_init_1 Z (N' := 1800) (by decide) rfl (Nat.le_of_ble_eq_true rfl) (Nat.le_of_ble_eq_true rfl) (Nat.le_of_ble_eq_true rfl) dX4_init_33 (fun q4 H Z => ?_)
  refine g_putF C0.1 hnm Z 0 (ci := 6) rfl rfl 6 (by decide) kX4_init_in kX4_init_f19 rfl rfl tyX4 tyX4_ok nmX4 rfl (by rfl) (by rfl) (Nat.le_of_ble_eq_true rfl) dX4_init_35 rfl (fun H locs Z => ?_)
  refine lv_aload_n C0.1.1 C0.1.2.1 dX4_init_38 rfl (lv_at hl 0 rfl) ?_
  refine lv_bipush (v := 120) C0.1.1 C0.1.2.1 dX4_init_39 (by decide +kernel) ?_
  refine g_newI C0.1 kX4_init_1 Z (N' := 120) (by decide) rfl (Nat.le_of_ble_eq_true rfl) (Nat.le_of_ble_eq_true rfl) (Nat.le_of_ble_eq_true rfl) dX4_init_41 (fun q5 H Z => ?_)
  refine g_putF C0.1 hnm Z 0 (ci := 6) rfl rfl 7 (by decide) kX4_init_in kX4_init_f22 rfl rfl tyX4 tyX4_ok nmX4 rfl (by rfl) (by rfl) (Nat.le_of_ble_eq_true rfl) dX4_init_43 rfl (fun H locs Z => ?_)
  refine lv_aload_n C0.1.1 C0.1.2.1 dX4_init_46 rfl (lv_at hl 0 rfl) ?_
  refine lv_bipush (v := 30) C0.1.1 C0.1.2.1 dX4_init_47 (by decide +kernel) ?_
  refine g_newL C0.1 kX4_init_2 Z (N' := 30) (by decide) rfl (Nat.le_of_ble_eq_true rfl) (Nat.le_of_ble_eq_true rfl) (Nat.le_of_ble_eq_true rfl) dX4_init_49 (fun q6 H Z => ?_)
  refine g_putF C0.1 hnm Z 0 (ci := 6) rfl rfl 9 (by decide) kX4_init_in kX4_init_f25 rfl rfl tyX4 tyX4_ok nmX4 rfl (by rfl) (by rfl) (Nat.le_of_ble_eq_true rfl) dX4_init_51 rfl (fun H locs Z => ?_)
  refine lv_aload_n C0.1.1 C0.1.2.1 dX4_init_54 rfl (lv_at hl 0 rfl) ?_
  refine lv_bipush (v := 30) C0.1.1 C0.1.2.1 dX4_init_55 (by decide +kernel) ?_
  refine g_newI C0.1 kX4_init_1 Z (N' := 30) (by decide) rfl (Nat.le_of_ble_eq_true rfl) (Nat.le_of_ble_eq_true rfl) (Nat.le_of_ble_eq_true rfl) dX4_init_57 (fun q7 H Z => ?_)
  refine g_putF C0.1 hnm Z 0 (ci := 6) rfl rfl 10 (by decide) kX4_init_in kX4_init_f29 rfl rfl tyX4 tyX4_ok nmX4 rfl (by rfl) (by rfl) (Nat.le_of_ble_eq_true rfl) dX4_init_59 rfl (fun H locs Z => ?_)
  refine lv_aload_n C0.1.1 C0.1.2.1 dX4_init_62 rfl (lv_at hl 0 rfl) ?_
  refine lv_bipush (v := 15) C0.1.1 C0.1.2.1 dX4_init_63 (by decide +kernel) ?_
  refine g_newL C0.1 kX4_init_2 Z (N' := 15) (by decide) rfl (Nat.le_of_ble_eq_true rfl) (Nat.le_of_ble_eq_true rfl) (Nat.le_of_ble_eq_true rfl) dX4_init_65 (fun q8 H Z => ?_)
  refine g_putF C0.1 hnm Z 0 (ci := 6) rfl rfl 11 (by decide) kX4_init_in kX4_init_f32 rfl rfl tyX4 tyX4_ok nmX4 rfl (by rfl) (by rfl) (Nat.le_of_ble_eq_true rfl) dX4_init_67 rfl (fun H locs Z => ?_)
  refine lv_aload_n C0.1.1 C0.1.2.1 dX4_init_70 rfl (lv_at hl 0 rfl) ?_
  refine lv_bipush (v := 15) C0.1.1 C0.1.2.1 dX4_init_71 (by decide +kernel) ?_
  refine g_newI C0.1 kX4_init_1 Z (N' := 15) (by decide) rfl (Nat.le_of_ble_eq_true rfl) (Nat.le_of_ble_eq_true rfl) (Nat.le_of_ble_eq_true rfl) dX4_init_73 (fun q9 H Z => ?_)
  refine g_putF C0.1 hnm Z 0 (ci := 6) rfl rfl 13 (by decide) kX4_init_in kX4_init_f35 rfl rfl tyX4 tyX4_ok nmX4 rfl (by rfl) (by rfl) (Nat.le_of_ble_eq_true rfl) dX4_init_75 rfl (fun H locs Z => ?_)
  exact W.vret C0.1.1 C0.1.2.1 C0.2.1 (fun t ht hW => ⟨⟨fun k => [b, q1, q2, q3, q4, q5, q6, q7, q8, q9].getD k 0, rfl, rfl, g_end Z ht hW⟩, va_S.F Z.2.2.2.1 ht⟩) Z.2.2.2.1.2.2 dX4_init_78 C0.2.2
