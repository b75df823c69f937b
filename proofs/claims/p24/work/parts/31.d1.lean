/-! J6_bitCount_0f7a4 -/
abbrev rmJ6_bitCount_0f7a4 : Room := { frames := 0, cells := 0, slots := 0, locals := 0 }
theorem kJ6_bitCount_0f7a4_c265 : Cond.constant RJ6 265 (1431655765) ∈ wsJ6_bitCount_0f7a4 := by decide +kernel
theorem kJ6_bitCount_0f7a4_c266 : Cond.constant RJ6 266 (858993459) ∈ wsJ6_bitCount_0f7a4 := by decide +kernel
theorem kJ6_bitCount_0f7a4_c267 : Cond.constant RJ6 267 (252645135) ∈ wsJ6_bitCount_0f7a4 := by decide +kernel
def mJ6_bitCount_0f7a4 (N : Nat) (p0 : Int32) : Option (Int32) := some ((((((((p0 - (((p0.toUInt32 >>> ((1 : Int32).toUInt32 &&& Int32.toUInt32 31)).toInt32) &&& (1431655765 : Int32))) &&& (858993459 : Int32)) + ((((p0 - (((p0.toUInt32 >>> ((1 : Int32).toUInt32 &&& Int32.toUInt32 31)).toInt32) &&& (1431655765 : Int32))).toUInt32 >>> ((2 : Int32).toUInt32 &&& Int32.toUInt32 31)).toInt32) &&& (858993459 : Int32))) + (((((p0 - (((p0.toUInt32 >>> ((1 : Int32).toUInt32 &&& Int32.toUInt32 31)).toInt32) &&& (1431655765 : Int32))) &&& (858993459 : Int32)) + ((((p0 - (((p0.toUInt32 >>> ((1 : Int32).toUInt32 &&& Int32.toUInt32 31)).toInt32) &&& (1431655765 : Int32))).toUInt32 >>> ((2 : Int32).toUInt32 &&& Int32.toUInt32 31)).toInt32) &&& (858993459 : Int32))).toUInt32 >>> ((4 : Int32).toUInt32 &&& Int32.toUInt32 31)).toInt32)) &&& (252645135 : Int32)) + (((((((p0 - (((p0.toUInt32 >>> ((1 : Int32).toUInt32 &&& Int32.toUInt32 31)).toInt32) &&& (1431655765 : Int32))) &&& (858993459 : Int32)) + ((((p0 - (((p0.toUInt32 >>> ((1 : Int32).toUInt32 &&& Int32.toUInt32 31)).toInt32) &&& (1431655765 : Int32))).toUInt32 >>> ((2 : Int32).toUInt32 &&& Int32.toUInt32 31)).toInt32) &&& (858993459 : Int32))) + (((((p0 - (((p0.toUInt32 >>> ((1 : Int32).toUInt32 &&& Int32.toUInt32 31)).toInt32) &&& (1431655765 : Int32))) &&& (858993459 : Int32)) + ((((p0 - (((p0.toUInt32 >>> ((1 : Int32).toUInt32 &&& Int32.toUInt32 31)).toInt32) &&& (1431655765 : Int32))).toUInt32 >>> ((2 : Int32).toUInt32 &&& Int32.toUInt32 31)).toInt32) &&& (858993459 : Int32))).toUInt32 >>> ((4 : Int32).toUInt32 &&& Int32.toUInt32 31)).toInt32)) &&& (252645135 : Int32)).toUInt32 >>> ((8 : Int32).toUInt32 &&& Int32.toUInt32 31)).toInt32)) + ((((((((p0 - (((p0.toUInt32 >>> ((1 : Int32).toUInt32 &&& Int32.toUInt32 31)).toInt32) &&& (1431655765 : Int32))) &&& (858993459 : Int32)) + ((((p0 - (((p0.toUInt32 >>> ((1 : Int32).toUInt32 &&& Int32.toUInt32 31)).toInt32) &&& (1431655765 : Int32))).toUInt32 >>> ((2 : Int32).toUInt32 &&& Int32.toUInt32 31)).toInt32) &&& (858993459 : Int32))) + (((((p0 - (((p0.toUInt32 >>> ((1 : Int32).toUInt32 &&& Int32.toUInt32 31)).toInt32) &&& (1431655765 : Int32))) &&& (858993459 : Int32)) + ((((p0 - (((p0.toUInt32 >>> ((1 : Int32).toUInt32 &&& Int32.toUInt32 31)).toInt32) &&& (1431655765 : Int32))).toUInt32 >>> ((2 : Int32).toUInt32 &&& Int32.toUInt32 31)).toInt32) &&& (858993459 : Int32))).toUInt32 >>> ((4 : Int32).toUInt32 &&& Int32.toUInt32 31)).toInt32)) &&& (252645135 : Int32)) + (((((((p0 - (((p0.toUInt32 >>> ((1 : Int32).toUInt32 &&& Int32.toUInt32 31)).toInt32) &&& (1431655765 : Int32))) &&& (858993459 : Int32)) + ((((p0 - (((p0.toUInt32 >>> ((1 : Int32).toUInt32 &&& Int32.toUInt32 31)).toInt32) &&& (1431655765 : Int32))).toUInt32 >>> ((2 : Int32).toUInt32 &&& Int32.toUInt32 31)).toInt32) &&& (858993459 : Int32))) + (((((p0 - (((p0.toUInt32 >>> ((1 : Int32).toUInt32 &&& Int32.toUInt32 31)).toInt32) &&& (1431655765 : Int32))) &&& (858993459 : Int32)) + ((((p0 - (((p0.toUInt32 >>> ((1 : Int32).toUInt32 &&& Int32.toUInt32 31)).toInt32) &&& (1431655765 : Int32))).toUInt32 >>> ((2 : Int32).toUInt32 &&& Int32.toUInt32 31)).toInt32) &&& (858993459 : Int32))).toUInt32 >>> ((4 : Int32).toUInt32 &&& Int32.toUInt32 31)).toInt32)) &&& (252645135 : Int32)).toUInt32 >>> ((8 : Int32).toUInt32 &&& Int32.toUInt32 31)).toInt32)).toUInt32 >>> ((16 : Int32).toUInt32 &&& Int32.toUInt32 31)).toInt32)) &&& (63 : Int32))
set_option maxRecDepth 20000 in
set_option maxHeartbeats 4000000 in
theorem zJ6_bitCount_0f7a4 (l : Launch) (D : va_G) (cyI cyJ cyO : ClassId) (A : Nat → Prop) (bs : Nat) (hA : ∀ q, bs ≤ q → A q) (ws : va_W) (N : Nat) (p0 : Int32) (res : Int32) (h : mJ6_bitCount_0f7a4 N p0 = some res) : Met l yJ6_bitCount_0f7a4 wsJ6_bitCount_0f7a4 rmJ6_bitCount_0f7a4 (va_Pc [.int p0] (gW D (gT cyI cyJ cyO) ws A bs)) (va_Qi (fun (r : Int32) (_ : Unit) => res = r) (fun (u : Unit) U => gW D (gT cyI cyJ cyO) ws A bs U) A)  0 0 A := by
  refine Met.ofW (cc := cJ6_bitCount_0f7a4) (maxL := 1) (ret := (some .int)) (by decide) rfl ?_
  intro p e s m args below meth c s₁ B hml hv
  obtain ⟨hav, hv⟩ := hv
  have C0 : gC p m meth c cJ6_bitCount_0f7a4 1 (some .int) s args wsJ6_bitCount_0f7a4 RJ6 := ⟨⟨B.exec, B.bytes, hml, findClass_of_methodNamed B.named, atoms_spec (ws := wsJ6_bitCount_0f7a4) B.pre⟩, B.returns, B.notSynchronized⟩
  have Z := g_start hA hv
  have hret : ∀ (r : Int32) (H : Heap) (locs : List Loc) (pc : Nat) (ls : Array Slot), some r = some res → gZ D (gT cyI cyJ cyO) ws A bs s H locs → decode cJ6_bitCount_0f7a4 pc = .ok (.ireturn, 1) → W p l e rmJ6_bitCount_0f7a4 s m args below meth c H locs 0 0 (MQ below (va_Qi (fun (r : Int32) (_ : Unit) => res = r) (fun (u : Unit) U => gW D (gT cyI cyJ cyO) ws A bs U) A) args s 0 0 A) (F0 m pc ls [.int r]) := by
    intro r H locs pc ls h Z hd
    replace h := Option.some.inj h
    subst h
    exact W.iret C0.1.1 C0.1.2.1 C0.2.1 (fun t ht hW => ⟨⟨r, (), rfl, rfl, g_end Z ht hW⟩, va_S.F Z.2.2.2.1 ht⟩) Z.2.2.2.1.2.2 hd C0.2.2
  have hl := lv_entry ([.int p0]) (n := 1) (Nat.le_of_ble_eq_true rfl)
  rw [hav, lg_entry_eq]
  generalize (lg_sl ([.int p0]) ++ List.replicate (1 - (lg_sl ([.int p0])).length) Slot.unset).toArray = ls at hl ⊢
  have hl : lv_has ls 1 [(0, .int p0)] := hl
  rw [← hav]
  unfold mJ6_bitCount_0f7a4 at h
  refine lv_iload_n C0.1.1 C0.1.2.1 dJ6_bitCount_0f7a4_0 rfl (lv_at hl 0 rfl) ?_
  refine lv_iload_n C0.1.1 C0.1.2.1 dJ6_bitCount_0f7a4_1 rfl (lv_at hl 0 rfl) ?_
  refine lv_iconst (v := 1) C0.1.1 C0.1.2.1 dJ6_bitCount_0f7a4_2 (by decide) ?_
  refine lv_iushr C0.1.1 C0.1.2.1 dJ6_bitCount_0f7a4_3 rfl ?_
  refine lv_ldcw C0.1.1 C0.1.2.1 C0.1.2.2.2.1 (C0.1.2.2.2.2 _ kJ6_bitCount_0f7a4_c265) dJ6_bitCount_0f7a4_4 ?_
  refine lv_iand C0.1.1 C0.1.2.1 dJ6_bitCount_0f7a4_7 ?_
  refine lv_isub C0.1.1 C0.1.2.1 dJ6_bitCount_0f7a4_8 ?_
  refine lv_istore_n (lv' := [(0, .int (p0 - (((p0.toUInt32 >>> ((1 : Int32).toUInt32 &&& Int32.toUInt32 31)).toInt32) &&& (1431655765 : Int32))))]) C0.1.1 C0.1.2.1 dJ6_bitCount_0f7a4_9 rfl hl (by decide) rfl (fun ls hl => ?_)
  refine lv_iload_n C0.1.1 C0.1.2.1 dJ6_bitCount_0f7a4_10 rfl (lv_at hl 0 rfl) ?_
  refine lv_ldcw C0.1.1 C0.1.2.1 C0.1.2.2.2.1 (C0.1.2.2.2.2 _ kJ6_bitCount_0f7a4_c266) dJ6_bitCount_0f7a4_11 ?_
  refine lv_iand C0.1.1 C0.1.2.1 dJ6_bitCount_0f7a4_14 ?_
  refine lv_iload_n C0.1.1 C0.1.2.1 dJ6_bitCount_0f7a4_15 rfl (lv_at hl 0 rfl) ?_
  refine lv_iconst (v := 2) C0.1.1 C0.1.2.1 dJ6_bitCount_0f7a4_16 (by decide) ?_
  refine lv_iushr C0.1.1 C0.1.2.1 dJ6_bitCount_0f7a4_17 rfl ?_
  refine lv_ldcw C0.1.1 C0.1.2.1 C0.1.2.2.2.1 (C0.1.2.2.2.2 _ kJ6_bitCount_0f7a4_c266) dJ6_bitCount_0f7a4_18 ?_
  refine lv_iand C0.1.1 C0.1.2.1 dJ6_bitCount_0f7a4_21 ?_
  refine lv_iadd C0.1.1 C0.1.2.1 dJ6_bitCount_0f7a4_22 ?_
  refine lv_istore_n (lv' := [(0, .int (((p0 - (((p0.toUInt32 >>> ((1 : Int32).toUInt32 &&& Int32.toUInt32 31)).toInt32) &&& (1431655765 : Int32))) &&& (858993459 : Int32)) + ((((p0 - (((p0.toUInt32 >>> ((1 : Int32).toUInt32 &&& Int32.toUInt32 31)).toInt32) &&& (1431655765 : Int32))).toUInt32 >>> ((2 : Int32).toUInt32 &&& Int32.toUInt32 31)).toInt32) &&& (858993459 : Int32))))]) C0.1.1 C0.1.2.1 dJ6_bitCount_0f7a4_23 rfl hl (by decide) rfl (fun ls hl => ?_)
  refine lv_iload_n C0.1.1 C0.1.2.1 dJ6_bitCount_0f7a4_24 rfl (lv_at hl 0 rfl) ?_
  refine lv_iload_n C0.1.1 C0.1.2.1 dJ6_bitCount_0f7a4_25 rfl (lv_at hl 0 rfl) ?_
  refine lv_iconst (v := 4) C0.1.1 C0.1.2.1 dJ6_bitCount_0f7a4_26 (by decide) ?_
  refine lv_iushr C0.1.1 C0.1.2.1 dJ6_bitCount_0f7a4_27 rfl ?_
  refine lv_iadd C0.1.1 C0.1.2.1 dJ6_bitCount_0f7a4_28 ?_
  refine lv_ldcw C0.1.1 C0.1.2.1 C0.1.2.2.2.1 (C0.1.2.2.2.2 _ kJ6_bitCount_0f7a4_c267) dJ6_bitCount_0f7a4_29 ?_
  refine lv_iand C0.1.1 C0.1.2.1 dJ6_bitCount_0f7a4_32 ?_
  refine lv_istore_n (lv' := [(0, .int (((((p0 - (((p0.toUInt32 >>> ((1 : Int32).toUInt32 &&& Int32.toUInt32 31)).toInt32) &&& (1431655765 : Int32))) &&& (858993459 : Int32)) + ((((p0 - (((p0.toUInt32 >>> ((1 : Int32).toUInt32 &&& Int32.toUInt32 31)).toInt32) &&& (1431655765 : Int32))).toUInt32 >>> ((2 : Int32).toUInt32 &&& Int32.toUInt32 31)).toInt32) &&& (858993459 : Int32))) + (((((p0 - (((p0.toUInt32 >>> ((1 : Int32).toUInt32 &&& Int32.toUInt32 31)).toInt32) &&& (1431655765 : Int32))) &&& (858993459 : Int32)) + ((((p0 - (((p0.toUInt32 >>> ((1 : Int32).toUInt32 &&& Int32.toUInt32 31)).toInt32) &&& (1431655765 : Int32))).toUInt32 >>> ((2 : Int32).toUInt32 &&& Int32.toUInt32 31)).toInt32) &&& (858993459 : Int32))).toUInt32 >>> ((4 : Int32).toUInt32 &&& Int32.toUInt32 31)).toInt32)) &&& (252645135 : Int32)))]) C0.1.1 C0.1.2.1 dJ6_bitCount_0f7a4_33 rfl hl (by decide) rfl (fun ls hl => ?_)
  refine lv_iload_n C0.1.1 C0.1.2.1 dJ6_bitCount_0f7a4_34 rfl (lv_at hl 0 rfl) ?_
  refine lv_iload_n C0.1.1 C0.1.2.1 dJ6_bitCount_0f7a4_35 rfl (lv_at hl 0 rfl) ?_
  refine lv_bipush (v := 8) C0.1.1 C0.1.2.1 dJ6_bitCount_0f7a4_36 (by decide +kernel) ?_
  refine lv_iushr C0.1.1 C0.1.2.1 dJ6_bitCount_0f7a4_38 rfl ?_
  refine lv_iadd C0.1.1 C0.1.2.1 dJ6_bitCount_0f7a4_39 ?_
  refine lv_istore_n (lv' := [(0, .int ((((((p0 - (((p0.toUInt32 >>> ((1 : Int32).toUInt32 &&& Int32.toUInt32 31)).toInt32) &&& (1431655765 : Int32))) &&& (858993459 : Int32)) + ((((p0 - (((p0.toUInt32 >>> ((1 : Int32).toUInt32 &&& Int32.toUInt32 31)).toInt32) &&& (1431655765 : Int32))).toUInt32 >>> ((2 : Int32).toUInt32 &&& Int32.toUInt32 31)).toInt32) &&& (858993459 : Int32))) + (((((p0 - (((p0.toUInt32 >>> ((1 : Int32).toUInt32 &&& Int32.toUInt32 31)).toInt32) &&& (1431655765 : Int32))) &&& (858993459 : Int32)) + ((((p0 - (((p0.toUInt32 >>> ((1 : Int32).toUInt32 &&& Int32.toUInt32 31)).toInt32) &&& (1431655765 : Int32))).toUInt32 >>> ((2 : Int32).toUInt32 &&& Int32.toUInt32 31)).toInt32) &&& (858993459 : Int32))).toUInt32 >>> ((4 : Int32).toUInt32 &&& Int32.toUInt32 31)).toInt32)) &&& (252645135 : Int32)) + (((((((p0 - (((p0.toUInt32 >>> ((1 : Int32).toUInt32 &&& Int32.toUInt32 31)).toInt32) &&& (1431655765 : Int32))) &&& (858993459 : Int32)) + ((((p0 - (((p0.toUInt32 >>> ((1 : Int32).toUInt32 &&& Int32.toUInt32 31)).toInt32) &&& (1431655765 : Int32))).toUInt32 >>> ((2 : Int32).toUInt32 &&& Int32.toUInt32 31)).toInt32) &&& (858993459 : Int32))) + (((((p0 - (((p0.toUInt32 >>> ((1 : Int32).toUInt32 &&& Int32.toUInt32 31)).toInt32) &&& (1431655765 : Int32))) &&& (858993459 : Int32)) + ((((p0 - (((p0.toUInt32 >>> ((1 : Int32).toUInt32 &&& Int32.toUInt32 31)).toInt32) &&& (1431655765 : Int32))).toUInt32 >>> ((2 : Int32).toUInt32 &&& Int32.toUInt32 31)).toInt32) &&& (858993459 : Int32))).toUInt32 >>> ((4 : Int32).toUInt32 &&& Int32.toUInt32 31)).toInt32)) &&& (252645135 : Int32)).toUInt32 >>> ((8 : Int32).toUInt32 &&& Int32.toUInt32 31)).toInt32)))]) C0.1.1 C0.1.2.1 dJ6_bitCount_0f7a4_40 rfl hl (by decide) rfl (fun ls hl => ?_)
  refine lv_iload_n C0.1.1 C0.1.2.1 dJ6_bitCount_0f7a4_41 rfl (lv_at hl 0 rfl) ?_
  refine lv_iload_n C0.1.1 C0.1.2.1 dJ6_bitCount_0f7a4_42 rfl (lv_at hl 0 rfl) ?_
  refine lv_bipush (v := 16) C0.1.1 C0.1.2.1 dJ6_bitCount_0f7a4_43 (by decide +kernel) ?_
  refine lv_iushr C0.1.1 C0.1.2.1 dJ6_bitCount_0f7a4_45 rfl ?_
  refine lv_iadd C0.1.1 C0.1.2.1 dJ6_bitCount_0f7a4_46 ?_
  refine lv_istore_n (lv' := [(0, .int (((((((p0 - (((p0.toUInt32 >>> ((1 : Int32).toUInt32 &&& Int32.toUInt32 31)).toInt32) &&& (1431655765 : Int32))) &&& (858993459 : Int32)) + ((((p0 - (((p0.toUInt32 >>> ((1 : Int32).toUInt32 &&& Int32.toUInt32 31)).toInt32) &&& (1431655765 : Int32))).toUInt32 >>> ((2 : Int32).toUInt32 &&& Int32.toUInt32 31)).toInt32) &&& (858993459 : Int32))) + (((((p0 - (((p0.toUInt32 >>> ((1 : Int32).toUInt32 &&& Int32.toUInt32 31)).toInt32) &&& (1431655765 : Int32))) &&& (858993459 : Int32)) + ((((p0 - (((p0.toUInt32 >>> ((1 : Int32).toUInt32 &&& Int32.toUInt32 31)).toInt32) &&& (1431655765 : Int32))).toUInt32 >>> ((2 : Int32).toUInt32 &&& Int32.toUInt32 31)).toInt32) &&& (858993459 : Int32))).toUInt32 >>> ((4 : Int32).toUInt32 &&& Int32.toUInt32 31)).toInt32)) &&& (252645135 : Int32)) + (((((((p0 - (((p0.toUInt32 >>> ((1 : Int32).toUInt32 &&& Int32.toUInt32 31)).toInt32) &&& (1431655765 : Int32))) &&& (858993459 : Int32)) + ((((p0 - (((p0.toUInt32 >>> ((1 : Int32).toUInt32 &&& Int32.toUInt32 31)).toInt32) &&& (1431655765 : Int32))).toUInt32 >>> ((2 : Int32).toUInt32 &&& Int32.toUInt32 31)).toInt32) &&& (858993459 : Int32))) + (((((p0 - (((p0.toUInt32 >>> ((1 : Int32).toUInt32 &&& Int32.toUInt32 31)).toInt32) &&& (1431655765 : Int32))) &&& (858993459 : Int32)) + ((((p0 - (((p0.toUInt32 >>> ((1 : Int32).toUInt32 &&& Int32.toUInt32 31)).toInt32) &&& (1431655765 : Int32))).toUInt32 >>> ((2 : Int32).toUInt32 &&& Int32.toUInt32 31)).toInt32) &&& (858993459 : Int32))).toUInt32 >>> ((4 : Int32).toUInt32 &&& Int32.toUInt32 31)).toInt32)) &&& (252645135 : Int32)).toUInt32 >>> ((8 : Int32).toUInt32 &&& Int32.toUInt32 31)).toInt32)) + ((((((((p0 - (((p0.toUInt32 >>> ((1 : Int32).toUInt32 &&& Int32.toUInt32 31)).toInt32) &&& (1431655765 : Int32))) &&& (858993459 : Int32)) + ((((p0 - (((p0.toUInt32 >>> ((1 : Int32).toUInt32 &&& Int32.toUInt32 31)).toInt32) &&& (1431655765 : Int32))).toUInt32 >>> ((2 : Int32).toUInt32 &&& Int32.toUInt32 31)).toInt32) &&& (858993459 : Int32))) + (((((p0 - (((p0.toUInt32 >>> ((1 : Int32).toUInt32 &&& Int32.toUInt32 31)).toInt32) &&& (1431655765 : Int32))) &&& (858993459 : Int32)) + ((((p0 - (((p0.toUInt32 >>> ((1 : Int32).toUInt32 &&& Int32.toUInt32 31)).toInt32) &&& (1431655765 : Int32))).toUInt32 >>> ((2 : Int32).toUInt32 &&& Int32.toUInt32 31)).toInt32) &&& (858993459 : Int32))).toUInt32 >>> ((4 : Int32).toUInt32 &&& Int32.toUInt32 31)).toInt32)) &&& (252645135 : Int32)) + (((((((p0 - (((p0.toUInt32 >>> ((1 : Int32).toUInt32 &&& Int32.toUInt32 31)).toInt32) &&& (1431655765 : Int32))) &&& (858993459 : Int32)) + ((((p0 - (((p0.toUInt32 >>> ((1 : Int32).toUInt32 &&& Int32.toUInt32 31)).toInt32) &&& (1431655765 : Int32))).toUInt32 >>> ((2 : Int32).toUInt32 &&& Int32.toUInt32 31)).toInt32) &&& (858993459 : Int32))) + (((((p0 - (((p0.toUInt32 >>> ((1 : Int32).toUInt32 &&& Int32.toUInt32 31)).toInt32) &&& (1431655765 : Int32))) &&& (858993459 : Int32)) + ((((p0 - (((p0.toUInt32 >>> ((1 : Int32).toUInt32 &&& Int32.toUInt32 31)).toInt32) &&& (1431655765 : Int32))).toUInt32 >>> ((2 : Int32).toUInt32 &&& Int32.toUInt32 31)).toInt32) &&& (858993459 : Int32))).toUInt32 >>> ((4 : Int32).toUInt32 &&& Int32.toUInt32 31)).toInt32)) &&& (252645135 : Int32)).toUInt32 >>> ((8 : Int32).toUInt32 &&& Int32.toUInt32 31)).toInt32)).toUInt32 >>> ((16 : Int32).toUInt32 &&& Int32.toUInt32 31)).toInt32)))]) C0.1.1 C0.1.2.1 dJ6_bitCount_0f7a4_47 rfl hl (by decide) rfl (fun ls hl => ?_)
  refine lv_iload_n C0.1.1 C0.1.2.1 dJ6_bitCount_0f7a4_48 rfl (lv_at hl 0 rfl) ?_
  refine lv_bipush (v := 63) C0.1.1 C0.1.2.1 dJ6_bitCount_0f7a4_49 (by decide +kernel) ?_
  refine lv_iand C0.1.1 C0.1.2.1 dJ6_bitCount_0f7a4_51 ?_
  exact hret ((((((((p0 - (((p0.toUInt32 >>> ((1 : Int32).toUInt32 &&& Int32.toUInt32 31)).toInt32) &&& (1431655765 : Int32))) &&& (858993459 : Int32)) + ((((p0 - (((p0.toUInt32 >>> ((1 : Int32).toUInt32 &&& Int32.toUInt32 31)).toInt32) &&& (1431655765 : Int32))).toUInt32 >>> ((2 : Int32).toUInt32 &&& Int32.toUInt32 31)).toInt32) &&& (858993459 : Int32))) + (((((p0 - (((p0.toUInt32 >>> ((1 : Int32).toUInt32 &&& Int32.toUInt32 31)).toInt32) &&& (1431655765 : Int32))) &&& (858993459 : Int32)) + ((((p0 - (((p0.toUInt32 >>> ((1 : Int32).toUInt32 &&& Int32.toUInt32 31)).toInt32) &&& (1431655765 : Int32))).toUInt32 >>> ((2 : Int32).toUInt32 &&& Int32.toUInt32 31)).toInt32) &&& (858993459 : Int32))).toUInt32 >>> ((4 : Int32).toUInt32 &&& Int32.toUInt32 31)).toInt32)) &&& (252645135 : Int32)) + (((((((p0 - (((p0.toUInt32 >>> ((1 : Int32).toUInt32 &&& Int32.toUInt32 31)).toInt32) &&& (1431655765 : Int32))) &&& (858993459 : Int32)) + ((((p0 - (((p0.toUInt32 >>> ((1 : Int32).toUInt32 &&& Int32.toUInt32 31)).toInt32) &&& (1431655765 : Int32))).toUInt32 >>> ((2 : Int32).toUInt32 &&& Int32.toUInt32 31)).toInt32) &&& (858993459 : Int32))) + (((((p0 - (((p0.toUInt32 >>> ((1 : Int32).toUInt32 &&& Int32.toUInt32 31)).toInt32) &&& (1431655765 : Int32))) &&& (858993459 : Int32)) + ((((p0 - (((p0.toUInt32 >>> ((1 : Int32).toUInt32 &&& Int32.toUInt32 31)).toInt32) &&& (1431655765 : Int32))).toUInt32 >>> ((2 : Int32).toUInt32 &&& Int32.toUInt32 31)).toInt32) &&& (858993459 : Int32))).toUInt32 >>> ((4 : Int32).toUInt32 &&& Int32.toUInt32 31)).toInt32)) &&& (252645135 : Int32)).toUInt32 >>> ((8 : Int32).toUInt32 &&& Int32.toUInt32 31)).toInt32)) + ((((((((p0 - (((p0.toUInt32 >>> ((1 : Int32).toUInt32 &&& Int32.toUInt32 31)).toInt32) &&& (1431655765 : Int32))) &&& (858993459 : Int32)) + ((((p0 - (((p0.toUInt32 >>> ((1 : Int32).toUInt32 &&& Int32.toUInt32 31)).toInt32) &&& (1431655765 : Int32))).toUInt32 >>> ((2 : Int32).toUInt32 &&& Int32.toUInt32 31)).toInt32) &&& (858993459 : Int32))) + (((((p0 - (((p0.toUInt32 >>> ((1 : Int32).toUInt32 &&& Int32.toUInt32 31)).toInt32) &&& (1431655765 : Int32))) &&& (858993459 : Int32)) + ((((p0 - (((p0.toUInt32 >>> ((1 : Int32).toUInt32 &&& Int32.toUInt32 31)).toInt32) &&& (1431655765 : Int32))).toUInt32 >>> ((2 : Int32).toUInt32 &&& Int32.toUInt32 31)).toInt32) &&& (858993459 : Int32))).toUInt32 >>> ((4 : Int32).toUInt32 &&& Int32.toUInt32 31)).toInt32)) &&& (252645135 : Int32)) + (((((((p0 - (((p0.toUInt32 >>> ((1 : Int32).toUInt32 &&& Int32.toUInt32 31)).toInt32) &&& (1431655765 : Int32))) &&& (858993459 : Int32)) + ((((p0 - (((p0.toUInt32 >>> ((1 : Int32).toUInt32 &&& Int32.toUInt32 31)).toInt32) &&& (1431655765 : Int32))).toUInt32 >>> ((2 : Int32).toUInt32 &&& Int32.toUInt32 31)).toInt32) &&& (858993459 : Int32))) + (((((p0 - (((p0.toUInt32 >>> ((1 : Int32).toUInt32 &&& Int32.toUInt32 31)).toInt32) &&& (1431655765 : Int32))) &&& (858993459 : Int32)) + ((((p0 - (((p0.toUInt32 >>> ((1 : Int32).toUInt32 &&& Int32.toUInt32 31)).toInt32) &&& (1431655765 : Int32))).toUInt32 >>> ((2 : Int32).toUInt32 &&& Int32.toUInt32 31)).toInt32) &&& (858993459 : Int32))).toUInt32 >>> ((4 : Int32).toUInt32 &&& Int32.toUInt32 31)).toInt32)) &&& (252645135 : Int32)).toUInt32 >>> ((8 : Int32).toUInt32 &&& Int32.toUInt32 31)).toInt32)).toUInt32 >>> ((16 : Int32).toUInt32 &&& Int32.toUInt32 31)).toInt32)) &&& (63 : Int32)) _ _ _ _ h Z dJ6_bitCount_0f7a4_52
/-! J9_floorDiv_f86c9 -/
abbrev rmJ9_floorDiv_f86c9 : Room := { frames := 0, cells := 0, slots := 0, locals := 0 }
def mJ9_floorDiv_f86c9_27 (N : Nat) (v4 : Int64) : Option (Int64) := some v4
def mJ9_floorDiv_f86c9 (N : Nat) (p0 : Int64) (p1 : Int64) : Option (Int64) := (if p1 = 0 then none else (if 0 ≤ (lg_cmp (p0 ^^^ p1) (0 : Int64)) then mJ9_floorDiv_f86c9_27 N (p0 / p1) else (if (lg_cmp ((p0 / p1) * p1) p0) = 0 then mJ9_floorDiv_f86c9_27 N (p0 / p1) else some ((p0 / p1) - (1 : Int64)))))
set_option maxRecDepth 20000 in
set_option maxHeartbeats 4000000 in
theorem wJ9_floorDiv_f86c9_27 {p : Program} {l : Launch} {e : Env} {s : State} {m : MethodId} {args : Array Value} {below : List Frame} {meth : Method} {c : Code} {D : va_G} {cyI cyJ cyO : ClassId} {A : Nat → Prop} {bs : Nat} {ws : va_W} {Q : State → Prop} {N : Nat} {res : Int64} (C0 : gC p m meth c cJ9_floorDiv_f86c9 6 (some .long) s args wsJ9_floorDiv_f86c9 RJ9) (hret : ∀ (r : Int64) (H : Heap) (locs : List Loc) (pc : Nat) (ls : Array Slot), some r = some res → gZ D (gT cyI cyJ cyO) ws A bs s H locs → decode cJ9_floorDiv_f86c9 pc = .ok (.lreturn, 1) → W p l e rmJ9_floorDiv_f86c9 s m args below meth c H locs 0 0 Q (F0 m pc ls [.long r]))  : ∀ (v4 : Int64) (H : Heap) (locs : List Loc) (ls : Array Slot), mJ9_floorDiv_f86c9_27 N v4 = some res → gZ D (gT cyI cyJ cyO) ws A bs s H locs → lv_has ls 6 [(4, .long v4)] → W p l e rmJ9_floorDiv_f86c9 s m args below meth c H locs 0 0 Q (F0 m 27 ls []) := by
  intro v4 H locs ls h Z hl
  unfold mJ9_floorDiv_f86c9_27 at h
  refine lv_lload C0.1.1 C0.1.2.1 dJ9_floorDiv_f86c9_27 (lv_at hl 0 rfl) ?_
  exact hret v4 _ _ _ _ h Z dJ9_floorDiv_f86c9_29
set_option maxRecDepth 20000 in
set_option maxHeartbeats 4000000 in
theorem zJ9_floorDiv_f86c9 (l : Launch) (D : va_G) (cyI cyJ cyO : ClassId) (A : Nat → Prop) (bs : Nat) (hA : ∀ q, bs ≤ q → A q) (ws : va_W) (N : Nat) (p0 : Int64) (p1 : Int64) (res : Int64) (h : mJ9_floorDiv_f86c9 N p0 p1 = some res) : Met l yJ9_floorDiv_f86c9 wsJ9_floorDiv_f86c9 rmJ9_floorDiv_f86c9 (va_Pc [.long p0, .long p1] (gW D (gT cyI cyJ cyO) ws A bs)) (va_Ql (fun (r : Int64) (_ : Unit) => res = r) (fun (u : Unit) U => gW D (gT cyI cyJ cyO) ws A bs U) A)  0 0 A := by
  refine Met_ofWF (cc := cJ9_floorDiv_f86c9) (maxL := 6) (ret := (some .long)) plF_floorDiv rfl ?_
  intro p e s m args below meth c s₁ B hml hv
  obtain ⟨hav, hv⟩ := hv
  have C0 : gC p m meth c cJ9_floorDiv_f86c9 6 (some .long) s args wsJ9_floorDiv_f86c9 RJ9 := ⟨⟨B.exec, B.bytes, hml, findClass_of_methodNamed B.named, atoms_spec (ws := wsJ9_floorDiv_f86c9) B.pre⟩, B.returns, B.notSynchronized⟩
  have Z := g_start hA hv
  have hret : ∀ (r : Int64) (H : Heap) (locs : List Loc) (pc : Nat) (ls : Array Slot), some r = some res → gZ D (gT cyI cyJ cyO) ws A bs s H locs → decode cJ9_floorDiv_f86c9 pc = .ok (.lreturn, 1) → W p l e rmJ9_floorDiv_f86c9 s m args below meth c H locs 0 0 (MQ below (va_Ql (fun (r : Int64) (_ : Unit) => res = r) (fun (u : Unit) U => gW D (gT cyI cyJ cyO) ws A bs U) A) args s 0 0 A) (F0 m pc ls [.long r]) := by
    intro r H locs pc ls h Z hd
    replace h := Option.some.inj h
    subst h
    exact W.lret C0.1.1 C0.1.2.1 C0.2.1 (fun t ht hW => ⟨⟨r, (), rfl, rfl, g_end Z ht hW⟩, va_S.F Z.2.2.2.1 ht⟩) Z.2.2.2.1.2.2 hd C0.2.2
  have hl := lv_entry ([.long p0, .long p1]) (n := 6) (Nat.le_of_ble_eq_true rfl)
  rw [hav, lg_entry_eq]
  generalize (lg_sl ([.long p0, .long p1]) ++ List.replicate (6 - (lg_sl ([.long p0, .long p1])).length) Slot.unset).toArray = ls at hl ⊢
  have hl : lv_has ls 6 [(0, .long p0), (2, .long p1)] := hl
  rw [← hav]
  unfold mJ9_floorDiv_f86c9 at h
  refine lv_lload_n C0.1.1 C0.1.2.1 dJ9_floorDiv_f86c9_0 rfl (lv_at hl 0 rfl) ?_
  refine lv_lload_n C0.1.1 C0.1.2.1 dJ9_floorDiv_f86c9_1 rfl (lv_at hl 1 rfl) ?_
  obtain ⟨hn1, h⟩ := g_ni h
  refine lv_ldiv C0.1.1 C0.1.2.1 dJ9_floorDiv_f86c9_2 hn1 ?_
  refine lv_lstore (lv' := [(4, .long (p0 / p1)), (0, .long p0), (2, .long p1)]) C0.1.1 C0.1.2.1 dJ9_floorDiv_f86c9_3 hl (by decide) rfl (fun ls hl => ?_)
  refine lv_lload_n C0.1.1 C0.1.2.1 dJ9_floorDiv_f86c9_5 rfl (lv_at hl 1 rfl) ?_
  refine lv_lload_n C0.1.1 C0.1.2.1 dJ9_floorDiv_f86c9_6 rfl (lv_at hl 2 rfl) ?_
  refine lv_lxor C0.1.1 C0.1.2.1 dJ9_floorDiv_f86c9_7 ?_
  refine lv_lconst (v := 0) C0.1.1 C0.1.2.1 dJ9_floorDiv_f86c9_8 (by decide) ?_
  refine W.lcmp C0.1.1 C0.1.2.1 dJ9_floorDiv_f86c9_9 ?_
  refine lv_if_ge (tgt := 27) C0.1.1 C0.1.2.1 dJ9_floorDiv_f86c9_10 (by decide) (fun hc => ?_) (fun hc => ?_)
  · replace h := (if_pos hc).symm.trans h
    exact wJ9_floorDiv_f86c9_27 (N := N) C0 hret (p0 / p1) _ _ _ h Z (lv_sub hl [0] rfl)
  · replace h := (if_neg hc).symm.trans h
    refine lv_lload C0.1.1 C0.1.2.1 dJ9_floorDiv_f86c9_13 (lv_at hl 0 rfl) ?_
    refine lv_lload_n C0.1.1 C0.1.2.1 dJ9_floorDiv_f86c9_15 rfl (lv_at hl 2 rfl) ?_
    refine lv_lmul C0.1.1 C0.1.2.1 dJ9_floorDiv_f86c9_16 ?_
    refine lv_lload_n C0.1.1 C0.1.2.1 dJ9_floorDiv_f86c9_17 rfl (lv_at hl 1 rfl) ?_
    refine W.lcmp C0.1.1 C0.1.2.1 dJ9_floorDiv_f86c9_18 ?_
    refine lv_if_eq (tgt := 27) C0.1.1 C0.1.2.1 dJ9_floorDiv_f86c9_19 (by decide) (fun hc => ?_) (fun hc => ?_)
    · replace h := (if_pos hc).symm.trans h
      exact wJ9_floorDiv_f86c9_27 (N := N) C0 hret (p0 / p1) _ _ _ h Z (lv_sub hl [0] rfl)
    · replace h := (if_neg hc).symm.trans h
      refine lv_lload C0.1.1 C0.1.2.1 dJ9_floorDiv_f86c9_22 (lv_at hl 0 rfl) ?_
      refine lv_lconst (v := 1) C0.1.1 C0.1.2.1 dJ9_floorDiv_f86c9_24 (by decide) ?_
      refine lv_lsub C0.1.1 C0.1.2.1 dJ9_floorDiv_f86c9_25 ?_
      exact hret ((p0 / p1) - (1 : Int64)) _ _ _ _ h Z dJ9_floorDiv_f86c9_26
/-! X3_only -/
abbrev rmX3_only : Room := { frames := 0, cells := 0, slots := 0, locals := 0 }
def mX3_only (N : Nat) (p0 : Int32) : Option (Int32) := some ((1 : Int32) <<< (p0 &&& 31))
set_option maxRecDepth 20000 in
set_option maxHeartbeats 4000000 in
theorem zX3_only (l : Launch) (D : va_G) (cyI cyJ cyO : ClassId) (A : Nat → Prop) (bs : Nat) (hA : ∀ q, bs ≤ q → A q) (ws : va_W) (N : Nat) (p0 : Int32) (res : Int32) (h : mX3_only N p0 = some res) : Met l yX3_only wsX3_only rmX3_only (va_Pc [.int p0] (gW D (gT cyI cyJ cyO) ws A bs)) (va_Qi (fun (r : Int32) (_ : Unit) => res = r) (fun (u : Unit) U => gW D (gT cyI cyJ cyO) ws A bs U) A)  0 0 A := by
  refine Met.ofW (cc := cX3_only) (maxL := 1) (ret := (some .int)) (by decide) rfl ?_
  intro p e s m args below meth c s₁ B hml hv
  obtain ⟨hav, hv⟩ := hv
  have C0 : gC p m meth c cX3_only 1 (some .int) s args wsX3_only RX3 := ⟨⟨B.exec, B.bytes, hml, findClass_of_methodNamed B.named, atoms_spec (ws := wsX3_only) B.pre⟩, B.returns, B.notSynchronized⟩
  have Z := g_start hA hv
  have hret : ∀ (r : Int32) (H : Heap) (locs : List Loc) (pc : Nat) (ls : Array Slot), some r = some res → gZ D (gT cyI cyJ cyO) ws A bs s H locs → decode cX3_only pc = .ok (.ireturn, 1) → W p l e rmX3_only s m args below meth c H locs 0 0 (MQ below (va_Qi (fun (r : Int32) (_ : Unit) => res = r) (fun (u : Unit) U => gW D (gT cyI cyJ cyO) ws A bs U) A) args s 0 0 A) (F0 m pc ls [.int r]) := by
    intro r H locs pc ls h Z hd
    replace h := Option.some.inj h
    subst h
    exact W.iret C0.1.1 C0.1.2.1 C0.2.1 (fun t ht hW => ⟨⟨r, (), rfl, rfl, g_end Z ht hW⟩, va_S.F Z.2.2.2.1 ht⟩) Z.2.2.2.1.2.2 hd C0.2.2
  have hl := lv_entry ([.int p0]) (n := 1) (Nat.le_of_ble_eq_true rfl)
  rw [hav, lg_entry_eq]
  generalize (lg_sl ([.int p0]) ++ List.replicate (1 - (lg_sl ([.int p0])).length) Slot.unset).toArray = ls at hl ⊢
  have hl : lv_has ls 1 [(0, .int p0)] := hl
  rw [← hav]
  unfold mX3_only at h
  refine lv_iconst (v := 1) C0.1.1 C0.1.2.1 dX3_only_0 (by decide) ?_
  refine lv_iload_n C0.1.1 C0.1.2.1 dX3_only_1 rfl (lv_at hl 0 rfl) ?_
  refine lv_ishl C0.1.1 C0.1.2.1 dX3_only_2 ?_
  exact hret ((1 : Int32) <<< (p0 &&& 31)) _ _ _ _ h Z dX3_only_3
/-! X3_holds -/
abbrev rmX3_holds : Room := { frames := 0, cells := 0, slots := 0, locals := 0 }
def mX3_holds_13 (N : Nat) (s0 : Int32) : Option (Int32) := (if (s0 = 0 ∨ s0 = 1) then some s0 else none)
def mX3_holds (N : Nat) (p0 : Int32) (p1 : Int32) : Option (Int32) := (if ((p0 >>> (p1 &&& 31)) &&& (1 : Int32)) = 0 then mX3_holds_13 N (0 : Int32) else mX3_holds_13 N (1 : Int32))
set_option maxRecDepth 20000 in
set_option maxHeartbeats 4000000 in
theorem wX3_holds_13 {p : Program} {l : Launch} {e : Env} {s : State} {m : MethodId} {args : Array Value} {below : List Frame} {meth : Method} {c : Code} {D : va_G} {cyI cyJ cyO : ClassId} {A : Nat → Prop} {bs : Nat} {ws : va_W} {Q : State → Prop} {N : Nat} {res : Int32} (C0 : gC p m meth c cX3_holds 2 (some .boolean) s args wsX3_holds RX3) (hret : ∀ (r : Int32) (H : Heap) (locs : List Loc) (pc : Nat) (ls : Array Slot), (r = 0 ∨ r = 1) → some r = some res → gZ D (gT cyI cyJ cyO) ws A bs s H locs → decode cX3_holds pc = .ok (.ireturn, 1) → W p l e rmX3_holds s m args below meth c H locs 0 0 Q (F0 m pc ls [.int r]))  : ∀ (s0 : Int32) (H : Heap) (locs : List Loc) (ls : Array Slot), mX3_holds_13 N s0 = some res → gZ D (gT cyI cyJ cyO) ws A bs s H locs → lv_has ls 2 [] → W p l e rmX3_holds s m args below meth c H locs 0 0 Q (F0 m 13 ls [.int s0]) := by
  intro s0 H locs ls h Z hl
  unfold mX3_holds_13 at h
  obtain ⟨hn1, h⟩ := g_yi h
  exact hret s0 _ _ _ _ hn1 h Z dX3_holds_13
set_option maxRecDepth 20000 in
set_option maxHeartbeats 4000000 in
theorem zX3_holds (l : Launch) (D : va_G) (cyI cyJ cyO : ClassId) (A : Nat → Prop) (bs : Nat) (hA : ∀ q, bs ≤ q → A q) (ws : va_W) (N : Nat) (p0 : Int32) (p1 : Int32) (res : Int32) (h : mX3_holds N p0 p1 = some res) : Met l yX3_holds wsX3_holds rmX3_holds (va_Pc [.int p0, .int p1] (gW D (gT cyI cyJ cyO) ws A bs)) (va_Qi (fun (r : Int32) (_ : Unit) => res = r) (fun (u : Unit) U => gW D (gT cyI cyJ cyO) ws A bs U) A)  0 0 A := by
  refine Met.ofW (cc := cX3_holds) (maxL := 2) (ret := (some .boolean)) (by decide) rfl ?_
  intro p e s m args below meth c s₁ B hml hv
  obtain ⟨hav, hv⟩ := hv
  have C0 : gC p m meth c cX3_holds 2 (some .boolean) s args wsX3_holds RX3 := ⟨⟨B.exec, B.bytes, hml, findClass_of_methodNamed B.named, atoms_spec (ws := wsX3_holds) B.pre⟩, B.returns, B.notSynchronized⟩
  have Z := g_start hA hv
  have hret : ∀ (r : Int32) (H : Heap) (locs : List Loc) (pc : Nat) (ls : Array Slot), (r = 0 ∨ r = 1) → some r = some res → gZ D (gT cyI cyJ cyO) ws A bs s H locs → decode cX3_holds pc = .ok (.ireturn, 1) → W p l e rmX3_holds s m args below meth c H locs 0 0 (MQ below (va_Qi (fun (r : Int32) (_ : Unit) => res = r) (fun (u : Unit) U => gW D (gT cyI cyJ cyO) ws A bs U) A) args s 0 0 A) (F0 m pc ls [.int r]) := by
    intro r H locs pc ls hb9 h Z hd
    replace h := Option.some.inj h
    subst h
    exact W.zret C0.1.1 C0.1.2.1 C0.2.1 (g_nb hb9) (fun t ht hW => ⟨⟨r, (), rfl, rfl, g_end Z ht hW⟩, va_S.F Z.2.2.2.1 ht⟩) Z.2.2.2.1.2.2 hd C0.2.2
  have hl := lv_entry ([.int p0, .int p1]) (n := 2) (Nat.le_of_ble_eq_true rfl)
  rw [hav, lg_entry_eq]
  generalize (lg_sl ([.int p0, .int p1]) ++ List.replicate (2 - (lg_sl ([.int p0, .int p1])).length) Slot.unset).toArray = ls at hl ⊢
  have hl : lv_has ls 2 [(0, .int p0), (1, .int p1)] := hl
  rw [← hav]
  unfold mX3_holds at h
  refine lv_iload_n C0.1.1 C0.1.2.1 dX3_holds_0 rfl (lv_at hl 0 rfl) ?_
  refine lv_iload_n C0.1.1 C0.1.2.1 dX3_holds_1 rfl (lv_at hl 1 rfl) ?_
  refine lv_ishr C0.1.1 C0.1.2.1 dX3_holds_2 ?_
  refine lv_iconst (v := 1) C0.1.1 C0.1.2.1 dX3_holds_3 (by decide) ?_
  refine lv_iand C0.1.1 C0.1.2.1 dX3_holds_4 ?_
  refine lv_if_eq (tgt := 12) C0.1.1 C0.1.2.1 dX3_holds_5 (by decide) (fun hc => ?_) (fun hc => ?_)
  · replace h := (if_pos hc).symm.trans h
    refine lv_iconst (v := 0) C0.1.1 C0.1.2.1 dX3_holds_12 (by decide) ?_
    exact wX3_holds_13 (N := N) C0 hret (0 : Int32) _ _ _ h Z (lv_sub hl [] rfl)
  · replace h := (if_neg hc).symm.trans h
    refine lv_iconst (v := 1) C0.1.1 C0.1.2.1 dX3_holds_8 (by decide) ?_
    refine lv_goto (tgt := 13) C0.1.1 C0.1.2.1 dX3_holds_9 (by decide) ?_
    exact wX3_holds_13 (N := N) C0 hret (1 : Int32) _ _ _ h Z (lv_sub hl [] rfl)
/-! X3_onOneSide -/
abbrev rmX3_onOneSide : Room := { frames := 0, cells := 0, slots := 0, locals := 0 }
def mX3_onOneSide_33 (N : Nat) (s0 : Int32) : Option (Int32) := (if (s0 = 0 ∨ s0 = 1) then some s0 else none)
def mX3_onOneSide_32 (N : Nat) : Option (Int32) := mX3_onOneSide_33 N (0 : Int32)
def mX3_onOneSide_28 (N : Nat) : Option (Int32) := mX3_onOneSide_33 N (1 : Int32)
def mX3_onOneSide_14 (N : Nat) (v0 : Int64) (v2 : Int64) (v4 : Int64) : Option (Int32) := (if 0 ≤ (lg_cmp v0 v4) then mX3_onOneSide_32 N else (if 0 ≤ (lg_cmp v2 v4) then mX3_onOneSide_32 N else mX3_onOneSide_28 N))
def mX3_onOneSide (N : Nat) (p0 : Int64) (p1 : Int64) (p2 : Int64) : Option (Int32) := (if (lg_cmp p0 p2) ≤ 0 then mX3_onOneSide_14 N p0 p1 p2 else (if 0 < (lg_cmp p1 p2) then mX3_onOneSide_28 N else mX3_onOneSide_14 N p0 p1 p2))
set_option maxRecDepth 20000 in
set_option maxHeartbeats 4000000 in
theorem wX3_onOneSide_33 {p : Program} {l : Launch} {e : Env} {s : State} {m : MethodId} {args : Array Value} {below : List Frame} {meth : Method} {c : Code} {D : va_G} {cyI cyJ cyO : ClassId} {A : Nat → Prop} {bs : Nat} {ws : va_W} {Q : State → Prop} {N : Nat} {res : Int32} (C0 : gC p m meth c cX3_onOneSide 6 (some .boolean) s args wsX3_onOneSide RX3) (hret : ∀ (r : Int32) (H : Heap) (locs : List Loc) (pc : Nat) (ls : Array Slot), (r = 0 ∨ r = 1) → some r = some res → gZ D (gT cyI cyJ cyO) ws A bs s H locs → decode cX3_onOneSide pc = .ok (.ireturn, 1) → W p l e rmX3_onOneSide s m args below meth c H locs 0 0 Q (F0 m pc ls [.int r]))  : ∀ (s0 : Int32) (H : Heap) (locs : List Loc) (ls : Array Slot), mX3_onOneSide_33 N s0 = some res → gZ D (gT cyI cyJ cyO) ws A bs s H locs → lv_has ls 6 [] → W p l e rmX3_onOneSide s m args below meth c H locs 0 0 Q (F0 m 33 ls [.int s0]) := by
  intro s0 H locs ls h Z hl
  unfold mX3_onOneSide_33 at h
  obtain ⟨hn1, h⟩ := g_yi h
  exact hret s0 _ _ _ _ hn1 h Z dX3_onOneSide_33
set_option maxRecDepth 20000 in
set_option maxHeartbeats 4000000 in
theorem wX3_onOneSide_32 {p : Program} {l : Launch} {e : Env} {s : State} {m : MethodId} {args : Array Value} {below : List Frame} {meth : Method} {c : Code} {D : va_G} {cyI cyJ cyO : ClassId} {A : Nat → Prop} {bs : Nat} {ws : va_W} {Q : State → Prop} {N : Nat} {res : Int32} (C0 : gC p m meth c cX3_onOneSide 6 (some .boolean) s args wsX3_onOneSide RX3) (hret : ∀ (r : Int32) (H : Heap) (locs : List Loc) (pc : Nat) (ls : Array Slot), (r = 0 ∨ r = 1) → some r = some res → gZ D (gT cyI cyJ cyO) ws A bs s H locs → decode cX3_onOneSide pc = .ok (.ireturn, 1) → W p l e rmX3_onOneSide s m args below meth c H locs 0 0 Q (F0 m pc ls [.int r]))  : ∀ (H : Heap) (locs : List Loc) (ls : Array Slot), mX3_onOneSide_32 N = some res → gZ D (gT cyI cyJ cyO) ws A bs s H locs → lv_has ls 6 [] → W p l e rmX3_onOneSide s m args below meth c H locs 0 0 Q (F0 m 32 ls []) := by
  intro H locs ls h Z hl
  unfold mX3_onOneSide_32 at h
  refine lv_iconst (v := 0) C0.1.1 C0.1.2.1 dX3_onOneSide_32 (by decide) ?_
  exact wX3_onOneSide_33 (N := N) C0 hret (0 : Int32) _ _ _ h Z (lv_sub hl [] rfl)
set_option maxRecDepth 20000 in
set_option maxHeartbeats 4000000 in
theorem wX3_onOneSide_28 {p : Program} {l : Launch} {e : Env} {s : State} {m : MethodId} {args : Array Value} {below : List Frame} {meth : Method} {c : Code} {D : va_G} {cyI cyJ cyO : ClassId} {A : Nat → Prop} {bs : Nat} {ws : va_W} {Q : State → Prop} {N : Nat} {res : Int32} (C0 : gC p m meth c cX3_onOneSide 6 (some .boolean) s args wsX3_onOneSide RX3) (hret : ∀ (r : Int32) (H : Heap) (locs : List Loc) (pc : Nat) (ls : Array Slot), (r = 0 ∨ r = 1) → some r = some res → gZ D (gT cyI cyJ cyO) ws A bs s H locs → decode cX3_onOneSide pc = .ok (.ireturn, 1) → W p l e rmX3_onOneSide s m args below meth c H locs 0 0 Q (F0 m pc ls [.int r]))  : ∀ (H : Heap) (locs : List Loc) (ls : Array Slot), mX3_onOneSide_28 N = some res → gZ D (gT cyI cyJ cyO) ws A bs s H locs → lv_has ls 6 [] → W p l e rmX3_onOneSide s m args below meth c H locs 0 0 Q (F0 m 28 ls []) := by
  intro H locs ls h Z hl
  unfold mX3_onOneSide_28 at h
  refine lv_iconst (v := 1) C0.1.1 C0.1.2.1 dX3_onOneSide_28 (by decide) ?_
  refine lv_goto (tgt := 33) C0.1.1 C0.1.2.1 dX3_onOneSide_29 (by decide) ?_
  exact wX3_onOneSide_33 (N := N) C0 hret (1 : Int32) _ _ _ h Z (lv_sub hl [] rfl)
set_option maxRecDepth 20000 in
set_option maxHeartbeats 4000000 in
theorem wX3_onOneSide_14 {p : Program} {l : Launch} {e : Env} {s : State} {m : MethodId} {args : Array Value} {below : List Frame} {meth : Method} {c : Code} {D : va_G} {cyI cyJ cyO : ClassId} {A : Nat → Prop} {bs : Nat} {ws : va_W} {Q : State → Prop} {N : Nat} {res : Int32} (C0 : gC p m meth c cX3_onOneSide 6 (some .boolean) s args wsX3_onOneSide RX3) (hret : ∀ (r : Int32) (H : Heap) (locs : List Loc) (pc : Nat) (ls : Array Slot), (r = 0 ∨ r = 1) → some r = some res → gZ D (gT cyI cyJ cyO) ws A bs s H locs → decode cX3_onOneSide pc = .ok (.ireturn, 1) → W p l e rmX3_onOneSide s m args below meth c H locs 0 0 Q (F0 m pc ls [.int r]))  : ∀ (v0 : Int64) (v2 : Int64) (v4 : Int64) (H : Heap) (locs : List Loc) (ls : Array Slot), mX3_onOneSide_14 N v0 v2 v4 = some res → gZ D (gT cyI cyJ cyO) ws A bs s H locs → lv_has ls 6 [(0, .long v0), (2, .long v2), (4, .long v4)] → W p l e rmX3_onOneSide s m args below meth c H locs 0 0 Q (F0 m 14 ls []) := by
  intro v0 v2 v4 H locs ls h Z hl
  unfold mX3_onOneSide_14 at h
  refine lv_lload_n C0.1.1 C0.1.2.1 dX3_onOneSide_14 rfl (lv_at hl 0 rfl) ?_
  refine lv_lload C0.1.1 C0.1.2.1 dX3_onOneSide_15 (lv_at hl 2 rfl) ?_
  refine W.lcmp C0.1.1 C0.1.2.1 dX3_onOneSide_17 ?_
  refine lv_if_ge (tgt := 32) C0.1.1 C0.1.2.1 dX3_onOneSide_18 (by decide) (fun hc => ?_) (fun hc => ?_)
  · replace h := (if_pos hc).symm.trans h
    exact wX3_onOneSide_32 (N := N) C0 hret _ _ _ h Z (lv_sub hl [] rfl)
  · replace h := (if_neg hc).symm.trans h
    refine lv_lload_n C0.1.1 C0.1.2.1 dX3_onOneSide_21 rfl (lv_at hl 1 rfl) ?_
    refine lv_lload C0.1.1 C0.1.2.1 dX3_onOneSide_22 (lv_at hl 2 rfl) ?_
    refine W.lcmp C0.1.1 C0.1.2.1 dX3_onOneSide_24 ?_
    refine lv_if_ge (tgt := 32) C0.1.1 C0.1.2.1 dX3_onOneSide_25 (by decide) (fun hc => ?_) (fun hc => ?_)
    · replace h := (if_pos hc).symm.trans h
      exact wX3_onOneSide_32 (N := N) C0 hret _ _ _ h Z (lv_sub hl [] rfl)
    · replace h := (if_neg hc).symm.trans h
      exact wX3_onOneSide_28 (N := N) C0 hret _ _ _ h Z (lv_sub hl [] rfl)
set_option maxRecDepth 20000 in
set_option maxHeartbeats 4000000 in
theorem zX3_onOneSide (l : Launch) (D : va_G) (cyI cyJ cyO : ClassId) (A : Nat → Prop) (bs : Nat) (hA : ∀ q, bs ≤ q → A q) (ws : va_W) (N : Nat) (p0 : Int64) (p1 : Int64) (p2 : Int64) (res : Int32) (h : mX3_onOneSide N p0 p1 p2 = some res) : Met l yX3_onOneSide wsX3_onOneSide rmX3_onOneSide (va_Pc [.long p0, .long p1, .long p2] (gW D (gT cyI cyJ cyO) ws A bs)) (va_Qi (fun (r : Int32) (_ : Unit) => res = r) (fun (u : Unit) U => gW D (gT cyI cyJ cyO) ws A bs U) A)  0 0 A := by
  refine Met.ofW (cc := cX3_onOneSide) (maxL := 6) (ret := (some .boolean)) (by decide) rfl ?_
  intro p e s m args below meth c s₁ B hml hv
  obtain ⟨hav, hv⟩ := hv
  have C0 : gC p m meth c cX3_onOneSide 6 (some .boolean) s args wsX3_onOneSide RX3 := ⟨⟨B.exec, B.bytes, hml, findClass_of_methodNamed B.named, atoms_spec (ws := wsX3_onOneSide) B.pre⟩, B.returns, B.notSynchronized⟩
  have Z := g_start hA hv
  have hret : ∀ (r : Int32) (H : Heap) (locs : List Loc) (pc : Nat) (ls : Array Slot), (r = 0 ∨ r = 1) → some r = some res → gZ D (gT cyI cyJ cyO) ws A bs s H locs → decode cX3_onOneSide pc = .ok (.ireturn, 1) → W p l e rmX3_onOneSide s m args below meth c H locs 0 0 (MQ below (va_Qi (fun (r : Int32) (_ : Unit) => res = r) (fun (u : Unit) U => gW D (gT cyI cyJ cyO) ws A bs U) A) args s 0 0 A) (F0 m pc ls [.int r]) := by
    intro r H locs pc ls hb9 h Z hd
    replace h := Option.some.inj h
    subst h
    exact W.zret C0.1.1 C0.1.2.1 C0.2.1 (g_nb hb9) (fun t ht hW => ⟨⟨r, (), rfl, rfl, g_end Z ht hW⟩, va_S.F Z.2.2.2.1 ht⟩) Z.2.2.2.1.2.2 hd C0.2.2
  have hl := lv_entry ([.long p0, .long p1, .long p2]) (n := 6) (Nat.le_of_ble_eq_true rfl)
  rw [hav, lg_entry_eq]
  generalize (lg_sl ([.long p0, .long p1, .long p2]) ++ List.replicate (6 - (lg_sl ([.long p0, .long p1, .long p2])).length) Slot.unset).toArray = ls at hl ⊢
  have hl : lv_has ls 6 [(0, .long p0), (2, .long p1), (4, .long p2)] := hl
  rw [← hav]
  unfold mX3_onOneSide at h
  refine lv_lload_n C0.1.1 C0.1.2.1 dX3_onOneSide_0 rfl (lv_at hl 0 rfl) ?_
  refine lv_lload C0.1.1 C0.1.2.1 dX3_onOneSide_1 (lv_at hl 2 rfl) ?_
  refine W.lcmp C0.1.1 C0.1.2.1 dX3_onOneSide_3 ?_
  refine lv_if_le (tgt := 14) C0.1.1 C0.1.2.1 dX3_onOneSide_4 (by decide) (fun hc => ?_) (fun hc => ?_)
  · replace h := (if_pos hc).symm.trans h
    exact wX3_onOneSide_14 (N := N) C0 hret p0 p1 p2 _ _ _ h Z (lv_sub hl [0, 1, 2] rfl)
  · replace h := (if_neg hc).symm.trans h
    refine lv_lload_n C0.1.1 C0.1.2.1 dX3_onOneSide_7 rfl (lv_at hl 1 rfl) ?_
    refine lv_lload C0.1.1 C0.1.2.1 dX3_onOneSide_8 (lv_at hl 2 rfl) ?_
    refine W.lcmp C0.1.1 C0.1.2.1 dX3_onOneSide_10 ?_
    refine lv_if_gt (tgt := 28) C0.1.1 C0.1.2.1 dX3_onOneSide_11 (by decide) (fun hc => ?_) (fun hc => ?_)
    · replace h := (if_pos hc).symm.trans h
      exact wX3_onOneSide_28 (N := N) C0 hret _ _ _ h Z (lv_sub hl [] rfl)
    · replace h := (if_neg hc).symm.trans h
      exact wX3_onOneSide_14 (N := N) C0 hret p0 p1 p2 _ _ _ h Z (lv_sub hl [0, 1, 2] rfl)
/-! X2_combine -/
abbrev rmX2_combine : Room := { frames := 1, cells := 0, slots := 0, locals := 29 }
theorem kX2_combine_c37 : Cond.constantLong RX2 37 (-9223372036854775808) ∈ wsX2_combine := by decide +kernel
theorem kX2_combine_c54 : Cond.constantLong RX2 54 (-1000000000000) ∈ wsX2_combine := by decide +kernel
theorem kX2_combine_c48 : Cond.constantLong RX2 48 (1000000000000) ∈ wsX2_combine := by decide +kernel
theorem kX2_combine_m42a : Cond.methodLink RX2 42 Lib.MathLoose.abs_long.x ∈ wsX2_combine := by decide +kernel
theorem kX2_combine_m42b : Cond.static Lib.MathLoose.abs_long.x ∈ wsX2_combine := by decide +kernel
theorem kX2_combine_m42c : Cond.initialized "java/lang/Math" ∈ wsX2_combine := by decide +kernel
theorem kX2_combine_m42d : Cond.code Lib.MathLoose.abs_long.x Lib.MathLoose.abs_long.code 2 (some .long) ∈ wsX2_combine := by decide +kernel
def mX2_combine_127 (N : Nat) (s0 : Int64) : Option (Int64) := some s0
def mX2_combine_119 (N : Nat) : Option (Int64) := mX2_combine_127 N (-9223372036854775808 : Int64)
def mX2_combine_101 (N : Nat) (v5 : Int64) : Option (Int64) := (if (lg_cmp v5 (-1000000000000 : Int64)) < 0 then mX2_combine_119 N else (if (lg_cmp v5 (1000000000000 : Int64)) ≤ 0 then mX2_combine_127 N v5 else mX2_combine_119 N))
def mX2_combine_76 (N : Nat) (v1 : Int64) (v3 : Int64) : Option (Int64) := mX2_combine_101 N (v1 * v3)
def mX2_combine_16 (N : Nat) : Option (Int64) := some (-9223372036854775808 : Int64)
def mX2_combine (N : Nat) (p0 : Int32) (p1 : Int64) (p2 : Int64) : Option (Int64) := (if (lg_cmp p1 (-9223372036854775808 : Int64)) = 0 then mX2_combine_16 N else (if (lg_cmp p2 (-9223372036854775808 : Int64)) = 0 then mX2_combine_16 N else (if p0 = 0 then mX2_combine_101 N (p1 + p2) else (if p0 = (1 : Int32) then mX2_combine_101 N (p1 - p2) else (if p0 = (2 : Int32) then (if (lg_cmp p1 (0 : Int64)) = 0 then mX2_combine_76 N p1 p2 else (if (if 0 < p1 then p1 else -p1) = 0 then none else (if (lg_cmp (if 0 < p2 then p2 else -p2) ((1000000000000 : Int64) / (if 0 < p1 then p1 else -p1))) ≤ 0 then mX2_combine_76 N p1 p2 else some (-9223372036854775808 : Int64)))) else (if (lg_cmp p2 (0 : Int64)) = 0 then some (-9223372036854775808 : Int64) else ((mJ9_floorDiv_f86c9 N p1 p2).bind fun x1 => mX2_combine_101 N x1)))))))
set_option maxRecDepth 20000 in
set_option maxHeartbeats 4000000 in
theorem wX2_combine_127 {p : Program} {l : Launch} {e : Env} {s : State} {m : MethodId} {args : Array Value} {below : List Frame} {meth : Method} {c : Code} {D : va_G} {cyI cyJ cyO : ClassId} {A : Nat → Prop} {bs : Nat} {ws : va_W} {Q : State → Prop} {N : Nat} {res : Int64} (C0 : gC p m meth c cX2_combine 7 (some .long) s args wsX2_combine RX2) (hret : ∀ (r : Int64) (H : Heap) (locs : List Loc) (pc : Nat) (ls : Array Slot), some r = some res → gZ D (gT cyI cyJ cyO) ws A bs s H locs → decode cX2_combine pc = .ok (.lreturn, 1) → W p l e rmX2_combine s m args below meth c H locs 0 0 Q (F0 m pc ls [.long r]))  : ∀ (s0 : Int64) (H : Heap) (locs : List Loc) (ls : Array Slot), mX2_combine_127 N s0 = some res → gZ D (gT cyI cyJ cyO) ws A bs s H locs → lv_has ls 7 [] → W p l e rmX2_combine s m args below meth c H locs 0 0 Q (F0 m 127 ls [.long s0]) := by
  intro s0 H locs ls h Z hl
  unfold mX2_combine_127 at h
  exact hret s0 _ _ _ _ h Z dX2_combine_127
set_option maxRecDepth 20000 in
set_option maxHeartbeats 4000000 in
theorem wX2_combine_119 {p : Program} {l : Launch} {e : Env} {s : State} {m : MethodId} {args : Array Value} {below : List Frame} {meth : Method} {c : Code} {D : va_G} {cyI cyJ cyO : ClassId} {A : Nat → Prop} {bs : Nat} {ws : va_W} {Q : State → Prop} {N : Nat} {res : Int64} (C0 : gC p m meth c cX2_combine 7 (some .long) s args wsX2_combine RX2) (hret : ∀ (r : Int64) (H : Heap) (locs : List Loc) (pc : Nat) (ls : Array Slot), some r = some res → gZ D (gT cyI cyJ cyO) ws A bs s H locs → decode cX2_combine pc = .ok (.lreturn, 1) → W p l e rmX2_combine s m args below meth c H locs 0 0 Q (F0 m pc ls [.long r]))  : ∀ (H : Heap) (locs : List Loc) (ls : Array Slot), mX2_combine_119 N = some res → gZ D (gT cyI cyJ cyO) ws A bs s H locs → lv_has ls 7 [] → W p l e rmX2_combine s m args below meth c H locs 0 0 Q (F0 m 119 ls []) := by
  intro H locs ls h Z hl
  unfold mX2_combine_119 at h
  refine lv_ldc2 C0.1.1 C0.1.2.1 C0.1.2.2.2.1 (C0.1.2.2.2.2 _ kX2_combine_c37) dX2_combine_119 ?_
  refine lv_goto (tgt := 127) C0.1.1 C0.1.2.1 dX2_combine_122 (by decide) ?_
  exact wX2_combine_127 (N := N) C0 hret (-9223372036854775808 : Int64) _ _ _ h Z (lv_sub hl [] rfl)
set_option maxRecDepth 20000 in
set_option maxHeartbeats 4000000 in
theorem wX2_combine_101 {p : Program} {l : Launch} {e : Env} {s : State} {m : MethodId} {args : Array Value} {below : List Frame} {meth : Method} {c : Code} {D : va_G} {cyI cyJ cyO : ClassId} {A : Nat → Prop} {bs : Nat} {ws : va_W} {Q : State → Prop} {N : Nat} {res : Int64} (C0 : gC p m meth c cX2_combine 7 (some .long) s args wsX2_combine RX2) (hret : ∀ (r : Int64) (H : Heap) (locs : List Loc) (pc : Nat) (ls : Array Slot), some r = some res → gZ D (gT cyI cyJ cyO) ws A bs s H locs → decode cX2_combine pc = .ok (.lreturn, 1) → W p l e rmX2_combine s m args below meth c H locs 0 0 Q (F0 m pc ls [.long r]))  : ∀ (v5 : Int64) (H : Heap) (locs : List Loc) (ls : Array Slot), mX2_combine_101 N v5 = some res → gZ D (gT cyI cyJ cyO) ws A bs s H locs → lv_has ls 7 [(5, .long v5)] → W p l e rmX2_combine s m args below meth c H locs 0 0 Q (F0 m 101 ls []) := by
  intro v5 H locs ls h Z hl
  unfold mX2_combine_101 at h
  refine lv_lload C0.1.1 C0.1.2.1 dX2_combine_101 (lv_at hl 0 rfl) ?_
  refine lv_ldc2 C0.1.1 C0.1.2.1 C0.1.2.2.2.1 (C0.1.2.2.2.2 _ kX2_combine_c54) dX2_combine_103 ?_
  refine W.lcmp C0.1.1 C0.1.2.1 dX2_combine_106 ?_
  refine lv_if_lt (tgt := 119) C0.1.1 C0.1.2.1 dX2_combine_107 (by decide) (fun hc => ?_) (fun hc => ?_)
  · replace h := (if_pos hc).symm.trans h
    exact wX2_combine_119 (N := N) C0 hret _ _ _ h Z (lv_sub hl [] rfl)
  · replace h := (if_neg hc).symm.trans h
    refine lv_lload C0.1.1 C0.1.2.1 dX2_combine_110 (lv_at hl 0 rfl) ?_
    refine lv_ldc2 C0.1.1 C0.1.2.1 C0.1.2.2.2.1 (C0.1.2.2.2.2 _ kX2_combine_c48) dX2_combine_112 ?_
    refine W.lcmp C0.1.1 C0.1.2.1 dX2_combine_115 ?_
    refine lv_if_le (tgt := 125) C0.1.1 C0.1.2.1 dX2_combine_116 (by decide) (fun hc => ?_) (fun hc => ?_)
    · replace h := (if_pos hc).symm.trans h
      refine lv_lload C0.1.1 C0.1.2.1 dX2_combine_125 (lv_at hl 0 rfl) ?_
      exact wX2_combine_127 (N := N) C0 hret v5 _ _ _ h Z (lv_sub hl [] rfl)
    · replace h := (if_neg hc).symm.trans h
      exact wX2_combine_119 (N := N) C0 hret _ _ _ h Z (lv_sub hl [] rfl)
set_option maxRecDepth 20000 in
set_option maxHeartbeats 4000000 in
theorem wX2_combine_76 {p : Program} {l : Launch} {e : Env} {s : State} {m : MethodId} {args : Array Value} {below : List Frame} {meth : Method} {c : Code} {D : va_G} {cyI cyJ cyO : ClassId} {A : Nat → Prop} {bs : Nat} {ws : va_W} {Q : State → Prop} {N : Nat} {res : Int64} (C0 : gC p m meth c cX2_combine 7 (some .long) s args wsX2_combine RX2) (hret : ∀ (r : Int64) (H : Heap) (locs : List Loc) (pc : Nat) (ls : Array Slot), some r = some res → gZ D (gT cyI cyJ cyO) ws A bs s H locs → decode cX2_combine pc = .ok (.lreturn, 1) → W p l e rmX2_combine s m args below meth c H locs 0 0 Q (F0 m pc ls [.long r]))  : ∀ (v1 : Int64) (v3 : Int64) (H : Heap) (locs : List Loc) (ls : Array Slot), mX2_combine_76 N v1 v3 = some res → gZ D (gT cyI cyJ cyO) ws A bs s H locs → lv_has ls 7 [(1, .long v1), (3, .long v3)] → W p l e rmX2_combine s m args below meth c H locs 0 0 Q (F0 m 76 ls []) := by
  intro v1 v3 H locs ls h Z hl
  unfold mX2_combine_76 at h
  refine lv_lload_n C0.1.1 C0.1.2.1 dX2_combine_76 rfl (lv_at hl 0 rfl) ?_
  refine lv_lload_n C0.1.1 C0.1.2.1 dX2_combine_77 rfl (lv_at hl 1 rfl) ?_
  refine lv_lmul C0.1.1 C0.1.2.1 dX2_combine_78 ?_
  refine lv_lstore (lv' := [(5, .long (v1 * v3)), (1, .long v1), (3, .long v3)]) C0.1.1 C0.1.2.1 dX2_combine_79 hl (by decide) rfl (fun ls hl => ?_)
  refine lv_goto (tgt := 101) C0.1.1 C0.1.2.1 dX2_combine_81 (by decide) ?_
  exact wX2_combine_101 (N := N) C0 hret (v1 * v3) _ _ _ h Z (lv_sub hl [0] rfl)
set_option maxRecDepth 20000 in
set_option maxHeartbeats 4000000 in
theorem wX2_combine_16 {p : Program} {l : Launch} {e : Env} {s : State} {m : MethodId} {args : Array Value} {below : List Frame} {meth : Method} {c : Code} {D : va_G} {cyI cyJ cyO : ClassId} {A : Nat → Prop} {bs : Nat} {ws : va_W} {Q : State → Prop} {N : Nat} {res : Int64} (C0 : gC p m meth c cX2_combine 7 (some .long) s args wsX2_combine RX2) (hret : ∀ (r : Int64) (H : Heap) (locs : List Loc) (pc : Nat) (ls : Array Slot), some r = some res → gZ D (gT cyI cyJ cyO) ws A bs s H locs → decode cX2_combine pc = .ok (.lreturn, 1) → W p l e rmX2_combine s m args below meth c H locs 0 0 Q (F0 m pc ls [.long r]))  : ∀ (H : Heap) (locs : List Loc) (ls : Array Slot), mX2_combine_16 N = some res → gZ D (gT cyI cyJ cyO) ws A bs s H locs → lv_has ls 7 [] → W p l e rmX2_combine s m args below meth c H locs 0 0 Q (F0 m 16 ls []) := by
  intro H locs ls h Z hl
  unfold mX2_combine_16 at h
  refine lv_ldc2 C0.1.1 C0.1.2.1 C0.1.2.2.2.1 (C0.1.2.2.2.2 _ kX2_combine_c37) dX2_combine_16 ?_
  exact hret (-9223372036854775808 : Int64) _ _ _ _ h Z dX2_combine_19
set_option maxRecDepth 20000 in
set_option maxHeartbeats 4000000 in
theorem zX2_combine (l : Launch) (D : va_G) (cyI cyJ cyO : ClassId) (A : Nat → Prop) (bs : Nat) (hA : ∀ q, bs ≤ q → A q) (ws : va_W) (N : Nat) (p0 : Int32) (p1 : Int64) (p2 : Int64) (res : Int64) (h : mX2_combine N p0 p1 p2 = some res) : Met l yX2_combine wsX2_combine rmX2_combine (va_Pc [.int p0, .long p1, .long p2] (gW D (gT cyI cyJ cyO) ws A bs)) (va_Ql (fun (r : Int64) (_ : Unit) => res = r) (fun (u : Unit) U => gW D (gT cyI cyJ cyO) ws A bs U) A)  0 0 A := by
  refine Met.ofW (cc := cX2_combine) (maxL := 7) (ret := (some .long)) (by decide) rfl ?_
  intro p e s m args below meth c s₁ B hml hv
  obtain ⟨hav, hv⟩ := hv
  have C0 : gC p m meth c cX2_combine 7 (some .long) s args wsX2_combine RX2 := ⟨⟨B.exec, B.bytes, hml, findClass_of_methodNamed B.named, atoms_spec (ws := wsX2_combine) B.pre⟩, B.returns, B.notSynchronized⟩
  have Z := g_start hA hv
  have hret : ∀ (r : Int64) (H : Heap) (locs : List Loc) (pc : Nat) (ls : Array Slot), some r = some res → gZ D (gT cyI cyJ cyO) ws A bs s H locs → decode cX2_combine pc = .ok (.lreturn, 1) → W p l e rmX2_combine s m args below meth c H locs 0 0 (MQ below (va_Ql (fun (r : Int64) (_ : Unit) => res = r) (fun (u : Unit) U => gW D (gT cyI cyJ cyO) ws A bs U) A) args s 0 0 A) (F0 m pc ls [.long r]) := by
    intro r H locs pc ls h Z hd
    replace h := Option.some.inj h
    subst h
    exact W.lret C0.1.1 C0.1.2.1 C0.2.1 (fun t ht hW => ⟨⟨r, (), rfl, rfl, g_end Z ht hW⟩, va_S.F Z.2.2.2.1 ht⟩) Z.2.2.2.1.2.2 hd C0.2.2
  have hl := lv_entry ([.int p0, .long p1, .long p2]) (n := 7) (Nat.le_of_ble_eq_true rfl)
  rw [hav, lg_entry_eq]
  generalize (lg_sl ([.int p0, .long p1, .long p2]) ++ List.replicate (7 - (lg_sl ([.int p0, .long p1, .long p2])).length) Slot.unset).toArray = ls at hl ⊢
  have hl : lv_has ls 7 [(0, .int p0), (1, .long p1), (3, .long p2)] := hl
  rw [← hav]
  unfold mX2_combine at h
  refine lv_lload_n C0.1.1 C0.1.2.1 dX2_combine_0 rfl (lv_at hl 1 rfl) ?_
  refine lv_ldc2 C0.1.1 C0.1.2.1 C0.1.2.2.2.1 (C0.1.2.2.2.2 _ kX2_combine_c37) dX2_combine_1 ?_
  refine W.lcmp C0.1.1 C0.1.2.1 dX2_combine_4 ?_
  refine lv_if_eq (tgt := 16) C0.1.1 C0.1.2.1 dX2_combine_5 (by decide) (fun hc => ?_) (fun hc => ?_)
  · replace h := (if_pos hc).symm.trans h
    exact wX2_combine_16 (N := N) C0 hret _ _ _ h Z (lv_sub hl [] rfl)
  · replace h := (if_neg hc).symm.trans h
    refine lv_lload_n C0.1.1 C0.1.2.1 dX2_combine_8 rfl (lv_at hl 2 rfl) ?_
    refine lv_ldc2 C0.1.1 C0.1.2.1 C0.1.2.2.2.1 (C0.1.2.2.2.2 _ kX2_combine_c37) dX2_combine_9 ?_
    refine W.lcmp C0.1.1 C0.1.2.1 dX2_combine_12 ?_
    refine lv_if_ne (tgt := 20) C0.1.1 C0.1.2.1 dX2_combine_13 (by decide) (fun hc => ?_) (fun hc => ?_)
    · replace h := (if_neg hc).symm.trans h
      refine lv_iload_n C0.1.1 C0.1.2.1 dX2_combine_20 rfl (lv_at hl 0 rfl) ?_
      refine lv_if_ne (tgt := 32) C0.1.1 C0.1.2.1 dX2_combine_21 (by decide) (fun hc => ?_) (fun hc => ?_)
      · replace h := (if_neg hc).symm.trans h
        refine lv_iload_n C0.1.1 C0.1.2.1 dX2_combine_32 rfl (lv_at hl 0 rfl) ?_
        refine lv_iconst (v := 1) C0.1.1 C0.1.2.1 dX2_combine_33 (by decide) ?_
        refine lv_icmp_ne (tgt := 45) C0.1.1 C0.1.2.1 dX2_combine_34 (by decide) (fun hc => ?_) (fun hc => ?_)
        · replace h := (if_neg hc).symm.trans h
          refine lv_iload_n C0.1.1 C0.1.2.1 dX2_combine_45 rfl (lv_at hl 0 rfl) ?_
          refine lv_iconst (v := 2) C0.1.1 C0.1.2.1 dX2_combine_46 (by decide) ?_
          refine lv_icmp_ne (tgt := 84) C0.1.1 C0.1.2.1 dX2_combine_47 (by decide) (fun hc => ?_) (fun hc => ?_)
          · replace h := (if_neg hc).symm.trans h
            refine lv_lload_n C0.1.1 C0.1.2.1 dX2_combine_84 rfl (lv_at hl 2 rfl) ?_
            refine lv_lconst (v := 0) C0.1.1 C0.1.2.1 dX2_combine_85 (by decide) ?_
            refine W.lcmp C0.1.1 C0.1.2.1 dX2_combine_86 ?_
            refine lv_if_ne (tgt := 94) C0.1.1 C0.1.2.1 dX2_combine_87 (by decide) (fun hc => ?_) (fun hc => ?_)
            · replace h := (if_neg hc).symm.trans h
              refine lv_lload_n C0.1.1 C0.1.2.1 dX2_combine_94 rfl (lv_at hl 1 rfl) ?_
              refine lv_lload_n C0.1.1 C0.1.2.1 dX2_combine_95 rfl (lv_at hl 2 rfl) ?_
              obtain ⟨x1, hx2, h⟩ := g_bd h
              refine x_calll (va_runS (As := [.long p1, .long p2]) (rest := []) C0.1 (zJ9_floorDiv_f86c9 l D cyI cyJ cyO A bs Z.2.2.2.2.2 ws N p1 p2 x1 hx2) (va_cwS 2 C0.1.2.2.2.2 gX2_combine_J9_floorDiv_f86c9 rfl rfl rfl (by decide +kernel) ⟨Nat.le_of_ble_eq_true rfl, Nat.le_of_ble_eq_true rfl⟩) ⟨g_blind, g_pre Z _⟩ rfl rfl hl.1 rfl (lv_room (Nat.le_of_ble_eq_true rfl)) dX2_combine_96 ⟨Nat.zero_le _, Nat.zero_le _⟩) Z.2.2.2.1 (fun u t H1 locs1 ht hvm hB hS => g_post Z ht hvm hB hS) (fun r u H locs hw Z => ?_)
              subst hw
              refine lv_lstore (lv' := [(5, .long x1), (0, .int p0), (1, .long p1), (3, .long p2)]) C0.1.1 C0.1.2.1 dX2_combine_99 hl (by decide) rfl (fun ls hl => ?_)
              exact wX2_combine_101 (N := N) C0 hret x1 _ _ _ h Z (lv_sub hl [0] rfl)
            · replace h := (if_pos hc).symm.trans h
              refine lv_ldc2 C0.1.1 C0.1.2.1 C0.1.2.2.2.1 (C0.1.2.2.2.2 _ kX2_combine_c37) dX2_combine_90 ?_
              exact hret (-9223372036854775808 : Int64) _ _ _ _ h Z dX2_combine_93
          · replace h := (if_pos hc).symm.trans h
            refine lv_lload_n C0.1.1 C0.1.2.1 dX2_combine_50 rfl (lv_at hl 1 rfl) ?_
            refine lv_lconst (v := 0) C0.1.1 C0.1.2.1 dX2_combine_51 (by decide) ?_
            refine W.lcmp C0.1.1 C0.1.2.1 dX2_combine_52 ?_
            refine lv_if_eq (tgt := 76) C0.1.1 C0.1.2.1 dX2_combine_53 (by decide) (fun hc => ?_) (fun hc => ?_)
            · replace h := (if_pos hc).symm.trans h
              exact wX2_combine_76 (N := N) C0 hret p1 p2 _ _ _ h Z (lv_sub hl [1, 2] rfl)
            · replace h := (if_neg hc).symm.trans h
              refine lv_lload_n C0.1.1 C0.1.2.1 dX2_combine_56 rfl (lv_at hl 2 rfl) ?_
              refine va_mabs_long C0.1.1 C0.1.2.1 (C0.1.2.2.1.trans hl.1.symm) C0.1.2.2.2.1 (C0.1.2.2.2.2 _ kX2_combine_m42a) (C0.1.2.2.2.2 _ kX2_combine_m42b) (C0.1.2.2.2.2 _ kX2_combine_m42c) (C0.1.2.2.2.2 _ kX2_combine_m42d) (Nat.le_of_ble_eq_true rfl) (Nat.le_of_ble_eq_true rfl) (Nat.zero_le _) (Nat.zero_le _) dX2_combine_57 ?_
              refine lv_ldc2 C0.1.1 C0.1.2.1 C0.1.2.2.2.1 (C0.1.2.2.2.2 _ kX2_combine_c48) dX2_combine_60 ?_
              refine lv_lload_n C0.1.1 C0.1.2.1 dX2_combine_63 rfl (lv_at hl 1 rfl) ?_
              refine va_mabs_long C0.1.1 C0.1.2.1 (C0.1.2.2.1.trans hl.1.symm) C0.1.2.2.2.1 (C0.1.2.2.2.2 _ kX2_combine_m42a) (C0.1.2.2.2.2 _ kX2_combine_m42b) (C0.1.2.2.2.2 _ kX2_combine_m42c) (C0.1.2.2.2.2 _ kX2_combine_m42d) (Nat.le_of_ble_eq_true rfl) (Nat.le_of_ble_eq_true rfl) (Nat.zero_le _) (Nat.zero_le _) dX2_combine_64 ?_
              obtain ⟨hn3, h⟩ := g_ni h
              refine lv_ldiv C0.1.1 C0.1.2.1 dX2_combine_67 hn3 ?_
              refine W.lcmp C0.1.1 C0.1.2.1 dX2_combine_68 ?_
              refine lv_if_le (tgt := 76) C0.1.1 C0.1.2.1 dX2_combine_69 (by decide) (fun hc => ?_) (fun hc => ?_)
              · replace h := (if_pos hc).symm.trans h
                exact wX2_combine_76 (N := N) C0 hret p1 p2 _ _ _ h Z (lv_sub hl [1, 2] rfl)
              · replace h := (if_neg hc).symm.trans h
                refine lv_ldc2 C0.1.1 C0.1.2.1 C0.1.2.2.2.1 (C0.1.2.2.2.2 _ kX2_combine_c37) dX2_combine_72 ?_
                exact hret (-9223372036854775808 : Int64) _ _ _ _ h Z dX2_combine_75
        · replace h := (if_pos hc).symm.trans h
          refine lv_lload_n C0.1.1 C0.1.2.1 dX2_combine_37 rfl (lv_at hl 1 rfl) ?_
          refine lv_lload_n C0.1.1 C0.1.2.1 dX2_combine_38 rfl (lv_at hl 2 rfl) ?_
          refine lv_lsub C0.1.1 C0.1.2.1 dX2_combine_39 ?_
          refine lv_lstore (lv' := [(5, .long (p1 - p2)), (0, .int p0), (1, .long p1), (3, .long p2)]) C0.1.1 C0.1.2.1 dX2_combine_40 hl (by decide) rfl (fun ls hl => ?_)
          refine lv_goto (tgt := 101) C0.1.1 C0.1.2.1 dX2_combine_42 (by decide) ?_
          exact wX2_combine_101 (N := N) C0 hret (p1 - p2) _ _ _ h Z (lv_sub hl [0] rfl)
      · replace h := (if_pos hc).symm.trans h
        refine lv_lload_n C0.1.1 C0.1.2.1 dX2_combine_24 rfl (lv_at hl 1 rfl) ?_
        refine lv_lload_n C0.1.1 C0.1.2.1 dX2_combine_25 rfl (lv_at hl 2 rfl) ?_
        refine lv_ladd C0.1.1 C0.1.2.1 dX2_combine_26 ?_
        refine lv_lstore (lv' := [(5, .long (p1 + p2)), (0, .int p0), (1, .long p1), (3, .long p2)]) C0.1.1 C0.1.2.1 dX2_combine_27 hl (by decide) rfl (fun ls hl => ?_)
        refine lv_goto (tgt := 101) C0.1.1 C0.1.2.1 dX2_combine_29 (by decide) ?_
        exact wX2_combine_101 (N := N) C0 hret (p1 + p2) _ _ _ h Z (lv_sub hl [0] rfl)
    · replace h := (if_pos hc).symm.trans h
      exact wX2_combine_16 (N := N) C0 hret _ _ _ h Z (lv_sub hl [] rfl)
/-! X3_requireCell -/
abbrev rmX3_requireCell : Room := { frames := 6, cells := 1, slots := 6, locals := 92 }
theorem kX3_requireCell_x204a : Cond.classLink RX3 204 "java/lang/IndexOutOfBoundsException" ∈ wsX3_requireCell := by decide +kernel
theorem kX3_requireCell_x204b : Cond.initialized "java/lang/IndexOutOfBoundsException" ∈ wsX3_requireCell := by decide +kernel
theorem kX3_requireCell_x204c : ∀ w ∈ (vx_atS RX3 208 "java/lang/IndexOutOfBoundsException" ["java/lang/RuntimeException", "java/lang/Exception"]).filter goodWord, w ∈ wsX3_requireCell := by decide +kernel
def mX3_requireCell_10 (N : Nat) : Option (Nat) := some 1
def mX3_requireCell (N : Nat) (p0 : Int32) : Option (Nat) := (if p0 < 0 then mX3_requireCell_10 N else (if p0 < (30 : Int32) then some 0 else mX3_requireCell_10 N))
set_option maxRecDepth 20000 in
set_option maxHeartbeats 4000000 in
theorem wX3_requireCell_10 {p : Program} {l : Launch} {e : Env} {s : State} {m : MethodId} {args : Array Value} {below : List Frame} {meth : Method} {c : Code} {D : va_G} {cyI cyJ cyO : ClassId} {A : Nat → Prop} {bs : Nat} {ws : va_W} {Qc : Array Value → State → Outcome → State → Prop} {XC : String → State → State → Prop} {N : Nat} {res : Nat} (C0 : gC p m meth c cX3_requireCell 1 none s args wsX3_requireCell RX3) (hN : dN s) (hT : dT A s) (hxt : ∀ x ∈ c.exceptionTable.toList, False) (hlf : l.stackTraces = false) (hret : ∀ (H : Heap) (locs : List Loc) (pc : Nat) (ls : Array Slot), some 0 = some res → gZ D (gT cyI cyJ cyO) ws A bs s H locs → decode cX3_requireCell pc = .ok (.return_, 1) → W p l e rmX3_requireCell s m args below meth c H locs 1 6 (vx_MQ below Qc XC args s 1 6 A) (F0 m pc ls [])) (hxc : ∀ (k : Nat) (H : Heap) (locs : List Loc) (t : State), k ≠ 0 → some k = some res → gZ D (gT cyI cyJ cyO) ws A bs s H locs → s.vm.Alike t.vm → H.size ≤ t.heap.size → (∀ q : Nat, q < H.size → t.heap[q]? = H[q]?) → XC (exN k) s t)  : ∀ (H : Heap) (locs : List Loc) (ls : Array Slot), mX3_requireCell_10 N = some res → gZ D (gT cyI cyJ cyO) ws A bs s H locs → lv_has ls 1 [] → W p l e rmX3_requireCell s m args below meth c H locs 0 0 (vx_MQ below Qc XC args s 1 6 A) (F0 m 10 ls []) := by
  intro H locs ls h Z hl
  unfold mX3_requireCell_10 at h
  exact x_throw (text := "there is no such cell") xOk_1 C0 hxt hlf hN hT Z.2.2.2.1 (List.mem_of_getElem? (i := 6) rfl) kX3_requireCell_x204a kX3_requireCell_x204b kX3_requireCell_x204c hl.1 dX3_requireCell_10 dX3_requireCell_13 dX3_requireCell_14 dX3_requireCell_16 dX3_requireCell_19 ⟨Nat.le_of_ble_eq_true rfl, Nat.le_of_ble_eq_true rfl, Nat.le_of_ble_eq_true rfl, Nat.le_of_ble_eq_true rfl⟩ (Nat.le_of_ble_eq_true rfl) (Nat.le_of_ble_eq_true rfl) (fun t hvm hz hq => hxc 1  _ _ t (by decide) h Z hvm hz hq)
set_option maxRecDepth 20000 in
set_option maxHeartbeats 4000000 in
theorem zX3_requireCell (l : Launch) (hlf : l.stackTraces = false) (D : va_G) (cyI cyJ cyO : ClassId) (A : Nat → Prop) (bs : Nat) (hA : ∀ q, bs ≤ q → A q) (ws : va_W) (N : Nat) (p0 : Int32) (res : Nat) (h : mX3_requireCell N p0 = some res) : vx_Met l yX3_requireCell wsX3_requireCell rmX3_requireCell (va_Pc [.int p0] (dP (gW D (gT cyI cyJ cyO) ws A bs) A)) (va_Qv (fun (_ : Unit) => res = 0) (fun (u : Unit) U => gW D (gT cyI cyJ cyO) ws A bs U) A) (vx_X (S := Unit) (fun _ => True) (fun E u t => res ≠ 0 ∧ E = exN res ∧ gW D (gT cyI cyJ cyO) ws A bs t) A) 1 6 A := by
  refine vx_ofW (cc := cX3_requireCell) (maxL := 1) (ret := none) (by decide) rfl ?_
  intro p e s m args below meth c s₁ B hml hxt hv
  obtain ⟨hav, hv⟩ := hv
  obtain ⟨hv, hN, hT⟩ := hv
  have C0 : gC p m meth c cX3_requireCell 1 none s args wsX3_requireCell RX3 := ⟨⟨B.exec, B.bytes, hml, findClass_of_methodNamed B.named, atoms_spec (ws := wsX3_requireCell) B.pre⟩, B.returns, B.notSynchronized⟩
  have Z := g_start hA hv
  have hret : ∀ (H : Heap) (locs : List Loc) (pc : Nat) (ls : Array Slot), some 0 = some res → gZ D (gT cyI cyJ cyO) ws A bs s H locs → decode cX3_requireCell pc = .ok (.return_, 1) → W p l e rmX3_requireCell s m args below meth c H locs 1 6 (vx_MQ below (va_Qv (fun (_ : Unit) => res = 0) (fun (u : Unit) U => gW D (gT cyI cyJ cyO) ws A bs U) A) (vx_X (S := Unit) (fun _ => True) (fun E u t => res ≠ 0 ∧ E = exN res ∧ gW D (gT cyI cyJ cyO) ws A bs t) A) args s 1 6 A) (F0 m pc ls []) := by
    intro H locs pc ls h Z hd
    replace h := Option.some.inj h
    subst h
    exact vx_ret (W.vret C0.1.1 C0.1.2.1 C0.2.1 (fun t ht hW => ⟨⟨(), rfl, rfl, g_end Z ht hW⟩, va_S.F Z.2.2.2.1 ht⟩) Z.2.2.2.1.2.2 hd C0.2.2)
  have hxc : ∀ (k : Nat) (H : Heap) (locs : List Loc) (t : State), k ≠ 0 → some k = some res → gZ D (gT cyI cyJ cyO) ws A bs s H locs → s.vm.Alike t.vm → H.size ≤ t.heap.size → (∀ q : Nat, q < H.size → t.heap[q]? = H[q]?) → (vx_X (S := Unit) (fun _ => True) (fun E u t => res ≠ 0 ∧ E = exN res ∧ gW D (gT cyI cyJ cyO) ws A bs t) A) (exN k) s t := by
    intro k H locs t hk h Z hvm hz hq
    replace h := Option.some.inj h
    subst h
    exact ⟨(), trivial, ⟨hk, rfl, gW_grow Z hvm hz hq⟩, vaF_grow Z.2.2.2.1 hz hq⟩
  have hl := lv_entry ([.int p0]) (n := 1) (Nat.le_of_ble_eq_true rfl)
  rw [hav, lg_entry_eq]
  generalize (lg_sl ([.int p0]) ++ List.replicate (1 - (lg_sl ([.int p0])).length) Slot.unset).toArray = ls at hl ⊢
  have hl : lv_has ls 1 [(0, .int p0)] := hl
  rw [← hav]
  unfold mX3_requireCell at h
  refine lv_iload_n C0.1.1 C0.1.2.1 dX3_requireCell_0 rfl (lv_at hl 0 rfl) ?_
  refine lv_if_lt (tgt := 10) C0.1.1 C0.1.2.1 dX3_requireCell_1 (by decide) (fun hc => ?_) (fun hc => ?_)
  · replace h := (if_pos hc).symm.trans h
    exact wX3_requireCell_10 (N := N) C0 hN hT hxt hlf hret hxc _ _ _ h Z (lv_sub hl [] rfl)
  · replace h := (if_neg hc).symm.trans h
    refine lv_iload_n C0.1.1 C0.1.2.1 dX3_requireCell_4 rfl (lv_at hl 0 rfl) ?_
    refine lv_bipush (v := 30) C0.1.1 C0.1.2.1 dX3_requireCell_5 (by decide +kernel) ?_
    refine lv_icmp_lt (tgt := 20) C0.1.1 C0.1.2.1 dX3_requireCell_7 (by decide) (fun hc => ?_) (fun hc => ?_)
    · replace h := (if_pos hc).symm.trans h
      refine W.widen (k := 1) (n := 6) (Nat.le_of_ble_eq_true rfl) (Nat.le_of_ble_eq_true rfl) ?_
      exact hret _ _ _ _ h Z dX3_requireCell_20
    · replace h := (if_neg hc).symm.trans h
      exact wX3_requireCell_10 (N := N) C0 hN hT hxt hlf hret hxc _ _ _ h Z (lv_sub hl [] rfl)
/-! X3_requireNumber -/
abbrev rmX3_requireNumber : Room := { frames := 6, cells := 1, slots := 6, locals := 92 }
theorem kX3_requireNumber_x62a : Cond.classLink RX3 62 "java/lang/IllegalArgumentException" ∈ wsX3_requireNumber := by decide +kernel
theorem kX3_requireNumber_x62b : Cond.initialized "java/lang/IllegalArgumentException" ∈ wsX3_requireNumber := by decide +kernel
theorem kX3_requireNumber_x62c : ∀ w ∈ (vx_atS RX3 66 "java/lang/IllegalArgumentException" ["java/lang/RuntimeException", "java/lang/Exception"]).filter goodWord, w ∈ wsX3_requireNumber := by decide +kernel
theorem kX3_requireNumber_c160 : Cond.constant RX3 160 (999999) ∈ wsX3_requireNumber := by decide +kernel
def mX3_requireNumber_10 (N : Nat) : Option (Nat) := some 2
def mX3_requireNumber (N : Nat) (p0 : Int32) : Option (Nat) := (if p0 < 0 then mX3_requireNumber_10 N else (if p0 ≤ (999999 : Int32) then some 0 else mX3_requireNumber_10 N))
set_option maxRecDepth 20000 in
set_option maxHeartbeats 4000000 in
theorem wX3_requireNumber_10 {p : Program} {l : Launch} {e : Env} {s : State} {m : MethodId} {args : Array Value} {below : List Frame} {meth : Method} {c : Code} {D : va_G} {cyI cyJ cyO : ClassId} {A : Nat → Prop} {bs : Nat} {ws : va_W} {Qc : Array Value → State → Outcome → State → Prop} {XC : String → State → State → Prop} {N : Nat} {res : Nat} (C0 : gC p m meth c cX3_requireNumber 1 none s args wsX3_requireNumber RX3) (hN : dN s) (hT : dT A s) (hxt : ∀ x ∈ c.exceptionTable.toList, False) (hlf : l.stackTraces = false) (hret : ∀ (H : Heap) (locs : List Loc) (pc : Nat) (ls : Array Slot), some 0 = some res → gZ D (gT cyI cyJ cyO) ws A bs s H locs → decode cX3_requireNumber pc = .ok (.return_, 1) → W p l e rmX3_requireNumber s m args below meth c H locs 1 6 (vx_MQ below Qc XC args s 1 6 A) (F0 m pc ls [])) (hxc : ∀ (k : Nat) (H : Heap) (locs : List Loc) (t : State), k ≠ 0 → some k = some res → gZ D (gT cyI cyJ cyO) ws A bs s H locs → s.vm.Alike t.vm → H.size ≤ t.heap.size → (∀ q : Nat, q < H.size → t.heap[q]? = H[q]?) → XC (exN k) s t)  : ∀ (H : Heap) (locs : List Loc) (ls : Array Slot), mX3_requireNumber_10 N = some res → gZ D (gT cyI cyJ cyO) ws A bs s H locs → lv_has ls 1 [] → W p l e rmX3_requireNumber s m args below meth c H locs 0 0 (vx_MQ below Qc XC args s 1 6 A) (F0 m 10 ls []) := by
  intro H locs ls h Z hl
  unfold mX3_requireNumber_10 at h
  exact x_throw (text := "the number is out of range") xOk_2 C0 hxt hlf hN hT Z.2.2.2.1 (List.mem_of_getElem? (i := 7) rfl) kX3_requireNumber_x62a kX3_requireNumber_x62b kX3_requireNumber_x62c hl.1 dX3_requireNumber_10 dX3_requireNumber_13 dX3_requireNumber_14 dX3_requireNumber_16 dX3_requireNumber_19 ⟨Nat.le_of_ble_eq_true rfl, Nat.le_of_ble_eq_true rfl, Nat.le_of_ble_eq_true rfl, Nat.le_of_ble_eq_true rfl⟩ (Nat.le_of_ble_eq_true rfl) (Nat.le_of_ble_eq_true rfl) (fun t hvm hz hq => hxc 2  _ _ t (by decide) h Z hvm hz hq)
set_option maxRecDepth 20000 in
set_option maxHeartbeats 4000000 in
theorem zX3_requireNumber (l : Launch) (hlf : l.stackTraces = false) (D : va_G) (cyI cyJ cyO : ClassId) (A : Nat → Prop) (bs : Nat) (hA : ∀ q, bs ≤ q → A q) (ws : va_W) (N : Nat) (p0 : Int32) (res : Nat) (h : mX3_requireNumber N p0 = some res) : vx_Met l yX3_requireNumber wsX3_requireNumber rmX3_requireNumber (va_Pc [.int p0] (dP (gW D (gT cyI cyJ cyO) ws A bs) A)) (va_Qv (fun (_ : Unit) => res = 0) (fun (u : Unit) U => gW D (gT cyI cyJ cyO) ws A bs U) A) (vx_X (S := Unit) (fun _ => True) (fun E u t => res ≠ 0 ∧ E = exN res ∧ gW D (gT cyI cyJ cyO) ws A bs t) A) 1 6 A := by
  refine vx_ofW (cc := cX3_requireNumber) (maxL := 1) (ret := none) (by decide) rfl ?_
  intro p e s m args below meth c s₁ B hml hxt hv
  obtain ⟨hav, hv⟩ := hv
  obtain ⟨hv, hN, hT⟩ := hv
  have C0 : gC p m meth c cX3_requireNumber 1 none s args wsX3_requireNumber RX3 := ⟨⟨B.exec, B.bytes, hml, findClass_of_methodNamed B.named, atoms_spec (ws := wsX3_requireNumber) B.pre⟩, B.returns, B.notSynchronized⟩
  have Z := g_start hA hv
  have hret : ∀ (H : Heap) (locs : List Loc) (pc : Nat) (ls : Array Slot), some 0 = some res → gZ D (gT cyI cyJ cyO) ws A bs s H locs → decode cX3_requireNumber pc = .ok (.return_, 1) → W p l e rmX3_requireNumber s m args below meth c H locs 1 6 (vx_MQ below (va_Qv (fun (_ : Unit) => res = 0) (fun (u : Unit) U => gW D (gT cyI cyJ cyO) ws A bs U) A) (vx_X (S := Unit) (fun _ => True) (fun E u t => res ≠ 0 ∧ E = exN res ∧ gW D (gT cyI cyJ cyO) ws A bs t) A) args s 1 6 A) (F0 m pc ls []) := by
    intro H locs pc ls h Z hd
    replace h := Option.some.inj h
    subst h
    exact vx_ret (W.vret C0.1.1 C0.1.2.1 C0.2.1 (fun t ht hW => ⟨⟨(), rfl, rfl, g_end Z ht hW⟩, va_S.F Z.2.2.2.1 ht⟩) Z.2.2.2.1.2.2 hd C0.2.2)
  have hxc : ∀ (k : Nat) (H : Heap) (locs : List Loc) (t : State), k ≠ 0 → some k = some res → gZ D (gT cyI cyJ cyO) ws A bs s H locs → s.vm.Alike t.vm → H.size ≤ t.heap.size → (∀ q : Nat, q < H.size → t.heap[q]? = H[q]?) → (vx_X (S := Unit) (fun _ => True) (fun E u t => res ≠ 0 ∧ E = exN res ∧ gW D (gT cyI cyJ cyO) ws A bs t) A) (exN k) s t := by
    intro k H locs t hk h Z hvm hz hq
    replace h := Option.some.inj h
    subst h
    exact ⟨(), trivial, ⟨hk, rfl, gW_grow Z hvm hz hq⟩, vaF_grow Z.2.2.2.1 hz hq⟩
  have hl := lv_entry ([.int p0]) (n := 1) (Nat.le_of_ble_eq_true rfl)
  rw [hav, lg_entry_eq]
  generalize (lg_sl ([.int p0]) ++ List.replicate (1 - (lg_sl ([.int p0])).length) Slot.unset).toArray = ls at hl ⊢
  have hl : lv_has ls 1 [(0, .int p0)] := hl
  rw [← hav]
  unfold mX3_requireNumber at h
  refine lv_iload_n C0.1.1 C0.1.2.1 dX3_requireNumber_0 rfl (lv_at hl 0 rfl) ?_
  refine lv_if_lt (tgt := 10) C0.1.1 C0.1.2.1 dX3_requireNumber_1 (by decide) (fun hc => ?_) (fun hc => ?_)
  · replace h := (if_pos hc).symm.trans h
    exact wX3_requireNumber_10 (N := N) C0 hN hT hxt hlf hret hxc _ _ _ h Z (lv_sub hl [] rfl)
  · replace h := (if_neg hc).symm.trans h
    refine lv_iload_n C0.1.1 C0.1.2.1 dX3_requireNumber_4 rfl (lv_at hl 0 rfl) ?_
    refine lv_ldc C0.1.1 C0.1.2.1 C0.1.2.2.2.1 (C0.1.2.2.2.2 _ kX3_requireNumber_c160) dX3_requireNumber_5 ?_
    refine lv_icmp_le (tgt := 20) C0.1.1 C0.1.2.1 dX3_requireNumber_7 (by decide) (fun hc => ?_) (fun hc => ?_)
    · replace h := (if_pos hc).symm.trans h
      refine W.widen (k := 1) (n := 6) (Nat.le_of_ble_eq_true rfl) (Nat.le_of_ble_eq_true rfl) ?_
      exact hret _ _ _ _ h Z dX3_requireNumber_20
    · replace h := (if_neg hc).symm.trans h
      exact wX3_requireNumber_10 (N := N) C0 hN hT hxt hlf hret hxc _ _ _ h Z (lv_sub hl [] rfl)
/-! X3_requireValue -/
abbrev rmX3_requireValue : Room := { frames := 6, cells := 1, slots := 6, locals := 92 }
theorem kX3_requireValue_c151 : Cond.constantLong RX3 151 (-9223372036854775808) ∈ wsX3_requireValue := by decide +kernel
theorem kX3_requireValue_x211a : Cond.classLink RX3 211 "java/lang/ArithmeticException" ∈ wsX3_requireValue := by decide +kernel
theorem kX3_requireValue_x211b : Cond.initialized "java/lang/ArithmeticException" ∈ wsX3_requireValue := by decide +kernel
theorem kX3_requireValue_x211c : ∀ w ∈ (vx_atS RX3 215 "java/lang/ArithmeticException" ["java/lang/RuntimeException", "java/lang/Exception"]).filter goodWord, w ∈ wsX3_requireValue := by decide +kernel
def mX3_requireValue (N : Nat) (p0 : Int64) : Option (Nat) := (if (lg_cmp p0 (-9223372036854775808 : Int64)) = 0 then some 4 else some 0)
set_option maxRecDepth 20000 in
set_option maxHeartbeats 4000000 in
theorem zX3_requireValue (l : Launch) (hlf : l.stackTraces = false) (D : va_G) (cyI cyJ cyO : ClassId) (A : Nat → Prop) (bs : Nat) (hA : ∀ q, bs ≤ q → A q) (ws : va_W) (N : Nat) (p0 : Int64) (res : Nat) (h : mX3_requireValue N p0 = some res) : vx_Met l yX3_requireValue wsX3_requireValue rmX3_requireValue (va_Pc [.long p0] (dP (gW D (gT cyI cyJ cyO) ws A bs) A)) (va_Qv (fun (_ : Unit) => res = 0) (fun (u : Unit) U => gW D (gT cyI cyJ cyO) ws A bs U) A) (vx_X (S := Unit) (fun _ => True) (fun E u t => res ≠ 0 ∧ E = exN res ∧ gW D (gT cyI cyJ cyO) ws A bs t) A) 1 6 A := by
  refine vx_ofW (cc := cX3_requireValue) (maxL := 2) (ret := none) (by decide) rfl ?_
  intro p e s m args below meth c s₁ B hml hxt hv
  obtain ⟨hav, hv⟩ := hv
  obtain ⟨hv, hN, hT⟩ := hv
  have C0 : gC p m meth c cX3_requireValue 2 none s args wsX3_requireValue RX3 := ⟨⟨B.exec, B.bytes, hml, findClass_of_methodNamed B.named, atoms_spec (ws := wsX3_requireValue) B.pre⟩, B.returns, B.notSynchronized⟩
  have Z := g_start hA hv
  have hret : ∀ (H : Heap) (locs : List Loc) (pc : Nat) (ls : Array Slot), some 0 = some res → gZ D (gT cyI cyJ cyO) ws A bs s H locs → decode cX3_requireValue pc = .ok (.return_, 1) → W p l e rmX3_requireValue s m args below meth c H locs 1 6 (vx_MQ below (va_Qv (fun (_ : Unit) => res = 0) (fun (u : Unit) U => gW D (gT cyI cyJ cyO) ws A bs U) A) (vx_X (S := Unit) (fun _ => True) (fun E u t => res ≠ 0 ∧ E = exN res ∧ gW D (gT cyI cyJ cyO) ws A bs t) A) args s 1 6 A) (F0 m pc ls []) := by
    intro H locs pc ls h Z hd
    replace h := Option.some.inj h
    subst h
    exact vx_ret (W.vret C0.1.1 C0.1.2.1 C0.2.1 (fun t ht hW => ⟨⟨(), rfl, rfl, g_end Z ht hW⟩, va_S.F Z.2.2.2.1 ht⟩) Z.2.2.2.1.2.2 hd C0.2.2)
  have hxc : ∀ (k : Nat) (H : Heap) (locs : List Loc) (t : State), k ≠ 0 → some k = some res → gZ D (gT cyI cyJ cyO) ws A bs s H locs → s.vm.Alike t.vm → H.size ≤ t.heap.size → (∀ q : Nat, q < H.size → t.heap[q]? = H[q]?) → (vx_X (S := Unit) (fun _ => True) (fun E u t => res ≠ 0 ∧ E = exN res ∧ gW D (gT cyI cyJ cyO) ws A bs t) A) (exN k) s t := by
    intro k H locs t hk h Z hvm hz hq
    replace h := Option.some.inj h
    subst h
    exact ⟨(), trivial, ⟨hk, rfl, gW_grow Z hvm hz hq⟩, vaF_grow Z.2.2.2.1 hz hq⟩
  have hl := lv_entry ([.long p0]) (n := 2) (Nat.le_of_ble_eq_true rfl)
  rw [hav, lg_entry_eq]
  generalize (lg_sl ([.long p0]) ++ List.replicate (2 - (lg_sl ([.long p0])).length) Slot.unset).toArray = ls at hl ⊢
  have hl : lv_has ls 2 [(0, .long p0)] := hl
  rw [← hav]
  unfold mX3_requireValue at h
  refine lv_lload_n C0.1.1 C0.1.2.1 dX3_requireValue_0 rfl (lv_at hl 0 rfl) ?_
  refine lv_ldc2 C0.1.1 C0.1.2.1 C0.1.2.2.2.1 (C0.1.2.2.2.2 _ kX3_requireValue_c151) dX3_requireValue_1 ?_
  refine W.lcmp C0.1.1 C0.1.2.1 dX3_requireValue_4 ?_
  refine lv_if_ne (tgt := 18) C0.1.1 C0.1.2.1 dX3_requireValue_5 (by decide) (fun hc => ?_) (fun hc => ?_)
  · replace h := (if_neg hc).symm.trans h
    refine W.widen (k := 1) (n := 6) (Nat.le_of_ble_eq_true rfl) (Nat.le_of_ble_eq_true rfl) ?_
    exact hret _ _ _ _ h Z dX3_requireValue_18
  · replace h := (if_pos hc).symm.trans h
    exact x_throw (text := "the cell is faulty") xOk_4 C0 hxt hlf hN hT Z.2.2.2.1 (List.mem_of_getElem? (i := 8) rfl) kX3_requireValue_x211a kX3_requireValue_x211b kX3_requireValue_x211c hl.1 dX3_requireValue_8 dX3_requireValue_11 dX3_requireValue_12 dX3_requireValue_14 dX3_requireValue_17 ⟨Nat.le_of_ble_eq_true rfl, Nat.le_of_ble_eq_true rfl, Nat.le_of_ble_eq_true rfl, Nat.le_of_ble_eq_true rfl⟩ (Nat.le_of_ble_eq_true rfl) (Nat.le_of_ble_eq_true rfl) (fun t hvm hz hq => hxc 4  _ _ t (by decide) h Z hvm hz hq)
