/-! Arrays.copyOf of the draft's signs; a lone number; the draft as a formula -/
abbrev rmJ7_copyOf : Room := { frames := 1, cells := 1, slots := 15, locals := 40 }
theorem kJ7_1 : Cond.methodLink RJ7 316 ⟨"[I", "clone", "()Ljava/lang/Object;"⟩ ∈ wsJ7_copyOf_59c91 := by decide +kernel
theorem kJ7_2 : Cond.sameMethod "[I" "java/lang/Object" "clone" "()Ljava/lang/Object;" ∈ wsJ7_copyOf_59c91 := by decide +kernel
theorem kJ7_3 : Cond.native ⟨"java/lang/Object", "clone", "()Ljava/lang/Object;"⟩ ∈ wsJ7_copyOf_59c91 := by decide +kernel
theorem kJ7_4 : Cond.instanceMethod ⟨"java/lang/Object", "clone", "()Ljava/lang/Object;"⟩ ∈ wsJ7_copyOf_59c91 := by decide +kernel
theorem kJ7_5 : Cond.selects "[I" ⟨"[I", "clone", "()Ljava/lang/Object;"⟩ ⟨"java/lang/Object", "clone", "()Ljava/lang/Object;"⟩ ∈ wsJ7_copyOf_59c91 := by decide +kernel
theorem kJ7_6 : Cond.classLink RJ7 317 "[I" ∈ wsJ7_copyOf_59c91 := by decide +kernel
theorem kJ7_7 : Cond.arrayClass .int ∈ wsJ7_copyOf_59c91 := by decide +kernel
theorem kJ7_8 : Cond.methodLink RJ7 304 Lib.Math.min.name ∈ wsJ7_copyOf_59c91 := by decide +kernel
theorem kJ7_9 : Cond.static Lib.Math.min.name ∈ wsJ7_copyOf_59c91 := by decide +kernel
theorem kJ7_10 : Cond.initialized "java/lang/Math" ∈ wsJ7_copyOf_59c91 := by decide +kernel
theorem kJ7_11 : Cond.code Lib.Math.min.name Lib.Math.min.code 2 (some .int) ∈ wsJ7_copyOf_59c91 := by decide +kernel
theorem kJ7_12 : Cond.methodLink RJ7 150 arraycopyName ∈ wsJ7_copyOf_59c91 := by decide +kernel
theorem kJ7_13 : Cond.native arraycopyName ∈ wsJ7_copyOf_59c91 := by decide +kernel
theorem kJ7_14 : Cond.static arraycopyName ∈ wsJ7_copyOf_59c91 := by decide +kernel
theorem kJ7_15 : Cond.initialized "java/lang/System" ∈ wsJ7_copyOf_59c91 := by decide +kernel
theorem fits_I {cA : ClassId} {n : Nat} {f : Nat → Int32} : ∀ (i : Nat) (v : Value), (vp_cell cA (n, .inl f)).slots[i]? = some v → fits .int v = true := by
  intro i v h
  have hi : i < n := by
    have := (Array.getElem?_eq_some_iff.mp h).1
    rw [vp_cell_i, arrV_size] at this
    exact this
  rw [vp_cell_i, arrV_read _ _ hi] at h
  cases h
  rfl
set_option maxRecDepth 20000 in
set_option maxHeartbeats 4000000 in
theorem zJ7_copyOf (l : Launch) (D : va_G) (cyI cyJ cyO : ClassId) (A : Nat → Prop) (bs : Nat) (hA : ∀ q, bs ≤ q → A q) (X : va_W) (P : List Nat) (g : Nat → va_E) (a0 q0 : Nat) (f : Nat → Int32) (hq : (X ++ va_pl P g)[q0]? = some (a0, .inl (cyI, 15, .inl f))) (k : Int32) (hk0 : ¬ k < 0) (hk1 : k.toNatClampNeg ≤ 15) : Met l yJ7_copyOf_59c91 wsJ7_copyOf_59c91 rmJ7_copyOf (va_Pc [.ref a0, .int k] (fun U => gW D (gT cyI cyJ cyO) (X ++ va_pl P g) A bs U ∧ dN U)) (va_Qr (fun (_ : Unit) => True) (fun _ ra U => ra ∉ P ∧ ∃ f1 : Nat → Int32, (∀ i, i < k.toNatClampNeg → f1 i = f i) ∧ gW D (gT cyI cyJ cyO) (X ++ va_pl (P ++ [ra]) (va_up g ra (.inl (cyI, k.toNatClampNeg, .inl f1)))) A bs U) A) 1 15 A := by
  refine Met.ofW (cc := cJ7_copyOf_59c91) (maxL := 3) (ret := some (.array .int)) (by decide) rfl ?_
  intro p e s m args below meth c s₁ B hml hv
  obtain ⟨hav, hv, hN⟩ := hv
  have C0 : gC p m meth c cJ7_copyOf_59c91 3 (some (.array .int)) s args wsJ7_copyOf_59c91 RJ7 := ⟨⟨B.exec, B.bytes, hml, findClass_of_methodNamed B.named, atoms_spec (ws := wsJ7_copyOf_59c91) B.pre⟩, B.returns, B.notSynchronized⟩
  have Z := g_start hA hv
  have hl := lv_entry ([.ref a0, .int k]) (n := 3) (Nat.le_of_ble_eq_true rfl)
  rw [hav, lg_entry_eq]
  generalize (lg_sl ([.ref a0, .int k]) ++ List.replicate (3 - (lg_sl ([.ref a0, .int k])).length) Slot.unset).toArray = ls at hl ⊢
  have hl : lv_has ls 3 [(0, .ref a0), (1, .int k)] := hl
  rw [← hav]
  have hw0 := fun w h => C0.1.2.2.2.2 w h
  have hcI : s.vm.findClass "[I" = some cyI := (Z.2.1.2 0 (cyI, .int) rfl).2
  refine lv_iload_n C0.1.1 C0.1.2.1 dJ7_copyOf_59c91_0 rfl (lv_at hl 1 rfl) ?_
  refine lv_aload_n C0.1.1 C0.1.2.1 dJ7_copyOf_59c91_1 rfl (lv_at hl 0 rfl) ?_
  refine g_alen C0.1 Z q0 0 hq rfl (v := 15) rfl dJ7_copyOf_59c91_2 ?_
  refine lv_icmp_ne (tgt := 14) C0.1.1 C0.1.2.1 dJ7_copyOf_59c91_3 (by decide) (fun hc => ?_) (fun hc => ?_)
  · refine lv_iload_n C0.1.1 C0.1.2.1 dJ7_copyOf_59c91_14 rfl (lv_at hl 1 rfl) ?_
    refine d_newI C0.1 kJ7_7 Z (N' := k.toNatClampNeg) hk0 rfl (by omega) (Nat.le_of_ble_eq_true rfl) (by show 0 + k.toNatClampNeg ≤ 15; omega) dJ7_copyOf_59c91_15 (fun q H hqP Z => ?_)
    refine lv_astore_n (lv' := [(2, .ref q), (0, .ref a0), (1, .int k)]) C0.1.1 C0.1.2.1 dJ7_copyOf_59c91_17 rfl hl (by decide) rfl (fun ls hl => ?_)
    have hq1 : (X ++ va_pl (P ++ [q]) (va_up g q (.inl (cyI, k.toNatClampNeg, .inl (fun _ => 0)))))[q0]? = some (a0, .inl (cyI, 15, .inl f)) := by
      have h9 : (X ++ va_pl (P ++ [q]) (va_up g q (.inl (cyI, k.toNatClampNeg, .inl (fun _ => 0)) : va_E))) = (X ++ va_pl P g) ++ [(q, .inl (cyI, k.toNatClampNeg, .inl (fun _ => 0)))] := by rw [List.append_assoc, va_pl_push hqP]
      rw [h9, List.getElem?_append_left ((List.getElem?_eq_some_iff.mp hq).1)]
      exact hq
    obtain ⟨kq, hkq⟩ := va_pl_get (X := X) (f := va_up g q (.inl (cyI, k.toNatClampNeg, .inl (fun _ => 0)))) (a := q) (L := P ++ [q]) (by simp)
    have hkq2 := hkq
    rw [show va_up g q (.inl (cyI, k.toNatClampNeg, .inl (fun _ => 0)) : va_E) q = .inl (cyI, k.toNatClampNeg, .inl (fun _ => 0)) by simp [va_up]] at hkq2
    refine lv_aload_n C0.1.1 C0.1.2.1 dJ7_copyOf_59c91_18 rfl (lv_at hl 1 rfl) ?_
    refine lv_iconst (v := 0) C0.1.1 C0.1.2.1 dJ7_copyOf_59c91_19 (by decide) ?_
    refine lv_aload_n C0.1.1 C0.1.2.1 dJ7_copyOf_59c91_20 rfl (lv_at hl 0 rfl) ?_
    refine lv_iconst (v := 0) C0.1.1 C0.1.2.1 dJ7_copyOf_59c91_21 (by decide) ?_
    refine lv_aload_n C0.1.1 C0.1.2.1 dJ7_copyOf_59c91_22 rfl (lv_at hl 1 rfl) ?_
    refine g_alen C0.1 Z q0 0 hq1 rfl (v := 15) rfl dJ7_copyOf_59c91_23 ?_
    refine lv_iload_n C0.1.1 C0.1.2.1 dJ7_copyOf_59c91_24 rfl (lv_at hl 2 rfl) ?_
    refine va_mmin C0.1.1 C0.1.2.1 (C0.1.2.2.1.trans hl.1.symm) C0.1.2.2.2.1 (hw0 _ kJ7_8) (hw0 _ kJ7_9) (hw0 _ kJ7_10) (hw0 _ kJ7_11) (Nat.le_of_ble_eq_true rfl) (Nat.le_of_ble_eq_true rfl) (Nat.le_of_ble_eq_true rfl) (by show 0 + k.toNatClampNeg ≤ 15; omega) dJ7_copyOf_59c91_25 ?_
    have hk2 : (if k < (15 : Int32) then k else (15 : Int32)) = k := by
      obtain ⟨j, hj, rfl⟩ := nI_of hk0
      rw [nI_clamp hj] at hk1
      rw [show (15 : Int32) = nI 15 from rfl] at hc ⊢
      rw [nI_eq hj (by decide)] at hc
      rw [if_pos (nI_lt (show j < 15 by omega) (by decide))]
    rw [hk2]
    refine va_copyi (f := f) (g := fun _ => 0) (n0 := 15) (n1 := k.toNatClampNeg) (ty := .int) C0.1.1 C0.1.2.1 (C0.1.2.2.1.trans hl.1.symm) C0.1.2.2.2.1 (hw0 _ kJ7_12) (hw0 _ kJ7_13) (hw0 _ kJ7_14) (hw0 _ kJ7_15) Z.2.1 Z.1 Z.2.2.1 Z.2.2.2.1 q0 kq 0 0 hq1 hkq2 rfl rfl rfl (by decide) (by decide) hk0 (by show 0 + k.toNatClampNeg ≤ 15; omega) (by show 0 + k.toNatClampNeg ≤ _; omega) (fun _ _ => rfl) (Nat.le_of_ble_eq_true rfl) (by decide +kernel) dJ7_copyOf_59c91_28 (fun H locs h1 h2 h3 => ?_)
    have hw := va_pl_set (e := .inl (cyI, k.toNatClampNeg, .inl (va_cpy f (fun _ => 0) (0 : Int32).toNatClampNeg (0 : Int32).toNatClampNeg k.toNatClampNeg))) Z.2.2.1 (show q ∈ P ++ [q] by simp) hkq
    rw [bx_uu] at hw
    replace Z : gZ D (gT cyI cyJ cyO) (X ++ va_pl (P ++ [q]) (va_up g q (.inl (cyI, k.toNatClampNeg, .inl (va_cpy f (fun _ => 0) (0 : Int32).toNatClampNeg (0 : Int32).toNatClampNeg k.toNatClampNeg))))) A bs s H locs := hw ▸ ⟨h1, Z.2.1, h2, h3, Z.2.2.2.2⟩
    refine lv_aload_n C0.1.1 C0.1.2.1 dJ7_copyOf_59c91_31 rfl (lv_at hl 0 rfl) ?_
    refine W.widen (k := 1) (n := 15) (Nat.le_of_ble_eq_true rfl) (by show 0 + k.toNatClampNeg ≤ 15; omega) ?_
    exact W.aret C0.1.1 C0.1.2.1 C0.2.1 (Or.inr ⟨_, rfl⟩) (Or.inr ⟨q, rfl⟩) (fun t ht hW => ⟨⟨(), q, rfl, trivial, hqP, _, fun i hi => (pk_cpy_in (Nat.zero_le _) (by show i < 0 + k.toNatClampNeg; omega)).trans (by show f (0 + (i - 0)) = f i; rw [Nat.zero_add, Nat.sub_zero]), g_end Z ht hW⟩, va_S.F Z.2.2.2.1 ht⟩) Z.2.2.2.1.2.2 dJ7_copyOf_59c91_32 C0.2.2
  · refine lv_aload_n C0.1.1 C0.1.2.1 dJ7_copyOf_59c91_6 rfl (lv_at hl 0 rfl) ?_
    have h15 : k.toNatClampNeg = 15 := by rw [hc]; rfl
    refine va_clone C0.1.1 C0.1.2.1 (C0.1.2.2.1.trans hl.1.symm) C0.1.2.2.2.1 (hw0 _ kJ7_1) (hw0 _ kJ7_2) (hw0 _ kJ7_3) (hw0 _ kJ7_4) (hw0 _ kJ7_5) (hN.1 _ (List.mem_of_getElem? (i := 25) rfl)) Z.2.1 Z.1 Z.2.2.1 Z.2.2.2.1 (fun q h => Z.2.2.2.2.2 q (Nat.le_trans Z.2.2.2.2.1 h)) q0 0 hq rfl hcI fits_I (Nat.le_of_ble_eq_true rfl) (Nat.le_of_ble_eq_true rfl) (Nat.le_of_ble_eq_true rfl) (Nat.le_of_ble_eq_true rfl) dJ7_copyOf_59c91_7 (fun q H hK hP hD hS => ?_)
    have hqP : q ∉ P := va_pl_fresh2 hD
    have hw : (X ++ va_pl P g) ++ [(q, (.inl (cyI, 15, .inl f) : va_E))] = X ++ va_pl (P ++ [q]) (va_up g q (.inl (cyI, k.toNatClampNeg, .inl f))) := by rw [h15, List.append_assoc, va_pl_push hqP]
    replace Z : gZ D (gT cyI cyJ cyO) (X ++ va_pl (P ++ [q]) (va_up g q (.inl (cyI, k.toNatClampNeg, .inl f)))) A bs s H [] := hw ▸ ⟨hP, Z.2.1, hD, hS, Z.2.2.2.2⟩
    obtain ⟨kq, hkq⟩ := va_pl_get (X := X) (f := va_up g q (.inl (cyI, k.toNatClampNeg, .inl f))) (a := q) (L := P ++ [q]) (by simp)
    rw [show va_up g q (.inl (cyI, k.toNatClampNeg, .inl f) : va_E) q = .inl (cyI, k.toNatClampNeg, .inl f) by simp [va_up]] at hkq
    refine va_castA C0.1.1 C0.1.2.1 C0.1.2.2.2.1 (hw0 _ kJ7_6) Z.1 kq hkq hcI dJ7_copyOf_59c91_10 ?_
    exact W.aret C0.1.1 C0.1.2.1 C0.2.1 (Or.inr ⟨_, rfl⟩) (Or.inr ⟨q, rfl⟩) (fun t ht hW => ⟨⟨(), q, rfl, trivial, hqP, f, fun _ _ => rfl, g_end Z ht hW⟩, va_S.F Z.2.2.2.1 ht⟩) Z.2.2.2.1.2.2 dJ7_copyOf_59c91_13 C0.2.2
/-- a formula of one number -/
def mX3_loneNumber (N : Nat) (p0 : Int32) : Option (Int32 × Nat × (Nat → Int32)) := (mX1_init N 1 (upd (fun _ => 0) (0 : Int32).toNatClampNeg ((36 : Int32) + p0))).bind fun w => some (w, 1, upd (fun _ => 0) (0 : Int32).toNatClampNeg ((36 : Int32) + p0))
/-- the draft as a formula -/
def mX0_toFormula (N : Nat) (dc : Int32) (ds : Nat → Int32) : Option (Int32 × Nat × (Nat → Int32)) := if dc < 0 ∨ 15 < dc.toNatClampNeg then none else (mX1_init N dc.toNatClampNeg ds).bind fun w => some (w, dc.toNatClampNeg, ds)
abbrev rmX3_loneNumber : Room := { frames := 2, cells := 2, slots := 3, locals := 90 }
abbrev rmX0_toFormula : Room := { frames := 2, cells := 2, slots := 17, locals := 90 }
theorem kLN_1 : Cond.arrayClass .int ∈ wsX3_loneNumber := by decide +kernel
theorem kLN_2 : Cond.classLink RX3 25 RX1 ∈ wsX3_loneNumber := by decide +kernel
theorem kLN_3 : Cond.instantiable RX1 2 ∈ wsX3_loneNumber := by decide +kernel
theorem kLN_4 : Cond.initialized RX1 ∈ wsX3_loneNumber := by decide +kernel
theorem kLN_5 : Cond.instanceMethod yX1_init ∈ wsX3_loneNumber := by decide +kernel
theorem kLN_in : ∀ w ∈ wsX10, w ∈ wsX3_loneNumber := by decide +kernel
theorem kTF_2 : Cond.classLink RX0 19 RX1 ∈ wsX0_toFormula := by decide +kernel
theorem kTF_3 : Cond.instantiable RX1 2 ∈ wsX0_toFormula := by decide +kernel
theorem kTF_4 : Cond.initialized RX1 ∈ wsX0_toFormula := by decide +kernel
theorem kTF_5 : Cond.instanceMethod yX1_init ∈ wsX0_toFormula := by decide +kernel
theorem kTF_6 : Cond.fieldLink RX0 9 "GoalseekOffice$Draft" "signs" "[I" ∈ wsX0_toFormula := by decide +kernel
theorem kTF_7 : Cond.fieldLink RX0 15 "GoalseekOffice$Draft" "count" "I" ∈ wsX0_toFormula := by decide +kernel
theorem kTF_in : ∀ w ∈ wsX10, w ∈ wsX0_toFormula := by decide +kernel
theorem kTF_in0 : ∀ w ∈ wsX00, w ∈ wsX0_toFormula := by decide +kernel
set_option maxRecDepth 20000 in
set_option maxHeartbeats 4000000 in
theorem zX3_loneNumber (l : Launch) (D : va_G) (cyI cyJ cyO : ClassId) (A : Nat → Prop) (bs : Nat) (hA : ∀ q, bs ≤ q → A q) (P : List Nat) (g : Nat → va_E) (d : Nat → Nat) (eA : Nat) (ol fd dc : Int32) (ds : Nat → Int32) (fw : Nat → Int32) (fn : Nat → Nat) (ff : Nat → Nat → Int32) (qw : Nat → Int32) (qn : Nat → Nat) (qf : Nat → Nat → Int32) (va tr : Nat → Int64) (N : Nat) (p0 : Int32) (res : Int32 × Nat × (Nat → Int32)) (h : mX3_loneNumber N p0 = some res) : Met l yX3_loneNumber wsX3_loneNumber rmX3_loneNumber (va_Pc [.int p0] (dP (dW D cyI cyJ cyO A bs P g d eA (d 5) (d 6) ol fd dc ds fw fn ff qw qn qf va tr) A)) (va_Qr (fun (_ : Unit) => True) (fun _ ra U => ∃ (P1 : List Nat) (g1 : Nat → va_E), exP P g P1 g1 ∧ dW D cyI cyJ cyO A bs P1 g1 d eA (d 5) (d 6) ol fd dc ds fw fn ff qw qn qf va tr U ∧ isF cyI P1 g1 ra res.1 res.2.1 res.2.2) A) 2 3 A := by
  refine Met.ofW (cc := cX3_loneNumber) (maxL := 2) (ret := some (.object "GoalseekOffice$Formula")) (by decide) rfl ?_
  intro p e s m args below meth c s₁ B hml hv
  obtain ⟨hav, hv, hN, hT⟩ := hv
  have C0 : gC p m meth c cX3_loneNumber 2 (some (.object "GoalseekOffice$Formula")) s args wsX3_loneNumber RX3 := ⟨⟨B.exec, B.bytes, hml, findClass_of_methodNamed B.named, atoms_spec (ws := wsX3_loneNumber) B.pre⟩, B.returns, B.notSynchronized⟩
  obtain ⟨rs, rr, at', fa, ra, Z, hF⟩ := dZ_start hA hv
  have hl := lv_entry ([.int p0]) (n := 2) (Nat.le_of_ble_eq_true rfl)
  rw [hav, lg_entry_eq]
  generalize (lg_sl ([.int p0]) ++ List.replicate (2 - (lg_sl ([.int p0])).length) Slot.unset).toArray = ls at hl ⊢
  have hl : lv_has ls 2 [(0, .int p0)] := hl
  rw [← hav]
  unfold mX3_loneNumber at h
  obtain ⟨w, hw9, h⟩ := g_bd h
  cases h
  refine lv_iconst (v := 1) C0.1.1 C0.1.2.1 dX3_loneNumber_0 (by decide) ?_
  refine d_newI C0.1 kLN_1 Z (N' := 1) (by decide) rfl (by decide) (Nat.le_of_ble_eq_true rfl) (Nat.le_of_ble_eq_true rfl) dX3_loneNumber_1 (fun q1 H hq1 Z => ?_)
  refine lv_dup C0.1.1 C0.1.2.1 dX3_loneNumber_3 rfl ?_
  refine lv_iconst (v := 0) C0.1.1 C0.1.2.1 dX3_loneNumber_4 (by decide) ?_
  refine lv_bipush (v := 36) C0.1.1 C0.1.2.1 dX3_loneNumber_5 (by decide +kernel) ?_
  refine lv_iload_n C0.1.1 C0.1.2.1 dX3_loneNumber_7 rfl (lv_at hl 0 rfl) ?_
  refine lv_iadd C0.1.1 C0.1.2.1 dX3_loneNumber_8 ?_
  refine d_iast C0.1 Z (show q1 ∈ P ++ [q1] by simp) (n := 1) (f := fun _ => 0) (by simp [va_up]) (show ¬ ((0 : Int32) < 0 ∨ 1 ≤ (0 : Int32).toNatClampNeg) by decide) dX3_loneNumber_9 (fun H locs Z => ?_)
  rw [bx_uu] at Z
  refine lv_astore_n (lv' := [(1, .ref q1), (0, .int p0)]) C0.1.1 C0.1.2.1 dX3_loneNumber_10 rfl hl (by decide) rfl (fun ls hl => ?_)
  generalize hF1 : upd (fun _ => (0 : Int32)) (0 : Int32).toNatClampNeg ((36 : Int32) + p0) = f1 at Z hw9 ⊢
  have e1 : exP P g (P ++ [q1]) (va_up g q1 (.inl (cyI, 1, .inl f1))) := exP_push hq1
  refine d_newF C0.1 kLN_in kLN_2 kLN_3 kLN_4 Z (Nat.le_of_ble_eq_true rfl) (Nat.le_of_ble_eq_true rfl) dX3_loneNumber_11 (fun q2 H hq2 Z => ?_)
  have e2 : ∀ x : va_E, exP (P ++ [q1]) (va_up g q1 (.inl (cyI, 1, .inl f1))) (P ++ [q1] ++ [q2]) (va_up (va_up g q1 (.inl (cyI, 1, .inl f1))) q2 x) := fun x => exP_push hq2
  have hne : q1 ≠ q2 := fun z => hq2 (by rw [← z]; simp)
  have hs : ∀ x : va_E, isA cyI (P ++ [q1] ++ [q2]) (va_up (va_up g q1 (.inl (cyI, 1, .inl f1))) q2 x) q1 1 f1 := fun x => ⟨by simp, f1, by simp [va_up, hne], fun _ _ => rfl⟩
  refine lv_dup C0.1.1 C0.1.2.1 dX3_loneNumber_14 rfl ?_
  refine lv_aload_n C0.1.1 C0.1.2.1 dX3_loneNumber_15 rfl (lv_at hl 0 rfl) ?_
  refine x_callv (va_runIN (b := q2) (As := [.ref q1]) (rest := [.ref q2]) C0.1 (zX1_init l D cyI cyJ cyO A bs Z.2.2.2.2.2 _ _ _ q2 q1 1 f1 (by simp) (by simp [va_up]) (hs _) N w hw9) ⟨va_cnB 1 C0.1.2.2.2.2 gX3_loneNumber_X1_init_n27 rfl rfl rfl (hN.1 _ (List.mem_of_getElem? (i := 7) rfl)) (C0.1.2.2.2.2 _ kLN_4) (by decide +kernel) ⟨Nat.le_of_ble_eq_true rfl, Nat.le_of_ble_eq_true rfl⟩, rfl, C0.1.2.2.2.2 _ kLN_5⟩ ⟨gN_blind, gN_pre Z hN _⟩ rfl rfl hl.1 rfl (lv_room (Nat.le_of_ble_eq_true rfl)) dX3_loneNumber_16 ⟨Nat.le_of_ble_eq_true rfl, Nat.le_of_ble_eq_true rfl⟩) Z.2.2.2.1 (fun u t H1 locs1 ht hvm hB hS => g_post Z ht hvm hB hS) (fun u H locs hw Z => ?_)
  rw [bx_uu] at Z
  exact W.aret C0.1.1 C0.1.2.1 C0.2.1 (Or.inl ⟨_, rfl⟩) (Or.inr ⟨q2, rfl⟩) (fun t ht hW => ⟨⟨(), q2, rfl, trivial, _, _, exP_tr e1 (e2 _), ⟨rs, rr, at', fa, ra, g_end Z ht hW, dF_ex (exP_tr e1 (e2 _)) hF⟩, by simp, q1, by simp [va_up], hs _⟩, va_S.F Z.2.2.2.1 ht⟩) Z.2.2.2.1.2.2 dX3_loneNumber_19 C0.2.2
set_option maxRecDepth 20000 in
set_option maxHeartbeats 4000000 in
theorem zX0_toFormula (l : Launch) (D : va_G) (cyI cyJ cyO : ClassId) (A : Nat → Prop) (bs : Nat) (hA : ∀ q, bs ≤ q → A q) (P : List Nat) (g : Nat → va_E) (d : Nat → Nat) (eA : Nat) (ol fd dc : Int32) (ds : Nat → Int32) (fw : Nat → Int32) (fn : Nat → Nat) (ff : Nat → Nat → Int32) (qw : Nat → Int32) (qn : Nat → Nat) (qf : Nat → Nat → Int32) (va tr : Nat → Int64) (N : Nat) (res : Int32 × Nat × (Nat → Int32)) (h : mX0_toFormula N dc ds = some res) : Met l yX0_toFormula wsX0_toFormula rmX0_toFormula (va_Pc [.ref (d 1)] (dP (dW D cyI cyJ cyO A bs P g d eA (d 5) (d 6) ol fd dc ds fw fn ff qw qn qf va tr) A)) (va_Qr (fun (_ : Unit) => True) (fun _ ra U => ∃ (P1 : List Nat) (g1 : Nat → va_E), exP P g P1 g1 ∧ dW D cyI cyJ cyO A bs P1 g1 d eA (d 5) (d 6) ol fd dc ds fw fn ff qw qn qf va tr U ∧ isF cyI P1 g1 ra res.1 res.2.1 res.2.2) A) 2 17 A := by
  refine Met.ofW (cc := cX0_toFormula) (maxL := 1) (ret := some (.object "GoalseekOffice$Formula")) (by decide) rfl ?_
  intro p e s m args below meth c s₁ B hml hv
  obtain ⟨hav, hv, hN, hT⟩ := hv
  have C0 : gC p m meth c cX0_toFormula 1 (some (.object "GoalseekOffice$Formula")) s args wsX0_toFormula RX0 := ⟨⟨B.exec, B.bytes, hml, findClass_of_methodNamed B.named, atoms_spec (ws := wsX0_toFormula) B.pre⟩, B.returns, B.notSynchronized⟩
  obtain ⟨rs, rr, at', fa, ra, Z, hF⟩ := dZ_start hA hv
  have hl := lv_entry ([.ref (d 1)]) (n := 1) (Nat.le_of_ble_eq_true rfl)
  rw [hav, lg_entry_eq]
  generalize (lg_sl ([.ref (d 1)]) ++ List.replicate (1 - (lg_sl ([.ref (d 1)])).length) Slot.unset).toArray = ls at hl ⊢
  have hl : lv_has ls 1 [(0, .ref (d 1))] := hl
  rw [← hav]
  unfold mX0_toFormula at h
  obtain ⟨hdc, h⟩ := g_ni h
  obtain ⟨w, hw9, h⟩ := g_bd h
  cases h
  have hd0 : ¬ dc < 0 := fun z => hdc (Or.inl z)
  have hd1 : dc.toNatClampNeg ≤ 15 := Nat.not_lt.mp fun z => hdc (Or.inr z)
  refine d_newF C0.1 kTF_in kTF_2 kTF_3 kTF_4 Z (Nat.le_of_ble_eq_true rfl) (Nat.le_of_ble_eq_true rfl) dX0_toFormula_0 (fun q2 H hq2 Z => ?_)
  refine lv_dup C0.1.1 C0.1.2.1 dX0_toFormula_3 rfl ?_
  refine lv_aload_n C0.1.1 C0.1.2.1 dX0_toFormula_4 rfl (lv_at hl 0 rfl) ?_
  refine g_get (ci := 2) (v := .ref (d 7)) (T := TX0) (N := 2) C0.1 Z 1 rfl rfl 0 (by decide) kTF_in0 kTF_6 rfl rfl dX0_toFormula_5 ?_
  refine lv_aload_n C0.1.1 C0.1.2.1 dX0_toFormula_8 rfl (lv_at hl 0 rfl) ?_
  refine g_get (ci := 2) (v := .int dc) (T := TX0) (N := 2) C0.1 Z 1 rfl rfl 1 (by decide) kTF_in0 kTF_7 rfl rfl dX0_toFormula_9 ?_
  refine x_callr (va_runS (As := [.ref (d 7), .int dc]) (rest := [.ref q2, .ref q2]) C0.1 (zJ7_copyOf l D cyI cyJ cyO A bs Z.2.2.2.2.2 (XD d cyI cyJ cyO eA (d 5) (d 6) rs rr at' fa ra ol fd dc ds va tr) _ _ (d 7) 7 ds rfl dc hd0 hd1) (va_cwS 2 C0.1.2.2.2.2 gX0_toFormula_J7_copyOf_59c91 rfl rfl rfl (by decide +kernel) ⟨Nat.le_of_ble_eq_true rfl, Nat.le_of_ble_eq_true rfl⟩) ⟨gN_blind, gN_pre Z hN _⟩ rfl rfl hl.1 rfl (lv_room (Nat.le_of_ble_eq_true rfl)) dX0_toFormula_12 ⟨Nat.le_of_ble_eq_true rfl, Nat.le_of_ble_eq_true rfl⟩) Z.2.2.2.1 (Zr := fun (_ : Unit) q1 H1 locs1 => q1 ∉ (P ++ [q2]) ∧ ∃ f1 : Nat → Int32, (∀ i, i < dc.toNatClampNeg → f1 i = ds i) ∧ gZ D (gT cyI cyJ cyO) (XD d cyI cyJ cyO eA (d 5) (d 6) rs rr at' fa ra ol fd dc ds va tr ++ va_pl (P ++ [q2] ++ [q1]) (va_up (va_up g q2 (.inr (3, [.null, .int 0]))) q1 (.inl (cyI, dc.toNatClampNeg, .inl f1)))) A bs s H1 locs1) (fun u q1 t H1 locs1 ht hvm hB hS => by obtain ⟨h1, f1, h2, h3⟩ := hB; exact ⟨h1, f1, h2, g_post Z ht hvm h3 hS⟩) (fun u q1 H locs hw Z => ?_)
  obtain ⟨hq1, f1, hf1, Z⟩ := Z
  have hne : q1 ≠ q2 := fun z => hq1 (by rw [z]; simp)
  have hs0 : isA cyI (P ++ [q2] ++ [q1]) (va_up (va_up g q2 (.inr (3, [.null, .int 0]))) q1 (.inl (cyI, dc.toNatClampNeg, .inl f1))) q1 dc.toNatClampNeg ds := ⟨by simp, f1, by simp [va_up], hf1⟩
  refine x_callv (va_runIN (b := q2) (As := [.ref q1]) (rest := [.ref q2]) C0.1 (zX1_init l D cyI cyJ cyO A bs Z.2.2.2.2.2 (XD d cyI cyJ cyO eA (d 5) (d 6) rs rr at' fa ra ol fd dc ds va tr) _ _ q2 q1 dc.toNatClampNeg ds (by simp) (by simp [va_up, Ne.symm hne]) hs0 N w hw9) ⟨va_cnB 1 C0.1.2.2.2.2 gX0_toFormula_X1_init_n27 rfl rfl rfl (hN.1 _ (List.mem_of_getElem? (i := 11) rfl)) (C0.1.2.2.2.2 _ kTF_4) (by decide +kernel) ⟨Nat.le_of_ble_eq_true rfl, Nat.le_of_ble_eq_true rfl⟩, rfl, C0.1.2.2.2.2 _ kTF_5⟩ ⟨gN_blind, gN_pre Z hN _⟩ rfl rfl hl.1 rfl (lv_room (Nat.le_of_ble_eq_true rfl)) dX0_toFormula_15 ⟨Nat.le_of_ble_eq_true rfl, Nat.le_of_ble_eq_true rfl⟩) Z.2.2.2.1 (fun u t H1 locs1 ht hvm hB hS => g_post Z ht hvm hB hS) (fun u H locs hw Z => ?_)
  have ex : exP P g (P ++ [q2] ++ [q1]) (va_up (va_up (va_up g q2 (.inr (3, [.null, .int 0]))) q1 (.inl (cyI, dc.toNatClampNeg, .inl f1))) q2 (.inr (3, [.ref q1, .int w]))) := fun b hb => ⟨by simp [hb], by
    have h1 : b ≠ q2 := fun z => hq2 (z ▸ hb)
    have h2 : b ≠ q1 := fun z => hq1 (by rw [← z]; simp [hb])
    simp [va_up, h1, h2]⟩
  exact W.aret C0.1.1 C0.1.2.1 C0.2.1 (Or.inl ⟨_, rfl⟩) (Or.inr ⟨q2, rfl⟩) (fun t ht hW => ⟨⟨(), q2, rfl, trivial, _, _, ex, ⟨rs, rr, at', fa, ra, g_end Z ht hW, dF_ex ex hF⟩, by simp, q1, by simp [va_up], by simp, f1, by simp [va_up, hne], hf1⟩, va_S.F Z.2.2.2.1 ht⟩) Z.2.2.2.1.2.2 dX0_toFormula_18 C0.2.2
