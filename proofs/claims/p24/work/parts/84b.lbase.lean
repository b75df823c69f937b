/-! small words of the law's walks -/
theorem pu_blind {av : List Value} : FrameBlind (va_Pc av (fun _ => True)) := fun _ _ _ _ q => ⟨q.1, trivial⟩
theorem cx_blind {av : List Value} {b L : Nat} {xs : Nat → Int32} : FrameBlind (va_Pc av (fun U => va_X b L xs U U.heap ∧ b < U.heap.size)) := fun a U g mk q => ⟨q.1, va_X.moved (u := U) (U := U.calling g mk a) (Vm.Alike.refl U.vm) q.2.1, q.2.2⟩
theorem cx_pre {A : Nat → Prop} {s : State} {H : Heap} {locs : List Loc} {b L : Nat} {xs : Nat → Int32} (hX : va_X b L xs s s.heap) (hbl : b < s.heap.size) (hbA : ¬ A b) (hS : va_S A s.heap H locs) (av : List Value) : ∀ U : State, U.heap = H → s.WarmedH U.vm → va_Pc av (fun U => va_X b L xs U U.heap ∧ b < U.heap.size) av.toArray U := fun U hU hW =>
  ⟨rfl, by rw [hU]; exact (va_X.moved hW.alike hX).kept (hS.2.1 b hbl hbA), by rw [hU]; exact Nat.lt_of_lt_of_le hbl hS.1⟩
/-! the script's k-th cell -/
abbrev rmL_cell : Room := { frames := 0, cells := 0, slots := 0, locals := 0 }
set_option maxRecDepth 20000 in
set_option maxHeartbeats 4000000 in
theorem zL_cell (l : Launch) (b L : Nat) (xs : Nat → Int32) (k : Int32) (res : Int32) (h : mL_cell L xs k = some res) : Met l yL_cell wsL_cell rmL_cell (va_Pc [.ref b, .int k] (fun U => va_X b L xs U U.heap ∧ b < U.heap.size)) (va_Qi (fun (r : Int32) (_ : Unit) => res = r) (fun _ _ => True) (fun _ => False)) 0 0 (fun _ => False) := by
  refine Met.ofW (cc := cL_cell) (maxL := 2) (ret := (some .int)) (by decide) rfl ?_
  intro p e s m args below meth c s₁ B hml hv
  obtain ⟨hav, hX, hbl⟩ := hv
  have C0 : gC p m meth c cL_cell 2 (some .int) s args wsL_cell RL := ⟨⟨B.exec, B.bytes, hml, findClass_of_methodNamed B.named, atoms_spec (ws := wsL_cell) B.pre⟩, B.returns, B.notSynchronized⟩
  have Z : va_S (fun _ => False) s.heap s.heap [] := va_S.rf
  have hl := lv_entry ([.ref b, .int k]) (n := 2) (Nat.le_of_ble_eq_true rfl)
  rw [hav, lg_entry_eq]
  generalize (lg_sl ([.ref b, .int k]) ++ List.replicate (2 - (lg_sl ([.ref b, .int k])).length) Slot.unset).toArray = ls at hl ⊢
  have hl : lv_has ls 2 [(0, .ref b), (1, .int k)] := hl
  rw [← hav]
  unfold mL_cell at h
  have hend : ∀ (r : Int32), res = r → W p l e rmL_cell s m args below meth c s.heap [] 0 0 (MQ below (va_Qi (fun (r : Int32) (_ : Unit) => res = r) (fun _ _ => True) (fun _ => False)) args s 0 0 (fun _ => False)) (F0 m 27 ls [.int r]) := by
    intro r hr
    exact W.iret C0.1.1 C0.1.2.1 C0.2.1 (fun t ht hW => ⟨⟨r, (), rfl, hr, trivial⟩, va_S.F Z ht⟩) Z.2.2 dL_cell_27 C0.2.2
  refine lv_iload_n C0.1.1 C0.1.2.1 dL_cell_0 rfl (lv_at hl 1 rfl) ?_
  refine lv_aload_n C0.1.1 C0.1.2.1 dL_cell_1 rfl (lv_at hl 0 rfl) ?_
  refine va_slen C0.1.1 C0.1.2.1 hX hbl id Z dL_cell_2 ?_
  refine lv_icmp_ge (tgt := 12) C0.1.1 C0.1.2.1 dL_cell_3 (by decide) (fun hc => ?_) (fun hc => ?_)
  · replace h := Option.some.inj ((if_pos hc).symm.trans h)
    refine lv_sipush (v := 7919) C0.1.1 C0.1.2.1 dL_cell_12 (by decide +kernel) ?_
    refine lv_iload_n C0.1.1 C0.1.2.1 dL_cell_15 rfl (lv_at hl 1 rfl) ?_
    refine lv_sipush (v := 307) C0.1.1 C0.1.2.1 dL_cell_16 (by decide +kernel) ?_
    refine lv_iadd C0.1.1 C0.1.2.1 dL_cell_19 ?_
    refine lv_imul C0.1.1 C0.1.2.1 dL_cell_20 ?_
    refine lv_iload_n C0.1.1 C0.1.2.1 dL_cell_21 rfl (lv_at hl 1 rfl) ?_
    refine lv_sipush (v := 2557) C0.1.1 C0.1.2.1 dL_cell_22 (by decide +kernel) ?_
    refine lv_iadd C0.1.1 C0.1.2.1 dL_cell_25 ?_
    refine lv_imul C0.1.1 C0.1.2.1 dL_cell_26 ?_
    exact hend _ h.symm
  · obtain ⟨hin, h⟩ := g_ni ((if_neg hc).symm.trans h)
    replace h := Option.some.inj h
    refine lv_aload_n C0.1.1 C0.1.2.1 dL_cell_6 rfl (lv_at hl 0 rfl) ?_
    refine lv_iload_n C0.1.1 C0.1.2.1 dL_cell_7 rfl (lv_at hl 1 rfl) ?_
    refine va_sld C0.1.1 C0.1.2.1 hX hbl id Z hin dL_cell_8 ?_
    refine lv_goto (tgt := 27) C0.1.1 C0.1.2.1 dL_cell_9 (by decide) ?_
    exact hend _ h.symm
