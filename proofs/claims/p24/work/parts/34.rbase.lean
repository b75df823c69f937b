/-! the reckoner: words and rooms of its three methods that call one another -/
def L_R : List Cond := wsX2_sum ++ (wsX2_product ++ wsX2_factor)
def wsRS : List Cond := .code yX2_sum cX2_sum 5 (some .long) :: L_R
def wsRP : List Cond := .code yX2_product cX2_product 5 (some .long) :: L_R
def wsRF : List Cond := .code yX2_factor cX2_factor 6 (some .long) :: L_R
abbrev rmX2_sum (k : Nat) : Room := { frames := 3 * k + 4, cells := 0, slots := 0, locals := 73 * k + 100 }
abbrev rmX2_factor (k : Nat) : Room := { frames := 3 * k + 5, cells := 0, slots := 0, locals := 73 * k + 124 }
abbrev rmX2_product (k : Nat) : Room := { frames := 3 * k + 6, cells := 0, slots := 0, locals := 73 * k + 149 }
abbrev rmX2_take : Room := { frames := 0, cells := 0, slots := 0, locals := 0 }
theorem R_good : ∀ w ∈ L_R, goodWord w = true := by decide +kernel
theorem R_s {w : Cond} (h : w ∈ wsX2_sum) : w ∈ L_R := List.mem_append_left _ h
theorem R_p {w : Cond} (h : w ∈ wsX2_product) : w ∈ L_R := List.mem_append_right _ (List.mem_append_left _ h)
theorem R_f {w : Cond} (h : w ∈ wsX2_factor) : w ∈ L_R := List.mem_append_right _ (List.mem_append_right _ h)
theorem R_in {big : List Cond} {c : Cond} (hb : ∀ w ∈ L_R, w ∈ big) (hc : c ∈ L_R) : GoodIn big (c :: L_R) := fun w h => by
  rcases List.mem_cons.mp h with rfl | h
  · exact ⟨hb _ hc, good_of_word (R_good _ hc)⟩
  · exact ⟨hb _ h, good_of_word (R_good _ h)⟩
theorem gRF_sum : GoodIn wsRF (wsV RX2 39 RX2 yX2_sum wsRS) := goodIn_app (goodIn_of _ (by decide +kernel)) (R_in (fun _ h => List.mem_cons_of_mem _ h) (R_s List.mem_cons_self))
theorem gRP_factor : GoodIn wsRP (wsV RX2 34 RX2 yX2_factor wsRF) := goodIn_app (goodIn_of _ (by decide +kernel)) (R_in (fun _ h => List.mem_cons_of_mem _ h) (R_f List.mem_cons_self))
theorem gRS_product : GoodIn wsRS (wsV RX2 26 RX2 yX2_product wsRP) := goodIn_app (goodIn_of _ (by decide +kernel)) (R_in (fun _ h => List.mem_cons_of_mem _ h) (R_p List.mem_cons_self))
theorem gRS_combine : GoodIn wsRS (va_wsS RX2 30 yX2_combine wsX2_combine) := fun w h => ⟨List.mem_cons_of_mem _ (R_s (gX2_sum_X2_combine w h).1), (gX2_sum_X2_combine w h).2⟩
theorem gRP_combine : GoodIn wsRP (va_wsS RX2 30 yX2_combine wsX2_combine) := fun w h => ⟨List.mem_cons_of_mem _ (R_p (gX2_product_X2_combine w h).1), (gX2_product_X2_combine w h).2⟩
theorem gX3_workOut_RS : GoodIn wsX3_workOut wsRS := goodIn_sub (by decide +kernel) (by decide +kernel)
section RB
variable {s : State} {H : Heap} {locs : List Loc} {D : va_G} {A : Nat → Prop} {bs : Nat} {ws : va_W} {cyI cyJ cyO : ClassId}
theorem gN_blind {av : List Value} : FrameBlind (va_Pc av (fun U => gW D (gT cyI cyJ cyO) ws A bs U ∧ dN U)) := fun a U g mk q => ⟨q.1, ⟨q.2.1.1, q.2.1.2.1, va_K.moved (u := U) (U := U.calling g mk a) (Vm.Alike.refl U.vm) q.2.1.2.2.1, q.2.1.2.2.2⟩, dN_same (u := U) (U := U.calling g mk a) rfl q.2.2⟩
theorem gN_pre (Z : gZ D (gT cyI cyJ cyO) ws A bs s H locs) (hN : dN s) (av : List Value) : ∀ U : State, U.heap = H → s.WarmedH U.vm → va_Pc av (fun U => gW D (gT cyI cyJ cyO) ws A bs U ∧ dN U) av.toArray U := fun U hU hW => ⟨rfl, (g_pre Z av U hU hW).2, dN_warm hW hN⟩
end RB
theorem kX2_take_in : ∀ w ∈ wsX20, w ∈ wsX2_take := by decide +kernel
theorem kX2_take_in1 : ∀ w ∈ wsX10, w ∈ wsX2_take := by decide +kernel
theorem kX2_take_9 : Cond.fieldLink RX2 9 "GoalseekOffice$Reckoner" "signs" "[I" ∈ wsX2_take := by decide +kernel
theorem kX2_take_15 : Cond.fieldLink RX2 15 "GoalseekOffice$Reckoner" "row" "[J" ∈ wsX2_take := by decide +kernel
theorem kX2_take_22 : Cond.fieldLink RX2 22 "GoalseekOffice$Reckoner" "at" "I" ∈ wsX2_take := by decide +kernel
set_option maxRecDepth 20000 in
set_option maxHeartbeats 4000000 in
/-- take: the formula's signs, the row, the first place -/
theorem zX2_take (l : Launch) (D : va_G) (cyI cyJ cyO : ClassId) (A : Nat → Prop) (bs : Nat) (hA : ∀ q, bs ≤ q → A q) (P : List Nat) (g : Nat → va_E) (d : Nat → Nat) (eA vr vt rs rr : Nat) (at' : Int32) (fa ra : Nat → Nat) (ol fd dc : Int32) (ds : Nat → Int32) (va tr : Nat → Int64) {b n : Nat} {w : Int32} {f : Nat → Int32} (hb : isF cyI P g b w n f) : Met l yX2_take wsX2_take rmX2_take (va_Pc [.ref (d 2), .ref b, .ref (d 5)] (fun U => gW D (gT cyI cyJ cyO) (XD d cyI cyJ cyO eA vr vt rs rr at' fa ra ol fd dc ds va tr ++ va_pl P g) A bs U ∧ dN U)) (va_Qv (fun (_ : Nat) => True) (fun (u : Nat) U => isA cyI P g u n f ∧ gW D (gT cyI cyJ cyO) (XD d cyI cyJ cyO eA vr vt u (d 5) 0 fa ra ol fd dc ds va tr ++ va_pl P g) A bs U) A) 0 0 A := by
  refine Met.ofW (cc := cX2_take) (maxL := 3) (ret := none) (by decide) rfl ?_
  intro p e s m args below meth c s₁ B hml hv
  obtain ⟨hav, hv, hN⟩ := hv
  have C0 : gC p m meth c cX2_take 3 none s args wsX2_take RX2 := ⟨⟨B.exec, B.bytes, hml, findClass_of_methodNamed B.named, atoms_spec (ws := wsX2_take) B.pre⟩, B.returns, B.notSynchronized⟩
  have Z := g_start hA hv
  have hl := lv_entry ([.ref (d 2), .ref b, .ref (d 5)]) (n := 3) (Nat.le_of_ble_eq_true rfl)
  rw [hav, lg_entry_eq]
  generalize (lg_sl ([.ref (d 2), .ref b, .ref (d 5)]) ++ List.replicate (3 - (lg_sl ([.ref (d 2), .ref b, .ref (d 5)])).length) Slot.unset).toArray = ls at hl ⊢
  have hl : lv_has ls 3 [(0, .ref (d 2)), (1, .ref b), (2, .ref (d 5))] := hl
  rw [← hav]
  refine lv_aload_n C0.1.1 C0.1.2.1 dX2_take_0 rfl (lv_at hl 0 rfl) ?_
  refine lv_aload_n C0.1.1 C0.1.2.1 dX2_take_1 rfl (lv_at hl 1 rfl) ?_
  refine d_fsigns (host := RX3) C0.1 Z hb kX2_take_in1 (hN.1 _ (List.mem_of_getElem? (i := 16) rfl)) dX2_take_2 (fun sa hs => ?_)
  refine g_put (ci := 4) (v := .ref sa) (T := TX2) (N := 3) (ws' := XD d cyI cyJ cyO eA vr vt sa rr at' fa ra ol fd dc ds va tr ++ va_pl P g) C0.1 Z 2 rfl rfl 0 (by decide) kX2_take_in kX2_take_9 rfl tyX2 tyX2_ok nmX2 rfl rfl rfl (Nat.le_of_ble_eq_true rfl) dX2_take_5 rfl (fun H locs Z => ?_)
  refine lv_aload_n C0.1.1 C0.1.2.1 dX2_take_8 rfl (lv_at hl 0 rfl) ?_
  refine lv_aload_n C0.1.1 C0.1.2.1 dX2_take_9 rfl (lv_at hl 2 rfl) ?_
  refine g_put (ci := 4) (v := .ref (d 5)) (T := TX2) (N := 3) (ws' := XD d cyI cyJ cyO eA vr vt sa (d 5) at' fa ra ol fd dc ds va tr ++ va_pl P g) C0.1 Z 2 rfl rfl 1 (by decide) kX2_take_in kX2_take_15 rfl tyX2 tyX2_ok nmX2 rfl rfl rfl (Nat.le_of_ble_eq_true rfl) dX2_take_10 rfl (fun H locs Z => ?_)
  refine lv_aload_n C0.1.1 C0.1.2.1 dX2_take_13 rfl (lv_at hl 0 rfl) ?_
  refine lv_iconst (v := 0) C0.1.1 C0.1.2.1 dX2_take_14 (by decide) ?_
  refine g_put (ci := 4) (v := .int 0) (T := TX2) (N := 3) (ws' := XD d cyI cyJ cyO eA vr vt sa (d 5) 0 fa ra ol fd dc ds va tr ++ va_pl P g) C0.1 Z 2 rfl rfl 2 (by decide) kX2_take_in kX2_take_22 rfl tyX2 tyX2_ok nmX2 rfl rfl rfl (Nat.le_of_ble_eq_true rfl) dX2_take_15 rfl (fun H locs Z => ?_)
  exact W.vret C0.1.1 C0.1.2.1 C0.2.1 (fun t ht hW => ⟨⟨sa, rfl, trivial, hs, g_end Z ht hW⟩, va_S.F Z.2.2.2.1 ht⟩) Z.2.2.2.1.2.2 dX2_take_18 C0.2.2
