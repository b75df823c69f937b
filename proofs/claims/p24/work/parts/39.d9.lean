/-! X3_put -/
abbrev rmX3_put : Room := { frames := 62, cells := 4, slots := 15, locals := 1509 }
def mX3_put (N : Nat) (fd : Int32) (fw : Nat → Int32) (fn : Nat → Nat) (ff : Nat → Nat → Int32) (va : Nat → Int64) (p0 : Int32) (p1 : Int32) : Option (Nat × Int32 × Int32 × (Nat → Int32) × (Nat → Nat) × (Nat → Nat → Int32) × (Nat → Int64)) := ((mX3_requireCell N p0).bind fun x2 => (if x2 = 0 then ((mX3_requireNumber N p1).bind fun x4 => (if x4 = 0 then ((mX3_loneNumber N p1).bind fun x6 => ((mX3_give N x6.1 x6.2.1 x6.2.2 fd fw fn ff va p0).bind fun x14 => some (0, x14.1, x14.2.1, x14.2.2.1, x14.2.2.2.1, x14.2.2.2.2.1, x14.2.2.2.2.2))) else some (x4, 0, fd, fw, fn, ff, va))) else some (x2, 0, fd, fw, fn, ff, va)))
set_option maxRecDepth 20000 in
set_option maxHeartbeats 4000000 in
theorem zX3_put (l : Launch) (hlf : l.stackTraces = false) (D : va_G) (cyI cyJ cyO : ClassId) (A : Nat → Prop) (bs : Nat) (hA : ∀ q, bs ≤ q → A q) (P : List Nat) (g : Nat → va_E) (d : Nat → Nat) (eA : Nat) (ol : Int32) (fd : Int32) (dc : Int32) (ds : Nat → Int32) (fw : Nat → Int32) (fn : Nat → Nat) (ff : Nat → Nat → Int32) (qw : Nat → Int32) (qn : Nat → Nat) (qf : Nat → Nat → Int32) (va : Nat → Int64) (tr : Nat → Int64) (N : Nat) (p0 : Int32) (p1 : Int32) (res : Nat × Int32 × Int32 × (Nat → Int32) × (Nat → Nat) × (Nat → Nat → Int32) × (Nat → Int64)) (h : mX3_put N fd fw fn ff va p0 p1 = some res) : vx_Met l yX3_put wsX3_put rmX3_put (va_Pc [.ref (d 0), .int p0, .int p1] (dP (dW D cyI cyJ cyO A bs P g d eA (d 5) (d 6) ol fd dc ds fw fn ff qw qn qf va tr) A)) (va_Qi (fun (r : Int32) (u : Int32 × (Nat → Int32) × (Nat → Nat) × (Nat → Nat → Int32) × (Nat → Int64)) => res.1 = 0 ∧ res.2.1 = r ∧ res.2.2 = u) (fun (u : Int32 × (Nat → Int32) × (Nat → Nat) × (Nat → Nat → Int32) × (Nat → Int64)) U => ∃ (P1 : List Nat) (g1 : Nat → va_E), exP P g P1 g1 ∧ dW D cyI cyJ cyO A bs P1 g1 d eA (d 5) (d 6) ol u.1 dc ds u.2.1 u.2.2.1 u.2.2.2.1 qw qn qf u.2.2.2.2 tr U) A) (vx_X (S := Int32 × (Nat → Int32) × (Nat → Nat) × (Nat → Nat → Int32) × (Nat → Int64)) (fun _ => True) (fun E u t => res.1 ≠ 0 ∧ E = exN res.1 ∧ res.2.2 = u ∧ ∃ (P1 : List Nat) (g1 : Nat → va_E), exP P g P1 g1 ∧ dW D cyI cyJ cyO A bs P1 g1 d eA (d 5) (d 6) ol u.1 dc ds u.2.1 u.2.2.1 u.2.2.2.1 qw qn qf u.2.2.2.2 tr t) A) 4 15 A := by
  refine vx_ofW (cc := cX3_put) (maxL := 3) (ret := (some .int)) (by decide) rfl ?_
  intro p e s m args below meth c s₁ B hml hxt hv
  obtain ⟨hav, hv⟩ := hv
  obtain ⟨hv, hN, hT⟩ := hv
  have C0 : gC p m meth c cX3_put 3 (some .int) s args wsX3_put RX3 := ⟨⟨B.exec, B.bytes, hml, findClass_of_methodNamed B.named, atoms_spec (ws := wsX3_put) B.pre⟩, B.returns, B.notSynchronized⟩
  have Z := dZ_start hA hv
  have hret : ∀ (P1 : List Nat) (g1 : Nat → va_E) (e1 : exP P g P1 g1) (r : Int32) (fd_r : Int32) (fw_r : Nat → Int32) (fn_r : Nat → Nat) (ff_r : Nat → Nat → Int32) (va_r : Nat → Int64) (H : Heap) (locs : List Loc) (pc : Nat) (ls : Array Slot), some (0, r, fd_r, fw_r, fn_r, ff_r, va_r) = some res → dZ D cyI cyJ cyO A bs P1 g1 d eA (d 5) (d 6) ol fd_r dc ds fw_r fn_r ff_r qw qn qf va_r tr s H locs → decode cX3_put pc = .ok (.ireturn, 1) → W p l e rmX3_put s m args below meth c H locs 4 15 (vx_MQ below (va_Qi (fun (r : Int32) (u : Int32 × (Nat → Int32) × (Nat → Nat) × (Nat → Nat → Int32) × (Nat → Int64)) => res.1 = 0 ∧ res.2.1 = r ∧ res.2.2 = u) (fun (u : Int32 × (Nat → Int32) × (Nat → Nat) × (Nat → Nat → Int32) × (Nat → Int64)) U => ∃ (P1 : List Nat) (g1 : Nat → va_E), exP P g P1 g1 ∧ dW D cyI cyJ cyO A bs P1 g1 d eA (d 5) (d 6) ol u.1 dc ds u.2.1 u.2.2.1 u.2.2.2.1 qw qn qf u.2.2.2.2 tr U) A) (vx_X (S := Int32 × (Nat → Int32) × (Nat → Nat) × (Nat → Nat → Int32) × (Nat → Int64)) (fun _ => True) (fun E u t => res.1 ≠ 0 ∧ E = exN res.1 ∧ res.2.2 = u ∧ ∃ (P1 : List Nat) (g1 : Nat → va_E), exP P g P1 g1 ∧ dW D cyI cyJ cyO A bs P1 g1 d eA (d 5) (d 6) ol u.1 dc ds u.2.1 u.2.2.1 u.2.2.2.1 qw qn qf u.2.2.2.2 tr t) A) args s 4 15 A) (F0 m pc ls [.int r]) := by
    intro P1 g1 e1 r fd_r fw_r fn_r ff_r va_r H locs pc ls h Z hd
    replace h := Option.some.inj h
    subst h
    exact vx_ret (W.iret C0.1.1 C0.1.2.1 C0.2.1 (fun t ht hW => ⟨⟨r, (fd_r, fw_r, fn_r, ff_r, va_r), rfl, ⟨rfl, rfl, rfl⟩, ⟨P1, g1, e1, dZ_end Z ht hW⟩⟩, va_S.F (dZ_S Z) ht⟩) (dZ_S Z).2.2 hd C0.2.2)
  have hxc : ∀ (P1 : List Nat) (g1 : Nat → va_E) (e1 : exP P g P1 g1) (k : Nat) (fd_r : Int32) (fw_r : Nat → Int32) (fn_r : Nat → Nat) (ff_r : Nat → Nat → Int32) (va_r : Nat → Int64) (H : Heap) (locs : List Loc) (t : State), k ≠ 0 → some (k, 0, fd_r, fw_r, fn_r, ff_r, va_r) = some res → dZ D cyI cyJ cyO A bs P1 g1 d eA (d 5) (d 6) ol fd_r dc ds fw_r fn_r ff_r qw qn qf va_r tr s H locs → s.vm.Alike t.vm → H.size ≤ t.heap.size → (∀ q : Nat, q < H.size → t.heap[q]? = H[q]?) → (vx_X (S := Int32 × (Nat → Int32) × (Nat → Nat) × (Nat → Nat → Int32) × (Nat → Int64)) (fun _ => True) (fun E u t => res.1 ≠ 0 ∧ E = exN res.1 ∧ res.2.2 = u ∧ ∃ (P1 : List Nat) (g1 : Nat → va_E), exP P g P1 g1 ∧ dW D cyI cyJ cyO A bs P1 g1 d eA (d 5) (d 6) ol u.1 dc ds u.2.1 u.2.2.1 u.2.2.2.1 qw qn qf u.2.2.2.2 tr t) A) (exN k) s t := by
    intro P1 g1 e1 k fd_r fw_r fn_r ff_r va_r H locs t hk h Z hvm hz hq
    replace h := Option.some.inj h
    subst h
    exact ⟨(fd_r, fw_r, fn_r, ff_r, va_r), trivial, ⟨hk, rfl, rfl, ⟨P1, g1, e1, dW_grow Z hvm hz hq⟩⟩, vaF_grow (dZ_S Z) hz hq⟩
  have hl := lv_entry ([.ref (d 0), .int p0, .int p1]) (n := 3) (Nat.le_of_ble_eq_true rfl)
  rw [hav, lg_entry_eq]
  generalize (lg_sl ([.ref (d 0), .int p0, .int p1]) ++ List.replicate (3 - (lg_sl ([.ref (d 0), .int p0, .int p1])).length) Slot.unset).toArray = ls at hl ⊢
  have hl : lv_has ls 3 [(0, .ref (d 0)), (1, .int p0), (2, .int p1)] := hl
  rw [← hav]
  unfold mX3_put at h
  obtain ⟨rs1, rr1, at1, fa1, ra1, Z, hF1⟩ := Z
  refine lv_iload_n C0.1.1 C0.1.2.1 dX3_put_0 rfl (lv_at hl 1 rfl) ?_
  obtain ⟨x2, hx3, h⟩ := g_bd h
  refine x_xcallv (vx_runS (As := [.int p0]) (rest := []) C0.1 (zX3_requireCell l hlf D cyI cyJ cyO A bs Z.2.2.2.2.2 (XD d cyI cyJ cyO eA (d 5) (d 6) rs1 rr1 at1 fa1 ra1 ol fd dc ds va tr ++ va_pl P g) N p0 x2 hx3) (va_cwS 1 C0.1.2.2.2.2 gX3_put_X3_requireCell rfl rfl rfl (by decide +kernel) ⟨Nat.le_of_ble_eq_true rfl, Nat.le_of_ble_eq_true rfl⟩) ⟨gP_blind, gP_pre Z hN hT _⟩ rfl rfl hl.1 rfl (lv_room (Nat.le_of_ble_eq_true rfl)) dX3_put_1 ⟨Nat.le_of_ble_eq_true rfl, Nat.le_of_ble_eq_true rfl⟩) Z.2.2.2.1 (fun u t H1 locs1 ht hvm hB hS => g_post Z ht hvm hB hS) (fun E ce q9 u t H locs ht hvm _ hB hS h1 h2 h3 => ?_) (fun u H locs hw Z => ?_)
  · obtain ⟨hk, rfl, hB⟩ := hB
    replace h := (if_neg hk).symm.trans h
    exact vx_out (fun x hx => (hxt x hx).elim) C0.2.2 h1 h2 h3 (fun t1 ht1 hvm1 => hxc P g exP_rf x2 fd fw fn ff va _ _ t1 hk h (⟨rs1, rr1, at1, fa1, ra1, g_post Z ht hvm hB hS, hF1⟩) hvm1 (by rw [ht1]; exact Nat.le_refl _) (fun q _ => by rw [ht1])) hS.2.2 (Nat.le_of_ble_eq_true rfl) (Nat.le_of_ble_eq_true rfl)
  replace h := (if_pos hw).symm.trans h
  refine lv_iload_n C0.1.1 C0.1.2.1 dX3_put_4 rfl (lv_at hl 2 rfl) ?_
  obtain ⟨x4, hx5, h⟩ := g_bd h
  refine x_xcallv (vx_runS (As := [.int p1]) (rest := []) C0.1 (zX3_requireNumber l hlf D cyI cyJ cyO A bs Z.2.2.2.2.2 (XD d cyI cyJ cyO eA (d 5) (d 6) rs1 rr1 at1 fa1 ra1 ol fd dc ds va tr ++ va_pl P g) N p1 x4 hx5) (va_cwS 1 C0.1.2.2.2.2 gX3_put_X3_requireNumber rfl rfl rfl (by decide +kernel) ⟨Nat.le_of_ble_eq_true rfl, Nat.le_of_ble_eq_true rfl⟩) ⟨gP_blind, gP_pre Z hN hT _⟩ rfl rfl hl.1 rfl (lv_room (Nat.le_of_ble_eq_true rfl)) dX3_put_5 ⟨Nat.le_of_ble_eq_true rfl, Nat.le_of_ble_eq_true rfl⟩) Z.2.2.2.1 (fun u t H1 locs1 ht hvm hB hS => g_post Z ht hvm hB hS) (fun E ce q9 u t H locs ht hvm _ hB hS h1 h2 h3 => ?_) (fun u H locs hw Z => ?_)
  · obtain ⟨hk, rfl, hB⟩ := hB
    replace h := (if_neg hk).symm.trans h
    exact vx_out (fun x hx => (hxt x hx).elim) C0.2.2 h1 h2 h3 (fun t1 ht1 hvm1 => hxc P g exP_rf x4 fd fw fn ff va _ _ t1 hk h (⟨rs1, rr1, at1, fa1, ra1, g_post Z ht hvm hB hS, hF1⟩) hvm1 (by rw [ht1]; exact Nat.le_refl _) (fun q _ => by rw [ht1])) hS.2.2 (Nat.le_of_ble_eq_true rfl) (Nat.le_of_ble_eq_true rfl)
  replace h := (if_pos hw).symm.trans h
  refine lv_aload_n C0.1.1 C0.1.2.1 dX3_put_8 rfl (lv_at hl 0 rfl) ?_
  refine lv_iload_n C0.1.1 C0.1.2.1 dX3_put_9 rfl (lv_at hl 1 rfl) ?_
  refine lv_iload_n C0.1.1 C0.1.2.1 dX3_put_10 rfl (lv_at hl 2 rfl) ?_
  obtain ⟨x6, hx7, h⟩ := g_bd h
  refine x_callr (va_runS (As := [.int p1]) (rest := [.int p0, .ref (d 0)]) C0.1 (zX3_loneNumber l D cyI cyJ cyO A bs Z.2.2.2.2.2 P g d eA ol fd dc ds fw fn ff qw qn qf va tr N p1 x6 hx7) (va_cwS 1 C0.1.2.2.2.2 gX3_put_X3_loneNumber rfl rfl rfl (by decide +kernel) ⟨Nat.le_of_ble_eq_true rfl, Nat.le_of_ble_eq_true rfl⟩) ⟨dP_blind, dP_pre ⟨rs1, rr1, at1, fa1, ra1, Z, hF1⟩ hN hT _⟩ rfl rfl hl.1 rfl (lv_room (Nat.le_of_ble_eq_true rfl)) dX3_put_11 ⟨Nat.le_of_ble_eq_true rfl, Nat.le_of_ble_eq_true rfl⟩) Z.2.2.2.1 (Zr := fun (_ : Unit) ra H1 locs1 => ∃ (P1 : List Nat) (g1 : Nat → va_E), exP P g P1 g1 ∧ dZ D cyI cyJ cyO A bs P1 g1 d eA (d 5) (d 6) ol fd dc ds fw fn ff qw qn qf va tr s H1 locs1 ∧ isF cyI P1 g1 ra x6.1 x6.2.1 x6.2.2) (fun u ra t H1 locs1 ht hvm hB hS => by obtain ⟨P1, g1, e1, hB, hb⟩ := hB; exact ⟨P1, g1, e1, dW_post Z ht hvm hB hS, hb⟩) (fun u b_11 H locs hw Z => ?_)
  obtain ⟨P8, g9, e10, Z, hb_12⟩ := Z
  obtain ⟨rs13, rr13, at13, fa13, ra13, Z, hF13⟩ := Z
  obtain ⟨x14, hx15, h⟩ := g_bd h
  refine x_calli (va_runV (b := d 0) (C := RX3) (As := [.int p0, .ref b_11]) (rest := []) C0.1 (zX3_give l D cyI cyJ cyO A bs Z.2.2.2.2.2 P8 g9 d eA ol fd dc ds fw fn ff qw qn qf va tr N b_11 x6.1 x6.2.1 x6.2.2 hb_12 p0 x14 hx15) (cwV 2 C0.1.2.2.2.2 gX3_put_X3_give rfl rfl rfl (by decide +kernel) ⟨Nat.le_of_ble_eq_true rfl, Nat.le_of_ble_eq_true rfl⟩) ⟨dP_blind, va_recv Z.2.1 Z.1 (ci := 5) (q0 := 0) rfl rfl, dP_pre ⟨rs13, rr13, at13, fa13, ra13, Z, hF13⟩ hN hT _⟩ rfl rfl hl.1 rfl (lv_room (Nat.le_of_ble_eq_true rfl)) dX3_put_14 ⟨Nat.le_of_ble_eq_true rfl, Nat.le_of_ble_eq_true rfl⟩) Z.2.2.2.1 (fun u t H1 locs1 ht hvm hB hS => dW_post Z ht hvm hB hS) (fun r u H locs hw Z => ?_)
  obtain ⟨rfl, rfl⟩ := hw
  obtain ⟨rs16, rr16, at16, fa16, ra16, Z, hF16⟩ := Z
  exact hret P8 g9 (exP_tr exP_rf e10) x14.1 x14.2.1 x14.2.2.1 x14.2.2.2.1 x14.2.2.2.2.1 x14.2.2.2.2.2 _ _ _ _ h ⟨rs16, rr16, at16, fa16, ra16, Z, hF16⟩ dX3_put_17
/-! X3_set -/
abbrev rmX3_set : Room := { frames := 62, cells := 4, slots := 29, locals := 1509 }
theorem kX3_set_in3 : ∀ w ∈ wsX30, w ∈ wsX3_set := by decide +kernel
theorem kX3_set_f14 : Cond.fieldLink RX3 14 "GoalseekOffice" "draft" "LGoalseekOffice$Draft;" ∈ wsX3_set := by decide +kernel
theorem kX3_set_iniRX0 : Cond.initialized RX0 ∈ wsX3_set := by decide +kernel
theorem kX3_set_insX0_faultPlace : Cond.instanceMethod yX0_faultPlace ∈ wsX3_set := by decide +kernel
theorem kX3_set_selX0_faultPlace : Cond.selects RX0 yX0_faultPlace yX0_faultPlace ∈ wsX3_set := by decide +kernel
theorem kX3_set_insX0_toFormula : Cond.instanceMethod yX0_toFormula ∈ wsX3_set := by decide +kernel
theorem kX3_set_selX0_toFormula : Cond.selects RX0 yX0_toFormula yX0_toFormula ∈ wsX3_set := by decide +kernel
theorem kX3_set_in1 : ∀ w ∈ wsX10, w ∈ wsX3_set := by decide +kernel
theorem kX3_set_in0 : ∀ w ∈ wsX00, w ∈ wsX3_set := by decide +kernel
theorem kX3_set_x93a : Cond.classLink RX3 93 "java/lang/IllegalStateException" ∈ wsX3_set := by decide +kernel
theorem kX3_set_x93b : Cond.initialized "java/lang/IllegalStateException" ∈ wsX3_set := by decide +kernel
theorem kX3_set_x93c : ∀ w ∈ (vx_atS RX3 97 "java/lang/IllegalStateException" ["java/lang/RuntimeException", "java/lang/Exception"]).filter goodWord, w ∈ wsX3_set := by decide +kernel
theorem kX3_set_x62a : Cond.classLink RX3 62 "java/lang/IllegalArgumentException" ∈ wsX3_set := by decide +kernel
theorem kX3_set_x62b : Cond.initialized "java/lang/IllegalArgumentException" ∈ wsX3_set := by decide +kernel
theorem kX3_set_x62c : ∀ w ∈ (vx_atS RX3 66 "java/lang/IllegalArgumentException" ["java/lang/RuntimeException", "java/lang/Exception"]).filter goodWord, w ∈ wsX3_set := by decide +kernel
def mX3_set (N : Nat) (ds : Nat → Int32) (fd : Int32) (dc : Int32) (fw : Nat → Int32) (fn : Nat → Nat) (ff : Nat → Nat → Int32) (va : Nat → Int64) (p0 : Int32) : Option (Nat × Int32 × Int32 × Int32 × (Nat → Int32) × (Nat → Nat) × (Nat → Nat → Int32) × (Nat → Int64)) := ((mX3_requireCell N p0).bind fun x2 => (if x2 = 0 then ((mX0_faultPlace N dc ds).bind fun x4 => (if x4 = (-1 : Int32) then ((mX0_toFormula N dc ds).bind fun x7 => ((mX3_withDependencies N fw fn ff x7.1).bind fun x15 => ((mX3_holds N x15 p0).bind fun x18 => (if x18 = 0 then ((mX3_give N x7.1 x7.2.1 x7.2.2 fd fw fn ff va p0).bind fun x20 => some (0, x20.1, x20.2.1, (0 : Int32), x20.2.2.1, x20.2.2.2.1, x20.2.2.2.2.1, x20.2.2.2.2.2)) else some (3, 0, fd, dc, fw, fn, ff, va))))) else some (2, 0, fd, dc, fw, fn, ff, va))) else some (x2, 0, fd, dc, fw, fn, ff, va)))
set_option maxRecDepth 20000 in
set_option maxHeartbeats 4000000 in
theorem zX3_set (l : Launch) (hlf : l.stackTraces = false) (D : va_G) (cyI cyJ cyO : ClassId) (A : Nat → Prop) (bs : Nat) (hA : ∀ q, bs ≤ q → A q) (P : List Nat) (g : Nat → va_E) (d : Nat → Nat) (eA : Nat) (ol : Int32) (fd : Int32) (dc : Int32) (ds : Nat → Int32) (fw : Nat → Int32) (fn : Nat → Nat) (ff : Nat → Nat → Int32) (qw : Nat → Int32) (qn : Nat → Nat) (qf : Nat → Nat → Int32) (va : Nat → Int64) (tr : Nat → Int64) (N : Nat) (p0 : Int32) (res : Nat × Int32 × Int32 × Int32 × (Nat → Int32) × (Nat → Nat) × (Nat → Nat → Int32) × (Nat → Int64)) (h : mX3_set N ds fd dc fw fn ff va p0 = some res) : vx_Met l yX3_set wsX3_set rmX3_set (va_Pc [.ref (d 0), .int p0] (dP (dW D cyI cyJ cyO A bs P g d eA (d 5) (d 6) ol fd dc ds fw fn ff qw qn qf va tr) A)) (va_Qi (fun (r : Int32) (u : Int32 × Int32 × (Nat → Int32) × (Nat → Nat) × (Nat → Nat → Int32) × (Nat → Int64)) => res.1 = 0 ∧ res.2.1 = r ∧ res.2.2 = u) (fun (u : Int32 × Int32 × (Nat → Int32) × (Nat → Nat) × (Nat → Nat → Int32) × (Nat → Int64)) U => ∃ (P1 : List Nat) (g1 : Nat → va_E), exP P g P1 g1 ∧ dW D cyI cyJ cyO A bs P1 g1 d eA (d 5) (d 6) ol u.1 u.2.1 ds u.2.2.1 u.2.2.2.1 u.2.2.2.2.1 qw qn qf u.2.2.2.2.2 tr U) A) (vx_X (S := Int32 × Int32 × (Nat → Int32) × (Nat → Nat) × (Nat → Nat → Int32) × (Nat → Int64)) (fun _ => True) (fun E u t => res.1 ≠ 0 ∧ E = exN res.1 ∧ res.2.2 = u ∧ ∃ (P1 : List Nat) (g1 : Nat → va_E), exP P g P1 g1 ∧ dW D cyI cyJ cyO A bs P1 g1 d eA (d 5) (d 6) ol u.1 u.2.1 ds u.2.2.1 u.2.2.2.1 u.2.2.2.2.1 qw qn qf u.2.2.2.2.2 tr t) A) 4 29 A := by
  refine vx_ofW (cc := cX3_set) (maxL := 3) (ret := (some .int)) (by decide) rfl ?_
  intro p e s m args below meth c s₁ B hml hxt hv
  obtain ⟨hav, hv⟩ := hv
  obtain ⟨hv, hN, hT⟩ := hv
  have C0 : gC p m meth c cX3_set 3 (some .int) s args wsX3_set RX3 := ⟨⟨B.exec, B.bytes, hml, findClass_of_methodNamed B.named, atoms_spec (ws := wsX3_set) B.pre⟩, B.returns, B.notSynchronized⟩
  have Z := dZ_start hA hv
  have hret : ∀ (P1 : List Nat) (g1 : Nat → va_E) (e1 : exP P g P1 g1) (r : Int32) (fd_r : Int32) (dc_r : Int32) (fw_r : Nat → Int32) (fn_r : Nat → Nat) (ff_r : Nat → Nat → Int32) (va_r : Nat → Int64) (H : Heap) (locs : List Loc) (pc : Nat) (ls : Array Slot), some (0, r, fd_r, dc_r, fw_r, fn_r, ff_r, va_r) = some res → dZ D cyI cyJ cyO A bs P1 g1 d eA (d 5) (d 6) ol fd_r dc_r ds fw_r fn_r ff_r qw qn qf va_r tr s H locs → decode cX3_set pc = .ok (.ireturn, 1) → W p l e rmX3_set s m args below meth c H locs 4 29 (vx_MQ below (va_Qi (fun (r : Int32) (u : Int32 × Int32 × (Nat → Int32) × (Nat → Nat) × (Nat → Nat → Int32) × (Nat → Int64)) => res.1 = 0 ∧ res.2.1 = r ∧ res.2.2 = u) (fun (u : Int32 × Int32 × (Nat → Int32) × (Nat → Nat) × (Nat → Nat → Int32) × (Nat → Int64)) U => ∃ (P1 : List Nat) (g1 : Nat → va_E), exP P g P1 g1 ∧ dW D cyI cyJ cyO A bs P1 g1 d eA (d 5) (d 6) ol u.1 u.2.1 ds u.2.2.1 u.2.2.2.1 u.2.2.2.2.1 qw qn qf u.2.2.2.2.2 tr U) A) (vx_X (S := Int32 × Int32 × (Nat → Int32) × (Nat → Nat) × (Nat → Nat → Int32) × (Nat → Int64)) (fun _ => True) (fun E u t => res.1 ≠ 0 ∧ E = exN res.1 ∧ res.2.2 = u ∧ ∃ (P1 : List Nat) (g1 : Nat → va_E), exP P g P1 g1 ∧ dW D cyI cyJ cyO A bs P1 g1 d eA (d 5) (d 6) ol u.1 u.2.1 ds u.2.2.1 u.2.2.2.1 u.2.2.2.2.1 qw qn qf u.2.2.2.2.2 tr t) A) args s 4 29 A) (F0 m pc ls [.int r]) := by
    intro P1 g1 e1 r fd_r dc_r fw_r fn_r ff_r va_r H locs pc ls h Z hd
    replace h := Option.some.inj h
    subst h
    exact vx_ret (W.iret C0.1.1 C0.1.2.1 C0.2.1 (fun t ht hW => ⟨⟨r, (fd_r, dc_r, fw_r, fn_r, ff_r, va_r), rfl, ⟨rfl, rfl, rfl⟩, ⟨P1, g1, e1, dZ_end Z ht hW⟩⟩, va_S.F (dZ_S Z) ht⟩) (dZ_S Z).2.2 hd C0.2.2)
  have hxc : ∀ (P1 : List Nat) (g1 : Nat → va_E) (e1 : exP P g P1 g1) (k : Nat) (fd_r : Int32) (dc_r : Int32) (fw_r : Nat → Int32) (fn_r : Nat → Nat) (ff_r : Nat → Nat → Int32) (va_r : Nat → Int64) (H : Heap) (locs : List Loc) (t : State), k ≠ 0 → some (k, 0, fd_r, dc_r, fw_r, fn_r, ff_r, va_r) = some res → dZ D cyI cyJ cyO A bs P1 g1 d eA (d 5) (d 6) ol fd_r dc_r ds fw_r fn_r ff_r qw qn qf va_r tr s H locs → s.vm.Alike t.vm → H.size ≤ t.heap.size → (∀ q : Nat, q < H.size → t.heap[q]? = H[q]?) → (vx_X (S := Int32 × Int32 × (Nat → Int32) × (Nat → Nat) × (Nat → Nat → Int32) × (Nat → Int64)) (fun _ => True) (fun E u t => res.1 ≠ 0 ∧ E = exN res.1 ∧ res.2.2 = u ∧ ∃ (P1 : List Nat) (g1 : Nat → va_E), exP P g P1 g1 ∧ dW D cyI cyJ cyO A bs P1 g1 d eA (d 5) (d 6) ol u.1 u.2.1 ds u.2.2.1 u.2.2.2.1 u.2.2.2.2.1 qw qn qf u.2.2.2.2.2 tr t) A) (exN k) s t := by
    intro P1 g1 e1 k fd_r dc_r fw_r fn_r ff_r va_r H locs t hk h Z hvm hz hq
    replace h := Option.some.inj h
    subst h
    exact ⟨(fd_r, dc_r, fw_r, fn_r, ff_r, va_r), trivial, ⟨hk, rfl, rfl, ⟨P1, g1, e1, dW_grow Z hvm hz hq⟩⟩, vaF_grow (dZ_S Z) hz hq⟩
  have hl := lv_entry ([.ref (d 0), .int p0]) (n := 3) (Nat.le_of_ble_eq_true rfl)
  rw [hav, lg_entry_eq]
  generalize (lg_sl ([.ref (d 0), .int p0]) ++ List.replicate (3 - (lg_sl ([.ref (d 0), .int p0])).length) Slot.unset).toArray = ls at hl ⊢
  have hl : lv_has ls 3 [(0, .ref (d 0)), (1, .int p0)] := hl
  rw [← hav]
  unfold mX3_set at h
  obtain ⟨rs1, rr1, at1, fa1, ra1, Z, hF1⟩ := Z
  refine lv_iload_n C0.1.1 C0.1.2.1 dX3_set_0 rfl (lv_at hl 1 rfl) ?_
  obtain ⟨x2, hx3, h⟩ := g_bd h
  refine x_xcallv (vx_runS (As := [.int p0]) (rest := []) C0.1 (zX3_requireCell l hlf D cyI cyJ cyO A bs Z.2.2.2.2.2 (XD d cyI cyJ cyO eA (d 5) (d 6) rs1 rr1 at1 fa1 ra1 ol fd dc ds va tr ++ va_pl P g) N p0 x2 hx3) (va_cwS 1 C0.1.2.2.2.2 gX3_set_X3_requireCell rfl rfl rfl (by decide +kernel) ⟨Nat.le_of_ble_eq_true rfl, Nat.le_of_ble_eq_true rfl⟩) ⟨gP_blind, gP_pre Z hN hT _⟩ rfl rfl hl.1 rfl (lv_room (Nat.le_of_ble_eq_true rfl)) dX3_set_1 ⟨Nat.le_of_ble_eq_true rfl, Nat.le_of_ble_eq_true rfl⟩) Z.2.2.2.1 (fun u t H1 locs1 ht hvm hB hS => g_post Z ht hvm hB hS) (fun E ce q9 u t H locs ht hvm _ hB hS h1 h2 h3 => ?_) (fun u H locs hw Z => ?_)
  · obtain ⟨hk, rfl, hB⟩ := hB
    replace h := (if_neg hk).symm.trans h
    exact vx_out (fun x hx => (hxt x hx).elim) C0.2.2 h1 h2 h3 (fun t1 ht1 hvm1 => hxc P g exP_rf x2 fd dc fw fn ff va _ _ t1 hk h (⟨rs1, rr1, at1, fa1, ra1, g_post Z ht hvm hB hS, hF1⟩) hvm1 (by rw [ht1]; exact Nat.le_refl _) (fun q _ => by rw [ht1])) hS.2.2 (Nat.le_of_ble_eq_true rfl) (Nat.le_of_ble_eq_true rfl)
  replace h := (if_pos hw).symm.trans h
  refine lv_aload_n C0.1.1 C0.1.2.1 dX3_set_4 rfl (lv_at hl 0 rfl) ?_
  refine g_get (ci := 5) (v := .ref (d 1)) (T := TX3) (N := 9) C0.1 Z 0 rfl rfl 0 (by decide) kX3_set_in3 kX3_set_f14 rfl rfl dX3_set_5 ?_
  obtain ⟨x4, hx5, h⟩ := g_bd h
  refine x_calli (va_runVN (b := d 1) (C := RX0) (As := []) (rest := []) C0.1 (zX0_faultPlace l D cyI cyJ cyO A bs Z.2.2.2.2.2 P g d eA ol fd dc ds fw fn ff qw qn qf va tr N x4 hx5) ⟨va_cnB 0 C0.1.2.2.2.2 gX3_set_X0_faultPlace_n73 rfl rfl rfl (hN.1 _ (List.mem_of_getElem? (i := 9) rfl)) (C0.1.2.2.2.2 _ kX3_set_iniRX0) (by decide +kernel) ⟨Nat.le_of_ble_eq_true rfl, Nat.le_of_ble_eq_true rfl⟩, C0.1.2.2.2.2 _ kX3_set_insX0_faultPlace, C0.1.2.2.2.2 _ kX3_set_selX0_faultPlace⟩ ⟨dP_blind, va_recv Z.2.1 Z.1 (ci := 2) (q0 := 1) rfl rfl, dP_pre ⟨rs1, rr1, at1, fa1, ra1, Z, hF1⟩ hN hT _⟩ rfl rfl hl.1 rfl (lv_room (Nat.le_of_ble_eq_true rfl)) dX3_set_8 ⟨Nat.le_of_ble_eq_true rfl, Nat.le_of_ble_eq_true rfl⟩) Z.2.2.2.1 (fun u t H1 locs1 ht hvm hB hS => dW_post Z ht hvm hB hS) (fun r u H locs hw Z => ?_)
  subst hw
  obtain ⟨rs6, rr6, at6, fa6, ra6, Z, hF6⟩ := Z
  refine lv_iconst (v := -1) C0.1.1 C0.1.2.1 dX3_set_11 (by decide) ?_
  refine lv_icmp_eq (tgt := 25) C0.1.1 C0.1.2.1 dX3_set_12 (by decide) (fun hc => ?_) (fun hc => ?_)
  · replace h := (if_pos hc).symm.trans h
    refine lv_aload_n C0.1.1 C0.1.2.1 dX3_set_25 rfl (lv_at hl 0 rfl) ?_
    refine g_get (ci := 5) (v := .ref (d 1)) (T := TX3) (N := 9) C0.1 Z 0 rfl rfl 0 (by decide) kX3_set_in3 kX3_set_f14 rfl rfl dX3_set_26 ?_
    obtain ⟨x7, hx8, h⟩ := g_bd h
    refine x_callr (va_runVN (b := d 1) (C := RX0) (As := []) (rest := []) C0.1 (zX0_toFormula l D cyI cyJ cyO A bs Z.2.2.2.2.2 P g d eA ol fd dc ds fw fn ff qw qn qf va tr N x7 hx8) ⟨va_cnB 0 C0.1.2.2.2.2 gX3_set_X0_toFormula_n79 rfl rfl rfl (hN.1 _ (List.mem_of_getElem? (i := 10) rfl)) (C0.1.2.2.2.2 _ kX3_set_iniRX0) (by decide +kernel) ⟨Nat.le_of_ble_eq_true rfl, Nat.le_of_ble_eq_true rfl⟩, C0.1.2.2.2.2 _ kX3_set_insX0_toFormula, C0.1.2.2.2.2 _ kX3_set_selX0_toFormula⟩ ⟨dP_blind, va_recv Z.2.1 Z.1 (ci := 2) (q0 := 1) rfl rfl, dP_pre ⟨rs6, rr6, at6, fa6, ra6, Z, hF6⟩ hN hT _⟩ rfl rfl hl.1 rfl (lv_room (Nat.le_of_ble_eq_true rfl)) dX3_set_29 ⟨Nat.le_of_ble_eq_true rfl, Nat.le_of_ble_eq_true rfl⟩) Z.2.2.2.1 (Zr := fun (_ : Unit) ra H1 locs1 => ∃ (P1 : List Nat) (g1 : Nat → va_E), exP P g P1 g1 ∧ dZ D cyI cyJ cyO A bs P1 g1 d eA (d 5) (d 6) ol fd dc ds fw fn ff qw qn qf va tr s H1 locs1 ∧ isF cyI P1 g1 ra x7.1 x7.2.1 x7.2.2) (fun u ra t H1 locs1 ht hvm hB hS => by obtain ⟨P1, g1, e1, hB, hb⟩ := hB; exact ⟨P1, g1, e1, dW_post Z ht hvm hB hS, hb⟩) (fun u b_12 H locs hw Z => ?_)
    obtain ⟨P9, g10, e11, Z, hb_13⟩ := Z
    obtain ⟨rs14, rr14, at14, fa14, ra14, Z, hF14⟩ := Z
    refine lv_astore_n (lv' := [(2, .ref b_12), (0, .ref (d 0)), (1, .int p0)]) C0.1.1 C0.1.2.1 dX3_set_32 rfl hl (by decide) rfl (fun ls hl => ?_)
    refine lv_aload_n C0.1.1 C0.1.2.1 dX3_set_33 rfl (lv_at hl 1 rfl) ?_
    refine lv_aload_n C0.1.1 C0.1.2.1 dX3_set_34 rfl (lv_at hl 0 rfl) ?_
    refine d_named (host := RX3) C0.1 Z hb_13 kX3_set_in1 (hN.1 _ (List.mem_of_getElem? (i := 15) rfl)) dX3_set_35 ?_
    obtain ⟨x15, hx16, h⟩ := g_bd h
    refine x_calli (va_runV (b := d 0) (C := RX3) (As := [.int x7.1]) (rest := []) C0.1 (zX3_withDependencies l D cyI cyJ cyO A bs Z.2.2.2.2.2 P9 g10 d eA ol fd dc ds fw fn ff qw qn qf va tr N x7.1 x15 hx16) (cwV 1 C0.1.2.2.2.2 gX3_set_X3_withDependencies rfl rfl rfl (by decide +kernel) ⟨Nat.le_of_ble_eq_true rfl, Nat.le_of_ble_eq_true rfl⟩) ⟨dP_blind, va_recv Z.2.1 Z.1 (ci := 5) (q0 := 0) rfl rfl, dP_pre ⟨rs14, rr14, at14, fa14, ra14, Z, hF14⟩ hN hT _⟩ rfl rfl hl.1 rfl (lv_room (Nat.le_of_ble_eq_true rfl)) dX3_set_38 ⟨Nat.le_of_ble_eq_true rfl, Nat.le_of_ble_eq_true rfl⟩) Z.2.2.2.1 (fun u t H1 locs1 ht hvm hB hS => dW_post Z ht hvm hB hS) (fun r u H locs hw Z => ?_)
    subst hw
    obtain ⟨rs17, rr17, at17, fa17, ra17, Z, hF17⟩ := Z
    refine lv_iload_n C0.1.1 C0.1.2.1 dX3_set_41 rfl (lv_at hl 2 rfl) ?_
    obtain ⟨x18, hx19, h⟩ := g_bd h
    refine x_calli (va_runS (As := [.int x15, .int p0]) (rest := []) C0.1 (zX3_holds l D cyI cyJ cyO A bs Z.2.2.2.2.2 (XD d cyI cyJ cyO eA (d 5) (d 6) rs17 rr17 at17 fa17 ra17 ol fd dc ds va tr ++ va_pl P9 g10) N x15 p0 x18 hx19) (va_cwS 2 C0.1.2.2.2.2 gX3_set_X3_holds rfl rfl rfl (by decide +kernel) ⟨Nat.le_of_ble_eq_true rfl, Nat.le_of_ble_eq_true rfl⟩) ⟨g_blind, g_pre Z _⟩ rfl rfl hl.1 rfl (lv_room (Nat.le_of_ble_eq_true rfl)) dX3_set_42 ⟨Nat.le_of_ble_eq_true rfl, Nat.le_of_ble_eq_true rfl⟩) Z.2.2.2.1 (fun u t H1 locs1 ht hvm hB hS => g_post Z ht hvm hB hS) (fun r u H locs hw Z => ?_)
    subst hw
    refine lv_if_eq (tgt := 58) C0.1.1 C0.1.2.1 dX3_set_45 (by decide) (fun hc => ?_) (fun hc => ?_)
    · replace h := (if_pos hc).symm.trans h
      refine lv_aload_n C0.1.1 C0.1.2.1 dX3_set_58 rfl (lv_at hl 1 rfl) ?_
      refine g_get (ci := 5) (v := .ref (d 1)) (T := TX3) (N := 9) C0.1 Z 0 rfl rfl 0 (by decide) kX3_set_in3 kX3_set_f14 rfl rfl dX3_set_59 ?_
      refine lv_iconst (v := 0) C0.1.1 C0.1.2.1 dX3_set_62 (by decide) ?_
      refine g_putN (ci := 2) (v := .int (0 : Int32)) (T := TX0) (N := 2) (host := RX3) (ws' := (XD d cyI cyJ cyO eA (d 5) (d 6) rs17 rr17 at17 fa17 ra17 ol fd (0 : Int32) ds va tr ++ va_pl P9 g10)) C0.1 Z 1 rfl rfl 1 (by decide) kX3_set_in0 (hN.1 _ (List.mem_of_getElem? (i := 14) rfl)) rfl tyX0 tyX0_ok nmX0 rfl rfl rfl (Nat.le_of_ble_eq_true rfl) dX3_set_63 rfl (fun H locs Z => ?_)
      refine lv_aload_n C0.1.1 C0.1.2.1 dX3_set_66 rfl (lv_at hl 1 rfl) ?_
      refine lv_iload_n C0.1.1 C0.1.2.1 dX3_set_67 rfl (lv_at hl 2 rfl) ?_
      refine lv_aload_n C0.1.1 C0.1.2.1 dX3_set_68 rfl (lv_at hl 0 rfl) ?_
      obtain ⟨x20, hx21, h⟩ := g_bd h
      refine x_calli (va_runV (b := d 0) (C := RX3) (As := [.int p0, .ref b_12]) (rest := []) C0.1 (zX3_give l D cyI cyJ cyO A bs Z.2.2.2.2.2 P9 g10 d eA ol fd (0 : Int32) ds fw fn ff qw qn qf va tr N b_12 x7.1 x7.2.1 x7.2.2 hb_13 p0 x20 hx21) (cwV 2 C0.1.2.2.2.2 gX3_set_X3_give rfl rfl rfl (by decide +kernel) ⟨Nat.le_of_ble_eq_true rfl, Nat.le_of_ble_eq_true rfl⟩) ⟨dP_blind, va_recv Z.2.1 Z.1 (ci := 5) (q0 := 0) rfl rfl, dP_pre ⟨rs17, rr17, at17, fa17, ra17, Z, hF17⟩ hN hT _⟩ rfl rfl hl.1 rfl (lv_room (Nat.le_of_ble_eq_true rfl)) dX3_set_69 ⟨Nat.le_of_ble_eq_true rfl, Nat.le_of_ble_eq_true rfl⟩) Z.2.2.2.1 (fun u t H1 locs1 ht hvm hB hS => dW_post Z ht hvm hB hS) (fun r u H locs hw Z => ?_)
      obtain ⟨rfl, rfl⟩ := hw
      obtain ⟨rs22, rr22, at22, fa22, ra22, Z, hF22⟩ := Z
      refine W.widen (k := 4) (n := 29) (Nat.le_of_ble_eq_true rfl) (Nat.le_of_ble_eq_true rfl) ?_
      exact hret P9 g10 (exP_tr exP_rf e11) x20.1 x20.2.1 (0 : Int32) x20.2.2.1 x20.2.2.2.1 x20.2.2.2.2.1 x20.2.2.2.2.2 _ _ _ _ h ⟨rs22, rr22, at22, fa22, ra22, Z, hF22⟩ dX3_set_72
    · replace h := (if_neg hc).symm.trans h
      exact x_throw (text := "a cell would depend on itself") xOk_3 C0 hxt hlf hN hT Z.2.2.2.1 (List.mem_of_getElem? (i := 13) rfl) kX3_set_x93a kX3_set_x93b kX3_set_x93c hl.1 dX3_set_48 dX3_set_51 dX3_set_52 dX3_set_54 dX3_set_57 ⟨Nat.le_of_ble_eq_true rfl, Nat.le_of_ble_eq_true rfl, Nat.le_of_ble_eq_true rfl, Nat.le_of_ble_eq_true rfl⟩ (Nat.le_of_ble_eq_true rfl) (Nat.le_of_ble_eq_true rfl) (fun t hvm hz hq => hxc P9 g10 (exP_tr exP_rf e11) 3 fd dc fw fn ff va _ _ t (by decide) h ⟨rs17, rr17, at17, fa17, ra17, Z, hF17⟩ hvm hz hq)
  · replace h := (if_neg hc).symm.trans h
    exact x_throw (text := "the draft is no formula") xOk_2 C0 hxt hlf hN hT Z.2.2.2.1 (List.mem_of_getElem? (i := 12) rfl) kX3_set_x62a kX3_set_x62b kX3_set_x62c hl.1 dX3_set_15 dX3_set_18 dX3_set_19 dX3_set_21 dX3_set_24 ⟨Nat.le_of_ble_eq_true rfl, Nat.le_of_ble_eq_true rfl, Nat.le_of_ble_eq_true rfl, Nat.le_of_ble_eq_true rfl⟩ (Nat.le_of_ble_eq_true rfl) (Nat.le_of_ble_eq_true rfl) (fun t hvm hz hq => hxc P g exP_rf 2 fd dc fw fn ff va _ _ t (by decide) h ⟨rs6, rr6, at6, fa6, ra6, Z, hF6⟩ hvm hz hq)
/-! X3_seek -/
abbrev rmX3_seek : Room := { frames := 62, cells := 4, slots := 18, locals := 1524 }
theorem kX3_seek_x62a : Cond.classLink RX3 62 "java/lang/IllegalArgumentException" ∈ wsX3_seek := by decide +kernel
theorem kX3_seek_x62b : Cond.initialized "java/lang/IllegalArgumentException" ∈ wsX3_seek := by decide +kernel
theorem kX3_seek_x62c : ∀ w ∈ (vx_atS RX3 66 "java/lang/IllegalArgumentException" ["java/lang/RuntimeException", "java/lang/Exception"]).filter goodWord, w ∈ wsX3_seek := by decide +kernel
theorem kX3_seek_c156 : Cond.constant RX3 156 (-1000000000) ∈ wsX3_seek := by decide +kernel
theorem kX3_seek_c157 : Cond.constant RX3 157 (1000000000) ∈ wsX3_seek := by decide +kernel
theorem kX3_seek_c160 : Cond.constant RX3 160 (999999) ∈ wsX3_seek := by decide +kernel
theorem kX3_seek_in3 : ∀ w ∈ wsX30, w ∈ wsX3_seek := by decide +kernel
theorem kX3_seek_f34 : Cond.fieldLink RX3 34 "GoalseekOffice" "formulas" "[LGoalseekOffice$Formula;" ∈ wsX3_seek := by decide +kernel
theorem kX3_seek_iniRX1 : Cond.initialized RX1 ∈ wsX3_seek := by decide +kernel
theorem kX3_seek_insX1_canBeInput : Cond.instanceMethod yX1_canBeInput ∈ wsX3_seek := by decide +kernel
theorem kX3_seek_selX1_canBeInput : Cond.selects RX1 yX1_canBeInput yX1_canBeInput ∈ wsX3_seek := by decide +kernel
theorem kX3_seek_x174a : Cond.classLink RX3 174 "java/util/NoSuchElementException" ∈ wsX3_seek := by decide +kernel
theorem kX3_seek_x174b : Cond.initialized "java/util/NoSuchElementException" ∈ wsX3_seek := by decide +kernel
theorem kX3_seek_x174c : ∀ w ∈ (nsAt).filter goodWord, w ∈ wsX3_seek := by decide +kernel
theorem kX3_seek_x93a : Cond.classLink RX3 93 "java/lang/IllegalStateException" ∈ wsX3_seek := by decide +kernel
theorem kX3_seek_x93b : Cond.initialized "java/lang/IllegalStateException" ∈ wsX3_seek := by decide +kernel
theorem kX3_seek_x93c : ∀ w ∈ (vx_atS RX3 97 "java/lang/IllegalStateException" ["java/lang/RuntimeException", "java/lang/Exception"]).filter goodWord, w ∈ wsX3_seek := by decide +kernel
def mX3_seek_49 (N : Nat) (fd : Int32) (fw : Nat → Int32) (fn : Nat → Nat) (ff : Nat → Nat → Int32) (va : Nat → Int64) (tr : Nat → Int64) : Option (Nat × Int32 × Int32 × (Nat → Int32) × (Nat → Nat) × (Nat → Nat → Int32) × (Nat → Int64) × (Nat → Int64)) := some (2, 0, fd, fw, fn, ff, va, tr)
def mX3_seek_20 (N : Nat) (fd : Int32) (fw : Nat → Int32) (fn : Nat → Nat) (ff : Nat → Nat → Int32) (va : Nat → Int64) (tr : Nat → Int64) : Option (Nat × Int32 × Int32 × (Nat → Int32) × (Nat → Nat) × (Nat → Nat → Int32) × (Nat → Int64) × (Nat → Int64)) := some (2, 0, fd, fw, fn, ff, va, tr)
def mX3_seek (N : Nat) (fd : Int32) (fw : Nat → Int32) (fn : Nat → Nat) (ff : Nat → Nat → Int32) (va : Nat → Int64) (tr : Nat → Int64) (p0 : Int32) (p1 : Int32) (p2 : Int32) (p3 : Int32) (p4 : Int32) : Option (Nat × Int32 × Int32 × (Nat → Int32) × (Nat → Nat) × (Nat → Nat → Int32) × (Nat → Int64) × (Nat → Int64)) := ((mX3_requireCell N p0).bind fun x4 => (if x4 = 0 then ((mX3_requireCell N p2).bind fun x6 => (if x6 = 0 then (if p1 < (-1000000000 : Int32) then mX3_seek_20 N fd fw fn ff va tr else (if p1 ≤ (1000000000 : Int32) then (if p3 < 0 then mX3_seek_49 N fd fw fn ff va tr else (if p4 < p3 then mX3_seek_49 N fd fw fn ff va tr else (if p4 ≤ (999999 : Int32) then (if p2 < 0 ∨ 30 ≤ p2.toNatClampNeg then none else ((mX1_canBeInput N (fw p2.toNatClampNeg) (fn p2.toNatClampNeg) (ff p2.toNatClampNeg)).bind fun x10 => (if x10 = 0 then some (3, 0, fd, fw, fn, ff, va, tr) else ((mX3_dependsOn N fw fn ff p0 p2).bind fun x16 => (if x16 = 0 then some (3, 0, fd, fw, fn, ff, va, tr) else ((mX3_search N fw fn ff va tr p0 p1 p2 p3 p4).bind fun x19 => (if x19.1 = (-1 : Int32) then some (5, 0, fd, fw, fn, ff, va, x19.2) else ((mX3_loneNumber N x19.1).bind fun x22 => ((mX3_give N x22.1 x22.2.1 x22.2.2 fd fw fn ff va p2).bind fun x30 => some (0, x19.1, x30.2.1, x30.2.2.1, x30.2.2.2.1, x30.2.2.2.2.1, x30.2.2.2.2.2, x19.2)))))))))) else mX3_seek_49 N fd fw fn ff va tr))) else mX3_seek_20 N fd fw fn ff va tr)) else some (x6, 0, fd, fw, fn, ff, va, tr))) else some (x4, 0, fd, fw, fn, ff, va, tr)))
set_option maxRecDepth 20000 in
set_option maxHeartbeats 4000000 in
theorem wX3_seek_49 {p : Program} {l : Launch} {e : Env} {s : State} {m : MethodId} {args : Array Value} {below : List Frame} {meth : Method} {c : Code} {D : va_G} {cyI cyJ cyO : ClassId} {A : Nat → Prop} {bs : Nat} {P : List Nat} {g : Nat → va_E} {d : Nat → Nat} {eA : Nat} {Qc : Array Value → State → Outcome → State → Prop} {XC : String → State → State → Prop} {ol : Int32} {dc : Int32} {ds : Nat → Int32} {qw : Nat → Int32} {qn : Nat → Nat} {qf : Nat → Nat → Int32} {N : Nat} {res : Nat × Int32 × Int32 × (Nat → Int32) × (Nat → Nat) × (Nat → Nat → Int32) × (Nat → Int64) × (Nat → Int64)} (C0 : gC p m meth c cX3_seek 7 (some .int) s args wsX3_seek RX3) (hN : dN s) (hT : dT A s) (hxt : ∀ x ∈ c.exceptionTable.toList, False) (hlf : l.stackTraces = false) (hret : ∀ (P1 : List Nat) (g1 : Nat → va_E) (e1 : exP P g P1 g1) (r : Int32) (fd_r : Int32) (fw_r : Nat → Int32) (fn_r : Nat → Nat) (ff_r : Nat → Nat → Int32) (va_r : Nat → Int64) (tr_r : Nat → Int64) (H : Heap) (locs : List Loc) (pc : Nat) (ls : Array Slot), some (0, r, fd_r, fw_r, fn_r, ff_r, va_r, tr_r) = some res → dZ D cyI cyJ cyO A bs P1 g1 d eA (d 5) (d 6) ol fd_r dc ds fw_r fn_r ff_r qw qn qf va_r tr_r s H locs → decode cX3_seek pc = .ok (.ireturn, 1) → W p l e rmX3_seek s m args below meth c H locs 4 18 (vx_MQ below Qc XC args s 4 18 A) (F0 m pc ls [.int r])) (hxc : ∀ (P1 : List Nat) (g1 : Nat → va_E) (e1 : exP P g P1 g1) (k : Nat) (fd_r : Int32) (fw_r : Nat → Int32) (fn_r : Nat → Nat) (ff_r : Nat → Nat → Int32) (va_r : Nat → Int64) (tr_r : Nat → Int64) (H : Heap) (locs : List Loc) (t : State), k ≠ 0 → some (k, 0, fd_r, fw_r, fn_r, ff_r, va_r, tr_r) = some res → dZ D cyI cyJ cyO A bs P1 g1 d eA (d 5) (d 6) ol fd_r dc ds fw_r fn_r ff_r qw qn qf va_r tr_r s H locs → s.vm.Alike t.vm → H.size ≤ t.heap.size → (∀ q : Nat, q < H.size → t.heap[q]? = H[q]?) → XC (exN k) s t)  : ∀ (fd : Int32) (fw : Nat → Int32) (fn : Nat → Nat) (ff : Nat → Nat → Int32) (va : Nat → Int64) (tr : Nat → Int64) (H : Heap) (locs : List Loc) (ls : Array Slot), mX3_seek_49 N fd fw fn ff va tr = some res → dZ D cyI cyJ cyO A bs P g d eA (d 5) (d 6) ol fd dc ds fw fn ff qw qn qf va tr s H locs → lv_has ls 7 [] → W p l e rmX3_seek s m args below meth c H locs 2 12 (vx_MQ below Qc XC args s 4 18 A) (F0 m 49 ls []) := by
  intro fd fw fn ff va tr H locs ls h Z hl
  unfold mX3_seek_49 at h
  obtain ⟨rs1, rr1, at1, fa1, ra1, Z, hF1⟩ := Z
  exact x_throw (text := "low or high is out of range") xOk_2 C0 hxt hlf hN hT Z.2.2.2.1 (List.mem_of_getElem? (i := 2) rfl) kX3_seek_x62a kX3_seek_x62b kX3_seek_x62c hl.1 dX3_seek_49 dX3_seek_52 dX3_seek_53 dX3_seek_55 dX3_seek_58 ⟨Nat.le_of_ble_eq_true rfl, Nat.le_of_ble_eq_true rfl, Nat.le_of_ble_eq_true rfl, Nat.le_of_ble_eq_true rfl⟩ (Nat.le_of_ble_eq_true rfl) (Nat.le_of_ble_eq_true rfl) (fun t hvm hz hq => hxc P g exP_rf 2 fd fw fn ff va tr _ _ t (by decide) h ⟨rs1, rr1, at1, fa1, ra1, Z, hF1⟩ hvm hz hq)
set_option maxRecDepth 20000 in
set_option maxHeartbeats 4000000 in
theorem wX3_seek_20 {p : Program} {l : Launch} {e : Env} {s : State} {m : MethodId} {args : Array Value} {below : List Frame} {meth : Method} {c : Code} {D : va_G} {cyI cyJ cyO : ClassId} {A : Nat → Prop} {bs : Nat} {P : List Nat} {g : Nat → va_E} {d : Nat → Nat} {eA : Nat} {Qc : Array Value → State → Outcome → State → Prop} {XC : String → State → State → Prop} {ol : Int32} {dc : Int32} {ds : Nat → Int32} {qw : Nat → Int32} {qn : Nat → Nat} {qf : Nat → Nat → Int32} {N : Nat} {res : Nat × Int32 × Int32 × (Nat → Int32) × (Nat → Nat) × (Nat → Nat → Int32) × (Nat → Int64) × (Nat → Int64)} (C0 : gC p m meth c cX3_seek 7 (some .int) s args wsX3_seek RX3) (hN : dN s) (hT : dT A s) (hxt : ∀ x ∈ c.exceptionTable.toList, False) (hlf : l.stackTraces = false) (hret : ∀ (P1 : List Nat) (g1 : Nat → va_E) (e1 : exP P g P1 g1) (r : Int32) (fd_r : Int32) (fw_r : Nat → Int32) (fn_r : Nat → Nat) (ff_r : Nat → Nat → Int32) (va_r : Nat → Int64) (tr_r : Nat → Int64) (H : Heap) (locs : List Loc) (pc : Nat) (ls : Array Slot), some (0, r, fd_r, fw_r, fn_r, ff_r, va_r, tr_r) = some res → dZ D cyI cyJ cyO A bs P1 g1 d eA (d 5) (d 6) ol fd_r dc ds fw_r fn_r ff_r qw qn qf va_r tr_r s H locs → decode cX3_seek pc = .ok (.ireturn, 1) → W p l e rmX3_seek s m args below meth c H locs 4 18 (vx_MQ below Qc XC args s 4 18 A) (F0 m pc ls [.int r])) (hxc : ∀ (P1 : List Nat) (g1 : Nat → va_E) (e1 : exP P g P1 g1) (k : Nat) (fd_r : Int32) (fw_r : Nat → Int32) (fn_r : Nat → Nat) (ff_r : Nat → Nat → Int32) (va_r : Nat → Int64) (tr_r : Nat → Int64) (H : Heap) (locs : List Loc) (t : State), k ≠ 0 → some (k, 0, fd_r, fw_r, fn_r, ff_r, va_r, tr_r) = some res → dZ D cyI cyJ cyO A bs P1 g1 d eA (d 5) (d 6) ol fd_r dc ds fw_r fn_r ff_r qw qn qf va_r tr_r s H locs → s.vm.Alike t.vm → H.size ≤ t.heap.size → (∀ q : Nat, q < H.size → t.heap[q]? = H[q]?) → XC (exN k) s t)  : ∀ (fd : Int32) (fw : Nat → Int32) (fn : Nat → Nat) (ff : Nat → Nat → Int32) (va : Nat → Int64) (tr : Nat → Int64) (H : Heap) (locs : List Loc) (ls : Array Slot), mX3_seek_20 N fd fw fn ff va tr = some res → dZ D cyI cyJ cyO A bs P g d eA (d 5) (d 6) ol fd dc ds fw fn ff qw qn qf va tr s H locs → lv_has ls 7 [] → W p l e rmX3_seek s m args below meth c H locs 2 12 (vx_MQ below Qc XC args s 4 18 A) (F0 m 20 ls []) := by
  intro fd fw fn ff va tr H locs ls h Z hl
  unfold mX3_seek_20 at h
  obtain ⟨rs2, rr2, at2, fa2, ra2, Z, hF2⟩ := Z
  exact x_throw (text := "the target is out of range") xOk_2 C0 hxt hlf hN hT Z.2.2.2.1 (List.mem_of_getElem? (i := 1) rfl) kX3_seek_x62a kX3_seek_x62b kX3_seek_x62c hl.1 dX3_seek_20 dX3_seek_23 dX3_seek_24 dX3_seek_26 dX3_seek_29 ⟨Nat.le_of_ble_eq_true rfl, Nat.le_of_ble_eq_true rfl, Nat.le_of_ble_eq_true rfl, Nat.le_of_ble_eq_true rfl⟩ (Nat.le_of_ble_eq_true rfl) (Nat.le_of_ble_eq_true rfl) (fun t hvm hz hq => hxc P g exP_rf 2 fd fw fn ff va tr _ _ t (by decide) h ⟨rs2, rr2, at2, fa2, ra2, Z, hF2⟩ hvm hz hq)
set_option maxRecDepth 20000 in
set_option maxHeartbeats 4000000 in
theorem zX3_seek (l : Launch) (hlf : l.stackTraces = false) (D : va_G) (cyI cyJ cyO : ClassId) (A : Nat → Prop) (bs : Nat) (hA : ∀ q, bs ≤ q → A q) (P : List Nat) (g : Nat → va_E) (d : Nat → Nat) (eA : Nat) (ol : Int32) (fd : Int32) (dc : Int32) (ds : Nat → Int32) (fw : Nat → Int32) (fn : Nat → Nat) (ff : Nat → Nat → Int32) (qw : Nat → Int32) (qn : Nat → Nat) (qf : Nat → Nat → Int32) (va : Nat → Int64) (tr : Nat → Int64) (N : Nat) (p0 : Int32) (p1 : Int32) (p2 : Int32) (p3 : Int32) (p4 : Int32) (res : Nat × Int32 × Int32 × (Nat → Int32) × (Nat → Nat) × (Nat → Nat → Int32) × (Nat → Int64) × (Nat → Int64)) (h : mX3_seek N fd fw fn ff va tr p0 p1 p2 p3 p4 = some res) : vx_Met l yX3_seek wsX3_seek rmX3_seek (va_Pc [.ref (d 0), .int p0, .int p1, .int p2, .int p3, .int p4] (dP (dW D cyI cyJ cyO A bs P g d eA (d 5) (d 6) ol fd dc ds fw fn ff qw qn qf va tr) A)) (va_Qi (fun (r : Int32) (u : Int32 × (Nat → Int32) × (Nat → Nat) × (Nat → Nat → Int32) × (Nat → Int64) × (Nat → Int64)) => res.1 = 0 ∧ res.2.1 = r ∧ res.2.2 = u) (fun (u : Int32 × (Nat → Int32) × (Nat → Nat) × (Nat → Nat → Int32) × (Nat → Int64) × (Nat → Int64)) U => ∃ (P1 : List Nat) (g1 : Nat → va_E), exP P g P1 g1 ∧ dW D cyI cyJ cyO A bs P1 g1 d eA (d 5) (d 6) ol u.1 dc ds u.2.1 u.2.2.1 u.2.2.2.1 qw qn qf u.2.2.2.2.1 u.2.2.2.2.2 U) A) (vx_X (S := Int32 × (Nat → Int32) × (Nat → Nat) × (Nat → Nat → Int32) × (Nat → Int64) × (Nat → Int64)) (fun _ => True) (fun E u t => res.1 ≠ 0 ∧ E = exN res.1 ∧ res.2.2 = u ∧ ∃ (P1 : List Nat) (g1 : Nat → va_E), exP P g P1 g1 ∧ dW D cyI cyJ cyO A bs P1 g1 d eA (d 5) (d 6) ol u.1 dc ds u.2.1 u.2.2.1 u.2.2.2.1 qw qn qf u.2.2.2.2.1 u.2.2.2.2.2 t) A) 4 18 A := by
  refine vx_ofW (cc := cX3_seek) (maxL := 7) (ret := (some .int)) (by decide) rfl ?_
  intro p e s m args below meth c s₁ B hml hxt hv
  obtain ⟨hav, hv⟩ := hv
  obtain ⟨hv, hN, hT⟩ := hv
  have C0 : gC p m meth c cX3_seek 7 (some .int) s args wsX3_seek RX3 := ⟨⟨B.exec, B.bytes, hml, findClass_of_methodNamed B.named, atoms_spec (ws := wsX3_seek) B.pre⟩, B.returns, B.notSynchronized⟩
  have Z := dZ_start hA hv
  have hret : ∀ (P1 : List Nat) (g1 : Nat → va_E) (e1 : exP P g P1 g1) (r : Int32) (fd_r : Int32) (fw_r : Nat → Int32) (fn_r : Nat → Nat) (ff_r : Nat → Nat → Int32) (va_r : Nat → Int64) (tr_r : Nat → Int64) (H : Heap) (locs : List Loc) (pc : Nat) (ls : Array Slot), some (0, r, fd_r, fw_r, fn_r, ff_r, va_r, tr_r) = some res → dZ D cyI cyJ cyO A bs P1 g1 d eA (d 5) (d 6) ol fd_r dc ds fw_r fn_r ff_r qw qn qf va_r tr_r s H locs → decode cX3_seek pc = .ok (.ireturn, 1) → W p l e rmX3_seek s m args below meth c H locs 4 18 (vx_MQ below (va_Qi (fun (r : Int32) (u : Int32 × (Nat → Int32) × (Nat → Nat) × (Nat → Nat → Int32) × (Nat → Int64) × (Nat → Int64)) => res.1 = 0 ∧ res.2.1 = r ∧ res.2.2 = u) (fun (u : Int32 × (Nat → Int32) × (Nat → Nat) × (Nat → Nat → Int32) × (Nat → Int64) × (Nat → Int64)) U => ∃ (P1 : List Nat) (g1 : Nat → va_E), exP P g P1 g1 ∧ dW D cyI cyJ cyO A bs P1 g1 d eA (d 5) (d 6) ol u.1 dc ds u.2.1 u.2.2.1 u.2.2.2.1 qw qn qf u.2.2.2.2.1 u.2.2.2.2.2 U) A) (vx_X (S := Int32 × (Nat → Int32) × (Nat → Nat) × (Nat → Nat → Int32) × (Nat → Int64) × (Nat → Int64)) (fun _ => True) (fun E u t => res.1 ≠ 0 ∧ E = exN res.1 ∧ res.2.2 = u ∧ ∃ (P1 : List Nat) (g1 : Nat → va_E), exP P g P1 g1 ∧ dW D cyI cyJ cyO A bs P1 g1 d eA (d 5) (d 6) ol u.1 dc ds u.2.1 u.2.2.1 u.2.2.2.1 qw qn qf u.2.2.2.2.1 u.2.2.2.2.2 t) A) args s 4 18 A) (F0 m pc ls [.int r]) := by
    intro P1 g1 e1 r fd_r fw_r fn_r ff_r va_r tr_r H locs pc ls h Z hd
    replace h := Option.some.inj h
    subst h
    exact vx_ret (W.iret C0.1.1 C0.1.2.1 C0.2.1 (fun t ht hW => ⟨⟨r, (fd_r, fw_r, fn_r, ff_r, va_r, tr_r), rfl, ⟨rfl, rfl, rfl⟩, ⟨P1, g1, e1, dZ_end Z ht hW⟩⟩, va_S.F (dZ_S Z) ht⟩) (dZ_S Z).2.2 hd C0.2.2)
  have hxc : ∀ (P1 : List Nat) (g1 : Nat → va_E) (e1 : exP P g P1 g1) (k : Nat) (fd_r : Int32) (fw_r : Nat → Int32) (fn_r : Nat → Nat) (ff_r : Nat → Nat → Int32) (va_r : Nat → Int64) (tr_r : Nat → Int64) (H : Heap) (locs : List Loc) (t : State), k ≠ 0 → some (k, 0, fd_r, fw_r, fn_r, ff_r, va_r, tr_r) = some res → dZ D cyI cyJ cyO A bs P1 g1 d eA (d 5) (d 6) ol fd_r dc ds fw_r fn_r ff_r qw qn qf va_r tr_r s H locs → s.vm.Alike t.vm → H.size ≤ t.heap.size → (∀ q : Nat, q < H.size → t.heap[q]? = H[q]?) → (vx_X (S := Int32 × (Nat → Int32) × (Nat → Nat) × (Nat → Nat → Int32) × (Nat → Int64) × (Nat → Int64)) (fun _ => True) (fun E u t => res.1 ≠ 0 ∧ E = exN res.1 ∧ res.2.2 = u ∧ ∃ (P1 : List Nat) (g1 : Nat → va_E), exP P g P1 g1 ∧ dW D cyI cyJ cyO A bs P1 g1 d eA (d 5) (d 6) ol u.1 dc ds u.2.1 u.2.2.1 u.2.2.2.1 qw qn qf u.2.2.2.2.1 u.2.2.2.2.2 t) A) (exN k) s t := by
    intro P1 g1 e1 k fd_r fw_r fn_r ff_r va_r tr_r H locs t hk h Z hvm hz hq
    replace h := Option.some.inj h
    subst h
    exact ⟨(fd_r, fw_r, fn_r, ff_r, va_r, tr_r), trivial, ⟨hk, rfl, rfl, ⟨P1, g1, e1, dW_grow Z hvm hz hq⟩⟩, vaF_grow (dZ_S Z) hz hq⟩
  have hl := lv_entry ([.ref (d 0), .int p0, .int p1, .int p2, .int p3, .int p4]) (n := 7) (Nat.le_of_ble_eq_true rfl)
  rw [hav, lg_entry_eq]
  generalize (lg_sl ([.ref (d 0), .int p0, .int p1, .int p2, .int p3, .int p4]) ++ List.replicate (7 - (lg_sl ([.ref (d 0), .int p0, .int p1, .int p2, .int p3, .int p4])).length) Slot.unset).toArray = ls at hl ⊢
  have hl : lv_has ls 7 [(0, .ref (d 0)), (1, .int p0), (2, .int p1), (3, .int p2), (4, .int p3), (5, .int p4)] := hl
  rw [← hav]
  unfold mX3_seek at h
  obtain ⟨rs3, rr3, at3, fa3, ra3, Z, hF3⟩ := Z
  refine lv_iload_n C0.1.1 C0.1.2.1 dX3_seek_0 rfl (lv_at hl 1 rfl) ?_
  obtain ⟨x4, hx5, h⟩ := g_bd h
  refine x_xcallv (vx_runS (As := [.int p0]) (rest := []) C0.1 (zX3_requireCell l hlf D cyI cyJ cyO A bs Z.2.2.2.2.2 (XD d cyI cyJ cyO eA (d 5) (d 6) rs3 rr3 at3 fa3 ra3 ol fd dc ds va tr ++ va_pl P g) N p0 x4 hx5) (va_cwS 1 C0.1.2.2.2.2 gX3_seek_X3_requireCell rfl rfl rfl (by decide +kernel) ⟨Nat.le_of_ble_eq_true rfl, Nat.le_of_ble_eq_true rfl⟩) ⟨gP_blind, gP_pre Z hN hT _⟩ rfl rfl hl.1 rfl (lv_room (Nat.le_of_ble_eq_true rfl)) dX3_seek_1 ⟨Nat.le_of_ble_eq_true rfl, Nat.le_of_ble_eq_true rfl⟩) Z.2.2.2.1 (fun u t H1 locs1 ht hvm hB hS => g_post Z ht hvm hB hS) (fun E ce q9 u t H locs ht hvm _ hB hS h1 h2 h3 => ?_) (fun u H locs hw Z => ?_)
  · obtain ⟨hk, rfl, hB⟩ := hB
    replace h := (if_neg hk).symm.trans h
    exact vx_out (fun x hx => (hxt x hx).elim) C0.2.2 h1 h2 h3 (fun t1 ht1 hvm1 => hxc P g exP_rf x4 fd fw fn ff va tr _ _ t1 hk h (⟨rs3, rr3, at3, fa3, ra3, g_post Z ht hvm hB hS, hF3⟩) hvm1 (by rw [ht1]; exact Nat.le_refl _) (fun q _ => by rw [ht1])) hS.2.2 (Nat.le_of_ble_eq_true rfl) (Nat.le_of_ble_eq_true rfl)
  replace h := (if_pos hw).symm.trans h
  refine lv_iload_n C0.1.1 C0.1.2.1 dX3_seek_4 rfl (lv_at hl 3 rfl) ?_
  obtain ⟨x6, hx7, h⟩ := g_bd h
  refine x_xcallv (vx_runS (As := [.int p2]) (rest := []) C0.1 (zX3_requireCell l hlf D cyI cyJ cyO A bs Z.2.2.2.2.2 (XD d cyI cyJ cyO eA (d 5) (d 6) rs3 rr3 at3 fa3 ra3 ol fd dc ds va tr ++ va_pl P g) N p2 x6 hx7) (va_cwS 1 C0.1.2.2.2.2 gX3_seek_X3_requireCell rfl rfl rfl (by decide +kernel) ⟨Nat.le_of_ble_eq_true rfl, Nat.le_of_ble_eq_true rfl⟩) ⟨gP_blind, gP_pre Z hN hT _⟩ rfl rfl hl.1 rfl (lv_room (Nat.le_of_ble_eq_true rfl)) dX3_seek_5 ⟨Nat.le_of_ble_eq_true rfl, Nat.le_of_ble_eq_true rfl⟩) Z.2.2.2.1 (fun u t H1 locs1 ht hvm hB hS => g_post Z ht hvm hB hS) (fun E ce q9 u t H locs ht hvm _ hB hS h1 h2 h3 => ?_) (fun u H locs hw Z => ?_)
  · obtain ⟨hk, rfl, hB⟩ := hB
    replace h := (if_neg hk).symm.trans h
    exact vx_out (fun x hx => (hxt x hx).elim) C0.2.2 h1 h2 h3 (fun t1 ht1 hvm1 => hxc P g exP_rf x6 fd fw fn ff va tr _ _ t1 hk h (⟨rs3, rr3, at3, fa3, ra3, g_post Z ht hvm hB hS, hF3⟩) hvm1 (by rw [ht1]; exact Nat.le_refl _) (fun q _ => by rw [ht1])) hS.2.2 (Nat.le_of_ble_eq_true rfl) (Nat.le_of_ble_eq_true rfl)
  replace h := (if_pos hw).symm.trans h
  refine lv_iload_n C0.1.1 C0.1.2.1 dX3_seek_8 rfl (lv_at hl 2 rfl) ?_
  refine lv_ldc C0.1.1 C0.1.2.1 C0.1.2.2.2.1 (C0.1.2.2.2.2 _ kX3_seek_c156) dX3_seek_9 ?_
  refine lv_icmp_lt (tgt := 20) C0.1.1 C0.1.2.1 dX3_seek_11 (by decide) (fun hc => ?_) (fun hc => ?_)
  · replace h := (if_pos hc).symm.trans h
    exact wX3_seek_20 (N := N) C0 hN hT hxt hlf hret hxc fd fw fn ff va tr _ _ _ h ⟨rs3, rr3, at3, fa3, ra3, Z, hF3⟩ (lv_sub hl [] rfl)
  · replace h := (if_neg hc).symm.trans h
    refine lv_iload_n C0.1.1 C0.1.2.1 dX3_seek_14 rfl (lv_at hl 2 rfl) ?_
    refine lv_ldc C0.1.1 C0.1.2.1 C0.1.2.2.2.1 (C0.1.2.2.2.2 _ kX3_seek_c157) dX3_seek_15 ?_
    refine lv_icmp_le (tgt := 30) C0.1.1 C0.1.2.1 dX3_seek_17 (by decide) (fun hc => ?_) (fun hc => ?_)
    · replace h := (if_pos hc).symm.trans h
      refine lv_iload C0.1.1 C0.1.2.1 dX3_seek_30 (lv_at hl 4 rfl) ?_
      refine lv_if_lt (tgt := 49) C0.1.1 C0.1.2.1 dX3_seek_32 (by decide) (fun hc => ?_) (fun hc => ?_)
      · replace h := (if_pos hc).symm.trans h
        exact wX3_seek_49 (N := N) C0 hN hT hxt hlf hret hxc fd fw fn ff va tr _ _ _ h ⟨rs3, rr3, at3, fa3, ra3, Z, hF3⟩ (lv_sub hl [] rfl)
      · replace h := (if_neg hc).symm.trans h
        refine lv_iload C0.1.1 C0.1.2.1 dX3_seek_35 (lv_at hl 5 rfl) ?_
        refine lv_iload C0.1.1 C0.1.2.1 dX3_seek_37 (lv_at hl 4 rfl) ?_
        refine lv_icmp_lt (tgt := 49) C0.1.1 C0.1.2.1 dX3_seek_39 (by decide) (fun hc => ?_) (fun hc => ?_)
        · replace h := (if_pos hc).symm.trans h
          exact wX3_seek_49 (N := N) C0 hN hT hxt hlf hret hxc fd fw fn ff va tr _ _ _ h ⟨rs3, rr3, at3, fa3, ra3, Z, hF3⟩ (lv_sub hl [] rfl)
        · replace h := (if_neg hc).symm.trans h
          refine lv_iload C0.1.1 C0.1.2.1 dX3_seek_42 (lv_at hl 5 rfl) ?_
          refine lv_ldc C0.1.1 C0.1.2.1 C0.1.2.2.2.1 (C0.1.2.2.2.2 _ kX3_seek_c160) dX3_seek_44 ?_
          refine lv_icmp_le (tgt := 59) C0.1.1 C0.1.2.1 dX3_seek_46 (by decide) (fun hc => ?_) (fun hc => ?_)
          · replace h := (if_pos hc).symm.trans h
            refine lv_aload_n C0.1.1 C0.1.2.1 dX3_seek_59 rfl (lv_at hl 0 rfl) ?_
            refine g_get (ci := 5) (v := .ref (d 3)) (T := TX3) (N := 9) C0.1 Z 0 rfl rfl 3 (by decide) kX3_seek_in3 kX3_seek_f34 rfl rfl dX3_seek_60 ?_
            refine lv_iload_n C0.1.1 C0.1.2.1 dX3_seek_63 rfl (lv_at hl 3 rfl) ?_
            obtain ⟨hi8, h⟩ := g_ni h
            refine d_aldF C0.1 Z hF3 hi8 dX3_seek_64 (fun hb_9 => ?_)
            obtain ⟨x10, hx11, h⟩ := g_bd h
            obtain ⟨k12, s13, hk14, hs15⟩ := isF_get (XD d cyI cyJ cyO eA (d 5) (d 6) rs3 rr3 at3 fa3 ra3 ol fd dc ds va tr) hb_9
            refine x_calli (va_runVN (b := (fa3 p2.toNatClampNeg)) (C := RX1) (As := []) (rest := []) C0.1 (zX1_canBeInput l D cyI cyJ cyO A bs Z.2.2.2.2.2 (XD d cyI cyJ cyO eA (d 5) (d 6) rs3 rr3 at3 fa3 ra3 ol fd dc ds va tr) P g (fa3 p2.toNatClampNeg) (fw p2.toNatClampNeg) (fn p2.toNatClampNeg) (ff p2.toNatClampNeg) hb_9 N x10 hx11) ⟨va_cnB 0 C0.1.2.2.2.2 gX3_seek_X1_canBeInput_n163 rfl rfl rfl (hN.1 _ (List.mem_of_getElem? (i := 3) rfl)) (C0.1.2.2.2.2 _ kX3_seek_iniRX1) (by decide +kernel) ⟨Nat.le_of_ble_eq_true rfl, Nat.le_of_ble_eq_true rfl⟩, C0.1.2.2.2.2 _ kX3_seek_insX1_canBeInput, C0.1.2.2.2.2 _ kX3_seek_selX1_canBeInput⟩ ⟨g_blind, va_recv Z.2.1 Z.1 (ci := 3) (q0 := k12) rfl hk14, g_pre Z _⟩ rfl rfl hl.1 rfl (lv_room (Nat.le_of_ble_eq_true rfl)) dX3_seek_65 ⟨Nat.le_of_ble_eq_true rfl, Nat.le_of_ble_eq_true rfl⟩) Z.2.2.2.1 (fun u t H1 locs1 ht hvm hB hS => g_post Z ht hvm hB hS) (fun r u H locs hw Z => ?_)
            subst hw
            refine lv_if_ne (tgt := 81) C0.1.1 C0.1.2.1 dX3_seek_68 (by decide) (fun hc => ?_) (fun hc => ?_)
            · replace h := (if_neg hc).symm.trans h
              refine lv_aload_n C0.1.1 C0.1.2.1 dX3_seek_81 rfl (lv_at hl 0 rfl) ?_
              refine lv_iload_n C0.1.1 C0.1.2.1 dX3_seek_82 rfl (lv_at hl 1 rfl) ?_
              refine lv_iload_n C0.1.1 C0.1.2.1 dX3_seek_83 rfl (lv_at hl 3 rfl) ?_
              obtain ⟨x16, hx17, h⟩ := g_bd h
              refine x_calli (va_runV (b := d 0) (C := RX3) (As := [.int p0, .int p2]) (rest := []) C0.1 (zX3_dependsOn l D cyI cyJ cyO A bs Z.2.2.2.2.2 P g d eA ol fd dc ds fw fn ff qw qn qf va tr N p0 p2 x16 hx17) (cwV 2 C0.1.2.2.2.2 gX3_seek_X3_dependsOn rfl rfl rfl (by decide +kernel) ⟨Nat.le_of_ble_eq_true rfl, Nat.le_of_ble_eq_true rfl⟩) ⟨dP_blind, va_recv Z.2.1 Z.1 (ci := 5) (q0 := 0) rfl rfl, dP_pre ⟨rs3, rr3, at3, fa3, ra3, Z, hF3⟩ hN hT _⟩ rfl rfl hl.1 rfl (lv_room (Nat.le_of_ble_eq_true rfl)) dX3_seek_84 ⟨Nat.le_of_ble_eq_true rfl, Nat.le_of_ble_eq_true rfl⟩) Z.2.2.2.1 (fun u t H1 locs1 ht hvm hB hS => dW_post Z ht hvm hB hS) (fun r u H locs hw Z => ?_)
              subst hw
              obtain ⟨rs18, rr18, at18, fa18, ra18, Z, hF18⟩ := Z
              refine lv_if_ne (tgt := 100) C0.1.1 C0.1.2.1 dX3_seek_87 (by decide) (fun hc => ?_) (fun hc => ?_)
              · replace h := (if_neg hc).symm.trans h
                refine lv_aload_n C0.1.1 C0.1.2.1 dX3_seek_100 rfl (lv_at hl 0 rfl) ?_
                refine lv_iload_n C0.1.1 C0.1.2.1 dX3_seek_101 rfl (lv_at hl 1 rfl) ?_
                refine lv_iload_n C0.1.1 C0.1.2.1 dX3_seek_102 rfl (lv_at hl 2 rfl) ?_
                refine lv_iload_n C0.1.1 C0.1.2.1 dX3_seek_103 rfl (lv_at hl 3 rfl) ?_
                refine lv_iload C0.1.1 C0.1.2.1 dX3_seek_104 (lv_at hl 4 rfl) ?_
                refine lv_iload C0.1.1 C0.1.2.1 dX3_seek_106 (lv_at hl 5 rfl) ?_
                obtain ⟨x19, hx20, h⟩ := g_bd h
                refine x_calli (va_runV (b := d 0) (C := RX3) (As := [.int p0, .int p1, .int p2, .int p3, .int p4]) (rest := []) C0.1 (zX3_search l D cyI cyJ cyO A bs Z.2.2.2.2.2 P g d eA ol fd dc ds fw fn ff qw qn qf va tr N p0 p1 p2 p3 p4 x19 hx20) (cwV 5 C0.1.2.2.2.2 gX3_seek_X3_search rfl rfl rfl (by decide +kernel) ⟨Nat.le_of_ble_eq_true rfl, Nat.le_of_ble_eq_true rfl⟩) ⟨dP_blind, va_recv Z.2.1 Z.1 (ci := 5) (q0 := 0) rfl rfl, dP_pre ⟨rs18, rr18, at18, fa18, ra18, Z, hF18⟩ hN hT _⟩ rfl rfl hl.1 rfl (lv_room (Nat.le_of_ble_eq_true rfl)) dX3_seek_108 ⟨Nat.le_of_ble_eq_true rfl, Nat.le_of_ble_eq_true rfl⟩) Z.2.2.2.1 (fun u t H1 locs1 ht hvm hB hS => dW_post Z ht hvm hB hS) (fun r u H locs hw Z => ?_)
                obtain ⟨rfl, rfl⟩ := hw
                obtain ⟨rs21, rr21, at21, fa21, ra21, Z, hF21⟩ := Z
                refine lv_istore (lv' := [(6, .int x19.1), (0, .ref (d 0)), (1, .int p0), (2, .int p1), (3, .int p2), (4, .int p3), (5, .int p4)]) C0.1.1 C0.1.2.1 dX3_seek_111 hl (by decide) rfl (fun ls hl => ?_)
                refine lv_iload C0.1.1 C0.1.2.1 dX3_seek_113 (lv_at hl 0 rfl) ?_
                refine lv_iconst (v := -1) C0.1.1 C0.1.2.1 dX3_seek_115 (by decide) ?_
                refine lv_icmp_ne (tgt := 129) C0.1.1 C0.1.2.1 dX3_seek_116 (by decide) (fun hc => ?_) (fun hc => ?_)
                · replace h := (if_neg hc).symm.trans h
                  refine lv_aload_n C0.1.1 C0.1.2.1 dX3_seek_129 rfl (lv_at hl 1 rfl) ?_
                  refine lv_iload_n C0.1.1 C0.1.2.1 dX3_seek_130 rfl (lv_at hl 4 rfl) ?_
                  refine lv_iload C0.1.1 C0.1.2.1 dX3_seek_131 (lv_at hl 0 rfl) ?_
                  obtain ⟨x22, hx23, h⟩ := g_bd h
                  refine x_callr (va_runS (As := [.int x19.1]) (rest := [.int p2, .ref (d 0)]) C0.1 (zX3_loneNumber l D cyI cyJ cyO A bs Z.2.2.2.2.2 P g d eA ol fd dc ds fw fn ff qw qn qf va x19.2 N x19.1 x22 hx23) (va_cwS 1 C0.1.2.2.2.2 gX3_seek_X3_loneNumber rfl rfl rfl (by decide +kernel) ⟨Nat.le_of_ble_eq_true rfl, Nat.le_of_ble_eq_true rfl⟩) ⟨dP_blind, dP_pre ⟨rs21, rr21, at21, fa21, ra21, Z, hF21⟩ hN hT _⟩ rfl rfl hl.1 rfl (lv_room (Nat.le_of_ble_eq_true rfl)) dX3_seek_133 ⟨Nat.le_of_ble_eq_true rfl, Nat.le_of_ble_eq_true rfl⟩) Z.2.2.2.1 (Zr := fun (_ : Unit) ra H1 locs1 => ∃ (P1 : List Nat) (g1 : Nat → va_E), exP P g P1 g1 ∧ dZ D cyI cyJ cyO A bs P1 g1 d eA (d 5) (d 6) ol fd dc ds fw fn ff qw qn qf va x19.2 s H1 locs1 ∧ isF cyI P1 g1 ra x22.1 x22.2.1 x22.2.2) (fun u ra t H1 locs1 ht hvm hB hS => by obtain ⟨P1, g1, e1, hB, hb⟩ := hB; exact ⟨P1, g1, e1, dW_post Z ht hvm hB hS, hb⟩) (fun u b_27 H locs hw Z => ?_)
                  obtain ⟨P24, g25, e26, Z, hb_28⟩ := Z
                  obtain ⟨rs29, rr29, at29, fa29, ra29, Z, hF29⟩ := Z
                  obtain ⟨x30, hx31, h⟩ := g_bd h
                  refine x_calli (va_runV (b := d 0) (C := RX3) (As := [.int p2, .ref b_27]) (rest := []) C0.1 (zX3_give l D cyI cyJ cyO A bs Z.2.2.2.2.2 P24 g25 d eA ol fd dc ds fw fn ff qw qn qf va x19.2 N b_27 x22.1 x22.2.1 x22.2.2 hb_28 p2 x30 hx31) (cwV 2 C0.1.2.2.2.2 gX3_seek_X3_give rfl rfl rfl (by decide +kernel) ⟨Nat.le_of_ble_eq_true rfl, Nat.le_of_ble_eq_true rfl⟩) ⟨dP_blind, va_recv Z.2.1 Z.1 (ci := 5) (q0 := 0) rfl rfl, dP_pre ⟨rs29, rr29, at29, fa29, ra29, Z, hF29⟩ hN hT _⟩ rfl rfl hl.1 rfl (lv_room (Nat.le_of_ble_eq_true rfl)) dX3_seek_136 ⟨Nat.le_of_ble_eq_true rfl, Nat.le_of_ble_eq_true rfl⟩) Z.2.2.2.1 (fun u t H1 locs1 ht hvm hB hS => dW_post Z ht hvm hB hS) (fun r u H locs hw Z => ?_)
                  obtain ⟨rfl, rfl⟩ := hw
                  obtain ⟨rs32, rr32, at32, fa32, ra32, Z, hF32⟩ := Z
                  refine lv_pop C0.1.1 C0.1.2.1 dX3_seek_139 rfl ?_
                  refine lv_iload C0.1.1 C0.1.2.1 dX3_seek_140 (lv_at hl 0 rfl) ?_
                  refine W.widen (k := 4) (n := 18) (Nat.le_of_ble_eq_true rfl) (Nat.le_of_ble_eq_true rfl) ?_
                  exact hret P24 g25 (exP_tr exP_rf e26) x19.1 x30.2.1 x30.2.2.1 x30.2.2.2.1 x30.2.2.2.2.1 x30.2.2.2.2.2 x19.2 _ _ _ _ h ⟨rs32, rr32, at32, fa32, ra32, Z, hF32⟩ dX3_seek_142
                · replace h := (if_pos hc).symm.trans h
                  exact x_throwN (text := "nothing is found") C0 hxt hlf hN hT Z.2.2.2.1 (List.mem_of_getElem? (i := 5) rfl) kX3_seek_x174a kX3_seek_x174b kX3_seek_x174c hl.1 dX3_seek_119 dX3_seek_122 dX3_seek_123 dX3_seek_125 dX3_seek_128 ⟨Nat.le_of_ble_eq_true rfl, Nat.le_of_ble_eq_true rfl, Nat.le_of_ble_eq_true rfl, Nat.le_of_ble_eq_true rfl⟩ (Nat.le_of_ble_eq_true rfl) (Nat.le_of_ble_eq_true rfl) (fun t hvm hz hq => hxc P g exP_rf 5 fd fw fn ff va x19.2 _ _ t (by decide) h ⟨rs21, rr21, at21, fa21, ra21, Z, hF21⟩ hvm hz hq)
              · replace h := (if_pos hc).symm.trans h
                exact x_throw (text := "the goal does not depend on the input") xOk_3 C0 hxt hlf hN hT Z.2.2.2.1 (List.mem_of_getElem? (i := 4) rfl) kX3_seek_x93a kX3_seek_x93b kX3_seek_x93c hl.1 dX3_seek_90 dX3_seek_93 dX3_seek_94 dX3_seek_96 dX3_seek_99 ⟨Nat.le_of_ble_eq_true rfl, Nat.le_of_ble_eq_true rfl, Nat.le_of_ble_eq_true rfl, Nat.le_of_ble_eq_true rfl⟩ (Nat.le_of_ble_eq_true rfl) (Nat.le_of_ble_eq_true rfl) (fun t hvm hz hq => hxc P g exP_rf 3 fd fw fn ff va tr _ _ t (by decide) h ⟨rs18, rr18, at18, fa18, ra18, Z, hF18⟩ hvm hz hq)
            · replace h := (if_pos hc).symm.trans h
              exact x_throw (text := "the input is neither empty nor a single number") xOk_3 C0 hxt hlf hN hT Z.2.2.2.1 (List.mem_of_getElem? (i := 3) rfl) kX3_seek_x93a kX3_seek_x93b kX3_seek_x93c hl.1 dX3_seek_71 dX3_seek_74 dX3_seek_75 dX3_seek_77 dX3_seek_80 ⟨Nat.le_of_ble_eq_true rfl, Nat.le_of_ble_eq_true rfl, Nat.le_of_ble_eq_true rfl, Nat.le_of_ble_eq_true rfl⟩ (Nat.le_of_ble_eq_true rfl) (Nat.le_of_ble_eq_true rfl) (fun t hvm hz hq => hxc P g exP_rf 3 fd fw fn ff va tr _ _ t (by decide) h ⟨rs3, rr3, at3, fa3, ra3, Z, hF3⟩ hvm hz hq)
          · replace h := (if_neg hc).symm.trans h
            exact wX3_seek_49 (N := N) C0 hN hT hxt hlf hret hxc fd fw fn ff va tr _ _ _ h ⟨rs3, rr3, at3, fa3, ra3, Z, hF3⟩ (lv_sub hl [] rfl)
    · replace h := (if_neg hc).symm.trans h
      exact wX3_seek_20 (N := N) C0 hN hT hxt hlf hret hxc fd fw fn ff va tr _ _ _ h ⟨rs3, rr3, at3, fa3, ra3, Z, hF3⟩ (lv_sub hl [] rfl)
