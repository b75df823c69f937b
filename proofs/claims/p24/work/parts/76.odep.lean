/-! depends of cells that are there: nothing is made -/
abbrev rmD0c : Room := { frames := 0, cells := 0, slots := 0, locals := 0 }
abbrev rmD0 : Room := { frames := 7, cells := 0, slots := 0, locals := 112 }
set_option maxRecDepth 20000 in
set_option maxHeartbeats 4000000 in
theorem zD0_requireCell (l : Launch) (D : va_G) (cyI cyJ cyO : ClassId) (A : Nat → Prop) (bs : Nat) (hA : ∀ q, bs ≤ q → A q) (ws : va_W) (p0 : Int32) (hp : 0 ≤ p0 ∧ p0 ≤ 29) : Met l yX3_requireCell wsX3_requireCell rmD0c (va_Pc [.int p0] (gW D (gT cyI cyJ cyO) ws A bs)) (va_Qv (fun (_ : Unit) => True) (fun (_ : Unit) U => gW D (gT cyI cyJ cyO) ws A bs U) A) 0 0 A := by
  refine Met.ofW (cc := cX3_requireCell) (maxL := 1) (ret := none) (by decide) rfl ?_
  intro p e s m args below meth c s₁ B hml hv
  obtain ⟨hav, hv⟩ := hv
  have C0 : gC p m meth c cX3_requireCell 1 none s args wsX3_requireCell RX3 := ⟨⟨B.exec, B.bytes, hml, findClass_of_methodNamed B.named, atoms_spec (ws := wsX3_requireCell) B.pre⟩, B.returns, B.notSynchronized⟩
  have Z := g_start hA hv
  have hl := lv_entry ([.int p0]) (n := 1) (Nat.le_of_ble_eq_true rfl)
  rw [hav, lg_entry_eq]
  generalize (lg_sl ([.int p0]) ++ List.replicate (1 - (lg_sl ([.int p0])).length) Slot.unset).toArray = ls at hl ⊢
  have hl : lv_has ls 1 [(0, .int p0)] := hl
  rw [← hav]
  refine lv_iload_n C0.1.1 C0.1.2.1 dX3_requireCell_0 rfl (lv_at hl 0 rfl) ?_
  refine lv_if_lt (tgt := 10) C0.1.1 C0.1.2.1 dX3_requireCell_1 (by decide) (fun hc => absurd hp.1 (fa_of_lt hc).2.1) (fun hc => ?_)
  refine lv_iload_n C0.1.1 C0.1.2.1 dX3_requireCell_4 rfl (lv_at hl 0 rfl) ?_
  refine lv_bipush (v := 30) C0.1.1 C0.1.2.1 dX3_requireCell_5 (by decide +kernel) ?_
  refine lv_icmp_lt (tgt := 20) C0.1.1 C0.1.2.1 dX3_requireCell_7 (by decide) (fun _ => ?_) (fun hc => ?_)
  · exact W.vret C0.1.1 C0.1.2.1 C0.2.1 (fun t ht hW => ⟨⟨(), rfl, trivial, g_end Z ht hW⟩, va_S.F Z.2.2.2.1 ht⟩) Z.2.2.2.1.2.2 dX3_requireCell_20 C0.2.2
  · exfalso
    apply hc
    have h2 := hp.2
    rw [fa_le, show (29 : Int32).toInt = 29 from rfl] at h2
    rw [fa_lt, show (30 : Int32).toInt = 30 from rfl]; omega
set_option maxRecDepth 20000 in
set_option maxHeartbeats 4000000 in
theorem zD0_depends (l : Launch) (D : va_G) (cyI cyJ cyO : ClassId) (A : Nat → Prop) (bs : Nat) (hA : ∀ q, bs ≤ q → A q) (P : List Nat) (g : Nat → va_E) (d : Nat → Nat) (eA : Nat) (ol : Int32) (fd : Int32) (dc : Int32) (ds : Nat → Int32) (fw : Nat → Int32) (fn : Nat → Nat) (ff : Nat → Nat → Int32) (qw : Nat → Int32) (qn : Nat → Nat) (qf : Nat → Nat → Int32) (va : Nat → Int64) (tr : Nat → Int64) (N : Nat) (p0 : Int32) (p1 : Int32) (hp0 : 0 ≤ p0 ∧ p0 ≤ 29) (hp1 : 0 ≤ p1 ∧ p1 ≤ 29) (x6 : Int32) (hx7 : mX3_dependsOn N fw fn ff p0 p1 = some x6) (hn9 : x6 = 0 ∨ x6 = 1) : Met l yX3_depends wsX3_depends rmD0 (va_Pc [.ref (d 0), .int p0, .int p1] (dP (dW D cyI cyJ cyO A bs P g d eA (d 5) (d 6) ol fd dc ds fw fn ff qw qn qf va tr) A)) (va_Qi (fun (r : Int32) (_ : Unit) => x6 = r) (fun (u : Unit) U => dW D cyI cyJ cyO A bs P g d eA (d 5) (d 6) ol fd dc ds fw fn ff qw qn qf va tr U) A) 0 0 A := by
  refine Met.ofW (cc := cX3_depends) (maxL := 3) (ret := (some .boolean)) (by decide) rfl ?_
  intro p e s m args below meth c s₁ B hml hv
  obtain ⟨hav, hv⟩ := hv
  obtain ⟨hv, hN, hT⟩ := hv
  have C0 : gC p m meth c cX3_depends 3 (some .boolean) s args wsX3_depends RX3 := ⟨⟨B.exec, B.bytes, hml, findClass_of_methodNamed B.named, atoms_spec (ws := wsX3_depends) B.pre⟩, B.returns, B.notSynchronized⟩
  have Z := dZ_start hA hv
  have hl := lv_entry ([.ref (d 0), .int p0, .int p1]) (n := 3) (Nat.le_of_ble_eq_true rfl)
  rw [hav, lg_entry_eq]
  generalize (lg_sl ([.ref (d 0), .int p0, .int p1]) ++ List.replicate (3 - (lg_sl ([.ref (d 0), .int p0, .int p1])).length) Slot.unset).toArray = ls at hl ⊢
  have hl : lv_has ls 3 [(0, .ref (d 0)), (1, .int p0), (2, .int p1)] := hl
  rw [← hav]
  obtain ⟨rs1, rr1, at1, fa1, ra1, Z, hF1⟩ := Z
  refine lv_iload_n C0.1.1 C0.1.2.1 dX3_depends_0 rfl (lv_at hl 1 rfl) ?_
  refine x_callv (va_runS (As := [.int p0]) (rest := []) C0.1 (zD0_requireCell l D cyI cyJ cyO A bs Z.2.2.2.2.2 (XD d cyI cyJ cyO eA (d 5) (d 6) rs1 rr1 at1 fa1 ra1 ol fd dc ds va tr ++ va_pl P g) p0 hp0) (va_cwS 1 C0.1.2.2.2.2 gX3_depends_X3_requireCell rfl rfl rfl (by decide +kernel) ⟨Nat.le_of_ble_eq_true rfl, Nat.le_of_ble_eq_true rfl⟩) ⟨g_blind, g_pre Z _⟩ rfl rfl hl.1 rfl (lv_room (Nat.le_of_ble_eq_true rfl)) dX3_depends_1 ⟨Nat.le_of_ble_eq_true rfl, Nat.le_of_ble_eq_true rfl⟩) Z.2.2.2.1 (fun u t H1 locs1 ht hvm hB hS => g_post Z ht hvm hB hS) (fun u H locs hw Z => ?_)
  refine lv_iload_n C0.1.1 C0.1.2.1 dX3_depends_4 rfl (lv_at hl 2 rfl) ?_
  refine x_callv (va_runS (As := [.int p1]) (rest := []) C0.1 (zD0_requireCell l D cyI cyJ cyO A bs Z.2.2.2.2.2 (XD d cyI cyJ cyO eA (d 5) (d 6) rs1 rr1 at1 fa1 ra1 ol fd dc ds va tr ++ va_pl P g) p1 hp1) (va_cwS 1 C0.1.2.2.2.2 gX3_depends_X3_requireCell rfl rfl rfl (by decide +kernel) ⟨Nat.le_of_ble_eq_true rfl, Nat.le_of_ble_eq_true rfl⟩) ⟨g_blind, g_pre Z _⟩ rfl rfl hl.1 rfl (lv_room (Nat.le_of_ble_eq_true rfl)) dX3_depends_5 ⟨Nat.le_of_ble_eq_true rfl, Nat.le_of_ble_eq_true rfl⟩) Z.2.2.2.1 (fun u t H1 locs1 ht hvm hB hS => g_post Z ht hvm hB hS) (fun u H locs hw Z => ?_)
  refine lv_aload_n C0.1.1 C0.1.2.1 dX3_depends_8 rfl (lv_at hl 0 rfl) ?_
  refine lv_iload_n C0.1.1 C0.1.2.1 dX3_depends_9 rfl (lv_at hl 1 rfl) ?_
  refine lv_iload_n C0.1.1 C0.1.2.1 dX3_depends_10 rfl (lv_at hl 2 rfl) ?_
  refine x_calli (va_runV (b := d 0) (C := RX3) (As := [.int p0, .int p1]) (rest := []) C0.1 (zX3_dependsOn l D cyI cyJ cyO A bs Z.2.2.2.2.2 P g d eA ol fd dc ds fw fn ff qw qn qf va tr N p0 p1 x6 hx7) (cwV 2 C0.1.2.2.2.2 gX3_depends_X3_dependsOn rfl rfl rfl (by decide +kernel) ⟨Nat.le_of_ble_eq_true rfl, Nat.le_of_ble_eq_true rfl⟩) ⟨dP_blind, va_recv Z.2.1 Z.1 (ci := 5) (q0 := 0) rfl rfl, dP_pre ⟨rs1, rr1, at1, fa1, ra1, Z, hF1⟩ hN hT _⟩ rfl rfl hl.1 rfl (lv_room (Nat.le_of_ble_eq_true rfl)) dX3_depends_11 ⟨Nat.le_of_ble_eq_true rfl, Nat.le_of_ble_eq_true rfl⟩) Z.2.2.2.1 (fun u t H1 locs1 ht hvm hB hS => dW_post Z ht hvm hB hS) (fun r u H locs hw Z => ?_)
  subst hw
  exact W.zret C0.1.1 C0.1.2.1 C0.2.1 (g_nb hn9) (fun t ht hW => ⟨⟨x6, (), rfl, rfl, dZ_end Z ht hW⟩, va_S.F (dZ_S Z) ht⟩) (dZ_S Z).2.2 dX3_depends_14 C0.2.2
set_option maxHeartbeats 1000000 in
theorem o_depends (l : Launch) (D : va_G) (cyI cyJ cyO : ClassId) (A : Nat → Prop) (bs : Nat) (hA : ∀ q, bs ≤ q → A q) (F : va_W) (d : Nat → Nat) (σ : St) (p0 p1 x : Int32) (hx : aDep σ p0 p1 = some x) : Met l yX3_depends wsX3_depends rmD0 (va_Pc [.ref (d 0), .int p0, .int p1] (lP (aW F D cyI cyJ cyO A bs d σ) A)) (va_Qi (fun (r : Int32) (_ : Unit) => x = r) (fun _ => aW F D cyI cyJ cyO A bs d σ) A) 0 0 A := by
  refine m_conv (fun args s hP => ?_)
  obtain ⟨hav, ⟨X, ⟨P, g, eA, rs, rr, at', fa, ra, ol, fd, dc, ds, fw, fn, ff, qw, qn, qf, va, tr, rfl, hF, hr⟩, hW⟩, hN, hT⟩ := hP
  have hr2 := hr
  obtain ⟨hp, hx⟩ := g_yi (show (if (0 ≤ p0 ∧ p0 ≤ 29) ∧ (0 ≤ p1 ∧ p1 ≤ 29) then some (bI (decide (tn p0 ≠ tn p1) && belB (EE σ.1) (tn p0) (tn p1))) else none) = some x from hx)
  have e : mX3_dependsOn 1000001 fw fn ff p0 p1 = some x := by
    obtain ⟨c, hc, rfl⟩ := cell_of hp.1
    obtain ⟨c', hc', rfl⟩ := cell_of hp.2
    rw [tn_nI (n := c) (by omega), tn_nI (n := c') (by omega)] at hx
    rw [t_dep hr.2.1 (by omega) hc hc']
    exact hx
  have hb : x = 0 ∨ x = 1 := by
    have := Option.some.inj hx
    rw [← this]
    exact r_bI01 _
  refine ⟨_, _, _, zD0_depends l D cyI cyJ cyO (aA A F) s.heap.size (fr_sA hA hW) P g d eA ol fd dc ds fw fn ff qw qn qf va tr 1000001 p0 p1 hp.1 hp.2 x e hb, ⟨hav, ⟨rs, rr, at', fa, ra, fr_sW hA hW, hF⟩, hN.1, dT_s hT⟩, fun _ h => h.1, fun o t h => ?_⟩
  obtain ⟨⟨x, u, ho, h1, hB⟩, hf⟩ := h
  obtain ⟨rs1, rr1, at1, fa1, ra1, hB, hF1⟩ := hB
  exact ⟨⟨x, (), ho, h1, ⟨_, ⟨P, g, eA, rs1, rr1, at1, fa1, ra1, _, _, _, _, _, _, _, _, _, _, _, _, rfl, hF1, hr2⟩, fr_W hA hW hf hB⟩⟩, aF_w hf⟩
