/-! the law from its entry -/
theorem en_blind {D : va_G} {cyI cyJ cyO : ClassId} {ws : va_W} {A : Nat → Prop} {bs : Nat} {av : List Value} : FrameBlind (va_Pc av (fun U => (gW D (gT cyI cyJ cyO) ws A bs U ∧ dN U) ∧ va_AO "GoalseekOffice$Formula" U)) := fun a U g mk q => ⟨q.1, ⟨⟨q.2.1.1.1, q.2.1.1.2.1, va_K.moved (u := U) (U := U.calling g mk a) (Vm.Alike.refl U.vm) q.2.1.1.2.2.1, q.2.1.1.2.2.2⟩, dN_same (u := U) (U := U.calling g mk a) rfl q.2.1.2⟩, va_AO.moved (u := U) (U := U.calling g mk a) (Vm.Alike.refl U.vm) q.2.2⟩
theorem en_pre {s : State} {H : Heap} {locs : List Loc} {D : va_G} {cyI cyJ cyO : ClassId} {ws : va_W} {A : Nat → Prop} {bs : Nat} (Z : gZ D (gT cyI cyJ cyO) ws A bs s H locs) (hN : dN s) (hO : va_AO "GoalseekOffice$Formula" s) (av : List Value) : ∀ U : State, U.heap = H → s.WarmedH U.vm → va_Pc av (fun U => (gW D (gT cyI cyJ cyO) ws A bs U ∧ dN U) ∧ va_AO "GoalseekOffice$Formula" U) av.toArray U := fun U hU hW => ⟨rfl, ⟨(g_pre Z av U hU hW).2, dN_warm hW hN⟩, va_AO.moved hW.alike hO⟩
set_option maxHeartbeats 4000000 in
set_option maxRecDepth 100000 in
/-- from the entry, for every script of at most 260 ints, the law comes to its end with true -/
theorem whole_start {p : Program} {e : Env} {s : State} {m : MethodId} {below : List Frame} {meth : Method} {c : Code} (l : Launch) (hflags : l.flags = flags0) {b L : Nat} {xs : Nat → Int32} (hL : L ≤ 260) (C0 : lw_At p s m meth c b L xs) : W p l e room_1 s m #[Value.ref b] below meth c s.heap [] 0 0 (lw_Z below #[Value.ref b] s) (entryFrame m ([Value.ref b] : List Value).toArray 6) := by
  obtain ⟨hx, hb, hr, hml, hown, hts, hX, hbl, hlocks, hgv⟩ := C0
  have hlf : l.stackTraces = false := by
    unfold Launch.stackTraces
    rw [hflags]
    decide +kernel
  have C1 : CallFix p m c cL_law 6 s #[Value.ref b] lw_tbl RL := ⟨hx, hb, hml, hown, hts⟩
  have C2 : CallFix p m c cL_law 6 s #[Value.ref b] wsL_law RL := ⟨hx, hb, hml, hown, fun w h => hts w (wsL_in w h).1⟩
  have hN := en_N hts hgv
  have hT := en_T hts hgv
  have hO : va_AO "GoalseekOffice$Formula" s := va_AO.of (hts _ en_aO)
  obtain ⟨D, hK0⟩ := en_K hts
  obtain ⟨cyI, cyJ, cyO, hK⟩ := up_K hK0 (hts _ en_aI) (hts _ en_aJ) (hts _ en_aO)
  obtain ⟨A, hA0⟩ : ∃ A : Nat → Prop, A = fun q : Nat => s.heap.size ≤ q := ⟨_, rfl⟩
  have hA : ∀ q, s.heap.size ≤ q → A q := fun q h => by rw [hA0]; exact h
  have hAs : ∀ q, A q → s.heap.size ≤ q := fun q h => by rw [hA0] at h; exact h
  rw [← hA0] at hT
  have hbA : ¬ A b := fun h => absurd hbl (Nat.not_lt.mpr (hAs b h))
  have CG : gC p m meth c cL_law 6 (some .boolean) s #[Value.ref b] wsL_law RL := ⟨C2, hr, hlocks⟩
  have Z : gZ D (gT cyI cyJ cyO) [] A s.heap.size s s.heap [] := ⟨fun k q h => by simp at h, hK, ⟨fun i j p q h => by simp at h, fun k q h => by simp at h⟩, va_S.rf, Nat.le_refl _, hA⟩
  have hl := lv_entry ([.ref b]) (n := 6) (Nat.le_of_ble_eq_true rfl)
  rw [lg_entry_eq]
  generalize (lg_sl ([.ref b]) ++ List.replicate (6 - (lg_sl ([.ref b])).length) Slot.unset).toArray = ls at hl ⊢
  have hl : lv_has ls 6 [(0, .ref b)] := hl
  refine g_new C1 (C := RX3) (T := TX3) (N := 9) (ci := 5) (fs := nuX3) (fun w h => (wsL_in_X3 w h).1) tyX3 tyX3_ok en_c3 en_i3 en_n3 rfl (fun j hj => by rcases (show j = 0 ∨ j = 1 ∨ j = 2 ∨ j = 3 ∨ j = 4 ∨ j = 5 ∨ j = 6 ∨ j = 7 ∨ j = 8 by omega) with rfl | rfl | rfl | rfl | rfl | rfl | rfl | rfl | rfl <;> rfl) Z (Nat.le_of_ble_eq_true rfl) (Nat.le_of_ble_eq_true rfl) dL_law_0 (fun q1 H Z => ?_)
  have Z : gZ D (gT cyI cyJ cyO) [(q1, .inr (5, nuX3))] A s.heap.size s H [] := Z
  refine lv_dup hx hb dL_law_3 rfl ?_
  refine x_callv (va_runI (b := q1) (As := []) (rest := [.ref q1]) C2 (zX3_init l D cyI cyJ cyO A s.heap.size hA q1) (cwI 0 C2.2.2.2.2 gL_law_X3_init rfl rfl rfl (hts _ en_n3) (hts _ en_m3) (hts _ en_o3) rfl (by decide +kernel) ⟨Nat.le_of_ble_eq_true rfl, Nat.le_of_ble_eq_true rfl⟩) ⟨en_blind, en_pre Z hN.1 hO _⟩ rfl rfl hl.1 rfl (lv_room (Nat.le_of_ble_eq_true rfl)) dL_law_4 ⟨Nat.le_of_ble_eq_true rfl, Nat.le_of_ble_eq_true rfl⟩) Z.2.2.2.1 (fun u t H1 locs1 ht hvm hB hS => dW_post Z ht hvm hB hS) (fun u H locs hd0 Z5 => ?_)
  obtain ⟨d, eA, P, g⟩ := u
  replace hd0 : d 0 = q1 := hd0
  subst hd0
  refine lv_astore_n (lv' := [(1, .ref (d 0)), (0, .ref b)]) hx hb dL_law_7 rfl hl (by decide) rfl (fun ls hl => ?_)
  obtain ⟨rs, rr, at', fa, ra, Z, hF⟩ := Z5
  obtain ⟨F, hFF⟩ : ∃ X : va_W, X = XD d cyI cyJ cyO eA (d 5) (d 6) rs rr at' fa ra 0 0 0 (fun _ => 0) (fun _ => 0) (fun _ => 0) ++ va_pl P g := ⟨_, rfl⟩
  have Z : gZ D (gT cyI cyJ cyO) F A s.heap.size s H locs := by rw [hFF]; exact Z
  have hO1 : isO cyI cyJ cyO d σ0 F := ⟨P, g, eA, rs, rr, at', fa, ra, _, _, _, _, _, _, _, _, _, _, _, _, hFF, hF, en_rp⟩
  refine g_new C1 (C := RX3) (T := TX3) (N := 9) (ci := 5) (fs := nuX3) (fun w h => (wsL_in_X3 w h).1) tyX3 tyX3_ok en_c3 en_i3 en_n3 rfl (fun j hj => by rcases (show j = 0 ∨ j = 1 ∨ j = 2 ∨ j = 3 ∨ j = 4 ∨ j = 5 ∨ j = 6 ∨ j = 7 ∨ j = 8 by omega) with rfl | rfl | rfl | rfl | rfl | rfl | rfl | rfl | rfl <;> rfl) Z (Nat.le_of_ble_eq_true rfl) (Nat.le_of_ble_eq_true rfl) dL_law_8 (fun q2 H Z => ?_)
  refine lv_dup hx hb dL_law_11 rfl ?_
  refine va_callv (va_runI (b := q2) (As := []) (rest := [.ref q2]) C2 (zX3_init l D cyI cyJ cyO (aA A F) H.size (fr_pre Z) q2) (cwI 0 C2.2.2.2.2 gL_law_X3_init rfl rfl rfl (hts _ en_n3) (hts _ en_m3) (hts _ en_o3) rfl (by decide +kernel) ⟨Nat.le_of_ble_eq_true rfl, Nat.le_of_ble_eq_true rfl⟩) ⟨en_blind, fun U hU hW => ⟨rfl, ⟨⟨fr_at Z hU hW, dN_warm hW hN.1⟩, va_AO.moved hW.alike hO⟩⟩⟩ rfl rfl hl.1 rfl (lv_room (Nat.le_of_ble_eq_true rfl)) dL_law_12 ⟨Nat.le_of_ble_eq_true rfl, Nat.le_of_ble_eq_true rfl⟩) Z.2.2.2.1 (fun _ _ h => h.1) (fun _ h => h.1) (fun u t H1 locs1 ht hvm hw hB _ hk1 hS => ?_)
  obtain ⟨d', eA2, P2, g2⟩ := u
  replace hw : d' 0 = q2 := hw
  subst hw
  obtain ⟨rs2, rr2, at2, fa2, ra2, hB, hF2⟩ := hB
  have Z := fr_post Z ht hvm hB hk1 hS
  have hO2 : isO cyI cyJ cyO d' σ0 (XD d' cyI cyJ cyO eA2 (d' 5) (d' 6) rs2 rr2 at2 fa2 ra2 0 0 0 (fun _ => 0) (fun _ => 0) (fun _ => 0) ++ va_pl P2 g2) := ⟨P2, g2, eA2, rs2, rr2, at2, fa2, ra2, _, _, _, _, _, _, _, _, _, _, _, _, rfl, hF2, en_rp⟩
  refine lv_astore_n (lv' := [(2, .ref (d' 0)), (1, .ref (d 0)), (0, .ref b)]) hx hb dL_law_15 rfl hl (by decide) rfl (fun ls hl => ?_)
  refine lv_iconst (v := 0) hx hb dL_law_16 (by decide) ?_
  refine lv_istore_n (lv' := [(3, .int 0), (2, .ref (d' 0)), (1, .ref (d 0)), (0, .ref b)]) hx hb dL_law_17 rfl hl (by decide) rfl (fun ls hl => ?_)
  refine W.widen (k := 100) (n := 12 * 100) (Nat.le_of_ble_eq_true rfl) (Nat.le_of_ble_eq_true rfl) ?_
  refine wL_law_18 CG hA hN hT hlf hX hbl hbA (res := 1) (Q := lw_Z below #[Value.ref b] s) (fun r σ_r τ_r H locs pc ls t ht1 _ h Z hd => ?_) 81 σ0 σ0 0 _ _ ls 100 (by omega) (law_l hL xs 80 0 81 σ0 (rp_ok en_rp) rfl (by omega)) ⟨F, _, hO1, hO2, Z⟩ (lv_sub hl [3, 2, 1, 0] rfl)
  replace h : r = 1 := Option.some.inj h
  subst h
  have hS := tZ_S Z
  refine va_forget (fun q hq => hAs _ (hS.2.2 q hq)) ?_
  refine W.widen (k := 600258) (n := 7292778) (by omega) (by omega) ?_
  exact lw_ret hx hb hr hlocks hd
