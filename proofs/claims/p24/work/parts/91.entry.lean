/-! what the tables and the start give: classes, links of nest mates, texts, the statics of a throw -/
theorem en_J0 : ∀ w ∈ u_ws RJ0 TJ0 2, w ∈ lw_tbl := by decide +kernel
theorem en_J1 : ∀ w ∈ u_ws RJx00060 TJx00060 6, w ∈ lw_tbl := by decide +kernel
theorem en_iJ0 : Cond.instantiable RJ0 4 ∈ lw_tbl := by decide +kernel
theorem en_iJ1 : Cond.instantiable RJx00060 6 ∈ lw_tbl := by decide +kernel
theorem en_i0 : Cond.instantiable RX0 2 ∈ lw_tbl := by decide +kernel
theorem en_i1 : Cond.instantiable RX1 2 ∈ lw_tbl := by decide +kernel
theorem en_i2 : Cond.instantiable RX2 3 ∈ lw_tbl := by decide +kernel
theorem en_i3 : Cond.instantiable RX3 9 ∈ lw_tbl := by decide +kernel
theorem en_n3 : Cond.initialized RX3 ∈ lw_tbl := by decide +kernel
theorem en_c3 : Cond.classLink RL 9 RX3 ∈ lw_tbl := by decide +kernel
theorem en_m3 : Cond.methodLink RL 115 yX3_init ∈ lw_tbl := by decide +kernel
theorem en_o3 : Cond.instanceMethod yX3_init ∈ lw_tbl := by decide +kernel
theorem en_aI : Cond.arrayClass .int ∈ lw_tbl := by decide +kernel
theorem en_aJ : Cond.arrayClass .long ∈ lw_tbl := by decide +kernel
theorem en_aO : Cond.arrayOver (.object "GoalseekOffice$Formula") ∈ lw_tbl := by decide +kernel
theorem en_nest : ∀ w ∈ nestW, w ∈ lw_tbl := by decide +kernel
theorem en_nestT : ∀ w ∈ nestW, w.onTables = true := by decide +kernel
theorem en_str : ∀ q ∈ strW, Cond.stringRef RX3 q.1 q.2 ∈ lw_tbl := by decide +kernel
theorem en_strX : ∀ q ∈ strW, Cond.exactly (.string RX3 q.1) "java/lang/String" ∈ flatC (Jvm.Cond.and given_1 narrow_1) := by decide +kernel
theorem en_nc : ∀ q ∈ ncW, Cond.not (.castable q.1 q.2) ∈ flatC (Jvm.Cond.and given_1 narrow_1) := by decide +kernel
theorem en_r1 : Cond.isRef (.static Bundle.tN "UNASSIGNED_STACK" Bundle.steD) ∈ flatC (Jvm.Cond.and given_1 narrow_1) := by decide +kernel
theorem en_r2 : Cond.isRef (.static Bundle.tN "SUPPRESSED_SENTINEL" Bundle.listD) ∈ flatC (Jvm.Cond.and given_1 narrow_1) := by decide +kernel
theorem en_l1 : Cond.laysStatic Bundle.tN "UNASSIGNED_STACK" Bundle.steD ∈ lw_tbl := by decide +kernel
theorem en_l2 : Cond.laysStatic Bundle.tN "SUPPRESSED_SENTINEL" Bundle.listD ∈ lw_tbl := by decide +kernel
theorem en_nT : Cond.initialized Bundle.tN ∈ lw_tbl := by decide +kernel
theorem en_K {s : State} {args : Array Value} (hts : ∀ w ∈ lw_tbl, w.before args s = true) : ∃ D : va_G, va_K D vwCl [] s := by
  obtain ⟨c0, i0, k0⟩ := u_known (C := RJ0) (T := TJ0) (N := 2) (n := 4) hts en_J0 (hts _ en_iJ0)
  obtain ⟨c1, i1, k1⟩ := u_known (C := RJx00060) (T := TJx00060) (N := 6) (n := 6) hts en_J1 (hts _ en_iJ1)
  obtain ⟨c2, i2, k2⟩ := u_known (C := RX0) (T := TX0) (N := 2) (n := 2) hts (fun w h => (wsL_in_X0 w h).1) (hts _ en_i0)
  obtain ⟨c3, i3, k3⟩ := u_known (C := RX1) (T := TX1) (N := 2) (n := 2) hts (fun w h => (wsL_in_X1 w h).1) (hts _ en_i1)
  obtain ⟨c4, i4, k4⟩ := u_known (C := RX2) (T := TX2) (N := 3) (n := 3) hts (fun w h => (wsL_in_X2 w h).1) (hts _ en_i2)
  obtain ⟨c5, i5, k5⟩ := u_known (C := RX3) (T := TX3) (N := 9) (n := 9) hts (fun w h => (wsL_in_X3 w h).1) (hts _ en_i3)
  refine ⟨(fun k => [c0, c1, c2, c3, c4, c5].getD k c0, fun k => [i0, i1, i2, i3, i4, i5].getD k i0), fun k q hq => ?_, fun k q h => by simp at h⟩
  rcases k with _ | _ | _ | _ | _ | _ | k
  · cases hq; exact k0
  · cases hq; exact k1
  · cases hq; exact k2
  · cases hq; exact k3
  · cases hq; exact k4
  · cases hq; exact k5
  · cases hq
theorem en_N {s : State} {args : Array Value} (hts : ∀ w ∈ lw_tbl, w.before args s = true) (hg : (Jvm.Cond.and given_1 narrow_1).before args s = true) : lQN s := by
  have hs := flat_of_before _ hg
  refine ⟨⟨fun w hw => va_Nw.of (en_nestT w hw) (hts w (en_nest w hw)), fun q hq => ?_⟩, fun q hq => va_Nc.of (hs _ (en_nc q hq))⟩
  obtain ⟨a, _, _, _, h1, _⟩ := Cond.exactly_spec (args := args) (first := s) (o := none) (s := s) (idx := []) (hs _ (en_strX q hq))
  exact ⟨a, vk_R.of (hts _ (en_str q hq)) h1⟩
theorem en_T {s : State} {args : Array Value} (hts : ∀ w ∈ lw_tbl, w.before args s = true) (hg : (Jvm.Cond.and given_1 narrow_1).before args s = true) : dT (fun q : Nat => s.heap.size ≤ q) s := by
  have hs := flat_of_before _ hg
  exact ⟨vx_Zqof (hts _ en_l1) (hts _ en_nT) (hs _ en_r1) (fun a h => Nat.not_le.mpr h), vx_Zqof (hts _ en_l2) (hts _ en_nT) (hs _ en_r2) (fun a h => Nat.not_le.mpr h)⟩
/-! the state at the start -/
theorem en_acy : acy (EE (fun _ => [])) := ⟨fun _ => 0, fun _ _ _ _ e => absurd (show false = true from e) Bool.false_ne_true⟩
/-- a new sheet -/
def σ0 : St := (fun _ => [], fun _ _ => [], [], 0, 0)
theorem en_sh : rSH (fun _ => []) (fun _ => 0) (fun _ => 0) (fun _ _ => 0) (fun _ => 0) := by
  refine ⟨fun k _ => ⟨okT_nil, .inl rfl⟩, en_acy, fun k _ => ⟨mk_0, rfl, fun i hi => absurd hi (Nat.not_lt_zero _)⟩, fun j hj => ?_⟩
  rw [VV_eq en_acy hj]
  unfold evF
  rw [if_pos rfl]
  exact (show (0 : Int64) = eL (some 0) by decide)
theorem en_rp : rp σ0 0 0 0 (fun _ => 0) (fun _ => 0) (fun _ => 0) (fun _ _ => 0) (fun _ => 0) (fun _ => 0) (fun _ _ => 0) (fun _ => 0) := ⟨rDR_nil, en_sh, ⟨Nat.zero_le _, rfl, fun i h => absurd h (Nat.not_lt_zero i)⟩, rfl⟩
