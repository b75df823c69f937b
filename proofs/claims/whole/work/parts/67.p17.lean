/-! calls that ask -/
theorem eL_F {v : Option Int} (h : okV v) : lg_cmp (eL v) (-9223372036854775808) = 0 ↔ v = none := by
  cases v with
  | none => exact ⟨fun _ => rfl, fun _ => cm_FF⟩
  | some z => exact ⟨fun y => absurd y (cm_F (bd_sm (h z rfl))), fun y => (nomatch y)⟩
theorem d_rv (N : Nat) {v : Option Int} (h : okV v) : mX3_requireValue N (eL v) = some (if v = none then 4 else 0) := by
  unfold mX3_requireValue
  by_cases e : v = none
  · rw [if_pos ((eL_F h).mpr e), if_pos e]
  · rw [if_neg (fun z => e ((eL_F h).mp z)), if_neg e]
theorem h_nz (x : Int32) (h : ¬ x = 0) : (bI (decide (x = 0)), x).1 = 0 := by rw [decide_eq_false h]; rfl
theorem h_z : ¬ (bI (decide ((0 : Int32) = 0)), (0 : Int32)).1 = 0 := by decide
theorem okV_n : okV none := fun _ y => (nomatch y)
section ASK
variable {N : Nat} {T : Nat → List Nat} {fw : Nat → Int32} {fn : Nat → Nat} {ff : Nat → Nat → Int32} {va : Nat → Int64} {fm sz : Nat → Int32}
theorem q_eov (h : dSH T fw fn ff va fm sz) (hN : 500 ≤ N) (he wt br : Int32) (st wa : Nat → Int32) (rv sk : Nat → Int64) (p : Int32) : ∃ (e he' wt' br' : Int32) (st' wa' : Nat → Int32) (rv' sk' : Nat → Int64), mX4_errorOfValue N fm sz he wt br st wa rv sk p = some (e, he', wt', br', st', wa', rv', sk') ∧ ((¬ (0 ≤ p ∧ p ≤ 29) ∧ e = 1) ∨ ∃ c, c < 30 ∧ p = nI c ∧ ((VV T c = none ∧ e = 2) ∨ ∃ z, VV T c = some z ∧ e = 0 ∧ rv' c = LL z)) := by
  obtain ⟨h1, h2, h3, h4, h5⟩ := h
  obtain ⟨he', wt', br', st', wa', rv', sk', e, hk⟩ := q_all h1 h2 h4 (N := N) (by omega) he wt br st wa rv sk
  unfold mX4_errorOfValue mX4_errorOfValue_30
  rw [e, Option.bind_some, r_isCell, Option.bind_some]
  dsimp only
  by_cases hp : 0 ≤ p ∧ p ≤ 29
  · obtain ⟨c, hc, rfl⟩ := cell_of hp
    rw [decide_eq_true hp, if_neg bI_nt, if_neg (nI_in hc (by omega)), nI_clamp (by omega)]
    obtain ⟨k1, k2, k3⟩ := hk.1 c hc rfl
    cases ev : VV T c with
    | none =>
      rw [if_pos (k1.mpr ev)]
      exact ⟨2, _, _, _, _, _, _, _, rfl, .inr ⟨c, hc, rfl, .inl ⟨ev, rfl⟩⟩⟩
    | some z =>
      rw [if_neg (fun y => by rw [k1.mp y] at ev; exact nomatch ev)]
      exact ⟨0, _, _, _, _, _, _, _, rfl, .inr ⟨c, hc, rfl, .inr ⟨z, ev, rfl, (k2 z ev).1⟩⟩⟩
  · rw [decide_eq_false hp, if_pos bI_f]
    exact ⟨1, _, _, _, _, _, _, _, rfl, .inl ⟨hp, rfl⟩⟩
theorem c_value (h : dSH T fw fn ff va fm sz) (hN : 500 ≤ N) (th he wt br : Int32) (st wa : Nat → Int32) (rv sk : Nat → Int64) (p : Int32) : ∃ (code : Nat) (r r' : Int64) (he' wt' br' : Int32) (st' wa' : Nat → Int32) (rv' sk' : Nat → Int64) (k : Nat), mX3_value N va p = some (code, r) ∧ mX4_value N fm sz th he wt br st wa rv sk p = some (r', nI k, he', wt', br', st', wa', rv', sk') ∧ (code = 0 ∧ k = 0 ∧ r = r' ∨ code = 1 ∧ k = 1 ∨ code = 4 ∧ k = 2) := by
  obtain ⟨e, he', wt', br', st', wa', rv', sk', e1, e2⟩ := q_eov h hN he wt br st wa rv sk p
  unfold mX3_value mX4_value mX4_value_22
  rw [d_cell, Option.bind_some, e1, Option.bind_some, r_holds, Option.bind_some]
  rcases e2 with ⟨hp, rfl⟩ | ⟨c, hc, rfl, ⟨ev, rfl⟩ | ⟨z, ev, rfl, ez⟩⟩
  · rw [if_neg hp, if_neg (show ¬ (1 : Nat) = 0 by decide), if_pos (h_nz 1 (by decide))]
    exact ⟨1, _, _, _, _, _, _, _, _, _, 1, rfl, rfl, .inr (.inl ⟨rfl, rfl⟩)⟩
  · rw [if_pos (cell_is hc), if_pos rfl, if_neg (nI_in hc (by omega)), nI_clamp (by omega), h.2.2.2.2 c hc, ev, d_rv N okV_n, if_pos rfl, Option.bind_some, if_neg (show ¬ (4 : Nat) = 0 by decide), if_pos (h_nz 2 (by decide))]
    exact ⟨4, _, _, _, _, _, _, _, _, _, 2, rfl, rfl, .inr (.inr ⟨rfl, rfl⟩)⟩
  · have hok := VV_ok (okSF_S h.1) c hc
    rw [ev] at hok
    have hri : ¬ (nI c < 0 ∨ 30 ≤ (nI c).toNatClampNeg) := nI_in hc (by omega)
    have hri2 : ¬ (nI c < 0 ∨ 30 ≤ c) := fun z => by
      rcases z with z | z
      · exact nI_pos (by omega) z
      · omega
    rw [if_pos (cell_is hc), if_pos rfl, if_neg hri, if_neg hri, nI_clamp (by omega), h.2.2.2.2 c hc, ev, d_rv N hok, if_neg (fun y => nomatch y), Option.bind_some, if_pos rfl, if_neg hri2, if_neg h_z]
    dsimp only
    rw [ez]
    exact ⟨0, _, _, _, _, _, _, _, _, _, 0, rfl, rfl, .inl ⟨rfl, rfl, rfl⟩⟩
theorem c_valueAnew (h : dSH T fw fn ff va fm sz) (hN : 500 ≤ N) (tr : Nat → Int64) (th he wt br : Int32) (st wa : Nat → Int32) (rv sk : Nat → Int64) (p : Int32) : ∃ (code : Nat) (r r' : Int64) (tr' : Nat → Int64) (he' wt' br' : Int32) (st' wa' : Nat → Int32) (rv' sk' : Nat → Int64) (k : Nat), mX3_valueAnew N fw fn ff tr p = some (code, r, tr') ∧ mX4_valueAnew N fm sz th he wt br st wa rv sk p = some (r', nI k, he', wt', br', st', wa', rv', sk') ∧ (code = 0 ∧ k = 0 ∧ r = r' ∨ code = 1 ∧ k = 1 ∨ code = 4 ∧ k = 2) := by
  obtain ⟨e, he', wt', br', st', wa', rv', sk', e1, e2⟩ := q_eov h hN he wt br st wa rv sk p
  unfold mX3_valueAnew mX4_valueAnew mX4_valueAnew_22 mX3_only
  rw [d_cell, Option.bind_some, Option.bind_some, e1, Option.bind_some, r_holds, Option.bind_some]
  by_cases hp : 0 ≤ p ∧ p ≤ 29
  · obtain ⟨c, hc, rfl⟩ := cell_of hp
    obtain ⟨m, q, em, hm, hq⟩ := s_wd (fn := fn) (ff := ff) (N := N) (rD_E h.2.2.1) (by omega) (mk_only hc)
    obtain ⟨va', e3, _, e4⟩ := s_wo (va0 := tr) (N := N) h.1 h.2.1 h.2.2.1 (by omega) hm (fun c1 j hc1 hj y1 y2 => .inl ((hq j hj).mpr (clo_st hc1 hj ((hq c1 hc1).mp y1) y2)))
    have hqc : q c = true := (hq c hc).mpr (clo_in hc (by simp))
    have hri : ¬ (nI c < 0 ∨ 30 ≤ (nI c).toNatClampNeg) := nI_in hc (by omega)
    have hri2 : ¬ (nI c < 0 ∨ 30 ≤ c) := fun z => by
      rcases z with z | z
      · exact nI_pos (by omega) z
      · omega
    have hok := VV_ok (okSF_S h.1) c hc
    rw [if_pos hp, if_pos rfl, em, Option.bind_some, e3, Option.bind_some, if_neg hri, nI_clamp (by omega), e4 c hc hqc, d_rv N hok, Option.bind_some]
    rcases e2 with ⟨hp', rfl⟩ | ⟨c', hc', ec, e5⟩
    · exact absurd hp hp'
    · have ecc : c' = c := ((nI_eq (by omega) (by omega)).mp ec).symm
      subst ecc
      rcases e5 with ⟨ev, rfl⟩ | ⟨z, ev, rfl, ez⟩
      · rw [if_pos ev, if_neg (show ¬ (4 : Nat) = 0 by decide), if_pos (h_nz 2 (by decide))]
        exact ⟨4, _, _, _, _, _, _, _, _, _, _, 2, rfl, rfl, .inr (.inr ⟨rfl, rfl⟩)⟩
      · have hvn : ¬ VV T c' = none := fun y => by rw [y] at ev; exact nomatch ev
        rw [if_neg hvn, if_pos rfl, if_neg hri2, if_neg h_z, if_neg hri2]
        dsimp only
        rw [ez, ev]
        exact ⟨0, _, _, _, _, _, _, _, _, _, _, 0, rfl, rfl, .inl ⟨rfl, rfl, rfl⟩⟩
  · rcases e2 with ⟨_, rfl⟩ | ⟨c', hc', ec, e5⟩
    · rw [if_neg hp, if_neg (show ¬ (1 : Nat) = 0 by decide), if_pos (h_nz 1 (by decide))]
      exact ⟨1, _, _, _, _, _, _, _, _, _, _, 1, rfl, rfl, .inr (.inl ⟨rfl, rfl⟩)⟩
    · subst ec
      exact absurd (cell_is hc') hp
theorem c_signs (h : dSH T fw fn ff va fm sz) (th p : Int32) : ∃ (code : Nat) (r r' : Int32) (k : Nat), mX3_signs N fw fn ff p = some (code, r) ∧ mX4_signs N sz th p = some (r', nI k) ∧ (code = 0 ∧ k = 0 ∧ r = r' ∨ code = 1 ∧ k = 1) := by
  unfold mX3_signs mX4_signs mX4_signs_13 mX4_signs_29
  rw [d_cell, Option.bind_some, r_isCell, Option.bind_some, r_holds, Option.bind_some, r_holds, Option.bind_some]
  by_cases hp : 0 ≤ p ∧ p ≤ 29
  · obtain ⟨c, hc, rfl⟩ := cell_of hp
    rw [if_pos hp, if_pos rfl, if_neg (nI_in hc (by omega)), nI_clamp (by omega), decide_eq_true hp, if_neg bI_nt, if_neg h_z, (h.2.2.2.1 c hc).1, (h.2.2.1 c hc).2.1]
    rw [if_neg (fun z => by
      rcases z with z | z
      · exact nI_pos (by omega) z
      · omega)]
    exact ⟨0, _, _, 0, rfl, rfl, .inl ⟨rfl, rfl, rfl⟩⟩
  · rw [if_neg hp, if_neg (show ¬ (1 : Nat) = 0 by decide), decide_eq_false hp, if_pos bI_f, if_pos (h_nz 1 (by decide))]
    exact ⟨1, _, _, 1, rfl, rfl, .inr ⟨rfl, rfl⟩⟩
theorem q_lev_in (hT : okS T) (hR : rR T fm sz) (hN : 31 ≤ N) {p : Nat → Bool} {v3 : Int32} (hp : mk p v3) (r29 : Int32 → Int32 → Int32 → Option (Int32 × Int32)) (th v2 : Int32) : ∀ (d k n : Nat) (v4 : Int32), k + d = 30 → d < n → mk (nba p (EE T) k) v4 → ∃ m, mX4_level_42 N fm sz r29 n th v2 v3 v4 (nI k) = r29 th v2 m ∧ mk (nba p (EE T) 30) m
  | _, _, 0, _, _, h, _ => absurd h (Nat.not_lt_zero _)
  | 0, k, n + 1, v4, h1, h2, h3 => by
    have : k = 30 := by omega
    subst this
    simp only [mX4_level_42, mX4_level_42_b]
    rw [if_pos (by decide)]
    exact ⟨v4, rfl, h3⟩
  | d + 1, k, n + 1, v4, h1, h2, h3 => by
    have hk : k < 30 := by omega
    simp only [mX4_level_42, mX4_level_42_b, mX4_level_71]
    rw [if_neg (show ¬ (30 : Int32) ≤ nI k from nI_ge (a := k) (b := 30) (by omega) (by omega)), mk_holds hp hk, nI_1]
    cases e : p k with
    | false =>
      rw [if_neg (show ¬ (if false = true then (1 : Int32) else 0) = 1 by decide)]
      exact q_lev_in hT hR hN hp r29 th v2 d (k + 1) n _ (by omega) (by omega) (mk_ext (mk_or h3 mk_0) (fun i _ => by simp [nba, e]))
    | true =>
      obtain ⟨m, em, hm⟩ := r_refersOf hT hR hN hk
      rw [if_pos (show (if true = true then (1 : Int32) else 0) = 1 from rfl), em, Option.bind_some]
      exact q_lev_in hT hR hN hp r29 th v2 d (k + 1) n _ (by omega) (by omega) (mk_ext (mk_or h3 hm) (fun i _ => by simp [nba, e]))
theorem c_lev_l (h : dSH T fw fn ff va fm sz) (hN : 31 ≤ N) {rk : Nat → Nat} (hr : ∀ i j, i < 30 → j < 30 → EE T i j = true → rk j < rk i) (th : Int32) : ∀ (d t n n2 : Nat) (p : Nat → Bool) (v v' : Int32), t + d ≤ 30 → d < n → d < n2 → mk p v → mk p v' → (∀ i, i < 30 → p i = true → rk i < d) → ∃ x, mX3_level_16 N fw fn ff n (nI t) v = some (0, x) ∧ mX4_level_29 N fm sz n2 th (nI t) v' = some (x, th)
  | _, _, 0, _, _, _, _, _, h, _, _, _, _ => absurd h (Nat.not_lt_zero _)
  | _, _, _, 0, _, _, _, _, _, h, _, _, _ => absurd h (Nat.not_lt_zero _)
  | d, t, n + 1, n2 + 1, p, v, v', h1, h2, h3, h4, h5, h6 => by
    simp only [mX3_level_16, mX3_level_16_b, mX3_level_38, mX4_level_29, mX4_level_29_b]
    by_cases e : v = 0
    · have e' : v' = 0 := (mk_z h5).mpr ((mk_z h4).mp e)
      rw [if_pos e, if_pos e']
      exact ⟨_, rfl, rfl⟩
    · have e' : ¬ v' = 0 := fun z => e ((mk_z h4).mpr ((mk_z h5).mp z))
      obtain ⟨i, hi, pi⟩ := (mk_ne h4).mp e
      have hd := h6 i hi pi
      obtain ⟨d, rfl⟩ : ∃ y, d = y + 1 := ⟨d - 1, by omega⟩
      obtain ⟨m, em, hm⟩ := s_nba (fn := fn) (ff := ff) (N := N) (rD_E h.2.2.1) h4 hN
      obtain ⟨m2, e2, hm2⟩ := q_lev_in (okSF_S h.1) h.2.2.2.1 hN h5 (mX4_level_29 N fm sz n2) th (nI (t + 1)) 30 0 N 0 rfl (by omega) mk_0
      have e2' : mX4_level_42 N fm sz (mX4_level_29 N fm sz n2) N th (nI (t + 1)) v' 0 0 = _ := e2
      rw [if_neg e, if_neg (show ¬ (30 : Int32) ≤ nI t from nI_ge (a := t) (b := 30) (by omega) (by omega)), em, Option.bind_some, if_neg e', nI_1, e2']
      exact c_lev_l h hN hr th d (t + 1) n n2 _ m m2 (by omega) (by omega) (by omega) hm hm2 (fun j hj z => by
        obtain ⟨a, ha, b, c⟩ := nba_iff.mp z
        have := hr a j ha hj c
        have := h6 a ha b
        omega)
theorem c_level (h : dSH T fw fn ff va fm sz) (hN : 500 ≤ N) (th p : Int32) : ∃ (code : Nat) (r r' : Int32) (k : Nat), mX3_level N fw fn ff p = some (code, r) ∧ mX4_level N fm sz th p = some (r', nI k) ∧ (code = 0 ∧ k = 0 ∧ r = r' ∨ code = 1 ∧ k = 1) := by
  unfold mX3_level mX4_level mX4_level_13
  rw [d_cell, Option.bind_some, r_isCell, Option.bind_some, r_holds, Option.bind_some, r_holds, Option.bind_some]
  by_cases hp : 0 ≤ p ∧ p ≤ 29
  · obtain ⟨c, hc, rfl⟩ := cell_of hp
    obtain ⟨rk, hb, hr⟩ := acy_b h.2.1
    obtain ⟨m, em, hm⟩ := r_refersOf (okSF_S h.1) h.2.2.2.1 (N := N) (by omega) hc
    obtain ⟨x, e1, e2⟩ := c_lev_l h (N := N) (by omega) hr 0 30 0 N N _ (fw c) m (by omega) (by omega) (by omega) (h.2.2.1 c hc).1 hm (fun i hi z => by
      have := hr c i hc hi z
      have := hb c
      omega)
    have e1' : mX3_level_16 N fw fn ff N 0 (fw c) = some (0, x) := e1
    have e2' : mX4_level_29 N fm sz N 0 0 m = some (x, 0) := e2
    rw [if_pos hp, if_pos rfl, if_neg (nI_in hc (by omega)), nI_clamp (by omega), decide_eq_true hp, if_neg bI_nt, if_neg h_z, em, Option.bind_some, e1', e2']
    exact ⟨0, _, _, 0, rfl, rfl, .inl ⟨rfl, rfl, rfl⟩⟩
  · rw [if_neg hp, if_neg (show ¬ (1 : Nat) = 0 by decide), decide_eq_false hp, if_pos bI_f, if_pos (h_nz 1 (by decide))]
    exact ⟨1, _, _, 1, rfl, rfl, .inr ⟨rfl, rfl⟩⟩
/-- whether a cell depends on another is asked alike -/
theorem c_dep2 (h : dSH T fw fn ff va fm sz) (hN : 31 ≤ N) {i j : Nat} (hi : i < 30) (hj : j < 30) : ∃ x : Int32, mX3_dependsOn N fw fn ff (nI i) (nI j) = some x ∧ mX4_doesDepend N fm sz (nI i) (nI j) = some x ∧ (x = 0 ∨ x = 1) ∧ (x = 1 ↔ i ≠ j ∧ clo (EE T) (fun x => x == i) j) := by
  obtain ⟨x, e1, e2, e3⟩ := s_dep (fn := fn) (ff := ff) (N := N) (rD_E h.2.2.1) hN hi hj
  obtain ⟨y, k1, k2, k3⟩ := r_dep (okSF_S h.1) h.2.2.2.1 hN hi hj
  rw [clo_named h.2.1 hi hj, ← e3] at k3
  have : y = x := by
    rcases e2 with z | z <;> rcases k2 with w | w
    · rw [z, w]
    · rw [z] at k3; exact absurd (k3.mp w) (by decide)
    · rw [w] at k3; exact absurd (k3.mpr z) (by decide)
    · rw [z, w]
  subst this
  exact ⟨y, e1, k1, e2, e3⟩
theorem c_depends (h : dSH T fw fn ff va fm sz) (hN : 31 ≤ N) (th p q : Int32) : ∃ (code : Nat) (r r' : Int32) (k : Nat), mX3_depends N fw fn ff p q = some (code, r) ∧ mX4_depends N fm sz th p q = some (r', nI k) ∧ (code = 0 ∧ k = 0 ∧ r = r' ∧ (r = 0 ∨ r = 1) ∨ code = 1 ∧ k = 1) := by
  unfold mX3_depends mX4_depends mX4_depends_19 mX4_depends_20 mX4_depends_39 mX4_depends_40
  rw [d_cell, Option.bind_some, r_isCell, Option.bind_some, r_holds, Option.bind_some, d_cell, r_isCell]
  by_cases hp : 0 ≤ p ∧ p ≤ 29
  · obtain ⟨c, hc, rfl⟩ := cell_of hp
    rw [if_pos hp, if_pos rfl, decide_eq_true hp, if_neg bI_nt, Option.bind_some, Option.bind_some]
    by_cases hq : 0 ≤ q ∧ q ≤ 29
    · obtain ⟨d, hd, rfl⟩ := cell_of hq
      obtain ⟨x, e1, e2, e3, _⟩ := c_dep2 h hN hc hd
      rw [if_pos hq, if_pos rfl, decide_eq_true hq, if_neg bI_nt, r_holds, Option.bind_some, if_neg h_z, e1, Option.bind_some, e2, Option.bind_some, if_pos e3]
      rcases e3 with z | z
      · subst z
        rw [if_pos rfl, if_pos (by decide)]
        exact ⟨0, _, _, 0, rfl, rfl, .inl ⟨rfl, rfl, rfl, .inl rfl⟩⟩
      · subst z
        rw [if_neg (show ¬ (1 : Int32) = 0 by decide), if_pos (by decide)]
        exact ⟨0, _, _, 0, rfl, rfl, .inl ⟨rfl, rfl, rfl, .inr rfl⟩⟩
    · rw [if_neg hq, if_neg (show ¬ (1 : Nat) = 0 by decide), decide_eq_false hq, if_pos bI_f, if_pos (h_nz 1 (by decide)), if_pos (by decide)]
      exact ⟨1, _, _, 1, rfl, rfl, .inr ⟨rfl, rfl⟩⟩
  · rw [if_neg hp, if_neg (show ¬ (1 : Nat) = 0 by decide), decide_eq_false hp, if_pos bI_f, if_pos (h_nz 1 (by decide)), if_pos (by decide)]
    exact ⟨1, _, _, 1, rfl, rfl, .inr ⟨rfl, rfl⟩⟩
theorem d_fy_l {V : Nat → Option Int} (hV : ∀ j, j < 30 → okV (V j)) (hva : ∀ j, j < 30 → va j = eL (V j)) : ∀ (d k n : Nat), k + d = 30 → d < n → mX3_faulty_4 N va n (nI (fb_ct (fun j => (V j).isNone) k)) (nI k) = some (nI (fb_ct (fun j => (V j).isNone) 30))
  | _, _, 0, _, h => absurd h (Nat.not_lt_zero _)
  | 0, k, n + 1, h1, h2 => by
    have : k = 30 := by omega
    subst this
    simp only [mX3_faulty_4, mX3_faulty_4_b]
    rw [if_pos (by decide)]
  | d + 1, k, n + 1, h1, h2 => by
    have hk : k < 30 := by omega
    simp only [mX3_faulty_4, mX3_faulty_4_b, mX3_faulty_26]
    have ih := d_fy_l hV hva d (k + 1) n (by omega) (by omega)
    rw [fb_ct_succ] at ih
    rw [if_neg (show ¬ (30 : Int32) ≤ nI k from nI_ge (a := k) (b := 30) (by omega) (by omega)), if_neg (nI_in hk (by omega)), nI_clamp (by omega), hva k hk, nI_1 k]
    cases e : V k with
    | none =>
      rw [if_pos ((eL_F okV_n).mpr rfl), nI_1]
      rw [e] at ih; exact ih
    | some z =>
      have ho := hV k hk
      rw [e] at ho
      rw [if_neg (fun y => by have := (eL_F ho).mp y; exact nomatch this)]
      rw [e] at ih; exact ih
theorem q_fy_l (th he wt br : Int32) (st wa : Nat → Int32) (rv sk : Nat → Int64) {V : Nat → Option Int} (hst : ∀ j, j < 30 → (st j = 2 ↔ V j = none)) : ∀ (d k n : Nat), k + d = 30 → d < n → mX4_faulty_13 N fm sz n th he wt br st wa rv sk (nI (fb_ct (fun j => (V j).isNone) k)) (nI k) = some (nI (fb_ct (fun j => (V j).isNone) 30), th, he, wt, br, st, wa, rv, sk)
  | _, _, 0, _, h => absurd h (Nat.not_lt_zero _)
  | 0, k, n + 1, h1, h2 => by
    have : k = 30 := by omega
    subst this
    simp only [mX4_faulty_13, mX4_faulty_13_b]
    rw [if_pos (by decide)]
  | d + 1, k, n + 1, h1, h2 => by
    have hk : k < 30 := by omega
    simp only [mX4_faulty_13, mX4_faulty_13_b, mX4_faulty_35]
    have ih := q_fy_l th he wt br st wa rv sk hst d (k + 1) n (by omega) (by omega)
    rw [fb_ct_succ] at ih
    rw [if_neg (show ¬ (30 : Int32) ≤ nI k from nI_ge (a := k) (b := 30) (by omega) (by omega)), if_neg (nI_in hk (by omega)), nI_clamp (by omega), nI_1 k]
    cases e : V k with
    | none =>
      rw [if_pos ((hst k hk).mpr e), nI_1]
      rw [e] at ih; exact ih
    | some z =>
      rw [if_neg (fun y => by rw [(hst k hk).mp y] at e; exact nomatch e), c_0, nI_add]
      rw [e] at ih; exact ih
theorem c_faulty (h : dSH T fw fn ff va fm sz) (hN : 500 ≤ N) (th he wt br : Int32) (st wa : Nat → Int32) (rv sk : Nat → Int64) : ∃ (r he' wt' br' : Int32) (st' wa' : Nat → Int32) (rv' sk' : Nat → Int64), mX3_faulty N va = some r ∧ mX4_faulty N fm sz th he wt br st wa rv sk = some (r, 0, he', wt', br', st', wa', rv', sk') := by
  obtain ⟨he', wt', br', st', wa', rv', sk', e, hk⟩ := q_all h.1 h.2.1 h.2.2.2.1 (N := N) (by omega) he wt br st wa rv sk
  unfold mX3_faulty mX4_faulty
  have e1 := d_fy_l (N := N) (VV_ok (okSF_S h.1)) h.2.2.2.2 30 0 N rfl (by omega)
  have e2 := q_fy_l (N := N) (fm := fm) (sz := sz) 0 he' wt' br' st' wa' rv' sk' (V := VV T) (fun j hj => (hk.1 j hj rfl).1) 30 0 N rfl (by omega)
  rw [e, Option.bind_some]
  exact ⟨_, _, _, _, _, _, _, _, e1, e2⟩
end ASK
