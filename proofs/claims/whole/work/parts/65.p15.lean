/-! set; layers -/
section SETC
variable {N : Nat} {T : Nat → List Nat} {fw : Nat → Int32} {fn : Nat → Nat} {ff : Nat → Nat → Int32} {va : Nat → Int64} {fm sz : Nat → Int32} {D : List Nat} {dc df : Int32} {ds dr : Nat → Int32}
theorem q_set_l {c : Nat} (hc : c < 30) (hD : okT D) (hdr : ∀ i, i < D.length → dr i = nI (cv (tk D i))) {fm0 : Nat → Int32} (th fo : Int32) (R : Option (Int32 × Int32 × Int32 × Int32 × (Nat → Int32) × (Nat → Int32)) → Prop)
    (hR : ∀ fm', (∀ i, i < D.length → fm' (15 * c + i) = nI (cv (tk D i))) → (∀ x, (x < 15 * c ∨ 15 * c + 15 ≤ x) → fm' x = fm0 x) → R ((mX4_anew N fm' (upd sz c (nI D.length)) ((1 : Int32) <<< (nI c &&& 31))).bind fun x2 => some (x2, th, (0 : Int32), (fo + x2), fm', (upd sz c (nI D.length))))) :
    ∀ (d k n : Nat) (fm' : Nat → Int32), k + d = D.length → d < n → (∀ i, i < k → fm' (15 * c + i) = nI (cv (tk D i))) → (∀ x, (x < 15 * c ∨ 15 * c + 15 ≤ x) → fm' x = fm0 x) → R (mX4_set_16 N dr n th (nI D.length) fo fm' sz (nI c) (nI k))
  | _, _, 0, _, _, h, _, _ => absurd h (Nat.not_lt_zero _)
  | 0, k, n + 1, fm', h1, h2, h3, h4 => by
    have h15 := hD.1
    have hk : k = D.length := by omega
    simp only [mX4_set_16, mX4_set_16_b]
    rw [if_pos (nI_le (by omega) (by omega)), if_neg (nI_in hc (by omega)), nI_clamp (by omega)]
    rw [hk] at h3
    exact hR fm' h3 h4
  | d + 1, k, n + 1, fm', h1, h2, h3, h4 => by
    have h15 := hD.1
    have hk : k < D.length := by omega
    simp only [mX4_set_16, mX4_set_16_b]
    rw [if_neg (nI_ge (by omega) (by omega)), if_neg (nI_in (by omega) (by omega)), c_15, pk_mul, nI_add, if_neg (nI_in (by omega) (by omega)), nI_clamp (by omega), nI_clamp (by omega), nI_1, hdr k hk]
    refine q_set_l hc hD hdr th fo R hR d (k + 1) n _ (by omega) (by omega) (fun i hi => ?_) (fun x hx => by rw [pk_un (by omega)]; exact h4 x hx)
    rcases Nat.lt_or_ge i k with z | z
    · rw [pk_un (by omega)]; exact h3 i z
    · have : i = k := by omega
      subst this; exact pk_us
theorem c_set (hd : dDR D dc ds df dr) (h : dSH T fw fn ff va fm sz) (hN : 31 ≤ N) (fd th p0 : Int32) : ∃ (code : Nat) (r r' : Int32) (D' : List Nat) (T' : Nat → List Nat) (dc' fd' : Int32) (fw' : Nat → Int32) (fn' : Nat → Nat) (ff' : Nat → Nat → Int32) (va' : Nat → Int64) (df' : Int32) (fm' sz' : Nat → Int32) (k : Nat), mX3_set N ds fd dc fw fn ff va p0 = some (code, r, fd', dc', fw', fn', ff', va') ∧ mX4_set N dr th df fd fm sz p0 = some (r', nI k, df', fd', fm', sz') ∧ dDR D' dc' ds df' dr ∧ dSH T' fw' fn' ff' va' fm' sz' ∧ (code = 0 ∧ k = 0 ∧ r = r' ∨ code = 1 ∧ k = 1 ∨ code = 2 ∧ k = 2 ∨ code = 3 ∧ k = 3) := by
  have hd0 := hd
  obtain ⟨hD, h1, h2, h3, h4⟩ := hd
  subst h1 h3
  have h15 := hD.1
  have n10 : ¬ (1 : Int32) = 0 := by decide
  have n20 : ¬ (2 : Int32) = 0 := by decide
  have n30 : ¬ (3 : Int32) = 0 := by decide
  unfold mX3_set mX4_set mX4_errorOfSet mX4_errorOfSet_50
  rw [d_cell, Option.bind_some, r_isCell, Option.bind_some, d_flt hD h2 hN, Option.bind_some, q_flt hD h4 hN, Option.bind_some]
  by_cases hp : 0 ≤ p0 ∧ p0 ≤ 29
  · obtain ⟨c, hc, rfl⟩ := cell_of hp
    rw [if_pos hp, if_pos rfl, decide_eq_true hp, if_neg bI_nt]
    have hfl := fI_none (o := flt 0 true D 0) (fun x hx => by have := flt_le D 0 true 0 x hx; omega)
    by_cases hf : flt 0 true D 0 = none
    · have hau := (flt_aut D 0 true 0).mp hf
      rw [if_pos (hfl.mpr hf), if_pos (hfl.mpr hf)]
      obtain ⟨m, em, hm⟩ := s_init (N := N) hD h2 hN
      have etf : mX0_toFormula N (nI D.length) ds = some (m, D.length, ds) := by
        unfold mX0_toFormula
        rw [if_neg (fun z => by
          rcases z with z | z
          · exact nI_pos (by omega) z
          · rw [nI_clamp (by omega)] at z; omega), nI_clamp (by omega), em, Option.bind_some]
      obtain ⟨m2, q, e2, hq, hq2⟩ := s_wd (fn := fn) (ff := ff) (N := N) (rD_E h.2.2.1) hN hm
      obtain ⟨m3, e3, hm3⟩ := r_refers (N := N) hD (n0 := 15) (o := 0) (f := dr) (fun i hi => by rw [Nat.zero_add]; exact h4 i hi) (by omega) (by omega) hN
      obtain ⟨m4, q4, e4, hq4, hq42⟩ := r_below (okSF_S h.1) h.2.2.2.1 hN hm3
      have e3' : mX4_refers N 15 dr 0 (nI D.length) = some m3 := e3
      have e4' : mX4_below N fm sz m3 = some m4 := e4
      rw [etf, Option.bind_some, e3', Option.bind_some, e4', Option.bind_some, mk_holds hq4 hc]
      dsimp only
      rw [e2, Option.bind_some, s_holds hq hc, Option.bind_some]
      have eqq : q c = q4 c := by
        rw [Bool.eq_iff_iff, hq2 c hc, hq42 c hc]
      rw [eqq]
      cases e5 : q4 c with
      | true =>
        rw [if_neg bI_nt, if_pos (show (if true = true then (1 : Int32) else 0) = 1 from rfl), Option.bind_some, r_holds, Option.bind_some, if_pos (show (bI (decide ((3 : Int32) = 0)), (3 : Int32)).1 = 0 by decide)]
        exact ⟨3, _, _, D, T, _, _, _, _, _, _, _, _, _, 3, rfl, rfl, hd0, h, .inr (.inr (.inr ⟨rfl, rfl⟩))⟩
      | false =>
        have hn : ¬ clo (EE T) (nm D) c := fun z => by rw [(hq42 c hc).mpr z] at e5; exact absurd e5 (by decide)
        rw [if_pos bI_f, if_neg (show ¬ (if false = true then (1 : Int32) else 0) = 1 by decide), Option.bind_some, r_holds, Option.bind_some, if_neg (show ¬ (bI (decide ((0 : Int32) = 0)), (0 : Int32)).1 = 0 by decide)]
        dsimp only
        refine q_set_l hc hD h4 (fm0 := fm) 0 fd (fun o => ∃ (code : Nat) (r r' : Int32) (D' : List Nat) (T' : Nat → List Nat) (dc' fd' : Int32) (fw' : Nat → Int32) (fn' : Nat → Nat) (ff' : Nat → Nat → Int32) (va' : Nat → Int64) (df' : Int32) (fm' sz' : Nat → Int32) (k : Nat), (mX3_give N m D.length ds fd fw fn ff va (nI c)).bind (fun x20 => some (0, x20.1, x20.2.1, (0 : Int32), x20.2.2.1, x20.2.2.2.1, x20.2.2.2.2.1, x20.2.2.2.2.2)) = some (code, r, fd', dc', fw', fn', ff', va') ∧ o = some (r', nI k, df', fd', fm', sz') ∧ dDR D' dc' ds df' dr ∧ dSH T' fw' fn' ff' va' fm' sz' ∧ (code = 0 ∧ k = 0 ∧ r = r' ∨ code = 1 ∧ k = 1 ∨ code = 2 ∧ k = 2 ∨ code = 3 ∧ k = 3)) (fun fm' g1 g2 => ?_) D.length 0 N fm (by omega) (by omega) (fun _ z => absurd z (Nat.not_lt_zero _)) (fun _ _ => rfl)
        obtain ⟨x, va', k1, k2, k3⟩ := s_give h hN hc ⟨hD, .inr hau⟩ hn hm h2 g1 g2 fd
        rw [k1, Option.bind_some, k2, Option.bind_some]
        exact ⟨0, _, _, [], _, _, _, _, _, _, _, _, _, _, 0, rfl, rfl, dDR_nil, k3, .inl ⟨rfl, rfl, rfl⟩⟩
    · rw [if_neg (fun z => hf (hfl.mp z)), if_neg (fun z => hf (hfl.mp z)), Option.bind_some, r_holds, Option.bind_some, if_pos (show (bI (decide ((2 : Int32) = 0)), (2 : Int32)).1 = 0 by decide)]
      exact ⟨2, _, _, D, T, _, _, _, _, _, _, _, _, _, 2, rfl, rfl, hd0, h, .inr (.inr (.inl ⟨rfl, rfl⟩))⟩
  · rw [if_neg hp, if_neg (show ¬ (1 : Nat) = 0 by decide), decide_eq_false hp, if_pos bI_f, Option.bind_some, r_holds, Option.bind_some, if_pos (show (bI (decide ((1 : Int32) = 0)), (1 : Int32)).1 = 0 by decide)]
    exact ⟨1, _, _, D, T, _, _, _, _, _, _, _, _, _, 1, rfl, rfl, hd0, h, .inr (.inl ⟨rfl, rfl⟩)⟩
end SETC
/-! layers -/
def dLY (Q : Nat → Nat → List Nat) (L : Nat) (ol : Int32) (qw : Nat → Int32) (qn : Nat → Nat) (qf : Nat → Nat → Int32) (la : Int32) (om os : Nat → Int32) : Prop := L ≤ 4 ∧ ol = nI L ∧ la = nI L ∧ ∀ i, i < L → okSF (Q i) ∧ acy (EE (Q i)) ∧ rD (Q i) (lay i qw) (lay i qn) (lay i qf) ∧ rR (Q i) (fun x => om (450 * i + x)) (lay i os)
section LAY
variable {N : Nat} {T : Nat → List Nat} {fw : Nat → Int32} {fn : Nat → Nat} {ff : Nat → Nat → Int32} {va : Nat → Int64} {fm sz : Nat → Int32} {Q : Nat → Nat → List Nat} {L : Nat} {ol la : Int32} {qw : Nat → Int32} {qn : Nat → Nat} {qf : Nat → Nat → Int32} {om os : Nat → Int32}
theorem c_keep (h : dLY Q L ol qw qn qf la om os) (th : Int32) : ∃ (code : Nat) (r r' : Int32) (L' : Nat) (ol' la' : Int32) (k : Nat), mX3_keep N ol = some (code, r, ol') ∧ mX4_keep N th la = some (r', nI k, la') ∧ dLY Q L' ol' qw qn qf la' om os ∧ (code = 0 ∧ k = 0 ∧ r = r' ∨ code = 3 ∧ k = 1) := by
  obtain ⟨h4, h1, h2, h3⟩ := h
  subst h1 h2
  unfold mX3_keep mX3_requireLayer mX4_keep mX4_keep_13
  rcases Nat.eq_zero_or_pos L with z | z
  · subst z
    rw [if_neg (show ¬ 0 < nI 0 by decide), Option.bind_some, if_neg (show ¬ (3 : Nat) = 0 by decide), if_pos (show nI 0 = 0 from rfl), r_holds, Option.bind_some, if_pos (show (bI (decide ((1 : Int32) = 0)), (1 : Int32)).1 = 0 by decide)]
    exact ⟨3, _, _, 0, _, _, 1, rfl, rfl, ⟨h4, rfl, rfl, h3⟩, .inr ⟨rfl, rfl⟩⟩
  · obtain ⟨L, rfl⟩ : ∃ y, L = y + 1 := ⟨L - 1, by omega⟩
    rw [if_pos (show 0 < nI (L + 1) from nI_lt (a := 0) (by omega) (by omega)), Option.bind_some, if_pos rfl, if_neg (nI_ne0 z (by omega)), r_holds, Option.bind_some, if_neg (show ¬ (bI (decide ((0 : Int32) = 0)), (0 : Int32)).1 = 0 by decide), nI_pred]
    exact ⟨0, _, _, L, _, _, 0, rfl, rfl, ⟨by omega, rfl, rfl, fun i hi => h3 i (by omega)⟩, .inl ⟨rfl, rfl, rfl⟩⟩
/-- layer L holds the sheet -/
def qA (Q : Nat → Nat → List Nat) (L : Nat) (T : Nat → List Nat) : Nat → Nat → List Nat := fun i => if i = L then T else Q i
theorem d_open_l (hL : L < 4) : ∀ (d k n : Nat) (qw : Nat → Int32) (qn : Nat → Nat) (qf : Nat → Nat → Int32), k + d = 30 → d < n → ∃ qw' qn' qf', mX3_open_28 N fw fn ff n (nI L) qw qn qf (nI (30 * L)) (nI k) = some (0, nI (L + 1), nI (L + 1), qw', qn', qf') ∧ (∀ x, k ≤ x → x < 30 → qw' (30 * L + x) = fw x ∧ qn' (30 * L + x) = fn x ∧ qf' (30 * L + x) = ff x) ∧ ∀ y, (y < 30 * L + k) → qw' y = qw y ∧ qn' y = qn y ∧ qf' y = qf y
  | _, _, 0, _, _, _, _, h => absurd h (Nat.not_lt_zero _)
  | 0, k, n + 1, qw, qn, qf, h1, h2 => by
    have : k = 30 := by omega
    subst this
    simp only [mX3_open_28, mX3_open_28_b]
    rw [if_pos (by decide), nI_1]
    exact ⟨qw, qn, qf, rfl, fun x a b => absurd b (by omega), fun _ _ => ⟨rfl, rfl, rfl⟩⟩
  | d + 1, k, n + 1, qw, qn, qf, h1, h2 => by
    have hk : k < 30 := by omega
    simp only [mX3_open_28, mX3_open_28_b]
    rw [if_neg (show ¬ (30 : Int32) ≤ nI k from nI_ge (a := k) (b := 30) (by omega) (by omega)), if_neg (nI_in hk (by omega)), nI_add, if_neg (nI_in (by omega) (by omega)), nI_clamp (by omega), nI_clamp (by omega), nI_1]
    obtain ⟨qw', qn', qf', e, g1, g2⟩ := d_open_l hL d (k + 1) n (va_up qw (30 * L + k) (fw k)) (va_up qn (30 * L + k) (fn k)) (va_up qf (30 * L + k) (ff k)) (by omega) (by omega)
    refine ⟨qw', qn', qf', e, fun x a b => ?_, fun y hy => ?_⟩
    · rcases Nat.lt_or_ge k x with z | z
      · exact g1 x z b
      · have : x = k := by omega
        subst this
        obtain ⟨a1, a2, a3⟩ := g2 (30 * L + x) (by omega)
        rw [a1, a2, a3, up_s, up_s, up_s]
        exact ⟨rfl, rfl, rfl⟩
    · obtain ⟨a1, a2, a3⟩ := g2 y (by omega)
      rw [a1, a2, a3, up_n (by omega), up_n (by omega), up_n (by omega)]
      exact ⟨rfl, rfl, rfl⟩
theorem q_open_2 (hL : L < 4) (th : Int32) (om : Nat → Int32) : ∀ (d k n : Nat) (os : Nat → Int32), k + d = 30 → d < n → ∃ os', mX4_open_60 N fm sz n th (nI L) om os (nI k) = some (nI (L + 1), th, nI (L + 1), om, os') ∧ (∀ x, k ≤ x → x < 30 → os' (30 * L + x) = sz x) ∧ ∀ y, (y < 30 * L + k) → os' y = os y
  | _, _, 0, _, _, h => absurd h (Nat.not_lt_zero _)
  | 0, k, n + 1, os, h1, h2 => by
    have : k = 30 := by omega
    subst this
    simp only [mX4_open_60, mX4_open_60_b]
    rw [if_pos (by decide), nI_1]
    exact ⟨os, rfl, fun x a b => absurd b (by omega), fun _ _ => rfl⟩
  | d + 1, k, n + 1, os, h1, h2 => by
    have hk : k < 30 := by omega
    simp only [mX4_open_60, mX4_open_60_b]
    rw [if_neg (show ¬ (30 : Int32) ≤ nI k from nI_ge (a := k) (b := 30) (by omega) (by omega)), if_neg (nI_in hk (by omega)), c_30, pk_mul, nI_add, if_neg (nI_in (by omega) (by omega)), nI_clamp (by omega), nI_clamp (by omega), nI_1]
    obtain ⟨os', e, g1, g2⟩ := q_open_2 hL th om d (k + 1) n (upd os (30 * L + k) (sz k)) (by omega) (by omega)
    refine ⟨os', e, fun x a b => ?_, fun y hy => ?_⟩
    · rcases Nat.lt_or_ge k x with z | z
      · exact g1 x z b
      · have : x = k := by omega
        subst this
        rw [g2 (30 * L + x) (by omega), pk_us]
    · rw [g2 y (by omega), pk_un (by omega)]
theorem q_open_1 (hL : L < 4) (hN : 500 ≤ N) (th : Int32) (os : Nat → Int32) : ∀ (d k n : Nat) (om : Nat → Int32), k + d = 450 → d < n → ∃ om' os', mX4_open_24 N fm sz n th (nI L) om os (nI k) = some (nI (L + 1), th, nI (L + 1), om', os') ∧ (∀ x, k ≤ x → x < 450 → om' (450 * L + x) = fm x) ∧ (∀ y, (y < 450 * L + k) → om' y = om y) ∧ (∀ x, x < 30 → os' (30 * L + x) = sz x) ∧ ∀ y, (y < 30 * L) → os' y = os y
  | _, _, 0, _, _, h => absurd h (Nat.not_lt_zero _)
  | 0, k, n + 1, om, h1, h2 => by
    have : k = 450 := by omega
    subst this
    simp only [mX4_open_24, mX4_open_24_b]
    rw [if_pos (by decide)]
    obtain ⟨os', e, g1, g2⟩ := q_open_2 (N := N) (fm := fm) (sz := sz) hL th om 30 0 N os rfl (by omega)
    exact ⟨om, os', e, fun x a b => absurd b (by omega), fun _ _ => rfl, fun x hx => g1 x (Nat.zero_le _) hx, fun y hy => g2 y (by omega)⟩
  | d + 1, k, n + 1, om, h1, h2 => by
    have hk : k < 450 := by omega
    simp only [mX4_open_24, mX4_open_24_b]
    rw [if_neg (show ¬ (450 : Int32) ≤ nI k from nI_ge (a := k) (b := 450) (by omega) (by omega)), if_neg (nI_in hk (by omega)), show (450 : Int32) = nI 450 from rfl, pk_mul, nI_add, if_neg (nI_in (by omega) (by omega)), nI_clamp (by omega), nI_clamp (by omega), nI_1]
    obtain ⟨om', os', e, g1, g2, g3, g4⟩ := q_open_1 hL hN th os d (k + 1) n (upd om (450 * L + k) (fm k)) (by omega) (by omega)
    refine ⟨om', os', e, fun x a b => ?_, fun y hy => ?_, g3, g4⟩
    · rcases Nat.lt_or_ge k x with z | z
      · exact g1 x z b
      · have : x = k := by omega
        subst this
        rw [g2 (450 * L + x) (by omega), pk_us]
    · rw [g2 y (by omega), pk_un (by omega)]
theorem c_open (h : dLY Q L ol qw qn qf la om os) (hs : dSH T fw fn ff va fm sz) (hN : 500 ≤ N) (th : Int32) : ∃ (code : Nat) (r r' : Int32) (Q' : Nat → Nat → List Nat) (L' : Nat) (ol' la' : Int32) (qw' : Nat → Int32) (qn' : Nat → Nat) (qf' : Nat → Nat → Int32) (om' os' : Nat → Int32) (k : Nat), mX3_open N fw fn ff ol qw qn qf = some (code, r, ol', qw', qn', qf') ∧ mX4_open N fm sz th la om os = some (r', nI k, la', om', os') ∧ dLY Q' L' ol' qw' qn' qf' la' om' os' ∧ (code = 0 ∧ k = 0 ∧ r = r' ∨ code = 3 ∧ k = 1) := by
  obtain ⟨h4, h1, h2, h3⟩ := h
  subst h1 h2
  unfold mX3_open mX4_open mX4_open_14
  by_cases hL : L < 4
  · rw [if_pos (show nI L < (4 : Int32) from nI_lt (b := 4) hL (by omega)), if_neg (show ¬ nI L = (4 : Int32) from nI_neq (b := 4) (by omega) (by omega) (by omega)), r_holds, Option.bind_some, if_neg (show ¬ (bI (decide ((0 : Int32) = 0)), (0 : Int32)).1 = 0 by decide), c_30, pk_mul, Nat.mul_comm L 30]
    obtain ⟨qw', qn', qf', e1, a1, a2⟩ := d_open_l (N := N) (fw := fw) (fn := fn) (ff := ff) hL 30 0 N qw qn qf rfl (by omega)
    obtain ⟨om', os', e2, b1, b2, b3, b4⟩ := q_open_1 (N := N) (fm := fm) (sz := sz) hL hN 0 os 450 0 N om rfl (by omega)
    have e1' : mX3_open_28 N fw fn ff N (nI L) qw qn qf (nI (30 * L)) 0 = _ := e1
    have e2' : mX4_open_24 N fm sz N th (nI L) om os 0 = mX4_open_24 N fm sz N th (nI L) om os (nI 0) := rfl
    refine ⟨0, _, _, qA Q L T, L + 1, _, _, qw', qn', qf', om', os', 0, e1', e2, ⟨by omega, rfl, rfl, fun i hi => ?_⟩, .inl ⟨rfl, rfl, rfl⟩⟩
    by_cases ei : i = L
    · subst ei
      have eq : qA Q i T i = T := if_pos rfl
      rw [eq]
      refine ⟨hs.1, hs.2.1, fun k hk => ?_, fun k hk => ?_⟩
      · obtain ⟨c1, c2, c3⟩ := a1 k (Nat.zero_le _) hk
        unfold lay
        rw [c1, c2, c3]
        exact hs.2.2.1 k hk
      · have h15 := (hs.1 k hk).1.1
        unfold lay
        rw [b3 k hk]
        refine ⟨(hs.2.2.2.1 k hk).1, fun x hx => ?_⟩
        dsimp only
        rw [b1 (15 * k + x) (Nat.zero_le _) (by omega)]
        exact (hs.2.2.2.1 k hk).2 x hx
    · have eq : qA Q L T i = Q i := if_neg ei
      rw [eq]
      obtain ⟨g1, g2, g3, g4⟩ := h3 i (by omega)
      refine ⟨g1, g2, fun k hk => ?_, fun k hk => ?_⟩
      · have := g3 k hk
        unfold lay at this ⊢
        obtain ⟨c1, c2, c3⟩ := a2 (30 * i + k) (by omega)
        rw [c1, c2, c3]
        exact this
      · have h15 := (g1 k hk).1.1
        have := g4 k hk
        unfold lay at this ⊢
        rw [b4 (30 * i + k) (by omega)]
        refine ⟨this.1, fun x hx => ?_⟩
        dsimp only
        rw [b2 (450 * i + (15 * k + x)) (by omega)]
        exact this.2 x hx
  · have : L = 4 := by omega
    subst this
    rw [if_neg (show ¬ nI 4 < (4 : Int32) by decide), if_pos (show nI 4 = (4 : Int32) from rfl), r_holds, Option.bind_some, if_pos (show (bI (decide ((1 : Int32) = 0)), (1 : Int32)).1 = 0 by decide)]
    exact ⟨3, _, _, Q, 4, _, _, _, _, _, _, _, 1, rfl, rfl, ⟨h4, rfl, rfl, h3⟩, .inr ⟨rfl, rfl⟩⟩
end LAY
