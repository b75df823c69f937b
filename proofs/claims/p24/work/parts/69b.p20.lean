/-! what asks, and seek -/
section STEP2
variable {N : Nat} {σ : St} {ol fd dc : Int32} {ds fw : Nat → Int32} {fn : Nat → Nat} {ff : Nat → Nat → Int32} {qw : Nat → Int32} {qn : Nat → Nat} {qf : Nat → Nat → Int32} {va : Nat → Int64}
theorem r_value (h : rp σ ol fd dc ds fw fn ff qw qn qf va) (N : Nat) (p : Int32) : ∃ (code : Nat) (r : Int64), mX3_value N va p = some (code, r) ∧ (code = 0 ∧ aValue σ p = some r ∨ (code = 1 ∧ ¬ (0 ≤ p ∧ p ≤ 29) ∨ code = 4) ∧ aValue σ p = none) := by
  obtain ⟨T, Q, D, L, F⟩ := σ
  obtain ⟨hd, h, h4, h5⟩ := h
  dsimp only at hd h h4 h5
  unfold mX3_value aValue
  dsimp only
  rw [d_cell, Option.bind_some]
  by_cases hp : 0 ≤ p ∧ p ≤ 29
  · obtain ⟨c, hc, rfl⟩ := cell_of hp
    have hri : ¬ (nI c < 0 ∨ 30 ≤ (nI c).toNatClampNeg) := nI_in hc (by omega)
    have hri2 : ¬ (nI c < 0 ∨ 30 ≤ c) := fun z => by
      rcases z with z | z
      · exact nI_pos (by omega) z
      · omega
    have hok := VV_ok (okSF_S h.1) c hc
    rw [if_pos hp, if_pos rfl, if_neg hri, nI_clamp (by omega), h.2.2.2 c hc, d_rv N hok, Option.bind_some, if_pos hp, tn_nI (by omega)]
    cases ev : VV T c with
    | none =>
      rw [if_pos rfl, if_neg (show ¬ (4 : Nat) = 0 by decide)]
      exact ⟨4, _, rfl, .inr ⟨.inr rfl, rfl⟩⟩
    | some z =>
      rw [if_neg (show ¬ (some z : Option Int) = none from fun y => nomatch y), if_pos rfl, if_neg hri2]
      exact ⟨0, _, rfl, .inl ⟨rfl, rfl⟩⟩
  · rw [if_neg hp, if_neg (show ¬ (1 : Nat) = 0 by decide), if_neg hp]
    exact ⟨1, _, rfl, .inr ⟨.inl ⟨rfl, hp⟩, rfl⟩⟩
theorem r_valueAnew (h : rp σ ol fd dc ds fw fn ff qw qn qf va) (hN : 31 ≤ N) (tr : Nat → Int64) (p : Int32) : ∃ (code : Nat) (r : Int64) (tr' : Nat → Int64), mX3_valueAnew N fw fn ff tr p = some (code, r, tr') ∧ (code = 0 ∧ aValue σ p = some r ∨ (code = 1 ∧ ¬ (0 ≤ p ∧ p ≤ 29) ∨ code = 4) ∧ aValue σ p = none) := by
  obtain ⟨T, Q, D, L, F⟩ := σ
  obtain ⟨hd, h, h4, h5⟩ := h
  dsimp only at hd h h4 h5
  unfold mX3_valueAnew mX3_only aValue
  dsimp only
  rw [d_cell, Option.bind_some, Option.bind_some]
  by_cases hp : 0 ≤ p ∧ p ≤ 29
  · obtain ⟨c, hc, rfl⟩ := cell_of hp
    obtain ⟨m, q, em, hm, hq⟩ := s_wd (fn := fn) (ff := ff) (N := N) (rD_E h.2.2.1) (by omega) (mk_only hc)
    obtain ⟨va', e3, _, e4⟩ := s_wo (va0 := tr) (N := N) h.1 h.2.1 h.2.2.1 (by omega) hm (fun c1 j hc1 hj y1 y2 => .inl ((hq j hj).mpr (clo_st hc1 hj ((hq c1 hc1).mp y1) y2)))
    have hqc : q c = true := (hq c hc).mpr (clo_in hc (by simp))
    have hri : ¬ (nI c < 0 ∨ 30 ≤ (nI c).toNatClampNeg) := nI_in hc (by omega)
    have hri2 : ¬ (nI c < 0 ∨ 30 ≤ c) := fun z => by
      rcases z with z | z
      · exact nI_pos (by omega) z
      · omega
    have hok := VV_ok (okSF_S h.1) c hc
    rw [if_pos hp, if_pos rfl, em, Option.bind_some, e3, Option.bind_some, if_neg hri, nI_clamp (by omega), e4 c hc hqc, d_rv N hok, Option.bind_some, if_pos hp, tn_nI (by omega)]
    cases ev : VV T c with
    | none =>
      rw [if_pos rfl, if_neg (show ¬ (4 : Nat) = 0 by decide)]
      exact ⟨4, _, _, rfl, .inr ⟨.inr rfl, rfl⟩⟩
    | some z =>
      rw [if_neg (show ¬ (some z : Option Int) = none from fun y => nomatch y), if_pos rfl, if_neg hri2]
      exact ⟨0, _, _, rfl, .inl ⟨rfl, rfl⟩⟩
  · rw [if_neg hp, if_neg (show ¬ (1 : Nat) = 0 by decide), if_neg hp]
    exact ⟨1, _, _, rfl, .inr ⟨.inl ⟨rfl, hp⟩, rfl⟩⟩
theorem r_signs (h : rp σ ol fd dc ds fw fn ff qw qn qf va) (N : Nat) (p : Int32) : ∃ (code : Nat) (r : Int32), mX3_signs N fw fn ff p = some (code, r) ∧ (code = 0 ∧ aSigns σ p = some r ∨ code = 1 ∧ aSigns σ p = none) := by
  obtain ⟨T, Q, D, L, F⟩ := σ
  obtain ⟨hd, h, h4, h5⟩ := h
  dsimp only at hd h h4 h5
  unfold mX3_signs aSigns
  dsimp only
  rw [d_cell, Option.bind_some]
  by_cases hp : 0 ≤ p ∧ p ≤ 29
  · obtain ⟨c, hc, rfl⟩ := cell_of hp
    rw [if_pos hp, if_pos rfl, if_neg (nI_in hc (by omega)), nI_clamp (by omega), (h.2.2.1 c hc).2.1, if_pos hp, tn_nI (by omega)]
    exact ⟨0, _, rfl, .inl ⟨rfl, rfl⟩⟩
  · rw [if_neg hp, if_neg (show ¬ (1 : Nat) = 0 by decide), if_neg hp]
    exact ⟨1, _, rfl, .inr ⟨rfl, rfl⟩⟩
theorem r_level (h : rp σ ol fd dc ds fw fn ff qw qn qf va) (hN : 31 ≤ N) (p : Int32) : ∃ (code : Nat) (r : Int32), mX3_level N fw fn ff p = some (code, r) ∧ (code = 0 ∧ aLevel σ p = some r ∨ code = 1 ∧ aLevel σ p = none) := by
  obtain ⟨T, Q, D, L, F⟩ := σ
  obtain ⟨hd, h, h4, h5⟩ := h
  dsimp only at hd h h4 h5
  unfold mX3_level aLevel
  dsimp only
  rw [d_cell, Option.bind_some]
  by_cases hp : 0 ≤ p ∧ p ≤ 29
  · obtain ⟨c, hc, rfl⟩ := cell_of hp
    obtain ⟨rk, hb, hr⟩ := acy_b h.2.1
    have e1 := t_lev_l (fn := fn) (ff := ff) (N := N) (rD_E h.2.2.1) hN hr 30 0 N 31 _ (fw c) (by omega) (by omega) (by omega) (h.2.2.1 c hc).1 (fun i hi z => by
      have := hr c i hc hi z
      have := hb c
      omega)
    have e1' : mX3_level_16 N fw fn ff N 0 (fw c) = some (0, nI (0 + lvI (EE T) 31 (EE T c))) := e1
    rw [if_pos hp, if_pos rfl, if_neg (nI_in hc (by omega)), nI_clamp (by omega), e1', if_pos hp, tn_nI (by omega), Nat.zero_add]
    exact ⟨0, _, rfl, .inl ⟨rfl, rfl⟩⟩
  · rw [if_neg hp, if_neg (show ¬ (1 : Nat) = 0 by decide), if_neg hp]
    exact ⟨1, _, rfl, .inr ⟨rfl, rfl⟩⟩
theorem t_dep {T : Nat → List Nat} (h : rSH T fw fn ff va) (hN : 31 ≤ N) {i j : Nat} (hi : i < 30) (hj : j < 30) : mX3_dependsOn N fw fn ff (nI i) (nI j) = some (bI (decide (i ≠ j) && belB (EE T) i j)) := by
  obtain ⟨x, e1, e2, e3⟩ := s_dep (fn := fn) (ff := ff) (N := N) (rD_E h.2.2.1) hN hi hj
  rw [e1]
  congr 1
  cases e : (decide (i ≠ j) && belB (EE T) i j) with
  | true =>
    rw [Bool.and_eq_true] at e
    exact e3.mpr ⟨of_decide_eq_true e.1, belB_iff.mp e.2⟩
  | false =>
    rcases e2 with z | z
    · exact z
    · obtain ⟨a, b⟩ := e3.mp z
      rw [decide_eq_true a, belB_iff.mpr b] at e
      exact absurd e (by decide)
theorem r_depends (h : rp σ ol fd dc ds fw fn ff qw qn qf va) (hN : 31 ≤ N) (p q : Int32) : ∃ (code : Nat) (r : Int32), mX3_depends N fw fn ff p q = some (code, r) ∧ (code = 0 ∧ aDep σ p q = some r ∨ code = 1 ∧ aDep σ p q = none) := by
  obtain ⟨T, Q, D, L, F⟩ := σ
  obtain ⟨hd, h, h4, h5⟩ := h
  dsimp only at hd h h4 h5
  unfold mX3_depends aDep
  dsimp only
  rw [d_cell, Option.bind_some, d_cell]
  by_cases hp : 0 ≤ p ∧ p ≤ 29
  · obtain ⟨c, hc, rfl⟩ := cell_of hp
    rw [if_pos hp, if_pos rfl, Option.bind_some]
    by_cases hq : 0 ≤ q ∧ q ≤ 29
    · obtain ⟨d, hd', rfl⟩ := cell_of hq
      rw [if_pos hq, if_pos rfl, t_dep h hN hc hd', Option.bind_some, if_pos (r_bI01 _), if_pos (And.intro hp hq), tn_nI (by omega), tn_nI (by omega)]
      exact ⟨0, _, rfl, .inl ⟨rfl, rfl⟩⟩
    · rw [if_neg hq, if_neg (show ¬ (1 : Nat) = 0 by decide), if_neg (fun z => hq z.2)]
      exact ⟨1, _, rfl, .inr ⟨rfl, rfl⟩⟩
  · rw [if_neg hp, if_neg (show ¬ (1 : Nat) = 0 by decide), if_neg (fun z => hp z.1)]
    exact ⟨1, _, rfl, .inr ⟨rfl, rfl⟩⟩
theorem r_faulty (h : rp σ ol fd dc ds fw fn ff qw qn qf va) (hN : 31 ≤ N) : mX3_faulty N va = some (aFaulty σ) := by
  have e1 := d_fy_l (N := N) (VV_ok (okSF_S h.2.1.1)) h.2.1.2.2.2 30 0 N rfl (by omega)
  exact e1
theorem r_seek (h : rp σ ol fd dc ds fw fn ff qw qn qf va) (hN : 1000001 ≤ N) (tr : Nat → Int64) (p0 p1 p2 p3 p4 : Int32) : ∃ (code : Nat) (r fd' : Int32) (fw' : Nat → Int32) (fn' : Nat → Nat) (ff' : Nat → Nat → Int32) (va' tr' : Nat → Int64), mX3_seek N fd fw fn ff va tr p0 p1 p2 p3 p4 = some (code, r, fd', fw', fn', ff', va', tr') ∧ rp (aSeek σ p0 p1 p2 p3 p4).2 ol fd' dc ds fw' fn' ff' qw qn qf va' ∧ (code = 0 ∧ (aSeek σ p0 p1 p2 p3 p4).1 = some r ∨ (code = 1 ∨ code = 2 ∨ code = 3 ∨ code = 5) ∧ (aSeek σ p0 p1 p2 p3 p4).1 = none) := by
  have h0 := h
  have err : ∀ (code : Nat) (tr' : Nat → Int64), (aSeek σ p0 p1 p2 p3 p4) = (none, σ) → (code = 1 ∨ code = 2 ∨ code = 3 ∨ code = 5) → mX3_seek N fd fw fn ff va tr p0 p1 p2 p3 p4 = some (code, 0, fd, fw, fn, ff, va, tr') → ∃ (code : Nat) (r fd' : Int32) (fw' : Nat → Int32) (fn' : Nat → Nat) (ff' : Nat → Nat → Int32) (va' tr' : Nat → Int64), mX3_seek N fd fw fn ff va tr p0 p1 p2 p3 p4 = some (code, r, fd', fw', fn', ff', va', tr') ∧ rp (aSeek σ p0 p1 p2 p3 p4).2 ol fd' dc ds fw' fn' ff' qw qn qf va' ∧ (code = 0 ∧ (aSeek σ p0 p1 p2 p3 p4).1 = some r ∨ (code = 1 ∨ code = 2 ∨ code = 3 ∨ code = 5) ∧ (aSeek σ p0 p1 p2 p3 p4).1 = none) := by
    intro code tr' h1 h2 h3
    rw [h1]
    exact ⟨code, 0, fd, fw, fn, ff, va, tr', h3, h0, .inr ⟨h2, rfl⟩⟩
  have bad : ¬ skok σ p0 p1 p2 p3 p4 → aSeek σ p0 p1 p2 p3 p4 = (none, σ) := fun z => if_neg z
  obtain ⟨T, Q, D, L, F⟩ := σ
  obtain ⟨hdr, h, hly, hfd⟩ := h
  dsimp only at hdr h hly hfd
  by_cases hp0 : 0 ≤ p0 ∧ p0 ≤ 29
  · by_cases hp2 : 0 ≤ p2 ∧ p2 ≤ 29
    · obtain ⟨g, hg, rfl⟩ := cell_of hp0
      obtain ⟨i, hi, rfl⟩ := cell_of hp2
      by_cases hr : (-1000000000 ≤ p1 ∧ p1 ≤ 1000000000) ∧ (0 ≤ p3 ∧ p3 ≤ 999999) ∧ (p3 ≤ p4 ∧ p4 ≤ 999999)
      · have hr0 := hr
        obtain ⟨⟨a1, a2⟩, ⟨a3, a4⟩, a5, a6⟩ := hr
        have hii : ¬ (nI i < 0 ∨ 30 ≤ (nI i).toNatClampNeg) := nI_in hi (by omega)
        have hcan := s_can N (w := fw i) (h.1 i hi).1 (h.2.2.1 i hi).2.1 (h.2.2.1 i hi).2.2
        have hd : mX3_seek N fd fw fn ff va tr (nI g) p1 (nI i) p3 p4 = (if bI (canB (T i)) = 0 then some (3, 0, fd, fw, fn, ff, va, tr) else ((mX3_dependsOn N fw fn ff (nI g) (nI i)).bind fun x16 => (if x16 = 0 then some (3, 0, fd, fw, fn, ff, va, tr) else ((mX3_search N fw fn ff va tr (nI g) p1 (nI i) p3 p4).bind fun x19 => (if x19.1 = (-1 : Int32) then some (5, 0, fd, fw, fn, ff, va, x19.2) else ((mX3_loneNumber N x19.1).bind fun x22 => ((mX3_give N x22.1 x22.2.1 x22.2.2 fd fw fn ff va (nI i)).bind fun x30 => some (0, x19.1, x30.2.1, x30.2.2.1, x30.2.2.2.1, x30.2.2.2.2.1, x30.2.2.2.2.2, x19.2)))))))) := by
          unfold mX3_seek
          rw [d_cell, Option.bind_some, if_pos (cell_is hg), if_pos rfl, d_cell, Option.bind_some, if_pos (cell_is hi), if_pos rfl, if_neg (fun z => (fa_of_lt z).2.1 a1), if_pos a2, if_neg (fun z => (fa_of_lt z).2.1 a3), if_neg (fun z => (fa_of_lt z).2.1 a5), if_pos a6, if_neg hii, nI_clamp (n := i) (by omega), hcan, Option.bind_some]
        cases hcb : canB (T i) with
        | false =>
          refine err 3 tr (bad (fun z => ?_)) (.inr (.inr (.inl rfl))) ?_
          · have := z.2.2.1
            rw [tn_nI (by omega)] at this
            rw [this] at hcb; exact absurd hcb (by decide)
          · rw [hd, hcb, if_pos bI_f]
        | true =>
          rw [hcb, if_neg bI_nt, t_dep h (by omega) hg hi, Option.bind_some] at hd
          cases edp : (decide (g ≠ i) && belB (EE T) g i) with
          | false =>
            refine err 3 tr (bad (fun z => ?_)) (.inr (.inr (.inl rfl))) ?_
            · have := z.2.2.2
              rw [tn_nI (by omega), tn_nI (by omega)] at this
              rw [decide_eq_true this.1, this.2] at edp; exact absurd edp (by decide)
            · rw [hd, edp, if_pos bI_f]
          | true =>
            rw [edp, if_neg bI_nt] at hd
            rw [Bool.and_eq_true] at edp
            have e1 : g ≠ i := of_decide_eq_true edp.1
            have e2 := belB_iff.mp edp.2
            obtain ⟨lo, hlo, rfl⟩ := num_of ⟨a3, a4⟩
            have a7 : (0 : Int32) ≤ p4 := by
              rw [fa_le] at a3 a5 ⊢; omega
            obtain ⟨hi', hhi, rfl⟩ := num_of ⟨a7, a6⟩
            have hlh : lo ≤ hi' := (nI_leI (by omega) (by omega)).mp a5
            obtain ⟨tr', s1⟩ := t_search h hN hg hi e1 e2 p1 hlh hhi tr
            rw [s1, Option.bind_some] at hd
            have hok : skok (T, Q, D, L, F) (nI g) p1 (nI i) (nI lo) (nI hi') := ⟨⟨hp0, hp2⟩, hr0, by show canB (T (tn (nI i))) = true; rw [tn_nI (by omega)]; exact hcb, by show tn (nI g) ≠ tn (nI i) ∧ belB (EE T) (tn (nI g)) (tn (nI i)) = true; rw [tn_nI (by omega), tn_nI (by omega)]; exact ⟨e1, edp.2⟩⟩
            have hsk : aSeek (T, Q, D, L, F) (nI g) p1 (nI i) (nI lo) (nI hi') = (match sk (fun x => VV (sT T i [36 + x]) g) p1.toInt lo hi' with
                | some k => (some (nI k), (aGive (T, Q, D, L, F) i [36 + k] D).2)
                | none => (none, (T, Q, D, L, F))) := by
              unfold aSeek skV
              rw [if_pos hok, tn_nI (n := g) (by omega), tn_nI (n := i) (by omega), tn_nI (n := lo) (by omega), tn_nI (n := hi') (by omega)]
              rfl
            cases es : sk (fun x => VV (sT T i [36 + x]) g) p1.toInt lo hi' with
            | none =>
              rw [es] at hsk hd
              refine err 5 tr' hsk (.inr (.inr (.inr rfl))) ?_
              rw [hd]
              dsimp only
              rw [if_pos (show rI none = (-1 : Int32) from rfl)]
            | some k =>
              have hk := sk_le hlh es
              rw [es] at hsk hd
              have hne : ¬ rI (some k) = (-1 : Int32) := fun y => by
                have h2 := congrArg Int32.toInt y
                rw [show rI (some k) = nI k from rfl, nI_toInt (by omega), show (-1 : Int32).toInt = -1 by decide] at h2
                omega
              obtain ⟨w, f, va', p1', p2', p4'⟩ := t_put h (N := N) (by omega) hi (k := k) (by omega) fd
              have p1'' : mX3_loneNumber N (rI (some k)) = _ := p1'
              dsimp only at hd
              rw [if_neg hne, p1'', Option.bind_some] at hd
              dsimp only at hd
              rw [p2', Option.bind_some] at hd
              rw [hsk]
              exact ⟨0, _, _, _, _, _, _, _, hd, ⟨hdr, p4', hly, by rw [hfd]; rfl⟩, .inl ⟨rfl, rfl⟩⟩
      · refine err 2 tr (bad (fun z => hr z.2.1)) (.inr (.inl rfl)) ?_
        unfold mX3_seek mX3_seek_20 mX3_seek_49
        rw [d_cell, Option.bind_some, if_pos (cell_is hg), if_pos rfl, d_cell, Option.bind_some, if_pos (cell_is hi), if_pos rfl]
        by_cases b1 : p1 < (-1000000000 : Int32)
        · rw [if_pos b1]
        · rw [if_neg b1]
          by_cases b2 : p1 ≤ (1000000000 : Int32)
          · rw [if_pos b2]
            by_cases b3 : p3 < 0
            · rw [if_pos b3]
            · rw [if_neg b3]
              by_cases b4 : p4 < p3
              · rw [if_pos b4]
              · rw [if_neg b4]
                by_cases b5 : p4 ≤ (999999 : Int32)
                · exfalso
                  apply hr
                  have c4 := fa_of_nlt b4
                  refine ⟨⟨fa_of_nlt b1, b2⟩, ⟨fa_of_nlt b3, ?_⟩, c4, b5⟩
                  rw [fa_le] at c4 b5 ⊢; omega
                · rw [if_neg b5]
          · rw [if_neg b2]
    · obtain ⟨g, hg, rfl⟩ := cell_of hp0
      refine err 1 tr (bad (fun z => hp2 z.1.2)) (.inl rfl) ?_
      unfold mX3_seek
      rw [d_cell, Option.bind_some, if_pos (cell_is hg), if_pos rfl, d_cell, Option.bind_some, if_neg hp2, if_neg (show ¬ (1 : Nat) = 0 by decide)]
  · refine err 1 tr (bad (fun z => hp0 z.1.1)) (.inl rfl) ?_
    unfold mX3_seek
    rw [d_cell, Option.bind_some, if_neg hp0, if_neg (show ¬ (1 : Nat) = 0 by decide)]
end STEP2
