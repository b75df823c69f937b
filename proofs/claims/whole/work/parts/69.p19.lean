/-! seek -/
def canB (l : List Nat) : Bool := decide (l.length = 0 ∨ l.length = 1 ∧ 36 ≤ tk l 0)
section SK
variable {N : Nat} {T : Nat → List Nat} {fw : Nat → Int32} {fn : Nat → Nat} {ff : Nat → Nat → Int32} {va : Nat → Int64} {fm sz : Nat → Int32}
theorem s_can (N : Nat) {w : Int32} {n : Nat} {f : Nat → Int32} {l : List Nat} (hl : okT l) (hn : n = l.length) (hf : ∀ i, i < l.length → f i = nI (tk l i)) : mX1_canBeInput N w n f = some (bI (canB l)) := by
  have h15 := hl.1
  unfold mX1_canBeInput mX1_canBeInput_28 mX1_canBeInput_32 mX1_canBeInput_33 canB
  subst hn
  by_cases h0 : l.length = 0
  · rw [if_pos (show nI l.length = 0 by rw [h0]; rfl), decide_eq_true (.inl h0)]; rfl
  · rw [if_neg (nI_ne0 (by omega) (by omega))]
    by_cases h1 : l.length = 1
    · have hc := hl.2 0 (by omega)
      have e0 : f (0 : Int32).toNatClampNeg = nI (tk l 0) := hf 0 (by omega)
      rw [if_pos (show nI l.length = 1 by rw [h1]; rfl), if_neg (show ¬ ((0 : Int32) < 0 ∨ l.length ≤ (0 : Int32).toNatClampNeg) from nI_in (c := 0) (N := l.length) (by omega) (by omega)), e0]
      by_cases h36 : tk l 0 < 36
      · rw [if_pos (show nI (tk l 0) < (36 : Int32) from nI_lt (b := 36) h36 (by omega)), decide_eq_false (by omega)]; rfl
      · rw [if_neg (show ¬ nI (tk l 0) < (36 : Int32) from nI_nlt (b := 36) (by omega) (by omega)), decide_eq_true (by omega)]; rfl
    · rw [if_neg (show ¬ nI l.length = 1 from nI_neq (b := 1) (by omega) (by omega) h1), decide_eq_false (by omega)]; rfl
/-- what the reference finds amiss -/
theorem q_seek_err (th fd he wt br : Int32) (st wa : Nat → Int32) (rv sk : Nat → Int64) {p0 p1 p2 p3 p4 : Int32} {e : Nat} (he1 : 0 < e) (he2 : e < 10) (h : mX4_errorOfSeek N fm sz p0 p1 p2 p3 p4 = some (nI e)) : mX4_seek N th fd he wt br fm sz st wa rv sk p0 p1 p2 p3 p4 = some (0, nI e, fd, he, wt, br, fm, sz, st, wa, rv, sk) := by
  unfold mX4_seek mX4_seek_33 mX4_seek_57
  have hne : ¬ nI e = 0 := nI_ne0 he1 (by omega)
  rw [h, Option.bind_some, if_neg hne, if_neg (nI_nle he1 (by omega)), r_holds, Option.bind_some, if_pos (h_nz _ hne)]
theorem q_err_in (h : dSH T fw fn ff va fm sz) {g i : Nat} (hg : g < 30) (hi : i < 30) {p1 p3 p4 : Int32} (hr : (-1000000000 ≤ p1 ∧ p1 ≤ 1000000000) ∧ (0 ≤ p3 ∧ p3 ≤ 999999) ∧ (p3 ≤ p4 ∧ p4 ≤ 999999)) : mX4_errorOfSeek N fm sz (nI g) p1 (nI i) p3 p4 = if canB (T i) = true then ((mX4_doesDepend N fm sz (nI g) (nI i)).bind fun x1 => (if x1 = 0 then some 3 else some 0)) else some 3 := by
  obtain ⟨r1, r2, r3⟩ := hr
  have h15 := (h.1 i hi).1.1
  have hii : ¬ (nI i < 0 ∨ 30 ≤ (nI i).toNatClampNeg) := nI_in hi (by omega)
  unfold mX4_errorOfSeek mX4_errorOfSeek_14 mX4_errorOfSeek_50 mX4_errorOfSeek_85 mX4_errorOfSeek_89 mX4_errorOfSeek_90 mX4_errorOfSeek_110 mX4_errorOfSeek_111
  rw [r_isCell, Option.bind_some, decide_eq_true (cell_is hg), if_neg bI_nt, r_isCell, Option.bind_some, decide_eq_true (cell_is hi), if_neg bI_nt, r_in, Option.bind_some, decide_eq_true r1, if_neg bI_nt, r_in, Option.bind_some, decide_eq_true r2, if_neg bI_nt, r_in, Option.bind_some, decide_eq_true r3, if_neg bI_nt, if_neg hii, if_neg hii, nI_clamp (n := i) (by omega), (h.2.2.2.1 i hi).1, c_15, pk_mul, if_neg (nI_in (by omega) (by omega)), nI_clamp (n := 15 * i) (by omega)]
  unfold canB
  have n1 : ¬ (1 : Int32) = 0 := by decide
  by_cases h0 : (T i).length = 0
  · rw [if_pos (show nI (T i).length = 0 by rw [h0]; rfl), if_neg n1, if_pos (decide_eq_true (.inl h0))]
  · rw [if_neg (nI_ne0 (by omega) (by omega))]
    by_cases h1 : (T i).length = 1
    · have hc := (h.1 i hi).1.2 0 (by omega)
      have ef : fm (15 * i) = nI (cv (tk (T i) 0)) := (h.2.2.2.1 i hi).2 0 (by omega)
      have hcv := cv_lt hc
      rw [if_pos (show nI (T i).length = 1 by rw [h1]; rfl), ef]
      by_cases h36 : tk (T i) 0 < 36
      · have hlt : 1000000 ≤ cv (tk (T i) 0) := by unfold cv; split <;> (try split) <;> omega
        rw [if_pos (show (1000000 : Int32) ≤ nI (cv (tk (T i) 0)) from nI_le (a := 1000000) hlt (by omega)), if_pos (show (0 : Int32) = 0 from rfl), if_neg (fun z => by have := of_decide_eq_true z; omega)]
      · have hlt : cv (tk (T i) 0) < 1000000 := by unfold cv; rw [if_neg (by omega), if_neg h36]; omega
        rw [if_neg (show ¬ (1000000 : Int32) ≤ nI (cv (tk (T i) 0)) from nI_ge (b := 1000000) hlt (by omega)), if_neg n1, if_pos (decide_eq_true (.inr ⟨h1, by omega⟩))]
    · rw [if_neg (show ¬ nI (T i).length = 1 from nI_neq (b := 1) (by omega) (by omega) h1), if_pos (show (0 : Int32) = 0 from rfl), if_neg (fun z => by have := of_decide_eq_true z; omega)]
theorem c_seek (h : dSH T fw fn ff va fm sz) (hN : 1000001 ≤ N) (fd : Int32) (tr : Nat → Int64) (th he wt br : Int32) (st wa : Nat → Int32) (rv sk : Nat → Int64) (p0 p1 p2 p3 p4 : Int32) :
    ∃ (code : Nat) (r r' : Int32) (T' : Nat → List Nat) (fd' : Int32) (fw' : Nat → Int32) (fn' : Nat → Nat) (ff' : Nat → Nat → Int32) (va' tr' : Nat → Int64) (he' wt' br' : Int32) (fm' sz' st' wa' : Nat → Int32) (rv' sk' : Nat → Int64) (k : Nat), mX3_seek N fd fw fn ff va tr p0 p1 p2 p3 p4 = some (code, r, fd', fw', fn', ff', va', tr') ∧ mX4_seek N th fd he wt br fm sz st wa rv sk p0 p1 p2 p3 p4 = some (r', nI k, fd', he', wt', br', fm', sz', st', wa', rv', sk') ∧ dSH T' fw' fn' ff' va' fm' sz' ∧ (code = 0 ∧ k = 0 ∧ r = r' ∨ code = 1 ∧ k = 1 ∨ code = 2 ∧ k = 2 ∨ code = 3 ∧ k = 3 ∨ code = 5 ∧ k = 4) := by
  have err : ∀ (code e : Nat), 0 < e → e < 10 → mX3_seek N fd fw fn ff va tr p0 p1 p2 p3 p4 = some (code, 0, fd, fw, fn, ff, va, tr) → mX4_errorOfSeek N fm sz p0 p1 p2 p3 p4 = some (nI e) → (code = 1 ∧ e = 1 ∨ code = 2 ∧ e = 2 ∨ code = 3 ∧ e = 3) → ∃ (code : Nat) (r r' : Int32) (T' : Nat → List Nat) (fd' : Int32) (fw' : Nat → Int32) (fn' : Nat → Nat) (ff' : Nat → Nat → Int32) (va' tr' : Nat → Int64) (he' wt' br' : Int32) (fm' sz' st' wa' : Nat → Int32) (rv' sk' : Nat → Int64) (k : Nat), mX3_seek N fd fw fn ff va tr p0 p1 p2 p3 p4 = some (code, r, fd', fw', fn', ff', va', tr') ∧ mX4_seek N th fd he wt br fm sz st wa rv sk p0 p1 p2 p3 p4 = some (r', nI k, fd', he', wt', br', fm', sz', st', wa', rv', sk') ∧ dSH T' fw' fn' ff' va' fm' sz' ∧ (code = 0 ∧ k = 0 ∧ r = r' ∨ code = 1 ∧ k = 1 ∨ code = 2 ∧ k = 2 ∨ code = 3 ∧ k = 3 ∨ code = 5 ∧ k = 4) := by
    intro code e h1 h2 h3 h4 h5
    refine ⟨code, 0, 0, T, fd, fw, fn, ff, va, tr, he, wt, br, fm, sz, st, wa, rv, sk, e, h3, q_seek_err th fd he wt br st wa rv sk h1 h2 h4, h, ?_⟩
    rcases h5 with z | z | z
    · exact .inr (.inl z)
    · exact .inr (.inr (.inl z))
    · exact .inr (.inr (.inr (.inl z)))
  by_cases hp0 : 0 ≤ p0 ∧ p0 ≤ 29
  · by_cases hp2 : 0 ≤ p2 ∧ p2 ≤ 29
    · obtain ⟨g, hg, rfl⟩ := cell_of hp0
      obtain ⟨i, hi, rfl⟩ := cell_of hp2
      by_cases hr : (-1000000000 ≤ p1 ∧ p1 ≤ 1000000000) ∧ (0 ≤ p3 ∧ p3 ≤ 999999) ∧ (p3 ≤ p4 ∧ p4 ≤ 999999)
      · have hr0 := hr
        obtain ⟨⟨a1, a2⟩, ⟨a3, a4⟩, a5, a6⟩ := hr
        have hq := q_err_in (N := N) h hg hi hr0
        have hii : ¬ (nI i < 0 ∨ 30 ≤ (nI i).toNatClampNeg) := nI_in hi (by omega)
        have hcan := s_can N (w := fw i) (h.1 i hi).1 (h.2.2.1 i hi).2.1 (h.2.2.1 i hi).2.2
        obtain ⟨x, d1, d2, d3, d4⟩ := c_dep2 (N := N) h (by omega) hg hi
        have hd : mX3_seek N fd fw fn ff va tr (nI g) p1 (nI i) p3 p4 = (if bI (canB (T i)) = 0 then some (3, 0, fd, fw, fn, ff, va, tr) else ((mX3_dependsOn N fw fn ff (nI g) (nI i)).bind fun x16 => (if x16 = 0 then some (3, 0, fd, fw, fn, ff, va, tr) else ((mX3_search N fw fn ff va tr (nI g) p1 (nI i) p3 p4).bind fun x19 => (if x19.1 = (-1 : Int32) then some (5, 0, fd, fw, fn, ff, va, x19.2) else ((mX3_loneNumber N x19.1).bind fun x22 => ((mX3_give N x22.1 x22.2.1 x22.2.2 fd fw fn ff va (nI i)).bind fun x30 => some (0, x19.1, x30.2.1, x30.2.2.1, x30.2.2.2.1, x30.2.2.2.2.1, x30.2.2.2.2.2, x19.2)))))))) := by
          unfold mX3_seek
          rw [d_cell, Option.bind_some, if_pos (cell_is hg), if_pos rfl, d_cell, Option.bind_some, if_pos (cell_is hi), if_pos rfl, if_neg (fun z => (fa_of_lt z).2.1 a1), if_pos a2, if_neg (fun z => (fa_of_lt z).2.1 a3), if_neg (fun z => (fa_of_lt z).2.1 a5), if_pos a6, if_neg hii, nI_clamp (n := i) (by omega), hcan, Option.bind_some]
        cases hcb : canB (T i) with
        | false =>
          refine err 3 3 (by omega) (by omega) ?_ ?_ (.inr (.inr ⟨rfl, rfl⟩))
          · rw [hd, hcb, if_pos bI_f]
          · rw [hq, hcb, if_neg Bool.false_ne_true]; rfl
        | true =>
          rw [hcb, if_neg bI_nt, d1, Option.bind_some] at hd
          rw [hcb, if_pos rfl, d2, Option.bind_some] at hq
          rcases d3 with z | z
          · subst z
            refine err 3 3 (by omega) (by omega) ?_ ?_ (.inr (.inr ⟨rfl, rfl⟩))
            · rw [hd, if_pos rfl]
            · rw [hq, if_pos rfl]; rfl
          · have n1 : ¬ (1 : Int32) = 0 := by decide
            obtain ⟨e1, e2⟩ := d4.mp z
            subst z
            rw [if_neg n1] at hd hq
            obtain ⟨lo, hlo, rfl⟩ := num_of ⟨a3, a4⟩
            have a7 : (0 : Int32) ≤ p4 := by
              rw [fa_le] at a3 a5 ⊢; omega
            obtain ⟨hi', hhi, rfl⟩ := num_of ⟨a7, a6⟩
            have hlh : lo ≤ hi' := (nI_leI (by omega) (by omega)).mp a5
            obtain ⟨res, tr', he', wt', br', st', wa', rv', sk', s1, s2, s3⟩ := c_search h hN hg hi e1 e2 p1 hlh hhi tr he wt br st wa rv sk
            rw [s1, Option.bind_some] at hd
            have hm : mX4_seek N th fd he wt br fm sz st wa rv sk (nI g) p1 (nI i) (nI lo) (nI hi') = (if res = (-1 : Int32) then mX4_seek_57 N th fd he' wt' br' fm sz st' wa' rv' sk' (nI i) res 4 else mX4_seek_57 N th fd he' wt' br' fm sz st' wa' rv' sk' (nI i) res 0) := by
              unfold mX4_seek mX4_seek_33
              rw [hq, Option.bind_some, if_pos rfl, s2, Option.bind_some, if_pos (show (0 : Int32) ≤ 0 by decide)]
            unfold mX4_seek_57 at hm
            rw [r_holds, Option.bind_some, r_holds, Option.bind_some, if_pos (h_nz 4 (by decide)), if_neg h_z] at hm
            rcases s3 with z | ⟨k, hk, z⟩
            · subst z
              rw [if_pos rfl] at hd hm
              exact ⟨5, _, _, T, _, _, _, _, _, _, _, _, _, _, _, _, _, _, _, 4, hd, hm, h, .inr (.inr (.inr (.inr ⟨rfl, rfl⟩)))⟩
            · subst z
              have hne : ¬ nI k = (-1 : Int32) := fun y => by
                have h2 := congrArg Int32.toInt y
                rw [nI_toInt (by omega), show (-1 : Int32).toInt = -1 by decide] at h2
                omega
              obtain ⟨w, f, x, va', fm', sz', p1', p2', p3', p4'⟩ := s_put h (N := N) (by omega) hi hk fd
              rw [if_neg hne, p1', Option.bind_some] at hd
              dsimp only at hd
              rw [p2', Option.bind_some] at hd
              rw [if_neg hne, p3', Option.bind_some] at hm
              exact ⟨0, _, _, _, _, _, _, _, _, _, _, _, _, _, _, _, _, _, _, 0, hd, hm, p4', .inl ⟨rfl, rfl, rfl⟩⟩
      · refine err 2 2 (by omega) (by omega) ?_ ?_ (.inr (.inl ⟨rfl, rfl⟩))
        · unfold mX3_seek mX3_seek_20 mX3_seek_49
          rw [d_cell, Option.bind_some, if_pos (cell_is hg), if_pos rfl, d_cell, Option.bind_some, if_pos (cell_is hi), if_pos rfl]
          by_cases b1 : p1 < (-1000000000 : Int32)
          · rw [if_pos b1]
          · rw [if_neg b1]
            by_cases b2 : p1 ≤ (1000000000 : Int32)
            · rw [if_pos b2]
              by_cases b3 : p3 < 0
              · rw [if_pos b3]
              · rw [if_neg b3]
                by_cases b4 : p4 < p3
                · rw [if_pos b4]
                · rw [if_neg b4]
                  by_cases b5 : p4 ≤ (999999 : Int32)
                  · exfalso
                    apply hr
                    have c4 := fa_of_nlt b4
                    refine ⟨⟨fa_of_nlt b1, b2⟩, ⟨fa_of_nlt b3, ?_⟩, c4, b5⟩
                    rw [fa_le] at c4 b5 ⊢; omega
                  · rw [if_neg b5]
            · rw [if_neg b2]
        · unfold mX4_errorOfSeek mX4_errorOfSeek_50
          rw [r_isCell, Option.bind_some, decide_eq_true (cell_is hg), if_neg bI_nt, r_isCell, Option.bind_some, decide_eq_true (cell_is hi), if_neg bI_nt, r_in, Option.bind_some]
          by_cases b1 : -1000000000 ≤ p1 ∧ p1 ≤ 1000000000
          · rw [decide_eq_true b1, if_neg bI_nt, r_in, Option.bind_some]
            by_cases b2 : 0 ≤ p3 ∧ p3 ≤ 999999
            · rw [decide_eq_true b2, if_neg bI_nt, r_in, Option.bind_some]
              by_cases b3 : p3 ≤ p4 ∧ p4 ≤ 999999
              · exact absurd ⟨b1, b2, b3⟩ hr
              · rw [decide_eq_false b3, if_pos bI_f]; rfl
            · rw [decide_eq_false b2, if_pos bI_f]; rfl
          · rw [decide_eq_false b1, if_pos bI_f]; rfl
    · obtain ⟨g, hg, rfl⟩ := cell_of hp0
      refine err 1 1 (by omega) (by omega) ?_ ?_ (.inl ⟨rfl, rfl⟩)
      · unfold mX3_seek
        rw [d_cell, Option.bind_some, if_pos (cell_is hg), if_pos rfl, d_cell, Option.bind_some, if_neg hp2, if_neg (show ¬ (1 : Nat) = 0 by decide)]
      · unfold mX4_errorOfSeek mX4_errorOfSeek_14
        rw [r_isCell, Option.bind_some, decide_eq_true (cell_is hg), if_neg bI_nt, r_isCell, Option.bind_some, decide_eq_false hp2, if_pos bI_f]; rfl
  · refine err 1 1 (by omega) (by omega) ?_ ?_ (.inl ⟨rfl, rfl⟩)
    · unfold mX3_seek
      rw [d_cell, Option.bind_some, if_neg hp0, if_neg (show ¬ (1 : Nat) = 0 by decide)]
    · unfold mX4_errorOfSeek mX4_errorOfSeek_14
      rw [r_isCell, Option.bind_some, decide_eq_false hp0, if_pos bI_f]; rfl
end SK
