/-! the reference's reckoner does as the two stacks -/
def stk : List Int → (Nat → Int64) → Prop
  | [], _ => True
  | x :: S, sk => sk S.length = LL x ∧ bd x ∧ stk S sk
def wai : List Nat → (Nat → Int32) → Prop
  | [], _ => True
  | c :: W, wa => wa W.length = nI c ∧ c ≤ 6 ∧ wai W wa
theorem stk_upd : ∀ {S : List Int} {sk : Nat → Int64} {k : Nat} {v : Int64}, stk S sk → S.length ≤ k → stk S (vp_updL sk k v)
  | [], _, _, _, _, _ => trivial
  | x :: S, sk, k, v, h, hk => by
    simp only [List.length_cons] at hk
    exact ⟨by rw [pk_uLn (by omega)]; exact h.1, h.2.1, stk_upd h.2.2 (by omega)⟩
theorem wai_upd : ∀ {W : List Nat} {wa : Nat → Int32} {k : Nat} {v : Int32}, wai W wa → W.length ≤ k → wai W (upd wa k v)
  | [], _, _, _, _, _ => trivial
  | x :: S, sk, k, v, h, hk => by
    simp only [List.length_cons] at hk
    exact ⟨by rw [pk_un (by omega)]; exact h.1, h.2.1, wai_upd h.2.2 (by omega)⟩
section REF
variable {N : Nat} {wa : Nat → Int32}
theorem q_pu20 {b : Bool} {S : List Int} : ∀ (W : List Nat) (nf : Nat) (x : Int) (sk : Nat → Int64), wai W wa → S.length + W.length ≤ 14 → W.length < nf → (b = false → stk (x :: S) sk) → ∃ sk', mX4_pushes_20 N wa nf (nI (S.length + 1)) (nI W.length) sk = some (nI (S.length + 1), nI (psh W x).1.length, sk') ∧ (b = false → stk ((psh W x).2 :: S) sk') ∧ wai (psh W x).1 wa ∧ (psh W x).1.length ≤ W.length
  | _, 0, _, _, _, _, h, _ => absurd h (Nat.not_lt_zero _)
  | [], nf + 1, x, sk, hw, hs, hn, h => by
    simp only [mX4_pushes_20, mX4_pushes_20_b, mX4_pushes_79]
    rw [if_pos (by decide)]
    exact ⟨sk, rfl, h, trivial, Nat.le_refl _⟩
  | c :: W, nf + 1, x, sk, hw, hs, hn, h => by
    simp only [List.length_cons] at hs hn ⊢
    simp only [mX4_pushes_20, mX4_pushes_20_b, mX4_pushes_79]
    rw [if_neg (nI_nle (by omega) (by omega)), nI_pred, nI_pred, if_neg (nI_in (by omega) (by omega)), nI_clamp (by omega), hw.1]
    have e6 : nI c = (6 : Int32) ↔ c = 6 := nI_eq (a := c) (b := 6) (by have := hw.2.1; omega) (by omega)
    by_cases c6 : c = 6
    · rw [if_pos (e6.mpr c6)]
      have hri : ¬ (nI S.length < 0 ∨ 15 ≤ (nI S.length).toNatClampNeg) := nI_in (by omega) (by omega)
      rw [if_neg hri, if_neg hri, nI_clamp (by omega)]
      have ep : psh (c :: W) x = psh W (-x) := if_pos c6
      rw [ep]
      obtain ⟨sk', g1, g2, g3, g4⟩ := q_pu20 (b := b) (S := S) W nf (-x) (vp_updL sk S.length (-(sk S.length))) hw.2.2 (by omega) (by omega) (fun hb => by
        obtain ⟨h1, h2, h3⟩ := h hb
        exact ⟨by rw [pk_uLs, h1, L_neg], by unfold bd at *; omega, stk_upd h3 (Nat.le_refl _)⟩)
      exact ⟨sk', g1, g2, g3, by omega⟩
    · rw [if_neg (fun z => c6 (e6.mp z))]
      have ep : psh (c :: W) x = (c :: W, x) := if_neg c6
      rw [ep]
      exact ⟨sk, rfl, h, hw, Nat.le_refl _⟩
theorem q_pu {b : Bool} {S : List Int} {W : List Nat} {x : Int} {p : Int64} {sk : Nat → Int64} (hN : 31 ≤ N) (hw : wai W wa) (hs : S.length + W.length ≤ 14) (h : b = false → stk S sk) (hp : b = false → p = LL x ∧ bd x) : ∃ sk', mX4_pushes N wa (nI S.length) (nI W.length) sk p = some (nI (S.length + 1), nI (psh W x).1.length, sk') ∧ (b = false → stk ((psh W x).2 :: S) sk') ∧ wai (psh W x).1 wa ∧ (psh W x).1.length ≤ W.length := by
  unfold mX4_pushes
  rw [if_neg (nI_in (by omega) (by omega)), nI_1, nI_clamp (by omega)]
  exact q_pu20 W N x _ hw hs (by omega) (fun hb => ⟨by rw [pk_uLs]; exact (hp hb).1, (hp hb).2, stk_upd (h hb) (Nat.le_refl _)⟩)
theorem q_sz_some (v : Int64) : ∃ w, mX4_size N v = some w ∧ (v ≠ 0 → w ≠ 0) := by
  unfold mX4_size mX4_size_12
  split
  · exact ⟨v, rfl, fun z => z⟩
  · refine ⟨-v, rfl, fun z e => z ?_⟩
    have := congrArg (fun x => -x) e
    simpa using this
theorem q_quo_some {a b : Int64} (h : b ≠ 0) : ∃ w, mX4_quotient N a b = some w := by
  unfold mX4_quotient mX4_quotient_24 mX4_quotient_35 mX4_quotient_45 mX4_quotient_47
  rw [if_neg h, if_neg h]
  split
  · exact ⟨_, rfl⟩
  · split
    · split
      · split <;> exact ⟨_, rfl⟩
      · split <;> exact ⟨_, rfl⟩
    · split
      · split <;> exact ⟨_, rfl⟩
      · split <;> exact ⟨_, rfl⟩
theorem q_162b {h w : Nat} (hh : h < 15) (sk : Nat → Int64) (v6 v7 : Int32) (s0 : Int64) : mX4_joins_162 N wa (nI (h + 1)) (nI w) 1 sk v6 v7 s0 = some (nI (h + 1), nI w, 1, vp_updL sk h 0) := by
  unfold mX4_joins_162 mX4_joins_194 mX4_joins_199 mX4_joins_225
  rw [if_neg (by decide), if_pos (by decide), if_neg (by decide), nI_pred, if_neg (nI_in hh (by omega)), nI_clamp (by omega)]
theorem q_162v {h w : Nat} (hh : h < 15) (sk : Nat → Int64) (br v6 v7 : Int32) (s0 : Int64) (h1 : ¬ v6 = 0 ∨ ¬ v7 = 0) : mX4_joins_162 N wa (nI (h + 1)) (nI w) br sk v6 v7 s0 = some (nI (h + 1), nI w, 1, vp_updL sk h 0) := by
  have e : mX4_joins_194 N wa (nI (h + 1)) (nI w) br sk s0 = some (nI (h + 1), nI w, 1, vp_updL sk h 0) := by
    unfold mX4_joins_194 mX4_joins_199 mX4_joins_225
    rw [if_pos (by decide), if_neg (by decide), nI_pred, if_neg (nI_in hh (by omega)), nI_clamp (by omega)]
  unfold mX4_joins_162
  rw [e]
  split
  · split
    · split
      · rename_i a b c
        rcases h1 with z | z
        · exact absurd b z
        · exact absurd c z
      · rfl
    · rfl
  · rfl
theorem q_162 {h w : Nat} (hh : h < 15) (sk : Nat → Int64) {z : Int} (hz : sm z) : mX4_joins_162 N wa (nI (h + 1)) (nI w) 0 sk 0 0 (LL z) = some (nI (h + 1), nI w, bI (cut z).isNone, vp_updL sk h (LL ((cut z).getD 0))) := by
  unfold mX4_joins_162 mX4_joins_194 mX4_joins_199 mX4_joins_225
  have s2 : sm 1000000000000 := by unfold sm; omega
  rw [if_pos rfl, if_pos rfl, if_pos rfl, q_sz N hz, Option.bind_some, L_M]
  simp only [cm_le (sm_na hz) s2]
  rw [nI_pred]
  unfold cut
  by_cases e : (z.natAbs : Int) ≤ 1000000000000
  · rw [if_pos e, if_pos (by decide), if_pos (by trivial), if_neg (nI_in hh (by omega)), nI_clamp (by omega), if_pos (by omega)]
    rfl
  · rw [if_neg e, if_pos (by decide), if_neg (by decide), if_neg (nI_in hh (by omega)), nI_clamp (by omega), if_neg (by omega)]
    rfl
theorem q_joins {c : Nat} {b : Bool} {W : List Nat} {S : List Int} {x y : Int} {sk : Nat → Int64} (hc : c < 4) (hw : wai (c :: W) wa) (hs : S.length + W.length ≤ 12) (h : b = false → stk (y :: x :: S) sk) : ∃ sk', mX4_joins N wa (nI (S.length + 2)) (nI (W.length + 1)) (bI b) sk = some (nI (S.length + 1), nI W.length, bI (jv c x y b).2, sk') ∧ ((jv c x y b).2 = false → stk ((jv c x y b).1 :: S) sk') := by
  have hri : ¬ (nI S.length < 0 ∨ 15 ≤ (nI S.length).toNatClampNeg) := nI_in (by omega) (by omega)
  have hri2 : ¬ (nI (S.length + 1) < 0 ∨ 15 ≤ (nI (S.length + 1)).toNatClampNeg) := nI_in (by omega) (by omega)
  have e2 : nI c = (2 : Int32) ↔ c = 2 := nI_eq (a := c) (b := 2) (by omega) (by omega)
  have e3 : nI c = (3 : Int32) ↔ c = 3 := nI_eq (a := c) (b := 3) (by omega) (by omega)
  have e0 : nI c = (0 : Int32) ↔ c = 0 := nI_eq (a := c) (b := 0) (by omega) (by omega)
  have e1 : nI c = (1 : Int32) ↔ c = 1 := nI_eq (a := c) (b := 1) (by omega) (by omega)
  unfold mX4_joins
  rw [nI_pred, nI_pred, nI_pred, if_neg (nI_in (by omega) (by omega)), if_neg hri, if_neg hri2, nI_clamp (by omega), nI_clamp (by omega), nI_clamp (by omega), hw.1]
  cases b with
  | true =>
    have hj : (jv c x y true).2 = true := by
      unfold jv
      cases comb c (some x) (some y) <;> rfl
    rw [hj]
    refine ⟨vp_updL sk S.length 0, ?_, fun z => absurd z (by decide)⟩
    have b162 : ∀ v6 v7 s0, mX4_joins_162 N wa (nI (S.length + 1)) (nI W.length) (bI true) sk v6 v7 s0 = some (nI (S.length + 1), nI W.length, bI true, vp_updL sk S.length 0) := fun v6 v7 s0 => q_162b (by omega) sk v6 v7 s0
    have b105 : ∀ a d v6 s0, (nI c = 3 → s0 = 0 → d ≠ 0) → mX4_joins_105 N wa (nI (S.length + 1)) (nI W.length) (bI true) sk (nI c) a d v6 s0 = some (nI (S.length + 1), nI W.length, bI true, vp_updL sk S.length 0) := fun a d v6 s0 hd => by
      unfold mX4_joins_105 mX4_joins_117
      simp only [b162]
      split
      · split
        · split
          · rfl
          · split
            · rfl
            · split
              · rfl
              · rename_i z1 z2 z3 z4 z5
                have hc3 : c = 3 := by
                  have y3 : ¬ c = 0 := fun z => z3 (e0.mpr z)
                  have y4 : ¬ c = 1 := fun z => z4 (e1.mpr z)
                  have y5 : ¬ c = 2 := fun z => z5 (e2.mpr z)
                  omega
                obtain ⟨w, hw⟩ := q_quo_some (N := N) (a := a) (hd (e3.mpr hc3) z2)
                rw [hw, Option.bind_some]
        · rfl
      · rfl
    have b86 : ∀ a d s0, mX4_joins_86 N wa (nI (S.length + 1)) (nI W.length) (bI true) sk (nI c) a d s0 = some (nI (S.length + 1), nI W.length, bI true, vp_updL sk S.length 0) := fun a d s0 => by
      unfold mX4_joins_86 mX4_joins_104
      split
      · split
        · exact b105 _ _ _ _ (fun _ z => absurd z (by decide))
        · rename_i z1 z2
          exact b105 _ _ _ _ (fun _ _ z => z2 ((lg_cmp_eq _ _).mpr z))
      · rename_i z1
        exact b105 _ _ _ _ (fun z => absurd z z1)
    unfold mX4_joins_85
    simp only [b86]
    split
    · split
      · rfl
      · rename_i z1 z2
        obtain ⟨w, h1, _⟩ := q_sz_some (N := N) (sk (S.length + 1))
        obtain ⟨w2, h3, h4⟩ := q_sz_some (N := N) (sk S.length)
        rw [h1, Option.bind_some, h3, Option.bind_some, if_neg (h4 (fun z => z2 ((lg_cmp_eq _ _).mpr z)))]
        split <;> rfl
    · rfl
  | false =>
    obtain ⟨hy, by', hx, bx, hS⟩ := h rfl
    have hy : sk (S.length + 1) = LL y := hy
    have sx := bd_sm bx
    have sy := bd_sm by'
    rw [hy, hx]
    have fin : ∀ o : Option Int, okV o → comb c (some x) (some y) = o → ∃ sk', (some (nI (S.length + 1), nI W.length, bI o.isNone, vp_updL sk S.length (LL (o.getD 0))) : Option (Int32 × Int32 × Int32 × (Nat → Int64))) = some (nI (S.length + 1), nI W.length, bI (jv c x y false).2, sk') ∧ ((jv c x y false).2 = false → stk ((jv c x y false).1 :: S) sk') := fun o ho e => by
      have ej : jv c x y false = (o.getD 0, o.isNone) := by
        unfold jv
        rw [e]
        cases o <;> rfl
      rw [ej]
      refine ⟨_, rfl, fun z => ?_⟩
      cases o with
      | none => exact absurd z (by decide)
      | some w => exact ⟨pk_uLs, ho w rfl, stk_upd hS (Nat.le_refl _)⟩
    have v105 : ∀ v6 s0, (¬ v6 = 0 ∨ ¬ s0 = 0) → mX4_joins_105 N wa (nI (S.length + 1)) (nI W.length) (bI false) sk (nI c) (LL x) (LL y) v6 s0 = some (nI (S.length + 1), nI W.length, bI true, vp_updL sk S.length 0) := fun v6 s0 hv => by
      unfold mX4_joins_105 mX4_joins_117
      have h162 : ∀ z, mX4_joins_162 N wa (nI (S.length + 1)) (nI W.length) (bI false) sk v6 s0 z = some (nI (S.length + 1), nI W.length, bI true, vp_updL sk S.length 0) := fun z => q_162v (by omega) sk _ v6 s0 z hv
      simp only [h162]
      split
      · split
        · rename_i z1 z2
          rcases hv with z | z
          · exact absurd z1 z
          · exact absurd z2 z
        · rfl
      · rfl
    have kz : (lg_cmp (LL y) 0 = 0) = (y = 0) := cm_eq00 sy
    have kx : (lg_cmp (LL x) 0 = 0) = (x = 0) := cm_eq00 sx
    by_cases c2 : c = 2
    · rw [if_pos (e2.mpr c2)]
      have ec : comb c (some x) (some y) = cut (x * y) := by rw [comb_some, if_neg (by omega), if_neg (by omega), if_pos c2]
      have p85 : sm (x * y) → mX4_joins_85 N wa (nI (S.length + 1)) (nI W.length) (bI false) sk (nI c) (LL x) (LL y) = some (nI (S.length + 1), nI W.length, bI (cut (x * y)).isNone, vp_updL sk S.length (LL ((cut (x * y)).getD 0))) := fun sxy => by
        unfold mX4_joins_85 mX4_joins_86 mX4_joins_104 mX4_joins_105
        rw [if_neg (fun z => by have := e3.mp z; omega), if_pos rfl, if_pos rfl, if_neg (fun z => by have := e0.mp z; omega), if_neg (fun z => by have := e1.mp z; omega), if_pos (e2.mpr c2), L_mul]
        exact q_162 (by omega) sk sxy
      by_cases x0 : x = 0
      · rw [if_pos (kx.mpr x0), p85 (by rw [x0, Int.zero_mul]; exact sm_0)]
        exact fin _ (cut_ok _) ec
      · have sM : sm 1000000000000 := by unfold sm; omega
        have sd := (td_sm (x := 1000000000000) (y := x.natAbs) sM (by omega)).1
        rw [if_neg (fun z => x0 (kx.mp z)), q_sz N sy, Option.bind_some, q_sz N sx, Option.bind_some, if_neg (by rw [L_0, L_eq (sm_na sx) sm_0]; omega), L_M, L_div sM (sm_na sx)]
        simp only [cm_le (sm_na sy) sd]
        by_cases g : (y.natAbs : Int) ≤ (1000000000000 : Int).tdiv x.natAbs
        · rw [if_pos g, p85 (bd_sm ((td_M x0).mp g))]
          exact fin _ (cut_ok _) ec
        · rw [if_neg g]
          have en : cut (x * y) = none := if_neg (fun z => g ((td_M x0).mpr z))
          unfold mX4_joins_86 mX4_joins_104
          rw [if_neg (fun z => by have := e3.mp z; omega), v105 1 0 (.inl (by decide))]
          exact fin none (fun _ z => nomatch z) (by rw [ec, en])
    · rw [if_neg (fun z => c2 (e2.mp z))]
      unfold mX4_joins_85 mX4_joins_86 mX4_joins_104
      by_cases c3 : c = 3
      · rw [if_pos (e3.mpr c3)]
        by_cases y0 : y = 0
        · rw [if_pos (kz.mpr y0), v105 0 1 (.inr (by decide))]
          exact fin none (fun _ z => nomatch z) (by rw [comb_some, if_neg (by omega), if_neg (by omega), if_neg (by omega), if_pos y0])
        · obtain ⟨eq, sq⟩ := q_quo N bx by' y0
          rw [if_neg (fun z => y0 (kz.mp z))]
          unfold mX4_joins_105
          rw [if_pos rfl, if_pos rfl, if_neg (fun z => by have := e0.mp z; omega), if_neg (fun z => by have := e1.mp z; omega), if_neg (fun z => by have := e2.mp z; omega), eq, Option.bind_some]
          have := q_162 (N := N) (wa := wa) (h := S.length) (w := W.length) (by omega) sk sq
          rw [bI_f, this]
          exact fin _ (cut_ok _) (by rw [comb_some, if_neg (by omega), if_neg (by omega), if_neg (by omega), if_neg y0])
      · rw [if_neg (fun z => c3 (e3.mp z))]
        unfold mX4_joins_105
        rw [if_pos rfl, if_pos rfl, L_add, L_sub]
        by_cases c0 : c = 0
        · have := q_162 (N := N) (wa := wa) (h := S.length) (w := W.length) (z := x + y) (by omega) sk (by unfold bd at bx by'; unfold sm; omega)
          rw [if_pos (e0.mpr c0), bI_f, this]
          exact fin _ (cut_ok _) (by rw [comb_some, if_pos c0])
        · have c1 : c = 1 := by omega
          have := q_162 (N := N) (wa := wa) (h := S.length) (w := W.length) (z := x - y) (by omega) sk (by unfold bd at bx by'; unfold sm; omega)
          rw [if_neg (fun z => c0 (e0.mp z)), if_pos (e1.mpr c1), bI_f, this]
          exact fin _ (cut_ok _) (by rw [comb_some, if_neg c0, if_pos c1])
end REF
