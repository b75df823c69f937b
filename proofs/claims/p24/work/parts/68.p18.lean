/-! seeking -/
def oS (t z1 z2 : Int) : Bool := decide ((t < z1 ∧ t < z2) ∨ (z1 < t ∧ z2 < t))
theorem i32_L (p : Int32) : p.toInt64 = LL p.toInt := (Int64.ofInt_int32ToInt p).symm
theorem i32_sm (p : Int32) : sm p.toInt := by
  have a := p.le_toInt
  have b := p.toInt_lt
  unfold sm; omega
theorem s_oos (N : Nat) {z1 z2 : Int} (h1 : sm z1) (h2 : sm z2) (p : Int32) : mX3_onOneSide N (LL z1) (LL z2) p.toInt64 = some (bI (oS p.toInt z1 z2)) := by
  have ht := i32_sm p
  unfold mX3_onOneSide mX3_onOneSide_14 mX3_onOneSide_28 mX3_onOneSide_32 mX3_onOneSide_33 oS
  rw [i32_L]
  simp only [cm_le h1 ht, cm_gt h2 ht, cm_ge h1 ht, cm_ge h2 ht]
  by_cases a : z1 ≤ p.toInt
  · rw [if_pos a]
    by_cases b : p.toInt ≤ z1
    · rw [if_pos b, decide_eq_false (by omega)]; rfl
    · rw [if_neg b]
      by_cases c : p.toInt ≤ z2
      · rw [if_pos c, decide_eq_false (by omega)]; rfl
      · rw [if_neg c, decide_eq_true (by omega)]; rfl
  · rw [if_neg a]
    by_cases c : p.toInt < z2
    · rw [if_pos c, decide_eq_true (by omega)]; rfl
    · rw [if_neg c, if_pos (by omega), decide_eq_false (by omega)]; rfl
theorem evF_num (V : Nat → Option Int) (x : Nat) : evF V [36 + x] = some (x : Int) := by
  have e0 : prs V 98 0 none [36 + x] = some (some (x : Int), []) := by
    rw [prs_0]
    dsimp only
    rw [if_neg (by omega), if_neg (by omega), if_neg (by omega), if_neg (by omega), show 36 + x - 36 = x by omega]
  have e1 : prs V 99 1 none [36 + x] = some (some (x : Int), []) := by
    rw [prs_1, e0, Option.bind_some, prs_2]
  have e2 : prs V 100 3 none [36 + x] = some (some (x : Int), []) := by
    rw [prs_3, e1, Option.bind_some, prs_4]
  unfold evF
  rw [if_neg (by simp), e2]
section SEEK
variable {N : Nat} {T : Nat → List Nat} {fw : Nat → Int32} {fn : Nat → Nat} {ff : Nat → Nat → Int32} {va : Nat → Int64} {g i : Nat}
theorem Tx_ok (h : rSH T fw fn ff va) (hi : i < 30) {x : Nat} (hx : x < 1000000) : okSF (sT T i [36 + x]) ∧ acy (EE (sT T i [36 + x])) := ⟨okSF_upd h.1 (okF_num hx), acy_upd h.2.1 hi (no_clo (nm_num x) hi)⟩
def trI (T : Nat → List Nat) (bt' : Nat → Bool) (i : Nat) (tr : Nat → Int64) : Prop := ∀ j, j < 30 → bt' j = false → j ≠ i → tr j = eL (VV T j)
def btw (T : Nat → List Nat) (g i : Nat) (b : Nat → Bool) : Prop := ∀ j, j < 30 → (b j = true ↔ clo (fun a b => EE T b a) (fun x => x == i) j ∧ clo (EE T) (fun x => x == g) j ∧ j ≠ i)
theorem d_gw (h : rSH T fw fn ff va) (hN : 31 ≤ N) (hg : g < 30) (hi : i < 30) {b : Nat → Bool} {mb : Int32} (hb : mk b mb) (hbt : btw T g i b) (hbg : b g = true) {x : Nat} (hx : x < 1000000) {tr : Nat → Int64} (htr : trI T b i tr) : ∃ tr', mX3_goalWith N fw fn ff tr (nI g) (nI i) (nI x) mb = some (eL (VV (sT T i [36 + x]) g), tr') ∧ trI T b i tr' := by
  obtain ⟨a1, a2⟩ := Tx_ok h hi hx
  have old : ∀ j, j < 30 → ¬ clo (fun a b => EE T b a) (fun x => x == i) j → VV (sT T i [36 + x]) j = VV T j := fun j hj hn =>
    VV_cg a2 h.2.1 (D := fun k => ¬ clo (fun a b => EE T b a) (fun x => x == i) k) (fun k j hk hj h1 h2 h3 => by
      have hki : k ≠ i := fun e => by
        subst e; exact h1 (clo_in hk (by simp))
      have h2' : EE T k j = true := by
        have e := h2
        unfold EE at e ⊢
        rw [sT_n hki] at e; exact e
      exact h1 (clo_st hj hk h3 h2')) (fun k hk h1 => sT_n (fun e => by
      subst e; exact h1 (clo_in hk (by simp)))) j hj hn
  have ei : VV (sT T i [36 + x]) i = some (x : Int) := by
    rw [VV_eq a2 hi, sT_s, evF_num]
  obtain ⟨va', e, h1, h2⟩ := s_woV (V := VV (sT T i [36 + x])) (N := N) (va0 := vp_updL tr i (lN x)) (VV_ok (okSF_S a1)) h.1 h.2.1 h.2.2.1 (by omega) hb (fun k hk hbk => by
    have hki := ((hbt k hk).mp hbk).2.2
    rw [VV_eq a2 hk, sT_n hki]) (fun c j hc hj hbc hnm => by
    by_cases hji : j = i
    · subst hji
      right
      rw [pk_uLs, ei]; rfl
    · cases hbj : b j with
      | true => exact .inl rfl
      | false =>
        right
        rw [pk_uLn hji, htr j hj hbj hji, old j hj (fun hd => ?_)]
        have hg2 : clo (EE T) (fun x => x == g) j := clo_st hc hj ((hbt c hc).mp hbc).2.1 hnm
        rw [(hbt j hj).mpr ⟨hd, hg2, hji⟩] at hbj
        exact absurd hbj (by decide))
  unfold mX3_goalWith
  rw [if_neg (nI_in hi (by omega)), nI_clamp (by omega), nI_l (by omega), e, Option.bind_some, if_neg (nI_in hg (by omega)), nI_clamp (by omega), h2 g hg hbg]
  refine ⟨va', rfl, fun j hj hbj hji => ?_⟩
  rw [h1 j (fun z => by rw [z.2] at hbj; exact absurd hbj (by decide)), pk_uLn hji]
  exact htr j hj hbj hji
/-- the search by halves -/
def skl (V : Nat → Option Int) (t : Int) : Nat → Nat → Nat → Int → Option Nat
  | 0 => fun _ _ _ => none
  | n + 1 => fun lo hi zl => if hi ≤ lo + 1 then some (if zl = t then lo else hi) else match V ((lo + hi) / 2) with
    | none => none
    | some z => if oS t z zl = true then skl V t n ((lo + hi) / 2) hi z else skl V t n lo ((lo + hi) / 2) zl
def sk (V : Nat → Option Int) (t : Int) (lo hi : Nat) : Option Nat := match V lo with
  | none => none
  | some z1 => match V hi with
    | none => none
    | some z2 => if oS t z1 z2 = true then none else skl V t (hi - lo + 1) lo hi z1
def rI : Option Nat → Int32
  | none => -1
  | some k => nI k
theorem skl_le (V : Nat → Option Int) (t : Int) : ∀ (n lo hi : Nat) (zl : Int) (k : Nat), lo ≤ hi → skl V t n lo hi zl = some k → k ≤ hi
  | 0, _, _, _, _, _, h => nomatch h
  | n + 1, lo, hi, zl, k, h1, h => by
    simp only [skl] at h
    by_cases e : hi ≤ lo + 1
    · rw [if_pos e] at h
      cases h
      split <;> omega
    · rw [if_neg e] at h
      cases ev : V ((lo + hi) / 2) with
      | none => rw [ev] at h; exact nomatch h
      | some z =>
        rw [ev] at h
        dsimp only at h
        by_cases o : oS t z zl = true
        · rw [if_pos o] at h
          exact skl_le V t n _ _ _ _ (by omega) h
        · rw [if_neg o] at h
          have := skl_le V t n _ _ _ _ (by omega) h
          omega
theorem sk_le {V : Nat → Option Int} {t : Int} {lo hi k : Nat} (h1 : lo ≤ hi) (h : sk V t lo hi = some k) : k ≤ hi := by
  unfold sk at h
  cases e1 : V lo with
  | none => rw [e1] at h; exact nomatch h
  | some z1 =>
    rw [e1] at h
    dsimp only at h
    cases e2 : V hi with
    | none => rw [e2] at h; exact nomatch h
    | some z2 =>
      rw [e2] at h
      dsimp only at h
      by_cases o : oS t z1 z2 = true
      · rw [if_pos o] at h; exact nomatch h
      · rw [if_neg o] at h
        exact skl_le V t _ _ _ _ _ h1 h
/-- what is found reaches the target, or has just passed it -/
theorem skl_so (V : Nat → Option Int) (t : Int) : ∀ (n lo hi : Nat) (zl zh : Int) (k : Nat), lo ≤ hi → V lo = some zl → V hi = some zh → ¬ oS t zl zh = true → skl V t n lo hi zl = some k → ∃ zk, V k = some zk ∧ (zk = t ∨ (0 < k ∧ ∃ zb, V (k - 1) = some zb ∧ ((t < zb) ↔ (zk < t))))
  | 0, _, _, _, _, _, _, _, _, _, h => nomatch h
  | n + 1, lo, hi, zl, zh, k, h1, h2, h3, h4, h => by
    simp only [skl] at h
    by_cases e : hi ≤ lo + 1
    · rw [if_pos e] at h
      cases h
      by_cases ez : zl = t
      · rw [if_pos ez]
        exact ⟨zl, h2, .inl ez⟩
      · rw [if_neg ez]
        refine ⟨zh, h3, ?_⟩
        by_cases eh : zh = t
        · exact .inl eh
        · right
          have hne : lo ≠ hi := fun y => by
            subst y
            rw [h2] at h3
            cases h3
            apply h4
            unfold oS
            rw [decide_eq_true_iff]
            omega
          refine ⟨by omega, zl, by rw [show hi - 1 = lo by omega]; exact h2, ?_⟩
          unfold oS at h4
          rw [decide_eq_true_iff] at h4
          omega
    · rw [if_neg e] at h
      cases ev : V ((lo + hi) / 2) with
      | none => rw [ev] at h; exact nomatch h
      | some z =>
        rw [ev] at h
        dsimp only at h
        by_cases o : oS t z zl = true
        · rw [if_pos o] at h
          refine skl_so V t n _ _ _ _ _ (by omega) ev h3 (fun o2 => h4 ?_) h
          unfold oS at o o2 ⊢
          rw [decide_eq_true_iff] at o o2 ⊢
          omega
        · rw [if_neg o] at h
          refine skl_so V t n _ _ _ _ _ (by omega) h2 ev (fun o2 => o ?_) h
          unfold oS at o2 ⊢
          rw [decide_eq_true_iff] at o2 ⊢
          omega
theorem sk_so {V : Nat → Option Int} {t : Int} {lo hi k : Nat} (h1 : lo ≤ hi) (h : sk V t lo hi = some k) : ∃ zk, V k = some zk ∧ (zk = t ∨ (0 < k ∧ ∃ zb, V (k - 1) = some zb ∧ ((t < zb) ↔ (zk < t)))) := by
  unfold sk at h
  cases e1 : V lo with
  | none => rw [e1] at h; exact nomatch h
  | some z1 =>
    rw [e1] at h
    dsimp only at h
    cases e2 : V hi with
    | none => rw [e2] at h; exact nomatch h
    | some z2 =>
      rw [e2] at h
      dsimp only at h
      by_cases o : oS t z1 z2 = true
      · rw [if_pos o] at h; exact nomatch h
      · rw [if_neg o] at h
        exact skl_so V t _ _ _ _ _ _ h1 e1 e2 o h
theorem t_sch_l (h : rSH T fw fn ff va) (hN : 31 ≤ N) (hg : g < 30) (hi : i < 30) {b : Nat → Bool} {mb : Int32} (hb : mk b mb) (hbt : btw T g i b) (hbg : b g = true) (p : Int32) : ∀ (d lo hi' turn n n2 : Nat) (zl : Int) (tr : Nat → Int64), lo ≤ hi' → hi' < 1000000 → hi' - lo ≤ d → d < n → d < n2 → turn + (hi' - lo) ≤ 999999 → VV (sT T i [36 + lo]) g = some zl → trI T b i tr →
    ∃ (tr' : Nat → Int64), mX3_search_108 N fw fn ff va n tr (nI g) p (nI i) mb (nI lo) (nI hi') (LL zl) (nI turn) = some (rI (skl (fun x => VV (sT T i [36 + x]) g) p.toInt n2 lo hi' zl), tr')
  | _, _, _, _, 0, _, _, _, _, _, _, hh, _, _, _, _ => absurd hh (Nat.not_lt_zero _)
  | _, _, _, _, _, 0, _, _, _, _, _, _, hh, _, _, _ => absurd hh (Nat.not_lt_zero _)
  | d, lo, hi', turn, n + 1, n2 + 1, zl, tr, h1, h2, h3, h4, h5, h6, h7, h8 => by
    have ht := i32_sm p
    have hzl : sm zl := bd_sm (VV_ok (okSF_S (Tx_ok h hi (x := lo) (by omega)).1) g hg zl h7)
    simp only [mX3_search_108, mX3_search_108_b, mX3_search_183, nI_1 lo, skl]
    by_cases e : hi' ≤ lo + 1
    · have e1 : nI hi' ≤ nI (lo + 1) := nI_le e (by omega)
      rw [if_pos e1, ite_self, if_pos e]
      unfold mX3_search_189 mX3_search_204
      rw [i32_L]
      simp only [cm_eq0 hzl ht]
      by_cases e2 : zl = p.toInt
      · rw [if_pos e2, if_pos e2]
        exact ⟨_, rfl⟩
      · rw [if_neg e2, if_neg e2]
        exact ⟨_, rfl⟩
    · have e1 : ¬ nI hi' ≤ nI (lo + 1) := nI_ge (by omega) (by omega)
      have et : ¬ (999999 : Int32) ≤ nI turn := nI_ge (a := turn) (b := 999999) (by omega) (by omega)
      have em : (nI lo + nI hi') / (2 : Int32) = nI ((lo + hi') / 2) := by
        rw [nI_add]; exact pk_div (a := lo + hi') (d := 2) (by omega) (by omega) (by omega)
      have hm1 : lo < (lo + hi') / 2 := by omega
      have hm2 : (lo + hi') / 2 < hi' := by omega
      obtain ⟨x, hx⟩ : ∃ x, x = (lo + hi') / 2 := ⟨_, rfl⟩
      rw [← hx] at em hm1 hm2
      obtain ⟨tr', k1, k2⟩ := d_gw h hN hg hi hb hbt hbg (x := x) (by omega) h8
      rw [if_neg et, if_neg e1, if_neg e, em, ← hx, k1, Option.bind_some, nI_1]
      dsimp only
      cases ev : VV (sT T i [36 + x]) g with
      | none =>
        rw [if_pos ((eL_F okV_n).mpr rfl)]
        exact ⟨_, rfl⟩
      | some z =>
        have hzo := VV_ok (okSF_S (Tx_ok h hi (x := x) (by omega)).1) g hg
        rw [ev] at hzo
        have hz : sm z := bd_sm (hzo z rfl)
        rw [if_neg (fun y => by have := (eL_F hzo).mp y; exact nomatch this)]
        have eo : mX3_onOneSide N (eL (some z)) (LL zl) p.toInt64 = _ := s_oos N hz hzl p
        rw [eo, Option.bind_some]
        cases eos : oS p.toInt z zl with
        | true =>
          rw [if_neg bI_nt]
          dsimp only
          rw [if_pos eos]
          exact t_sch_l h hN hg hi hb hbt hbg p (d - 1) x hi' (turn + 1) n n2 z tr' (by omega) h2 (by omega) (by omega) (by omega) (by omega) ev k2
        | false =>
          rw [if_pos bI_f]
          dsimp only
          rw [if_neg (by rw [eos]; decide)]
          exact t_sch_l h hN hg hi hb hbt hbg p (d - 1) lo x (turn + 1) n n2 zl tr' (by omega) (by omega) (by omega) (by omega) (by omega) (by omega) h7 k2
theorem t_search (h : rSH T fw fn ff va) (hN : 1000001 ≤ N) (hg : g < 30) (hi : i < 30) (hgi : g ≠ i) (hd : clo (EE T) (fun x => x == g) i) (p : Int32) {lo hi' : Nat} (hl : lo ≤ hi') (hh : hi' < 1000000) (tr : Nat → Int64) :
    ∃ (tr' : Nat → Int64), mX3_search N fw fn ff va tr (nI g) p (nI i) (nI lo) (nI hi') = some (rI (sk (fun x => VV (sT T i [36 + x]) g) p.toInt lo hi'), tr') := by
  obtain ⟨m1, qn, e1, hqn, hqn2⟩ := s_wn (fn := fn) (ff := ff) (N := N) (rD_E h.2.2.1) (by omega) (mk_only hi)
  obtain ⟨m2, qd, e2, hqd, hqd2⟩ := s_wd (fn := fn) (ff := ff) (N := N) (rD_E h.2.2.1) (by omega) (mk_only hg)
  have hb := mk_sdiff (mk_and hqn hqd) (mk_only hi)
  have hbt : btw T g i (fun j => (qn j && qd j) && !(j == i)) := fun j hj => by
    rw [Bool.and_eq_true, Bool.and_eq_true, hqn2 j hj, hqd2 j hj]
    constructor
    · rintro ⟨⟨a, b⟩, c⟩
      exact ⟨a, b, by simpa using c⟩
    · rintro ⟨a, b, c⟩
      exact ⟨⟨a, b⟩, by simpa using c⟩
  have hbg : (fun j => (qn j && qd j) && !(j == i)) g = true := (hbt g hg).mpr ⟨(clo_rev hg).mpr ⟨i, hi, by simp, hd⟩, clo_in hg (by simp), hgi⟩
  have htr : trI T (fun j => (qn j && qd j) && !(j == i)) i (va_cpy va tr (0 : Int32).toNatClampNeg (0 : Int32).toNatClampNeg (30 : Int32).toNatClampNeg) := fun j hj _ _ => by
    have e : va_cpy va tr (0 : Int32).toNatClampNeg (0 : Int32).toNatClampNeg (30 : Int32).toNatClampNeg j = va j := by
      have := pk_cpy_in (f := va) (g := tr) (sp := 0) (dp := 0) (n := 30) (j := j) (Nat.zero_le _) (by omega)
      rw [Nat.zero_add, Nat.sub_zero] at this
      exact this
    rw [e]; exact h.2.2.2 j hj
  obtain ⟨tr1, k1, k2⟩ := d_gw (N := N) h (by omega) hg hi hb hbt hbg (x := lo) (by omega) htr
  obtain ⟨tr2, k3, k4⟩ := d_gw (N := N) h (by omega) hg hi hb hbt hbg (x := hi') (by omega) k2
  unfold mX3_search mX3_search_103 mX3_only sk
  rw [Option.bind_some, e1, Option.bind_some, Option.bind_some, e2, Option.bind_some, Option.bind_some, k1, Option.bind_some]
  dsimp only
  rw [k3, Option.bind_some]
  dsimp only
  cases ev1 : VV (sT T i [36 + lo]) g with
  | none =>
    rw [if_pos ((eL_F okV_n).mpr rfl)]
    exact ⟨_, rfl⟩
  | some z1 =>
    have ho1 := VV_ok (okSF_S (Tx_ok h hi (x := lo) (by omega)).1) g hg
    rw [ev1] at ho1
    rw [if_neg (fun y => by have := (eL_F ho1).mp y; exact nomatch this)]
    cases ev2 : VV (sT T i [36 + hi']) g with
    | none =>
      rw [if_pos ((eL_F okV_n).mpr rfl)]
      exact ⟨_, rfl⟩
    | some z2 =>
      have ho2 := VV_ok (okSF_S (Tx_ok h hi (x := hi') (by omega)).1) g hg
      rw [ev2] at ho2
      rw [if_neg (fun y => by have := (eL_F ho2).mp y; exact nomatch this)]
      have eo : mX3_onOneSide N (eL (some z1)) (eL (some z2)) p.toInt64 = _ := s_oos N (bd_sm (ho1 z1 rfl)) (bd_sm (ho2 z2 rfl)) p
      rw [eo, Option.bind_some]
      cases eos : oS p.toInt z1 z2 with
      | true =>
        rw [if_neg bI_nt]
        dsimp only
        rw [if_pos eos]
        exact ⟨_, rfl⟩
      | false =>
        rw [if_pos bI_f]
        dsimp only
        rw [if_neg (by rw [eos]; decide)]
        exact t_sch_l (N := N) h (by omega) hg hi hb hbt hbg p (hi' - lo) lo hi' 0 N (hi' - lo + 1) z1 tr2 hl hh (Nat.le_refl _) (by omega) (by omega) (by omega) ev1 k4
end SEEK
