/-! seeking -/
def sd (t : Int) : Option Int → Int32
  | none => 2
  | some z => if z < t then -1 else if t < z then 1 else 0
def oS (t z1 z2 : Int) : Bool := decide ((t < z1 ∧ t < z2) ∨ (z1 < t ∧ z2 < t))
theorem sd_2 (t : Int) (v : Option Int) : sd t v = 2 ↔ v = none := by
  cases v with
  | none => exact ⟨fun _ => rfl, fun _ => rfl⟩
  | some z =>
    refine ⟨fun h => ?_, fun h => (nomatch h)⟩
    unfold sd at h
    dsimp only at h
    split at h
    · exact absurd h (by decide)
    · split at h <;> exact absurd h (by decide)
theorem sd_0 (t z : Int) : sd t (some z) = 0 ↔ z = t := by
  unfold sd
  dsimp only
  split
  · exact ⟨fun h => absurd h (by decide), fun h => by omega⟩
  · split
    · exact ⟨fun h => absurd h (by decide), fun h => by omega⟩
    · exact ⟨fun _ => by omega, fun _ => rfl⟩
theorem sd_oS (t z1 z2 : Int) : (sd t (some z1) = sd t (some z2) ∧ ¬ sd t (some z1) = 0) ↔ oS t z1 z2 = true := by
  unfold oS
  rw [decide_eq_true_iff]
  by_cases a : z1 < t
  · have e1 : sd t (some z1) = -1 := if_pos a
    by_cases b : z2 < t
    · have e2 : sd t (some z2) = -1 := if_pos b
      rw [e1, e2]
      exact ⟨fun _ => .inr ⟨a, b⟩, fun _ => ⟨rfl, by decide⟩⟩
    · have e2 : sd t (some z2) ≠ -1 := by
        unfold sd; dsimp only; rw [if_neg b]; split <;> decide
      rw [e1]
      exact ⟨fun h => absurd h.1.symm e2, fun h => by omega⟩
  · by_cases a2 : t < z1
    · have e1 : sd t (some z1) = 1 := by unfold sd; dsimp only; rw [if_neg a, if_pos a2]
      by_cases b : t < z2
      · have e2 : sd t (some z2) = 1 := by unfold sd; dsimp only; rw [if_neg (by omega), if_pos b]
        rw [e1, e2]
        exact ⟨fun _ => .inl ⟨a2, b⟩, fun _ => ⟨rfl, by decide⟩⟩
      · have e2 : sd t (some z2) ≠ 1 := by
          unfold sd; dsimp only; rw [if_neg b]; split <;> decide
        rw [e1]
        exact ⟨fun h => absurd h.1.symm e2, fun h => by omega⟩
    · have e1 : sd t (some z1) = 0 := by unfold sd; dsimp only; rw [if_neg a, if_neg a2]
      rw [e1]
      exact ⟨fun h => absurd rfl h.2, fun h => by omega⟩
theorem i32_L (p : Int32) : p.toInt64 = LL p.toInt := (Int64.ofInt_int32ToInt p).symm
theorem i32_sm (p : Int32) : sm p.toInt := by
  have a := p.le_toInt
  have b := p.toInt_lt
  unfold sm; omega
theorem s_oos (N : Nat) {z1 z2 : Int} (h1 : sm z1) (h2 : sm z2) (p : Int32) : mX3_onOneSide N (LL z1) (LL z2) p.toInt64 = some (bI (oS p.toInt z1 z2)) := by
  have ht := i32_sm p
  unfold mX3_onOneSide mX3_onOneSide_14 mX3_onOneSide_28 mX3_onOneSide_32 mX3_onOneSide_33 oS
  rw [i32_L]
  simp only [cm_le h1 ht, cm_gt h2 ht, cm_ge h1 ht, cm_ge h2 ht]
  by_cases a : z1 ≤ p.toInt
  · rw [if_pos a]
    by_cases b : p.toInt ≤ z1
    · rw [if_pos b, decide_eq_false (by omega)]; rfl
    · rw [if_neg b]
      by_cases c : p.toInt ≤ z2
      · rw [if_pos c, decide_eq_false (by omega)]; rfl
      · rw [if_neg c, decide_eq_true (by omega)]; rfl
  · rw [if_neg a]
    by_cases c : p.toInt < z2
    · rw [if_pos c, decide_eq_true (by omega)]; rfl
    · rw [if_neg c, if_pos (by omega), decide_eq_false (by omega)]; rfl
theorem evF_num (V : Nat → Option Int) (x : Nat) : evF V [36 + x] = some (x : Int) := by
  have e0 : prs V 98 0 none [36 + x] = some (some (x : Int), []) := by
    rw [prs_0]
    dsimp only
    rw [if_neg (by omega), if_neg (by omega), if_neg (by omega), if_neg (by omega), show 36 + x - 36 = x by omega]
  have e1 : prs V 99 1 none [36 + x] = some (some (x : Int), []) := by
    rw [prs_1, e0, Option.bind_some, prs_2]
  have e2 : prs V 100 3 none [36 + x] = some (some (x : Int), []) := by
    rw [prs_3, e1, Option.bind_some, prs_4]
  unfold evF
  rw [if_neg (by simp), e2]
theorem upd_back (f : Nat → Int32) (a : Nat) (v : Int32) : upd (upd f a v) a (f a) = f := by
  funext j
  by_cases e : j = a
  · subst e; exact pk_us
  · rw [pk_un e, pk_un e]
section SEEK
variable {N : Nat} {T : Nat → List Nat} {fw : Nat → Int32} {fn : Nat → Nat} {ff : Nat → Nat → Int32} {va : Nat → Int64} {fm sz : Nat → Int32} {g i : Nat}
theorem Tx_ok (h : dSH T fw fn ff va fm sz) (hi : i < 30) {x : Nat} (hx : x < 1000000) : okSF (sT T i [36 + x]) ∧ acy (EE (sT T i [36 + x])) := ⟨okSF_upd h.1 (okF_num hx), acy_upd h.2.1 hi (no_clo (nm_num x) hi)⟩
theorem q_side (h : dSH T fw fn ff va fm sz) (hN : 500 ≤ N) (hg : g < 30) (hi : i < 30) {x : Nat} (hx : x < 1000000) (p : Int32) (he wt br : Int32) (st wa : Nat → Int32) (rv sk : Nat → Int64) : ∃ (he' wt' br' : Int32) (st' wa' : Nat → Int32) (rv' sk' : Nat → Int64), mX4_side N he wt br fm sz st wa rv sk (nI g) p (nI i) (nI x) = some (sd p.toInt (VV (sT T i [36 + x]) g), he', wt', br', fm, sz, st', wa', rv', sk') := by
  obtain ⟨a1, a2⟩ := Tx_ok h hi hx
  have ek : cv (36 + x) = x := by unfold cv; rw [if_neg (by omega), if_neg (by omega)]; omega
  have hR := rR_upd (c := i) (l := [36 + x]) (fm' := upd fm (15 * i) (nI x)) h.2.2.2.1 (okSF_S h.1) (fun j hj => by
    have : j = 0 := by simp at hj; omega
    subst this
    rw [Nat.add_zero, pk_us]
    show nI x = nI (cv (36 + x))
    rw [ek]) (fun y hy => pk_un (by omega))
  obtain ⟨he', wt', br', st', wa', rv', sk', e, hk⟩ := q_all a1 a2 hR (N := N) (by omega) he wt br st wa rv sk
  obtain ⟨k1, k2, k3⟩ := hk.1 g hg rfl
  have hig : ¬ (nI g < 0 ∨ 30 ≤ (nI g).toNatClampNeg) := nI_in hg (by omega)
  have hii : ¬ (nI i < 0 ∨ 30 ≤ (nI i).toNatClampNeg) := nI_in hi (by omega)
  have hfi : ¬ (nI (15 * i) < 0 ∨ 450 ≤ (nI (15 * i)).toNatClampNeg) := nI_in (by omega) (by omega)
  have e' : mX4_worksAll N (upd fm (15 * i) (nI x)) (upd sz i 1) he wt br st wa rv sk = _ := e
  unfold mX4_side mX4_side_107
  rw [c_15, pk_mul, if_neg hii, if_neg hfi, if_neg hfi, if_neg hii, nI_clamp (n := 15 * i) (by omega), nI_clamp (n := i) (by omega), e', Option.bind_some, upd_back, upd_back]
  have hfi2 : ¬ (nI (15 * i) < 0 ∨ 450 ≤ 15 * i) := fun z => by
    rcases z with z | z
    · exact nI_pos (by omega) z
    · omega
  have hii2 : ¬ (nI i < 0 ∨ 30 ≤ i) := fun z => by
    rcases z with z | z
    · exact nI_pos (by omega) z
    · omega
  rw [if_neg hfi2, if_neg hii2, if_neg hig, if_neg hig, if_neg hig, nI_clamp (n := g) (by omega)]
  dsimp only
  cases ev : VV (sT T i [36 + x]) g with
  | none =>
    rw [if_pos (k1.mpr ev)]
    exact ⟨_, _, _, _, _, _, _, rfl⟩
  | some z =>
    obtain ⟨z1, z2⟩ := k2 z ev
    have ht := i32_sm p
    have hz := bd_sm z2
    rw [if_neg (fun y => by rw [k1.mp y] at ev; exact nomatch ev)]
    unfold sd
    simp only [z1, i32_L, cm_ge hz ht, cm_le hz ht]
    by_cases a : p.toInt ≤ z
    · rw [if_pos a, if_neg (show ¬ z < p.toInt by omega)]
      by_cases b : z ≤ p.toInt
      · rw [if_pos b, if_neg (show ¬ p.toInt < z by omega)]
        exact ⟨_, _, _, _, _, _, _, rfl⟩
      · rw [if_neg b, if_pos (show p.toInt < z by omega)]
        exact ⟨_, _, _, _, _, _, _, rfl⟩
    · rw [if_neg a, if_pos (show z < p.toInt by omega)]
      exact ⟨_, _, _, _, _, _, _, rfl⟩
/-- the row of trials: right where neither the input nor what lies between is -/
def trI (T : Nat → List Nat) (bt' : Nat → Bool) (i : Nat) (tr : Nat → Int64) : Prop := ∀ j, j < 30 → bt' j = false → j ≠ i → tr j = eL (VV T j)
/-- what lies between the input and the goal -/
def btw (T : Nat → List Nat) (g i : Nat) (b : Nat → Bool) : Prop := ∀ j, j < 30 → (b j = true ↔ clo (fun a b => EE T b a) (fun x => x == i) j ∧ clo (EE T) (fun x => x == g) j ∧ j ≠ i)
theorem d_gw (h : dSH T fw fn ff va fm sz) (hN : 500 ≤ N) (hg : g < 30) (hi : i < 30) {b : Nat → Bool} {mb : Int32} (hb : mk b mb) (hbt : btw T g i b) (hbg : b g = true) {x : Nat} (hx : x < 1000000) {tr : Nat → Int64} (htr : trI T b i tr) : ∃ tr', mX3_goalWith N fw fn ff tr (nI g) (nI i) (nI x) mb = some (eL (VV (sT T i [36 + x]) g), tr') ∧ trI T b i tr' := by
  obtain ⟨a1, a2⟩ := Tx_ok h hi hx
  have old : ∀ j, j < 30 → ¬ clo (fun a b => EE T b a) (fun x => x == i) j → VV (sT T i [36 + x]) j = VV T j := fun j hj hn =>
    VV_cg a2 h.2.1 (D := fun k => ¬ clo (fun a b => EE T b a) (fun x => x == i) k) (fun k j hk hj h1 h2 h3 => by
      have hki : k ≠ i := fun e => by
        subst e; exact h1 (clo_in hk (by simp))
      have h2' : EE T k j = true := by
        have e := h2
        unfold EE at e ⊢
        rw [sT_n hki] at e; exact e
      exact h1 (clo_st hj hk h3 h2')) (fun k hk h1 => sT_n (fun e => by
      subst e; exact h1 (clo_in hk (by simp)))) j hj hn
  have ei : VV (sT T i [36 + x]) i = some (x : Int) := by
    rw [VV_eq a2 hi, sT_s, evF_num]
  obtain ⟨va', e, h1, h2⟩ := s_woV (V := VV (sT T i [36 + x])) (N := N) (va0 := vp_updL tr i (lN x)) (VV_ok (okSF_S a1)) h.1 h.2.1 h.2.2.1 (by omega) hb (fun k hk hbk => by
    have hki := ((hbt k hk).mp hbk).2.2
    rw [VV_eq a2 hk, sT_n hki]) (fun c j hc hj hbc hnm => by
    by_cases hji : j = i
    · subst hji
      right
      rw [pk_uLs, ei]; rfl
    · cases hbj : b j with
      | true => exact .inl rfl
      | false =>
        right
        rw [pk_uLn hji, htr j hj hbj hji, old j hj (fun hd => ?_)]
        have hg2 : clo (EE T) (fun x => x == g) j := clo_st hc hj ((hbt c hc).mp hbc).2.1 hnm
        rw [(hbt j hj).mpr ⟨hd, hg2, hji⟩] at hbj
        exact absurd hbj (by decide))
  unfold mX3_goalWith
  rw [if_neg (nI_in hi (by omega)), nI_clamp (by omega), nI_l (by omega), e, Option.bind_some, if_neg (nI_in hg (by omega)), nI_clamp (by omega), h2 g hg hbg]
  refine ⟨va', rfl, fun j hj hbj hji => ?_⟩
  rw [h1 j (fun z => by rw [z.2] at hbj; exact absurd hbj (by decide)), pk_uLn hji]
  exact htr j hj hbj hji
theorem c_sch_l (h : dSH T fw fn ff va fm sz) (hN : 500 ≤ N) (hg : g < 30) (hi : i < 30) {b : Nat → Bool} {mb : Int32} (hb : mk b mb) (hbt : btw T g i b) (hbg : b g = true) (p : Int32) : ∀ (d lo hi' turn n n2 : Nat) (zl : Int) (tr : Nat → Int64) (he wt br : Int32) (st wa : Nat → Int32) (rv sk : Nat → Int64), lo ≤ hi' → hi' < 1000000 → hi' - lo ≤ d → d < n → d < n2 → turn + (hi' - lo) ≤ 999999 → VV (sT T i [36 + lo]) g = some zl → trI T b i tr →
    ∃ (res : Int32) (tr' : Nat → Int64) (he' wt' br' : Int32) (st' wa' : Nat → Int32) (rv' sk' : Nat → Int64), mX3_search_108 N fw fn ff va n tr (nI g) p (nI i) mb (nI lo) (nI hi') (LL zl) (nI turn) = some (res, tr') ∧ mX4_sought_56 N n2 he wt br fm sz st wa rv sk (nI g) p (nI i) (nI lo) (nI hi') (sd p.toInt (some zl)) = some (res, he', wt', br', fm, sz, st', wa', rv', sk') ∧ (res = -1 ∨ ∃ k, k < 1000000 ∧ res = nI k)
  | _, _, _, _, 0, _, _, _, _, _, _, _, _, _, _, _, _, _, hh, _, _, _, _ => absurd hh (Nat.not_lt_zero _)
  | _, _, _, _, _, 0, _, _, _, _, _, _, _, _, _, _, _, _, _, hh, _, _, _ => absurd hh (Nat.not_lt_zero _)
  | d, lo, hi', turn, n + 1, n2 + 1, zl, tr, he, wt, br, st, wa, rv, sk, h1, h2, h3, h4, h5, h6, h7, h8 => by
    have ht := i32_sm p
    have hzl : sm zl := bd_sm (VV_ok (okSF_S (Tx_ok h hi (x := lo) (by omega)).1) g hg zl h7)
    simp only [mX3_search_108, mX3_search_108_b, mX3_search_183, mX4_sought_56, mX4_sought_56_b, mX4_sought_112, mX4_sought_116, nI_1 lo]
    by_cases e : hi' ≤ lo + 1
    · have e1 : nI hi' ≤ nI (lo + 1) := nI_le e (by omega)
      rw [if_pos e1, if_pos e1, ite_self]
      unfold mX3_search_189 mX3_search_204 mX4_sought_131
      rw [i32_L]
      simp only [cm_eq0 hzl ht, sd_0]
      by_cases e2 : zl = p.toInt
      · rw [if_pos e2, if_pos e2]
        exact ⟨_, _, _, _, _, _, _, _, _, rfl, rfl, .inr ⟨lo, by omega, rfl⟩⟩
      · rw [if_neg e2, if_neg e2]
        exact ⟨_, _, _, _, _, _, _, _, _, rfl, rfl, .inr ⟨hi', by omega, rfl⟩⟩
    · have e1 : ¬ nI hi' ≤ nI (lo + 1) := nI_ge (by omega) (by omega)
      have et : ¬ (999999 : Int32) ≤ nI turn := nI_ge (a := turn) (b := 999999) (by omega) (by omega)
      have em : (nI lo + nI hi') / (2 : Int32) = nI ((lo + hi') / 2) := by
        rw [nI_add]; exact pk_div (a := lo + hi') (d := 2) (by omega) (by omega) (by omega)
      have hm1 : lo < (lo + hi') / 2 := by omega
      have hm2 : (lo + hi') / 2 < hi' := by omega
      obtain ⟨x, hx⟩ : ∃ x, x = (lo + hi') / 2 := ⟨_, rfl⟩
      rw [← hx] at em hm1 hm2
      obtain ⟨tr', k1, k2⟩ := d_gw h hN hg hi hb hbt hbg (x := x) (by omega) h8
      obtain ⟨he', wt', br', st', wa', rv', sk', k3⟩ := q_side h hN hg hi (x := x) (by omega) p he wt br st wa rv sk
      rw [if_neg et, if_neg e1, if_neg e1, em, k1, Option.bind_some, k3, Option.bind_some, nI_1]
      dsimp only
      cases ev : VV (sT T i [36 + x]) g with
      | none =>
        rw [if_pos ((eL_F okV_n).mpr rfl), if_pos ((sd_2 _ _).mpr rfl)]
        exact ⟨_, _, _, _, _, _, _, _, _, rfl, rfl, .inl rfl⟩
      | some z =>
        have hzo := VV_ok (okSF_S (Tx_ok h hi (x := x) (by omega)).1) g hg
        rw [ev] at hzo
        have hz : sm z := bd_sm (hzo z rfl)
        rw [if_neg (fun y => by have := (eL_F hzo).mp y; exact nomatch this), if_neg (fun y => by have := (sd_2 _ _).mp y; exact nomatch this)]
        have eo : mX3_onOneSide N (eL (some z)) (LL zl) p.toInt64 = _ := s_oos N hz hzl p
        rw [eo, Option.bind_some]
        have ho := sd_oS p.toInt z zl
        cases eos : oS p.toInt z zl with
        | true =>
          obtain ⟨q1, q2⟩ := ho.mpr eos
          rw [if_neg bI_nt, if_pos q1, if_neg q2, ← q1]
          exact c_sch_l h hN hg hi hb hbt hbg p (d - 1) x hi' (turn + 1) n n2 z tr' he' wt' br' st' wa' rv' sk' (by omega) h2 (by omega) (by omega) (by omega) (by omega) ev k2
        | false =>
          rw [if_pos bI_f]
          have ih := c_sch_l h hN hg hi hb hbt hbg p (d - 1) lo x (turn + 1) n n2 zl tr' he' wt' br' st' wa' rv' sk' (by omega) (by omega) (by omega) (by omega) (by omega) (by omega) h7 k2
          by_cases q1 : sd p.toInt (some z) = sd p.toInt (some zl)
          · have q2 : sd p.toInt (some z) = 0 := Classical.byContradiction (fun q2 => by
              rw [ho.mp ⟨q1, q2⟩] at eos; exact absurd eos (by decide))
            rw [if_pos q1, if_pos q2]
            exact ih
          · rw [if_neg q1]
            exact ih
theorem c_search (h : dSH T fw fn ff va fm sz) (hN : 1000001 ≤ N) (hg : g < 30) (hi : i < 30) (hgi : g ≠ i) (hd : clo (EE T) (fun x => x == g) i) (p : Int32) {lo hi' : Nat} (hl : lo ≤ hi') (hh : hi' < 1000000) (tr : Nat → Int64) (he wt br : Int32) (st wa : Nat → Int32) (rv sk : Nat → Int64) :
    ∃ (res : Int32) (tr' : Nat → Int64) (he' wt' br' : Int32) (st' wa' : Nat → Int32) (rv' sk' : Nat → Int64), mX3_search N fw fn ff va tr (nI g) p (nI i) (nI lo) (nI hi') = some (res, tr') ∧ mX4_sought N he wt br fm sz st wa rv sk (nI g) p (nI i) (nI lo) (nI hi') = some (res, he', wt', br', fm, sz, st', wa', rv', sk') ∧ (res = -1 ∨ ∃ k, k < 1000000 ∧ res = nI k) := by
  obtain ⟨m1, qn, e1, hqn, hqn2⟩ := s_wn (fn := fn) (ff := ff) (N := N) (rD_E h.2.2.1) (by omega) (mk_only hi)
  obtain ⟨m2, qd, e2, hqd, hqd2⟩ := s_wd (fn := fn) (ff := ff) (N := N) (rD_E h.2.2.1) (by omega) (mk_only hg)
  have hb := mk_sdiff (mk_and hqn hqd) (mk_only hi)
  have hbt : btw T g i (fun j => (qn j && qd j) && !(j == i)) := fun j hj => by
    rw [Bool.and_eq_true, Bool.and_eq_true, hqn2 j hj, hqd2 j hj]
    constructor
    · rintro ⟨⟨a, b⟩, c⟩
      exact ⟨a, b, by simpa using c⟩
    · rintro ⟨a, b, c⟩
      exact ⟨⟨a, b⟩, by simpa using c⟩
  have hbg : (fun j => (qn j && qd j) && !(j == i)) g = true := (hbt g hg).mpr ⟨(clo_rev hg).mpr ⟨i, hi, by simp, hd⟩, clo_in hg (by simp), hgi⟩
  have htr : trI T (fun j => (qn j && qd j) && !(j == i)) i (va_cpy va tr (0 : Int32).toNatClampNeg (0 : Int32).toNatClampNeg (30 : Int32).toNatClampNeg) := fun j hj _ _ => by
    have e : va_cpy va tr (0 : Int32).toNatClampNeg (0 : Int32).toNatClampNeg (30 : Int32).toNatClampNeg j = va j := by
      have := pk_cpy_in (f := va) (g := tr) (sp := 0) (dp := 0) (n := 30) (j := j) (Nat.zero_le _) (by omega)
      rw [Nat.zero_add, Nat.sub_zero] at this
      exact this
    rw [e]; exact h.2.2.2.2 j hj
  obtain ⟨tr1, k1, k2⟩ := d_gw (N := N) h (by omega) hg hi hb hbt hbg (x := lo) (by omega) htr
  obtain ⟨tr2, k3, k4⟩ := d_gw (N := N) h (by omega) hg hi hb hbt hbg (x := hi') (by omega) k2
  obtain ⟨he1, wt1, br1, st1, wa1, rv1, sk1, k5⟩ := q_side (N := N) h (by omega) hg hi (x := lo) (by omega) p he wt br st wa rv sk
  obtain ⟨he2, wt2, br2, st2, wa2, rv2, sk2, k6⟩ := q_side (N := N) h (by omega) hg hi (x := hi') (by omega) p he1 wt1 br1 st1 wa1 rv1 sk1
  unfold mX3_search mX3_search_103 mX4_sought mX4_sought_54 mX3_only
  rw [Option.bind_some, e1, Option.bind_some, Option.bind_some, e2, Option.bind_some, Option.bind_some, k1, Option.bind_some, k5, Option.bind_some]
  dsimp only
  rw [k3, Option.bind_some, k6, Option.bind_some]
  dsimp only
  cases ev1 : VV (sT T i [36 + lo]) g with
  | none =>
    rw [if_pos ((eL_F okV_n).mpr rfl), if_pos ((sd_2 _ _).mpr rfl)]
    exact ⟨_, _, _, _, _, _, _, _, _, rfl, rfl, .inl rfl⟩
  | some z1 =>
    have ho1 := VV_ok (okSF_S (Tx_ok h hi (x := lo) (by omega)).1) g hg
    rw [ev1] at ho1
    rw [if_neg (fun y => by have := (eL_F ho1).mp y; exact nomatch this), if_neg (show ¬ sd p.toInt (some z1) = 2 from fun y => by have := (sd_2 _ _).mp y; exact nomatch this)]
    cases ev2 : VV (sT T i [36 + hi']) g with
    | none =>
      rw [if_pos ((eL_F okV_n).mpr rfl), if_pos ((sd_2 _ _).mpr rfl)]
      exact ⟨_, _, _, _, _, _, _, _, _, rfl, rfl, .inl rfl⟩
    | some z2 =>
      have ho2 := VV_ok (okSF_S (Tx_ok h hi (x := hi') (by omega)).1) g hg
      rw [ev2] at ho2
      rw [if_neg (fun y => by have := (eL_F ho2).mp y; exact nomatch this), if_neg (show ¬ sd p.toInt (some z2) = 2 from fun y => by have := (sd_2 _ _).mp y; exact nomatch this)]
      have eo : mX3_onOneSide N (eL (some z1)) (eL (some z2)) p.toInt64 = _ := s_oos N (bd_sm (ho1 z1 rfl)) (bd_sm (ho2 z2 rfl)) p
      rw [eo, Option.bind_some]
      have ho := sd_oS p.toInt z1 z2
      cases eos : oS p.toInt z1 z2 with
      | true =>
        obtain ⟨q1, q2⟩ := ho.mpr eos
        rw [if_neg bI_nt, if_pos q1, if_neg q2]
        exact ⟨_, _, _, _, _, _, _, _, _, rfl, rfl, .inl rfl⟩
      | false =>
        rw [if_pos bI_f]
        have ih := c_sch_l (N := N) h (by omega) hg hi hb hbt hbg p (hi' - lo) lo hi' 0 N N z1 tr2 he2 wt2 br2 st2 wa2 rv2 sk2 hl hh (Nat.le_refl _) (by omega) (by omega) (by omega) ev1 k4
        by_cases q1 : sd p.toInt (some z1) = sd p.toInt (some z2)
        · have q2 : sd p.toInt (some z1) = 0 := Classical.byContradiction (fun q2 => by
            rw [ho.mp ⟨q1, q2⟩] at eos; exact absurd eos (by decide))
          rw [if_pos q1, if_pos q2]
          exact ih
        · rw [if_neg q1]
          exact ih
end SEEK
