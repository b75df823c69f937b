/-! a call in a larger world: other cells F stay -/
/-- A, but not the cells of F -/
def aA (A : Nat → Prop) (F : va_W) : Nat → Prop := fun q => A q ∧ ∀ x ∈ F, x.1 ≠ q
theorem ap_get {F X : va_W} {k : Nat} {q : Nat × va_E} (h : (F ++ X)[k]? = some q) : (k < F.length ∧ F[k]? = some q) ∨ (F.length ≤ k ∧ X[k - F.length]? = some q) := by
  rcases Nat.lt_or_ge k F.length with hk | hk
  · rw [List.getElem?_append_left hk] at h
    exact .inl ⟨hk, h⟩
  · rw [List.getElem?_append_right hk] at h
    exact .inr ⟨hk, h⟩
theorem ap_l {F X : va_W} {k : Nat} {q : Nat × va_E} (h : F[k]? = some q) : (F ++ X)[k]? = some q := by
  rw [List.getElem?_append_left (List.getElem?_eq_some_iff.mp h).1]; exact h
theorem ap_r {F X : va_W} {k : Nat} {q : Nat × va_E} (h : X[k]? = some q) : (F ++ X)[F.length + k]? = some q := by
  rw [List.getElem?_append_right (Nat.le_add_right _ _), Nat.add_sub_cancel_left]; exact h
section FR
variable {s : State} {H H1 : Heap} {locs locs1 : List Loc} {D : va_G} {A : Nat → Prop} {bs : Nat} {tys : List (ClassId × FieldType)} {F X X1 : va_W}
theorem fr_pre (Z : gZ D tys (F ++ X) A bs s H locs) : ∀ q, H.size ≤ q → aA A F q := fun q hq => ⟨Z.2.2.2.2.2 q (Nat.le_trans (Nat.le_trans Z.2.2.2.2.1 Z.2.2.2.1.1) hq), fun x hx e => by
  obtain ⟨k, hk⟩ := List.getElem?_of_mem hx
  have h1 : x.1 < H.size := (Z.1 k x (ap_l hk)).lt
  omega⟩
theorem fr_P (Z : gZ D tys (F ++ X) A bs s H locs) : va_P D vwCl X H := fun k q h => Z.1 (F.length + k) q (ap_r h)
theorem fr_at (Z : gZ D tys (F ++ X) A bs s H locs) {U : State} (hU : U.heap = H) (hW : s.WarmedH U.vm) : gW D tys X (aA A F) H.size U := by
  refine ⟨by rw [hU]; exact Nat.le_refl _, by rw [hU]; exact fr_P Z, va_K.moved hW.alike Z.2.1, fun i j p q hp hq e => ?_, fun k q hq => ⟨Z.2.2.1.2 _ _ (ap_r hq), fun x hx e => ?_⟩⟩
  · have h1 := Z.2.2.1.1 _ _ _ _ (ap_r (F := F) hp) (ap_r (F := F) hq) e
    omega
  · obtain ⟨i, hi⟩ := List.getElem?_of_mem hx
    have h1 := Z.2.2.1.1 _ _ _ _ (ap_l (X := X) hi) (ap_r (F := F) hq) e
    have h2 := (List.getElem?_eq_some_iff.mp hi).1
    omega
theorem fr_post (Z : gZ D tys (F ++ X) A bs s H locs) {t : State} (ht : t.heap = H1) (hvm : s.vm.Alike t.vm) (hB : gW D tys X1 (aA A F) H.size t) (hk : ∀ q : Nat, q < H.size → ¬ aA A F q → H1[q]? = H[q]?) (hS : va_S A s.heap H1 locs1) : gZ D tys (F ++ X1) A bs s H1 locs1 := by
  subst ht
  obtain ⟨h1, h2, h3, h4⟩ := hB
  refine ⟨fun k q h => ?_, Z.2.1, ⟨fun i j p q hp hq e => ?_, fun k q h => ?_⟩, hS, Z.2.2.2.2⟩
  · rcases ap_get h with ⟨_, h⟩ | ⟨_, h⟩
    · have hz := Z.1 k q (ap_l h)
      have he := hk q.1 hz.lt (fun a => a.2 q (List.mem_of_getElem? h) rfl)
      exact hz.kept he
    · exact h2 _ q h
  · rcases ap_get hp with ⟨a1, a2⟩ | ⟨a1, a2⟩ <;> rcases ap_get hq with ⟨b1, b2⟩ | ⟨b1, b2⟩
    · exact Z.2.2.1.1 _ _ _ _ (ap_l (X := X) a2) (ap_l (X := X) b2) e
    · exact absurd e ((h4.2 _ _ b2).2 p (List.mem_of_getElem? a2))
    · exact absurd e.symm ((h4.2 _ _ a2).2 q (List.mem_of_getElem? b2))
    · have := h4.1 _ _ _ _ a2 b2 e
      omega
  · rcases ap_get h with ⟨_, h⟩ | ⟨_, h⟩
    · exact Z.2.2.1.2 _ _ (ap_l (X := X) h)
    · exact (h4.2 _ q h).1
end FR
/-- which of the five exceptions is none of another -/
def ncW : List (String × String) := [("java/lang/IllegalStateException", "java/lang/IllegalArgumentException"), ("java/lang/IllegalStateException", "java/lang/IndexOutOfBoundsException"), ("java/lang/IllegalArgumentException", "java/lang/IndexOutOfBoundsException"), ("java/lang/ArithmeticException", "java/lang/IndexOutOfBoundsException"), ("java/util/NoSuchElementException", "java/lang/IndexOutOfBoundsException"), ("java/util/NoSuchElementException", "java/lang/IllegalArgumentException"), ("java/util/NoSuchElementException", "java/lang/IllegalStateException")]
/-- what the law's methods find beside their world -/
def lQN (U : State) : Prop := dN U ∧ ∀ q ∈ ncW, va_Nc q.1 q.2 U
theorem lQN_same {u U : State} (h : u.vm = U.vm) (hN : lQN u) : lQN U := ⟨dN_same h hN.1, fun q hq => va_Nc.moved (by rw [h]; exact Vm.Alike.refl U.vm) (hN.2 q hq)⟩
theorem lQN_warm {s U : State} (hW : s.WarmedH U.vm) (hN : lQN s) : lQN U := ⟨dN_warm hW hN.1, fun q hq => va_Nc.moved hW.alike (hN.2 q hq)⟩
def lP (Wd : State → Prop) (A : Nat → Prop) : State → Prop := fun U => Wd U ∧ lQN U ∧ dT A U
/-- a body with a table of handlers, that catches all that comes -/
theorem Met_ofWH {l : Launch} {y : MethodName} {ws ws' : List Cond} {rm : Room} {Pc : Array Value → State → Prop} {Qc : Array Value → State → Outcome → State → Prop} {mc ms : Nat} {free : Addr → Prop} {cc : ByteArray} {maxL : Nat} {ret : Option FieldType} {hh : List (Nat × Nat × Nat × Nat)}
    (hy : plainName y.cls = true) (hw : ws = Cond.codeWith y cc maxL ret hh :: ws')
    (body : ∀ p e s m args below meth c s₁, BodyLoose p l y (headSpec ws rm) cc maxL ret e s m args below meth c s₁ → c.maxLocals = maxL → c.exceptionTable.toList = tableOf hh → Pc args s →
      W p l e (headSpec ws rm).room s m args below meth c s.heap [] 0 0 (MQ below Qc args s mc ms free) (entryFrame m args maxL)) : Met l y ws rm Pc Qc mc ms free := by
  refine MetFree.of_bodyS (code := cc) (maxLocals := maxL) (ret := ret) hy ?_ ?_
  · intro args s m h hn
    obtain ⟨m9, meth, c, hn9, h1, h2, h3, h4, -, h5, h6, -⟩ := Cond.codeWith_spec (atoms_spec (ws := ws) h _ (by rw [hw]; exact List.mem_cons_self))
    cases hn.symm.trans hn9
    exact ⟨meth, c, h1, h2, h3, h4, h5, h6⟩
  · intro p e s m args below meth c s₁ B hml hP _
    have hh0 : s₁.heap = s.heap := by rw [B.state]; rfl
    have ht : c.exceptionTable.toList = tableOf hh := vx_table (x := y) B (atoms_spec (ws := ws) B.pre _ (by rw [hw]; exact List.mem_cons_self))
    obtain ⟨t, a1, o, b1, b2, b3⟩ := body p e s m args below meth c s₁ B hml ht hP s₁ hh0 (Stand.of_body B)
    exact ⟨t, o, a1, b1, b2, ⟨b3.1, b3.2⟩⟩
theorem set_same {F : va_W} {k : Nat} {q : Nat × va_E} (h : F[k]? = some q) : F.set k q = F := by
  obtain ⟨hk, e⟩ := List.getElem?_eq_some_iff.mp h
  rw [← e]
  exact List.set_getElem_self hk
theorem gZ_swap {s : State} {H : Heap} {locs : List Loc} {D : va_G} {A : Nat → Prop} {bs : Nat} {tys : List (ClassId × FieldType)} {F X : va_W} (Z : gZ D tys (F ++ X) A bs s H locs) : gZ D tys (X ++ F) A bs s H locs := by
  refine ⟨fun k q h => ?_, Z.2.1, ⟨fun i j p q hp hq e => ?_, fun k q h => ?_⟩, Z.2.2.2⟩
  · rcases ap_get h with ⟨_, h⟩ | ⟨_, h⟩
    · exact Z.1 _ q (ap_r h)
    · exact Z.1 _ q (ap_l h)
  · rcases ap_get hp with ⟨a1, a2⟩ | ⟨a1, a2⟩ <;> rcases ap_get hq with ⟨b1, b2⟩ | ⟨b1, b2⟩
    · have := Z.2.2.1.1 _ _ _ _ (ap_r (F := F) a2) (ap_r (F := F) b2) e
      omega
    · have h1 := Z.2.2.1.1 _ _ _ _ (ap_r (F := F) a2) (ap_l (X := X) b2) e
      have h2 := (List.getElem?_eq_some_iff.mp b2).1
      omega
    · have h1 := Z.2.2.1.1 _ _ _ _ (ap_l (X := X) a2) (ap_r (F := F) b2) e
      have h2 := (List.getElem?_eq_some_iff.mp a2).1
      omega
    · have := Z.2.2.1.1 _ _ _ _ (ap_l (X := X) a2) (ap_l (X := X) b2) e
      omega
  · rcases ap_get h with ⟨_, h⟩ | ⟨_, h⟩
    · exact Z.2.2.1.2 _ _ (ap_r (F := F) h)
    · exact Z.2.2.1.2 _ _ (ap_l (X := X) h)
section FRW
variable {s t : State} {D : va_G} {A : Nat → Prop} {bs : Nat} {tys : List (ClassId × FieldType)} {F X X1 : va_W}
theorem gW_swap (hA : ∀ q, bs ≤ q → A q) (h : gW D tys (F ++ X) A bs s) : gW D tys (X ++ F) A bs s := by
  have Z := gZ_swap (g_start hA h)
  exact ⟨h.1, Z.1, Z.2.1, Z.2.2.1⟩
theorem fr_W (hA : ∀ q, bs ≤ q → A q) (h : gW D tys (F ++ X) A bs s) (hf : va_F (aA A F) s t) (hB : gW D tys X1 (aA A F) s.heap.size t) : gW D tys (F ++ X1) A bs t := by
  have Z := g_start hA h
  obtain ⟨h1, h2, h3, h4⟩ := hB
  refine ⟨Nat.le_trans h.1 hf.1, fun k q hq => ?_, h3, ⟨fun i j p q hp hq e => ?_, fun k q hq => ?_⟩⟩
  · rcases ap_get hq with ⟨_, hq⟩ | ⟨_, hq⟩
    · have hz := Z.1 k q (ap_l hq)
      have he := hf.2 q.1 hz.lt (fun a => a.2 q (List.mem_of_getElem? hq) rfl)
      exact hz.kept he
    · exact h2 _ q hq
  · rcases ap_get hp with ⟨a1, a2⟩ | ⟨a1, a2⟩ <;> rcases ap_get hq with ⟨b1, b2⟩ | ⟨b1, b2⟩
    · exact Z.2.2.1.1 _ _ _ _ (ap_l (X := X) a2) (ap_l (X := X) b2) e
    · exact absurd e ((h4.2 _ _ b2).2 p (List.mem_of_getElem? a2))
    · exact absurd e.symm ((h4.2 _ _ a2).2 q (List.mem_of_getElem? b2))
    · have := h4.1 _ _ _ _ a2 b2 e
      omega
  · rcases ap_get hq with ⟨_, hq⟩ | ⟨_, hq⟩
    · exact Z.2.2.1.2 _ _ (ap_l (X := X) hq)
    · exact (h4.2 _ q hq).1
theorem fr_sW (hA : ∀ q, bs ≤ q → A q) (h : gW D tys (F ++ X) A bs s) : gW D tys X (aA A F) s.heap.size s := fr_at (g_start hA h) rfl (State.WarmedH.refl s)
theorem fr_sA (hA : ∀ q, bs ≤ q → A q) (h : gW D tys (F ++ X) A bs s) : ∀ q, s.heap.size ≤ q → aA A F q := fr_pre (g_start hA h)
theorem dT_s (hT : dT A s) : dT (aA A F) s := dT_go hT va_S.rf rfl (State.WarmedH.refl s) (fun _ h => h.1)
theorem aF_w (h : va_F (aA A F) s t) : va_F A s t := ⟨h.1, fun q a b => h.2 q a (fun z => b z.1)⟩
end FRW
/-- a contract out of another one, chosen by the state -/
theorem vx_conv {l : Launch} {y : MethodName} {ws : List Cond} {rm : Room} {Pc' : Array Value → State → Prop} {Qc' : Array Value → State → Outcome → State → Prop} {XC' : String → State → State → Prop} {mc ms : Nat} {A : Addr → Prop}
    (h : ∀ args s, Pc' args s → ∃ (Pc : Array Value → State → Prop) (Qc : Array Value → State → Outcome → State → Prop) (XC : String → State → State → Prop) (free : Addr → Prop), vx_Met l y ws rm Pc Qc XC mc ms free ∧ Pc args s ∧ (∀ q, free q → A q) ∧ (∀ o t, Qc args s o t → Qc' args s o t) ∧ ∀ E t, XC E s t → XC' E s t) : vx_Met l y ws rm Pc' Qc' XC' mc ms A := by
  intro p e ha hc hk s m args below hf happ hP hK
  obtain ⟨Pc, Qc, XC, free, hM, h1, h2, h3, h4⟩ := h args s hP
  obtain ⟨n, o, g1, g2, g3, g4⟩ := hM p e ha hc hk s m args below hf happ h1 trivial
  refine ⟨n, o, g1, g2, g3, ?_⟩
  rcases g4 with ⟨q1, L, q2, q3⟩ | ⟨q, rfl, E, ce, L, x1, x2, x3, x4, x5, x6, x7⟩
  · exact .inl ⟨h3 _ _ q1, L, q2, fun z hz => h2 _ (q3 z hz)⟩
  · exact .inr ⟨q, rfl, E, ce, L, h4 _ _ x1, x2, x3, x4, x5, x6, fun z hz => h2 _ (x7 z hz)⟩
theorem m_conv {l : Launch} {y : MethodName} {ws : List Cond} {rm : Room} {Pc' : Array Value → State → Prop} {Qc' : Array Value → State → Outcome → State → Prop} {mc ms : Nat} {A : Addr → Prop}
    (h : ∀ args s, Pc' args s → ∃ (Pc : Array Value → State → Prop) (Qc : Array Value → State → Outcome → State → Prop) (free : Addr → Prop), Met l y ws rm Pc Qc mc ms free ∧ Pc args s ∧ (∀ q, free q → A q) ∧ ∀ o t, Qc args s o t → Qc' args s o t) : Met l y ws rm Pc' Qc' mc ms A := by
  intro p e ha hc hk s m args below hf happ hP hK
  obtain ⟨Pc, Qc, free, hM, h1, h2, h3⟩ := h args s hP
  obtain ⟨n, o, g1, g2, g3, q1, L, q2, q3⟩ := hM p e ha hc hk s m args below hf happ h1 trivial
  exact ⟨n, o, g1, g2, g3, h3 _ _ q1, L, q2, fun z hz => h2 _ (q3 z hz)⟩
/-! an office that stands for a state: alone with other cells, or two of them -/
/-- the cells of an office that stands for σ -/
def isO (cyI cyJ cyO : ClassId) (d : Nat → Nat) (σ : St) (X : va_W) : Prop := ∃ (P : List Nat) (g : Nat → va_E) (eA rs rr : Nat) (at' : Int32) (fa ra : Nat → Nat) (ol fd dc : Int32) (ds fw : Nat → Int32) (fn : Nat → Nat) (ff : Nat → Nat → Int32) (qw : Nat → Int32) (qn : Nat → Nat) (qf : Nat → Nat → Int32) (va tr : Nat → Int64), X = XD d cyI cyJ cyO eA (d 5) (d 6) rs rr at' fa ra ol fd dc ds va tr ++ va_pl P g ∧ dF cyI P g eA fa ra fw fn ff qw qn qf ∧ rp σ ol fd dc ds fw fn ff qw qn qf va
def aW (F : va_W) (D : va_G) (cyI cyJ cyO : ClassId) (A : Nat → Prop) (bs : Nat) (d : Nat → Nat) (σ : St) (U : State) : Prop := ∃ X : va_W, isO cyI cyJ cyO d σ X ∧ gW D (gT cyI cyJ cyO) (F ++ X) A bs U
def aZ (F : va_W) (D : va_G) (cyI cyJ cyO : ClassId) (A : Nat → Prop) (bs : Nat) (d : Nat → Nat) (σ : St) (s : State) (H : Heap) (locs : List Loc) : Prop := ∃ X : va_W, isO cyI cyJ cyO d σ X ∧ gZ D (gT cyI cyJ cyO) (F ++ X) A bs s H locs
def tW (D : va_G) (cyI cyJ cyO : ClassId) (A : Nat → Prop) (bs : Nat) (d : Nat → Nat) (σ : St) (d' : Nat → Nat) (τ : St) (U : State) : Prop := ∃ X Y : va_W, isO cyI cyJ cyO d σ X ∧ isO cyI cyJ cyO d' τ Y ∧ gW D (gT cyI cyJ cyO) (X ++ Y) A bs U
def tZ (D : va_G) (cyI cyJ cyO : ClassId) (A : Nat → Prop) (bs : Nat) (d : Nat → Nat) (σ : St) (d' : Nat → Nat) (τ : St) (s : State) (H : Heap) (locs : List Loc) : Prop := ∃ X Y : va_W, isO cyI cyJ cyO d σ X ∧ isO cyI cyJ cyO d' τ Y ∧ gZ D (gT cyI cyJ cyO) (X ++ Y) A bs s H locs
section OB
variable {s t : State} {H H1 : Heap} {locs locs1 : List Loc} {D : va_G} {A : Nat → Prop} {bs : Nat} {F : va_W} {cyI cyJ cyO : ClassId} {d d' : Nat → Nat} {σ σ' τ τ' : St} {X : va_W}
theorem isO_hd (h : isO cyI cyJ cyO d σ X) : ∃ fs : List Value, X[0]? = some (d 0, .inr (5, fs)) := by
  obtain ⟨P, g, eA, rs, rr, at', fa, ra, ol, fd, dc, ds, fw, fn, ff, qw, qn, qf, va, tr, rfl, _, _⟩ := h
  exact ⟨_, rfl⟩
theorem isO_ok (h : isO cyI cyJ cyO d σ X) : ok σ := by
  obtain ⟨P, g, eA, rs, rr, at', fa, ra, ol, fd, dc, ds, fw, fn, ff, qw, qn, qf, va, tr, rfl, _, h⟩ := h
  exact rp_ok h
theorem aP_blind {av : List Value} : FrameBlind (va_Pc av (lP (aW F D cyI cyJ cyO A bs d σ) A)) := fun a U g mk q => by
  obtain ⟨q1, ⟨X, q2, q3⟩, q4, q5⟩ := q
  exact ⟨q1, ⟨X, q2, q3.1, q3.2.1, va_K.moved (u := U) (U := U.calling g mk a) (Vm.Alike.refl U.vm) q3.2.2.1, q3.2.2.2⟩, lQN_same (u := U) (U := U.calling g mk a) rfl q4, dT_same (u := U) (U := U.calling g mk a) rfl rfl q5⟩
theorem tP_blind {av : List Value} : FrameBlind (va_Pc av (lP (tW D cyI cyJ cyO A bs d σ d' τ) A)) := fun a U g mk q => by
  obtain ⟨q1, ⟨X, Y, q2, q6, q3⟩, q4, q5⟩ := q
  exact ⟨q1, ⟨X, Y, q2, q6, q3.1, q3.2.1, va_K.moved (u := U) (U := U.calling g mk a) (Vm.Alike.refl U.vm) q3.2.2.1, q3.2.2.2⟩, lQN_same (u := U) (U := U.calling g mk a) rfl q4, dT_same (u := U) (U := U.calling g mk a) rfl rfl q5⟩
theorem aZ_S (Z : aZ F D cyI cyJ cyO A bs d σ s H locs) : va_S A s.heap H locs := by
  obtain ⟨X, _, Z⟩ := Z
  exact Z.2.2.2.1
theorem tZ_S (Z : tZ D cyI cyJ cyO A bs d σ d' τ s H locs) : va_S A s.heap H locs := by
  obtain ⟨X, Y, _, _, Z⟩ := Z
  exact Z.2.2.2.1
theorem aZ_ok (Z : aZ F D cyI cyJ cyO A bs d σ s H locs) : ok σ := by
  obtain ⟨X, h, Z⟩ := Z
  exact isO_ok h
theorem tZ_ok (Z : tZ D cyI cyJ cyO A bs d σ d' τ s H locs) : ok σ ∧ ok τ := by
  obtain ⟨X, Y, h, h2, Z⟩ := Z
  exact ⟨isO_ok h, isO_ok h2⟩
theorem aP_pre (Z : aZ F D cyI cyJ cyO A bs d σ s H locs) (hN : lQN s) (hT : dT A s) (av : List Value) : ∀ U : State, U.heap = H → s.WarmedH U.vm → va_Pc av (lP (aW F D cyI cyJ cyO A bs d σ) A) av.toArray U := fun U hU hW => by
  obtain ⟨X, h, Z⟩ := Z
  exact ⟨rfl, ⟨X, h, (g_pre Z av U hU hW).2⟩, lQN_warm hW hN, dT_go hT Z.2.2.2.1 hU hW (fun _ h => h)⟩
theorem tP_pre (Z : tZ D cyI cyJ cyO A bs d σ d' τ s H locs) (hN : lQN s) (hT : dT A s) (av : List Value) : ∀ U : State, U.heap = H → s.WarmedH U.vm → va_Pc av (lP (tW D cyI cyJ cyO A bs d σ d' τ) A) av.toArray U := fun U hU hW => by
  obtain ⟨X, Y, h, h2, Z⟩ := Z
  exact ⟨rfl, ⟨X, Y, h, h2, (g_pre Z av U hU hW).2⟩, lQN_warm hW hN, dT_go hT Z.2.2.2.1 hU hW (fun _ h => h)⟩
theorem aZ_start (hA : ∀ q, bs ≤ q → A q) (h : aW F D cyI cyJ cyO A bs d σ s) : aZ F D cyI cyJ cyO A bs d σ s s.heap [] := by
  obtain ⟨X, h1, h⟩ := h
  exact ⟨X, h1, g_start hA h⟩
theorem tZ_start (hA : ∀ q, bs ≤ q → A q) (h : tW D cyI cyJ cyO A bs d σ d' τ s) : tZ D cyI cyJ cyO A bs d σ d' τ s s.heap [] := by
  obtain ⟨X, Y, h1, h2, h⟩ := h
  exact ⟨X, Y, h1, h2, g_start hA h⟩
theorem aZ_end (Z : aZ F D cyI cyJ cyO A bs d σ s H locs) (ht : t.heap = H) (hW : s.WarmedH t.vm) : aW F D cyI cyJ cyO A bs d σ t := by
  obtain ⟨X, h1, Z⟩ := Z
  exact ⟨X, h1, g_end Z ht hW⟩
theorem tZ_end (Z : tZ D cyI cyJ cyO A bs d σ d' τ s H locs) (ht : t.heap = H) (hW : s.WarmedH t.vm) : tW D cyI cyJ cyO A bs d σ d' τ t := by
  obtain ⟨X, Y, h1, h2, Z⟩ := Z
  exact ⟨X, Y, h1, h2, g_end Z ht hW⟩
theorem aZ_post (Z : aZ F D cyI cyJ cyO A bs d σ s H locs) (ht : t.heap = H1) (hvm : s.vm.Alike t.vm) (hB : aW F D cyI cyJ cyO A bs d σ' t) (hS : va_S A s.heap H1 locs1) : aZ F D cyI cyJ cyO A bs d σ' s H1 locs1 := by
  obtain ⟨X, _, Z⟩ := Z
  obtain ⟨X1, h1, hB⟩ := hB
  exact ⟨X1, h1, g_post Z ht hvm hB hS⟩
theorem tZ_post (Z : tZ D cyI cyJ cyO A bs d σ d' τ s H locs) (ht : t.heap = H1) (hvm : s.vm.Alike t.vm) (hB : tW D cyI cyJ cyO A bs d σ' d' τ' t) (hS : va_S A s.heap H1 locs1) : tZ D cyI cyJ cyO A bs d σ' d' τ' s H1 locs1 := by
  obtain ⟨X, Y, _, _, Z⟩ := Z
  obtain ⟨X1, Y1, h1, h2, hB⟩ := hB
  exact ⟨X1, Y1, h1, h2, g_post Z ht hvm hB hS⟩
theorem gZ_keep {ws : va_W} {tys : List (ClassId × FieldType)} (Z : gZ D tys ws A bs s H locs) (hk : ∀ q : Nat, q < H.size → ¬ False → H1[q]? = H[q]?) (hS : va_S A s.heap H1 locs1) : gZ D tys ws A bs s H1 locs1 := ⟨Z.1.kept (fun k q h => hk q.1 ((Z.1 k q h).lt) id), Z.2.1, Z.2.2.1, hS, Z.2.2.2.2⟩
theorem aZ_keep (Z : aZ F D cyI cyJ cyO A bs d σ s H locs) (hk : ∀ q : Nat, q < H.size → ¬ False → H1[q]? = H[q]?) (hS : va_S A s.heap H1 locs1) : aZ F D cyI cyJ cyO A bs d σ s H1 locs1 := by
  obtain ⟨X, h, Z⟩ := Z
  exact ⟨X, h, gZ_keep Z hk hS⟩
theorem tZ_keep (Z : tZ D cyI cyJ cyO A bs d σ d' τ s H locs) (hk : ∀ q : Nat, q < H.size → ¬ False → H1[q]? = H[q]?) (hS : va_S A s.heap H1 locs1) : tZ D cyI cyJ cyO A bs d σ d' τ s H1 locs1 := by
  obtain ⟨X, Y, h, h2, Z⟩ := Z
  exact ⟨X, Y, h, h2, gZ_keep Z hk hS⟩
theorem aZ_recv (Z : aZ F D cyI cyJ cyO A bs d σ s H locs) : ∃ cell : Cell, H[d 0]? = some cell ∧ cell.vm.isStatics = false ∧ s.vm.findClass RX3 = some cell.cls := by
  obtain ⟨X, h, Z⟩ := Z
  obtain ⟨fs, h⟩ := isO_hd h
  exact va_recv Z.2.1 Z.1 (ci := 5) (q := (RX3, TX3, 9)) rfl (ap_r h)
theorem tZ_recvL (Z : tZ D cyI cyJ cyO A bs d σ d' τ s H locs) : ∃ cell : Cell, H[d 0]? = some cell ∧ cell.vm.isStatics = false ∧ s.vm.findClass RX3 = some cell.cls := by
  obtain ⟨X, Y, h, _, Z⟩ := Z
  obtain ⟨fs, h⟩ := isO_hd h
  exact va_recv Z.2.1 Z.1 (ci := 5) (q := (RX3, TX3, 9)) rfl (ap_l h)
theorem tZ_recvR (Z : tZ D cyI cyJ cyO A bs d σ d' τ s H locs) : ∃ cell : Cell, H[d' 0]? = some cell ∧ cell.vm.isStatics = false ∧ s.vm.findClass RX3 = some cell.cls := by
  obtain ⟨X, Y, _, h, Z⟩ := Z
  obtain ⟨fs, h⟩ := isO_hd h
  exact va_recv Z.2.1 Z.1 (ci := 5) (q := (RX3, TX3, 9)) rfl (ap_r h)
end OB
/-! a contract for one office holds for each of two -/
section TWO
variable {l : Launch} {y : MethodName} {ws : List Cond} {rm : Room} {av : List Value} {D : va_G} {cyI cyJ cyO : ClassId} {A : Nat → Prop} {bs : Nat} {d d' : Nat → Nat} {σ τ : St} {mc ms : Nat} {S : Type} {σ' : S → St}
theorem tL_i (hA : ∀ q, bs ≤ q → A q) {post : Int32 → S → Prop} (hM : ∀ Y, Met l y ws rm (va_Pc av (lP (aW Y D cyI cyJ cyO A bs d σ) A)) (va_Qi post (fun u => aW Y D cyI cyJ cyO A bs d (σ' u)) A) mc ms A) : Met l y ws rm (va_Pc av (lP (tW D cyI cyJ cyO A bs d σ d' τ) A)) (va_Qi post (fun u => tW D cyI cyJ cyO A bs d (σ' u) d' τ) A) mc ms A := by
  refine m_conv (fun args s hP => ?_)
  obtain ⟨hav, ⟨X, Y, h1, h2, hW⟩, hN⟩ := hP
  refine ⟨_, _, _, hM Y, ⟨hav, ⟨X, h1, gW_swap hA hW⟩, hN⟩, fun _ h => h, fun o t h => ?_⟩
  obtain ⟨⟨r, u, ho, hp, X1, h3, hB⟩, hf⟩ := h
  exact ⟨⟨r, u, ho, hp, X1, Y, h3, h2, gW_swap hA hB⟩, hf⟩
theorem tR_i (hA : ∀ q, bs ≤ q → A q) {post : Int32 → S → Prop} (hM : ∀ X, Met l y ws rm (va_Pc av (lP (aW X D cyI cyJ cyO A bs d' τ) A)) (va_Qi post (fun u => aW X D cyI cyJ cyO A bs d' (σ' u)) A) mc ms A) : Met l y ws rm (va_Pc av (lP (tW D cyI cyJ cyO A bs d σ d' τ) A)) (va_Qi post (fun u => tW D cyI cyJ cyO A bs d σ d' (σ' u)) A) mc ms A := by
  refine m_conv (fun args s hP => ?_)
  obtain ⟨hav, ⟨X, Y, h1, h2, hW⟩, hN⟩ := hP
  refine ⟨_, _, _, hM X, ⟨hav, ⟨Y, h2, hW⟩, hN⟩, fun _ h => h, fun o t h => ?_⟩
  obtain ⟨⟨r, u, ho, hp, Y1, h3, hB⟩, hf⟩ := h
  exact ⟨⟨r, u, ho, hp, X, Y1, h1, h3, hB⟩, hf⟩
theorem tL_l (hA : ∀ q, bs ≤ q → A q) {post : Int64 → S → Prop} (hM : ∀ Y, Met l y ws rm (va_Pc av (lP (aW Y D cyI cyJ cyO A bs d σ) A)) (va_Ql post (fun u => aW Y D cyI cyJ cyO A bs d (σ' u)) A) mc ms A) : Met l y ws rm (va_Pc av (lP (tW D cyI cyJ cyO A bs d σ d' τ) A)) (va_Ql post (fun u => tW D cyI cyJ cyO A bs d (σ' u) d' τ) A) mc ms A := by
  refine m_conv (fun args s hP => ?_)
  obtain ⟨hav, ⟨X, Y, h1, h2, hW⟩, hN⟩ := hP
  refine ⟨_, _, _, hM Y, ⟨hav, ⟨X, h1, gW_swap hA hW⟩, hN⟩, fun _ h => h, fun o t h => ?_⟩
  obtain ⟨⟨r, u, ho, hp, X1, h3, hB⟩, hf⟩ := h
  exact ⟨⟨r, u, ho, hp, X1, Y, h3, h2, gW_swap hA hB⟩, hf⟩
theorem tR_l (hA : ∀ q, bs ≤ q → A q) {post : Int64 → S → Prop} (hM : ∀ X, Met l y ws rm (va_Pc av (lP (aW X D cyI cyJ cyO A bs d' τ) A)) (va_Ql post (fun u => aW X D cyI cyJ cyO A bs d' (σ' u)) A) mc ms A) : Met l y ws rm (va_Pc av (lP (tW D cyI cyJ cyO A bs d σ d' τ) A)) (va_Ql post (fun u => tW D cyI cyJ cyO A bs d σ d' (σ' u)) A) mc ms A := by
  refine m_conv (fun args s hP => ?_)
  obtain ⟨hav, ⟨X, Y, h1, h2, hW⟩, hN⟩ := hP
  refine ⟨_, _, _, hM X, ⟨hav, ⟨Y, h2, hW⟩, hN⟩, fun _ h => h, fun o t h => ?_⟩
  obtain ⟨⟨r, u, ho, hp, Y1, h3, hB⟩, hf⟩ := h
  exact ⟨⟨r, u, ho, hp, X, Y1, h1, h3, hB⟩, hf⟩
variable {ex : String → Prop} {σx : St}
theorem tL_xi (hA : ∀ q, bs ≤ q → A q) {post : Int32 → S → Prop} (hM : ∀ Y, vx_Met l y ws rm (va_Pc av (lP (aW Y D cyI cyJ cyO A bs d σ) A)) (va_Qi post (fun u => aW Y D cyI cyJ cyO A bs d (σ' u)) A) (vx_X (S := Unit) (fun _ => True) (fun E _ U => ex E ∧ aW Y D cyI cyJ cyO A bs d σx U) A) mc ms A) : vx_Met l y ws rm (va_Pc av (lP (tW D cyI cyJ cyO A bs d σ d' τ) A)) (va_Qi post (fun u => tW D cyI cyJ cyO A bs d (σ' u) d' τ) A) (vx_X (S := Unit) (fun _ => True) (fun E _ U => ex E ∧ tW D cyI cyJ cyO A bs d σx d' τ U) A) mc ms A := by
  refine vx_conv (fun args s hP => ?_)
  obtain ⟨hav, ⟨X, Y, h1, h2, hW⟩, hN⟩ := hP
  refine ⟨_, _, _, _, hM Y, ⟨hav, ⟨X, h1, gW_swap hA hW⟩, hN⟩, fun _ h => h, fun o t h => ?_, fun E t h => ?_⟩
  · obtain ⟨⟨r, u, ho, hp, X1, h3, hB⟩, hf⟩ := h
    exact ⟨⟨r, u, ho, hp, X1, Y, h3, h2, gW_swap hA hB⟩, hf⟩
  · obtain ⟨u, _, ⟨he, X1, h3, hB⟩, hf⟩ := h
    exact ⟨u, trivial, ⟨he, X1, Y, h3, h2, gW_swap hA hB⟩, hf⟩
theorem tR_xi (hA : ∀ q, bs ≤ q → A q) {post : Int32 → S → Prop} (hM : ∀ X, vx_Met l y ws rm (va_Pc av (lP (aW X D cyI cyJ cyO A bs d' τ) A)) (va_Qi post (fun u => aW X D cyI cyJ cyO A bs d' (σ' u)) A) (vx_X (S := Unit) (fun _ => True) (fun E _ U => ex E ∧ aW X D cyI cyJ cyO A bs d' σx U) A) mc ms A) : vx_Met l y ws rm (va_Pc av (lP (tW D cyI cyJ cyO A bs d σ d' τ) A)) (va_Qi post (fun u => tW D cyI cyJ cyO A bs d σ d' (σ' u)) A) (vx_X (S := Unit) (fun _ => True) (fun E _ U => ex E ∧ tW D cyI cyJ cyO A bs d σ d' σx U) A) mc ms A := by
  refine vx_conv (fun args s hP => ?_)
  obtain ⟨hav, ⟨X, Y, h1, h2, hW⟩, hN⟩ := hP
  refine ⟨_, _, _, _, hM X, ⟨hav, ⟨Y, h2, hW⟩, hN⟩, fun _ h => h, fun o t h => ?_, fun E t h => ?_⟩
  · obtain ⟨⟨r, u, ho, hp, Y1, h3, hB⟩, hf⟩ := h
    exact ⟨⟨r, u, ho, hp, X, Y1, h1, h3, hB⟩, hf⟩
  · obtain ⟨u, _, ⟨he, Y1, h3, hB⟩, hf⟩ := h
    exact ⟨u, trivial, ⟨he, X, Y1, h1, h3, hB⟩, hf⟩
theorem tL_xl (hA : ∀ q, bs ≤ q → A q) {post : Int64 → S → Prop} (hM : ∀ Y, vx_Met l y ws rm (va_Pc av (lP (aW Y D cyI cyJ cyO A bs d σ) A)) (va_Ql post (fun u => aW Y D cyI cyJ cyO A bs d (σ' u)) A) (vx_X (S := Unit) (fun _ => True) (fun E _ U => ex E ∧ aW Y D cyI cyJ cyO A bs d σx U) A) mc ms A) : vx_Met l y ws rm (va_Pc av (lP (tW D cyI cyJ cyO A bs d σ d' τ) A)) (va_Ql post (fun u => tW D cyI cyJ cyO A bs d (σ' u) d' τ) A) (vx_X (S := Unit) (fun _ => True) (fun E _ U => ex E ∧ tW D cyI cyJ cyO A bs d σx d' τ U) A) mc ms A := by
  refine vx_conv (fun args s hP => ?_)
  obtain ⟨hav, ⟨X, Y, h1, h2, hW⟩, hN⟩ := hP
  refine ⟨_, _, _, _, hM Y, ⟨hav, ⟨X, h1, gW_swap hA hW⟩, hN⟩, fun _ h => h, fun o t h => ?_, fun E t h => ?_⟩
  · obtain ⟨⟨r, u, ho, hp, X1, h3, hB⟩, hf⟩ := h
    exact ⟨⟨r, u, ho, hp, X1, Y, h3, h2, gW_swap hA hB⟩, hf⟩
  · obtain ⟨u, _, ⟨he, X1, h3, hB⟩, hf⟩ := h
    exact ⟨u, trivial, ⟨he, X1, Y, h3, h2, gW_swap hA hB⟩, hf⟩
end TWO
