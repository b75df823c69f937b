/-! a call in a larger world: other cells F stay; the law's world: reference, answer cell, office -/
/-- A, but not the cells of F -/
def aA (A : Nat → Prop) (F : va_W) : Nat → Prop := fun q => A q ∧ ∀ x ∈ F, x.1 ≠ q
theorem ap_get {F X : va_W} {k : Nat} {q : Nat × va_E} (h : (F ++ X)[k]? = some q) : (k < F.length ∧ F[k]? = some q) ∨ (F.length ≤ k ∧ X[k - F.length]? = some q) := by
  rcases Nat.lt_or_ge k F.length with hk | hk
  · rw [List.getElem?_append_left hk] at h
    exact .inl ⟨hk, h⟩
  · rw [List.getElem?_append_right hk] at h
    exact .inr ⟨hk, h⟩
theorem ap_l {F X : va_W} {k : Nat} {q : Nat × va_E} (h : F[k]? = some q) : (F ++ X)[k]? = some q := by
  rw [List.getElem?_append_left (List.getElem?_eq_some_iff.mp h).1]; exact h
theorem ap_r {F X : va_W} {k : Nat} {q : Nat × va_E} (h : X[k]? = some q) : (F ++ X)[F.length + k]? = some q := by
  rw [List.getElem?_append_right (Nat.le_add_right _ _), Nat.add_sub_cancel_left]; exact h
section FR
variable {s : State} {H H1 : Heap} {locs locs1 : List Loc} {D : va_G} {A : Nat → Prop} {bs : Nat} {tys : List (ClassId × FieldType)} {F X X1 : va_W}
theorem fr_pre (Z : gZ D tys (F ++ X) A bs s H locs) : ∀ q, H.size ≤ q → aA A F q := fun q hq => ⟨Z.2.2.2.2.2 q (Nat.le_trans (Nat.le_trans Z.2.2.2.2.1 Z.2.2.2.1.1) hq), fun x hx e => by
  obtain ⟨k, hk⟩ := List.getElem?_of_mem hx
  have h1 : x.1 < H.size := (Z.1 k x (ap_l hk)).lt
  omega⟩
theorem fr_P (Z : gZ D tys (F ++ X) A bs s H locs) : va_P D vwCl X H := fun k q h => Z.1 (F.length + k) q (ap_r h)
theorem fr_at (Z : gZ D tys (F ++ X) A bs s H locs) {U : State} (hU : U.heap = H) (hW : s.WarmedH U.vm) : gW D tys X (aA A F) H.size U := by
  refine ⟨by rw [hU]; exact Nat.le_refl _, by rw [hU]; exact fr_P Z, va_K.moved hW.alike Z.2.1, fun i j p q hp hq e => ?_, fun k q hq => ⟨Z.2.2.1.2 _ _ (ap_r hq), fun x hx e => ?_⟩⟩
  · have h1 := Z.2.2.1.1 _ _ _ _ (ap_r (F := F) hp) (ap_r (F := F) hq) e
    omega
  · obtain ⟨i, hi⟩ := List.getElem?_of_mem hx
    have h1 := Z.2.2.1.1 _ _ _ _ (ap_l (X := X) hi) (ap_r (F := F) hq) e
    have h2 := (List.getElem?_eq_some_iff.mp hi).1
    omega
theorem fr_post (Z : gZ D tys (F ++ X) A bs s H locs) {t : State} (ht : t.heap = H1) (hvm : s.vm.Alike t.vm) (hB : gW D tys X1 (aA A F) H.size t) (hk : ∀ q : Nat, q < H.size → ¬ aA A F q → H1[q]? = H[q]?) (hS : va_S A s.heap H1 locs1) : gZ D tys (F ++ X1) A bs s H1 locs1 := by
  subst ht
  obtain ⟨h1, h2, h3, h4⟩ := hB
  refine ⟨fun k q h => ?_, Z.2.1, ⟨fun i j p q hp hq e => ?_, fun k q h => ?_⟩, hS, Z.2.2.2.2⟩
  · rcases ap_get h with ⟨_, h⟩ | ⟨_, h⟩
    · have hz := Z.1 k q (ap_l h)
      have he := hk q.1 hz.lt (fun a => a.2 q (List.mem_of_getElem? h) rfl)
      exact hz.kept he
    · exact h2 _ q h
  · rcases ap_get hp with ⟨a1, a2⟩ | ⟨a1, a2⟩ <;> rcases ap_get hq with ⟨b1, b2⟩ | ⟨b1, b2⟩
    · exact Z.2.2.1.1 _ _ _ _ (ap_l (X := X) a2) (ap_l (X := X) b2) e
    · exact absurd e ((h4.2 _ _ b2).2 p (List.mem_of_getElem? a2))
    · exact absurd e.symm ((h4.2 _ _ a2).2 q (List.mem_of_getElem? b2))
    · have := h4.1 _ _ _ _ a2 b2 e
      omega
  · rcases ap_get h with ⟨_, h⟩ | ⟨_, h⟩
    · exact Z.2.2.1.2 _ _ (ap_l (X := X) h)
    · exact (h4.2 _ q h).1
end FR
/-- which of the five exceptions is none of another -/
def ncW : List (String × String) := [("java/lang/IllegalStateException", "java/lang/IllegalArgumentException"), ("java/lang/IllegalStateException", "java/lang/IndexOutOfBoundsException"), ("java/lang/IllegalArgumentException", "java/lang/IndexOutOfBoundsException"), ("java/lang/ArithmeticException", "java/lang/IndexOutOfBoundsException"), ("java/util/NoSuchElementException", "java/lang/IndexOutOfBoundsException"), ("java/util/NoSuchElementException", "java/lang/IllegalArgumentException"), ("java/util/NoSuchElementException", "java/lang/IllegalStateException")]
/-- what the law's methods find beside their world -/
def lQN (U : State) : Prop := dN U ∧ ∀ q ∈ ncW, va_Nc q.1 q.2 U
theorem lQN_same {u U : State} (h : u.vm = U.vm) (hN : lQN u) : lQN U := ⟨dN_same h hN.1, fun q hq => va_Nc.moved (by rw [h]; exact Vm.Alike.refl U.vm) (hN.2 q hq)⟩
theorem lQN_warm {s U : State} (hW : s.WarmedH U.vm) (hN : lQN s) : lQN U := ⟨dN_warm hW hN.1, fun q hq => va_Nc.moved hW.alike (hN.2 q hq)⟩
/-- the law's world: cells F (the reference's, the answer's), and the office's -/
def lW (F : va_W) (D : va_G) (cyI cyJ cyO : ClassId) (A : Nat → Prop) (bs : Nat) (d : Nat → Nat) (eA : Nat) (ol fd dc : Int32) (ds : Nat → Int32) (fw : Nat → Int32) (fn : Nat → Nat) (ff : Nat → Nat → Int32) (qw : Nat → Int32) (qn : Nat → Nat) (qf : Nat → Nat → Int32) (va tr : Nat → Int64) (U : State) : Prop := ∃ (P : List Nat) (g : Nat → va_E) (rs rr : Nat) (at' : Int32) (fa ra : Nat → Nat), gW D (gT cyI cyJ cyO) (F ++ (XD d cyI cyJ cyO eA (d 5) (d 6) rs rr at' fa ra ol fd dc ds va tr ++ va_pl P g)) A bs U ∧ dF cyI P g eA fa ra fw fn ff qw qn qf
def lZ (F : va_W) (D : va_G) (cyI cyJ cyO : ClassId) (A : Nat → Prop) (bs : Nat) (d : Nat → Nat) (eA : Nat) (ol fd dc : Int32) (ds : Nat → Int32) (fw : Nat → Int32) (fn : Nat → Nat) (ff : Nat → Nat → Int32) (qw : Nat → Int32) (qn : Nat → Nat) (qf : Nat → Nat → Int32) (va tr : Nat → Int64) (s : State) (H : Heap) (locs : List Loc) : Prop := ∃ (P : List Nat) (g : Nat → va_E) (rs rr : Nat) (at' : Int32) (fa ra : Nat → Nat), gZ D (gT cyI cyJ cyO) (F ++ (XD d cyI cyJ cyO eA (d 5) (d 6) rs rr at' fa ra ol fd dc ds va tr ++ va_pl P g)) A bs s H locs ∧ dF cyI P g eA fa ra fw fn ff qw qn qf
def lP (Wd : State → Prop) (A : Nat → Prop) : State → Prop := fun U => Wd U ∧ lQN U ∧ dT A U
section LW
variable {s : State} {H H1 : Heap} {locs locs1 : List Loc} {D : va_G} {A : Nat → Prop} {bs : Nat} {F F' : va_W} {cyI cyJ cyO : ClassId} {d : Nat → Nat} {eA : Nat} {ol fd dc : Int32} {ds : Nat → Int32} {fw : Nat → Int32} {fn : Nat → Nat} {ff : Nat → Nat → Int32} {qw : Nat → Int32} {qn : Nat → Nat} {qf : Nat → Nat → Int32} {va tr : Nat → Int64} {ol' fd' dc' : Int32} {ds' : Nat → Int32} {fw' : Nat → Int32} {fn' : Nat → Nat} {ff' : Nat → Nat → Int32} {qw' : Nat → Int32} {qn' : Nat → Nat} {qf' : Nat → Nat → Int32} {va' tr' : Nat → Int64}
theorem lP_blind {av : List Value} : FrameBlind (va_Pc av (lP (lW F D cyI cyJ cyO A bs d eA ol fd dc ds fw fn ff qw qn qf va tr) A)) := fun a U g mk q => by
  obtain ⟨q1, ⟨P, g0, rs, rr, at', fa, ra, q2, q3⟩, q4, q5⟩ := q
  exact ⟨q1, ⟨P, g0, rs, rr, at', fa, ra, ⟨q2.1, q2.2.1, va_K.moved (u := U) (U := U.calling g mk a) (Vm.Alike.refl U.vm) q2.2.2.1, q2.2.2.2⟩, q3⟩, lQN_same (u := U) (U := U.calling g mk a) rfl q4, dT_same (u := U) (U := U.calling g mk a) rfl rfl q5⟩
theorem lZ_S (Z : lZ F D cyI cyJ cyO A bs d eA ol fd dc ds fw fn ff qw qn qf va tr s H locs) : va_S A s.heap H locs := by
  obtain ⟨P, g, rs, rr, at', fa, ra, Z, q3⟩ := Z
  exact Z.2.2.2.1
theorem lP_pre (Z : lZ F D cyI cyJ cyO A bs d eA ol fd dc ds fw fn ff qw qn qf va tr s H locs) (hN : lQN s) (hT : dT A s) (av : List Value) : ∀ U : State, U.heap = H → s.WarmedH U.vm → va_Pc av (lP (lW F D cyI cyJ cyO A bs d eA ol fd dc ds fw fn ff qw qn qf va tr) A) av.toArray U := fun U hU hW => by
  obtain ⟨P, g, rs, rr, at', fa, ra, Z, q3⟩ := Z
  exact ⟨rfl, ⟨P, g, rs, rr, at', fa, ra, (g_pre Z av U hU hW).2, q3⟩, lQN_warm hW hN, dT_go hT Z.2.2.2.1 hU hW (fun _ h => h)⟩
theorem lZ_start (hA : ∀ q, bs ≤ q → A q) (h : lW F D cyI cyJ cyO A bs d eA ol fd dc ds fw fn ff qw qn qf va tr s) : lZ F D cyI cyJ cyO A bs d eA ol fd dc ds fw fn ff qw qn qf va tr s s.heap [] := by
  obtain ⟨P, g, rs, rr, at', fa, ra, h, q3⟩ := h
  exact ⟨P, g, rs, rr, at', fa, ra, g_start hA h, q3⟩
theorem lZ_end {t : State} (Z : lZ F D cyI cyJ cyO A bs d eA ol fd dc ds fw fn ff qw qn qf va tr s H locs) (ht : t.heap = H) (hW : s.WarmedH t.vm) : lW F D cyI cyJ cyO A bs d eA ol fd dc ds fw fn ff qw qn qf va tr t := by
  obtain ⟨P, g, rs, rr, at', fa, ra, Z, q3⟩ := Z
  exact ⟨P, g, rs, rr, at', fa, ra, g_end Z ht hW, q3⟩
/-- behind a wrapper's call, in the law -/
theorem lZ_post {t : State} (Z : lZ F D cyI cyJ cyO A bs d eA ol fd dc ds fw fn ff qw qn qf va tr s H locs) (ht : t.heap = H1) (hvm : s.vm.Alike t.vm) (hB : lW F' D cyI cyJ cyO A bs d eA ol' fd' dc' ds' fw' fn' ff' qw' qn' qf' va' tr' t) (hS : va_S A s.heap H1 locs1) : lZ F' D cyI cyJ cyO A bs d eA ol' fd' dc' ds' fw' fn' ff' qw' qn' qf' va' tr' s H1 locs1 := by
  obtain ⟨P, g, rs, rr, at', fa, ra, Z, q3⟩ := Z
  obtain ⟨P1, g1, rs1, rr1, at1, fa1, ra1, hB, q4⟩ := hB
  exact ⟨P1, g1, rs1, rr1, at1, fa1, ra1, g_post Z ht hvm hB hS, q4⟩
section IN
variable {P P1 : List Nat} {g g1 : Nat → va_E} {rs rr : Nat} {at' : Int32} {fa ra : Nat → Nat}
/-- what the office's method finds, called in the law's world -/
theorem fr_dP (Z : gZ D (gT cyI cyJ cyO) (F ++ (XD d cyI cyJ cyO eA (d 5) (d 6) rs rr at' fa ra ol fd dc ds va tr ++ va_pl P g)) A bs s H locs) (hF : dF cyI P g eA fa ra fw fn ff qw qn qf) (hN : lQN s) (hT : dT A s) (av : List Value) : ∀ U : State, U.heap = H → s.WarmedH U.vm → va_Pc av (dP (dW D cyI cyJ cyO (aA A F) H.size P g d eA (d 5) (d 6) ol fd dc ds fw fn ff qw qn qf va tr) (aA A F)) av.toArray U := fun U hU hW =>
  ⟨rfl, ⟨rs, rr, at', fa, ra, fr_at Z hU hW, hF⟩, dN_warm hW hN.1, dT_go hT Z.2.2.2.1 hU hW (fun _ h => h.1)⟩
theorem fr_dZ (Z : gZ D (gT cyI cyJ cyO) (F ++ (XD d cyI cyJ cyO eA (d 5) (d 6) rs rr at' fa ra ol fd dc ds va tr ++ va_pl P g)) A bs s H locs) {t : State} (ht : t.heap = H1) (hvm : s.vm.Alike t.vm) (hB : dW D cyI cyJ cyO (aA A F) H.size P1 g1 d eA (d 5) (d 6) ol' fd' dc' ds' fw' fn' ff' qw' qn' qf' va' tr' t) (hk : ∀ q : Nat, q < H.size → ¬ aA A F q → H1[q]? = H[q]?) (hS : va_S A s.heap H1 locs1) : lZ F D cyI cyJ cyO A bs d eA ol' fd' dc' ds' fw' fn' ff' qw' qn' qf' va' tr' s H1 locs1 := by
  obtain ⟨rs1, rr1, at1, fa1, ra1, hB, q4⟩ := hB
  exact ⟨P1, g1, rs1, rr1, at1, fa1, ra1, fr_post Z ht hvm hB hk hS, q4⟩
end IN
end LW
/-- the answer's cell is written -/
theorem l_out {p : Program} {l : Launch} {e : Env} {R : Room} {s : State} {m : MethodId} {args : Array Value} {below : List Frame} {meth : Method} {c : Code} {H : Heap} {locs : List Loc} {cells slots : Nat} {Q : State → Prop} {cc : ByteArray} {pc : Nat} {ls : Array Slot} {rest : List Value} {D : va_G} {A : Nat → Prop} {bs nL : Nat} {own : String} {Ts : List Cond} {F : va_W} {cyI cyJ cyO : ClassId} {d : Nat → Nat} {eA : Nat} {ol fd dc : Int32} {ds : Nat → Int32} {fw : Nat → Int32} {fn : Nat → Nat} {ff : Nat → Nat → Int32} {qw : Nat → Int32} {qn : Nat → Nat} {qf : Nat → Nat → Int32} {va tr : Nat → Int64} {q0 o : Nat} {ov : Nat → Int64} {x : Int64} (C0 : CallFix p m c cc nL s args Ts own) (Z : lZ F D cyI cyJ cyO A bs d eA ol fd dc ds fw fn ff qw qn qf va tr s H locs) (hq : F[q0]? = some (o, .inl (cyJ, 1, .inr (.inl ov)))) (hdg : decode cc pc = .ok (.lastore, 1))
    (kk : ∀ (u : Nat → Int64) (H1 : Heap) (locs1 : List Loc), u 0 = x → lZ (F.set q0 (o, .inl (cyJ, 1, .inr (.inl u)))) D cyI cyJ cyO A bs d eA ol fd dc ds fw fn ff qw qn qf va tr s H1 locs1 → W p l e R s m args below meth c H1 locs1 cells slots Q (F0 m (pc + 1) ls rest)) : W p l e R s m args below meth c H locs cells slots Q (F0 m pc ls (.long x :: .int 0 :: .ref o :: rest)) := by
  obtain ⟨P, g, rs, rr, at', fa, ra, Z, q3⟩ := Z
  have hlt : q0 < F.length := (List.getElem?_eq_some_iff.mp hq).1
  exact g_last C0 Z q0 1 (ap_l hq) rfl (i := 0) (vp_in_nI (n := 0) (by decide) (by decide)) hdg (List.set_append_left _ _ hlt) (fun H1 locs1 Z => kk _ H1 locs1 rfl ⟨P, g, rs, rr, at', fa, ra, Z, q3⟩)
/-- a body with a table of handlers, that catches all that comes -/
theorem Met_ofWH {l : Launch} {y : MethodName} {ws ws' : List Cond} {rm : Room} {Pc : Array Value → State → Prop} {Qc : Array Value → State → Outcome → State → Prop} {mc ms : Nat} {free : Addr → Prop} {cc : ByteArray} {maxL : Nat} {ret : Option FieldType} {hh : List (Nat × Nat × Nat × Nat)}
    (hy : plainName y.cls = true) (hw : ws = Cond.codeWith y cc maxL ret hh :: ws')
    (body : ∀ p e s m args below meth c s₁, BodyLoose p l y (headSpec ws rm) cc maxL ret e s m args below meth c s₁ → c.maxLocals = maxL → c.exceptionTable.toList = tableOf hh → Pc args s →
      W p l e (headSpec ws rm).room s m args below meth c s.heap [] 0 0 (MQ below Qc args s mc ms free) (entryFrame m args maxL)) : Met l y ws rm Pc Qc mc ms free := by
  refine MetFree.of_bodyS (code := cc) (maxLocals := maxL) (ret := ret) hy ?_ ?_
  · intro args s m h hn
    obtain ⟨m9, meth, c, hn9, h1, h2, h3, h4, -, h5, h6, -⟩ := Cond.codeWith_spec (atoms_spec (ws := ws) h _ (by rw [hw]; exact List.mem_cons_self))
    cases hn.symm.trans hn9
    exact ⟨meth, c, h1, h2, h3, h4, h5, h6⟩
  · intro p e s m args below meth c s₁ B hml hP _
    have hh0 : s₁.heap = s.heap := by rw [B.state]; rfl
    have ht : c.exceptionTable.toList = tableOf hh := vx_table (x := y) B (atoms_spec (ws := ws) B.pre _ (by rw [hw]; exact List.mem_cons_self))
    obtain ⟨t, a1, o, b1, b2, b3⟩ := body p e s m args below meth c s₁ B hml ht hP s₁ hh0 (Stand.of_body B)
    exact ⟨t, o, a1, b1, b2, ⟨b3.1, b3.2⟩⟩
theorem set_same {F : va_W} {k : Nat} {q : Nat × va_E} (h : F[k]? = some q) : F.set k q = F := by
  obtain ⟨hk, e⟩ := List.getElem?_eq_some_iff.mp h
  rw [← e]
  exact List.set_getElem_self hk
