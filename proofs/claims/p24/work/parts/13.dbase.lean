/-! the landed class's world: eight cells that stay, and a pool of formulas and their rows, which nobody changes -/
/-- an int row of the pool: its first n places hold f -/
def isA (cyI : ClassId) (P : List Nat) (g : Nat → va_E) (b : Nat) (n : Nat) (f : Nat → Int32) : Prop := b ∈ P ∧ ∃ f1 : Nat → Int32, g b = .inl (cyI, n, .inl f1) ∧ ∀ k, k < n → f1 k = f k
/-- a formula of the pool: its set of named cells, its signs -/
def isF (cyI : ClassId) (P : List Nat) (g : Nat → va_E) (b : Nat) (w : Int32) (n : Nat) (f : Nat → Int32) : Prop := b ∈ P ∧ ∃ sa : Nat, g b = .inr (3, [.ref sa, .int w]) ∧ isA cyI P g sa n f
theorem isA_get {cyI : ClassId} {P : List Nat} {g : Nat → va_E} {b n : Nat} {f : Nat → Int32} (X : va_W) (h : isA cyI P g b n f) : ∃ (k : Nat) (f1 : Nat → Int32), (X ++ va_pl P g)[k]? = some (b, .inl (cyI, n, .inl f1)) ∧ ∀ j, j < n → f1 j = f j := by
  obtain ⟨h1, f1, h2, h3⟩ := h
  obtain ⟨k, hk⟩ := va_pl_get (X := X) (f := g) h1
  rw [h2] at hk
  exact ⟨k, f1, hk, h3⟩
theorem isF_get {cyI : ClassId} {P : List Nat} {g : Nat → va_E} {b n : Nat} {w : Int32} {f : Nat → Int32} (X : va_W) (h : isF cyI P g b w n f) : ∃ (k sa : Nat), (X ++ va_pl P g)[k]? = some (b, .inr (3, [.ref sa, .int w])) ∧ isA cyI P g sa n f := by
  obtain ⟨h1, sa, h2, h3⟩ := h
  obtain ⟨k, hk⟩ := va_pl_get (X := X) (f := g) h1
  rw [h2] at hk
  exact ⟨k, sa, hk, h3⟩
/-- one pool goes on as another: all formulas and rows stay -/
def exP (P : List Nat) (g : Nat → va_E) (P1 : List Nat) (g1 : Nat → va_E) : Prop := ∀ b, b ∈ P → b ∈ P1 ∧ g1 b = g b
theorem exP_rf {P : List Nat} {g : Nat → va_E} : exP P g P g := fun _ h => ⟨h, rfl⟩
theorem exP_tr {P P1 P2 : List Nat} {g g1 g2 : Nat → va_E} (h1 : exP P g P1 g1) (h2 : exP P1 g1 P2 g2) : exP P g P2 g2 := fun b h => ⟨(h2 b (h1 b h).1).1, (h2 b (h1 b h).1).2.trans (h1 b h).2⟩
theorem isA_ex {cyI : ClassId} {P P1 : List Nat} {g g1 : Nat → va_E} {b n : Nat} {f : Nat → Int32} (e : exP P g P1 g1) (h : isA cyI P g b n f) : isA cyI P1 g1 b n f := by
  obtain ⟨h1, f1, h2, h3⟩ := h
  exact ⟨(e b h1).1, f1, (e b h1).2.trans h2, h3⟩
theorem isF_ex {cyI : ClassId} {P P1 : List Nat} {g g1 : Nat → va_E} {b n : Nat} {w : Int32} {f : Nat → Int32} (e : exP P g P1 g1) (h : isF cyI P g b w n f) : isF cyI P1 g1 b w n f := by
  obtain ⟨h1, sa, h2, h3⟩ := h
  exact ⟨(e b h1).1, sa, (e b h1).2.trans h2, isA_ex e h3⟩
theorem exP_push {P : List Nat} {g : Nat → va_E} {q : Nat} {x : va_E} (h : q ∉ P) : exP P g (P ++ [q]) (va_up g q x) := fun b hb => ⟨List.mem_append_left _ hb, by
  have : b ≠ q := fun z => h (z ▸ hb)
  simp [va_up, this]⟩
/-- the eight cells: the office, its draft, its reckoner, its formulas, the remembered ones, two rows of values, the draft's signs -/
def XD (d : Nat → Nat) (cyI cyJ cyO : ClassId) (eA vr vt rs rr : Nat) (at' : Int32) (fa ra : Nat → Nat) (ol fd dc : Int32) (ds : Nat → Int32) (va tr : Nat → Int64) : va_W := [(d 0, .inr (5, [.ref (d 1), .ref (d 2), .ref eA, .ref (d 3), .ref (d 4), .ref vr, .ref vt, .int ol, .int fd])), (d 1, .inr (2, [.ref (d 7), .int dc])), (d 2, .inr (4, [.ref rs, .ref rr, .int at'])), (d 3, .inl (cyO, 30, .inr (.inr (.inr (.inr (fun k => some (fa k))))))), (d 4, .inl (cyO, 120, .inr (.inr (.inr (.inr (fun k => some (ra k))))))), (d 5, .inl (cyJ, 30, .inr (.inl va))), (d 6, .inl (cyJ, 30, .inr (.inl tr))), (d 7, .inl (cyI, 15, .inl ds))]
/-- all formulas that the office holds, and that its layers remember, and the empty one -/
def dF (cyI : ClassId) (P : List Nat) (g : Nat → va_E) (eA : Nat) (fa ra : Nat → Nat) (fw : Nat → Int32) (fn : Nat → Nat) (ff : Nat → Nat → Int32) (rw' : Nat → Int32) (rn : Nat → Nat) (rf' : Nat → Nat → Int32) : Prop := (∀ k, k < 30 → isF cyI P g (fa k) (fw k) (fn k) (ff k)) ∧ (∀ k, k < 120 → isF cyI P g (ra k) (rw' k) (rn k) (rf' k)) ∧ isF cyI P g eA 0 0 (fun _ => 0)
theorem dF_ex {cyI : ClassId} {P P1 : List Nat} {g g1 : Nat → va_E} {eA : Nat} {fa ra : Nat → Nat} {fw : Nat → Int32} {fn : Nat → Nat} {ff : Nat → Nat → Int32} {rw' : Nat → Int32} {rn : Nat → Nat} {rf' : Nat → Nat → Int32} (e : exP P g P1 g1) (h : dF cyI P g eA fa ra fw fn ff rw' rn rf') : dF cyI P1 g1 eA fa ra fw fn ff rw' rn rf' := ⟨fun k hk => isF_ex e (h.1 k hk), fun k hk => isF_ex e (h.2.1 k hk), isF_ex e h.2.2⟩
/-- the office's world at a method's start and end: the reckoner's fields are nobody's business -/
def dW (D : va_G) (cyI cyJ cyO : ClassId) (A : Nat → Prop) (bs : Nat) (P : List Nat) (g : Nat → va_E) (d : Nat → Nat) (eA vr vt : Nat) (ol fd dc : Int32) (ds : Nat → Int32) (fw : Nat → Int32) (fn : Nat → Nat) (ff : Nat → Nat → Int32) (rw' : Nat → Int32) (rn : Nat → Nat) (rf' : Nat → Nat → Int32) (va tr : Nat → Int64) (U : State) : Prop := ∃ (rs rr : Nat) (at' : Int32) (fa ra : Nat → Nat), gW D (gT cyI cyJ cyO) (XD d cyI cyJ cyO eA vr vt rs rr at' fa ra ol fd dc ds va tr ++ va_pl P g) A bs U ∧ dF cyI P g eA fa ra fw fn ff rw' rn rf'
/-- .. and in the midst of a walk -/
def dZ (D : va_G) (cyI cyJ cyO : ClassId) (A : Nat → Prop) (bs : Nat) (P : List Nat) (g : Nat → va_E) (d : Nat → Nat) (eA vr vt : Nat) (ol fd dc : Int32) (ds : Nat → Int32) (fw : Nat → Int32) (fn : Nat → Nat) (ff : Nat → Nat → Int32) (rw' : Nat → Int32) (rn : Nat → Nat) (rf' : Nat → Nat → Int32) (va tr : Nat → Int64) (s : State) (H : Heap) (locs : List Loc) : Prop := ∃ (rs rr : Nat) (at' : Int32) (fa ra : Nat → Nat), gZ D (gT cyI cyJ cyO) (XD d cyI cyJ cyO eA vr vt rs rr at' fa ra ol fd dc ds va tr ++ va_pl P g) A bs s H locs ∧ dF cyI P g eA fa ra fw fn ff rw' rn rf'
/-- the words of private members of nest mates -/
def nestW : List Cond := [.methodLinkNest RX3 106 yX1_isEmpty RX3, .methodLinkNest RX3 118 yX1_sameAs RX3, .methodLinkNest RX3 13 yX0_init RX3, .methodLinkNest RX3 163 yX1_canBeInput RX3, .methodLinkNest RX3 196 yX2_take RX3, .methodLinkNest RX3 20 yX2_init RX3, .methodLinkNest RX3 200 yX2_sum RX3, .methodLinkNest RX3 27 yX1_init RX3, .methodLinkNest RX3 55 yX0_write RX3, .methodLinkNest RX3 73 yX0_faultPlace RX3, .methodLinkNest RX3 79 yX0_toFormula RX3, .methodLinkNest RX0 27 yX1_init RX3, .methodLinkNest RX1 15 yX3_only RX3, .fieldLinkNest RX3 141 "GoalseekOffice$Formula" "signs" "[I" RX3, .fieldLinkNest RX3 69 "GoalseekOffice$Draft" "count" "I" RX3, .fieldLinkNest RX3 83 "GoalseekOffice$Formula" "named" "I" RX3, .fieldLinkNest RX2 19 "GoalseekOffice$Formula" "signs" "[I" RX3, .declares ⟨"java/lang/RuntimeException", "<init>", "(Ljava/lang/String;)V"⟩, .declares ⟨"java/lang/Exception", "<init>", "(Ljava/lang/String;)V"⟩, .declares ⟨"java/lang/Throwable", "<init>", "(Ljava/lang/String;)V"⟩, .castable "java/lang/IndexOutOfBoundsException" "java/lang/IndexOutOfBoundsException", .castable "java/lang/IllegalArgumentException" "java/lang/IllegalArgumentException", .castable "java/lang/IllegalStateException" "java/lang/IllegalStateException", .castable "java/lang/ArithmeticException" "java/lang/ArithmeticException", .castable "java/util/NoSuchElementException" "java/util/NoSuchElementException", .castable "[I" "java/lang/Cloneable"]
/-- the texts of what is thrown -/
def strW : List (Nat × String) := [(113, "no more layers can be opened"), (158, "the target is out of range"), (161, "low or high is out of range"), (166, "the input is neither empty nor a single number"), (168, "the goal does not depend on the input"), (176, "nothing is found"), (206, "there is no such cell"), (209, "the number is out of range"), (213, "the cell is faulty"), (216, "the draft is full"), (218, "no layer is open"), (64, "the code is out of range"), (77, "the draft is no formula"), (95, "a cell would depend on itself")]
def dN (U : State) : Prop := (∀ w ∈ nestW, va_Nw w U) ∧ ∀ q ∈ strW, ∃ sa : Nat, vk_R RX3 q.1 q.2 sa U
theorem dN_same {u U : State} (h : u.vm = U.vm) (hN : dN u) : dN U := by
  refine ⟨?_, fun q hq => ?_⟩
  rotate_left
  · obtain ⟨sa, h1⟩ := hN.2 q hq
    exact ⟨sa, vk_R.same h.symm h1⟩
  intro w hw
  have h1 := hN.1 w hw
  refine va_Nw.same ?_ h h1
  simp only [nestW, List.mem_cons, List.not_mem_nil, or_false] at hw
  rcases hw with rfl | rfl | rfl | rfl | rfl | rfl | rfl | rfl | rfl | rfl | rfl | rfl | rfl | rfl | rfl | rfl | rfl | rfl | rfl | rfl | rfl | rfl | rfl | rfl | rfl | rfl <;> rfl
theorem dN_warm {s U : State} (hW : s.WarmedH U.vm) (hN : dN s) : dN U := by
  refine ⟨?_, fun q hq => ?_⟩
  rotate_left
  · obtain ⟨sa, h1⟩ := hN.2 q hq
    exact ⟨sa, vk_R.warm hW h1⟩
  intro w hw
  have h1 := hN.1 w hw
  simp only [nestW, List.mem_cons, List.not_mem_nil, or_false] at hw
  rcases hw with rfl | rfl | rfl | rfl | rfl | rfl | rfl | rfl | rfl | rfl | rfl | rfl | rfl | rfl | rfl | rfl | rfl | rfl | rfl | rfl | rfl | rfl | rfl | rfl | rfl | rfl <;> first | exact va_Nw.warmM hW h1 | exact va_Nw.warmF hW h1 | exact va_Nw.warmD hW h1 | exact va_Nw.warmC hW h1
/-- the two statics that a throw reads -/
def dT (A : Nat → Prop) (U : State) : Prop := vx_Zq Bundle.tN "UNASSIGNED_STACK" Bundle.steD A U U.heap ∧ vx_Zq Bundle.tN "SUPPRESSED_SENTINEL" Bundle.listD A U U.heap
theorem dT_go {A A1 : Nat → Prop} {s U : State} {H : Heap} {locs : List Loc} (h : dT A s) (hS : va_S A s.heap H locs) (hU : U.heap = H) (hW : s.WarmedH U.vm) (h1 : ∀ q, A1 q → A q) : dT A1 U := by
  refine ⟨?_, ?_⟩
  · rw [hU]; exact vx_Zq.narrow (vx_Zq.moved hW.alike (h.1.kept hS.2.1)) h1
  · rw [hU]; exact vx_Zq.narrow (vx_Zq.moved hW.alike (h.2.kept hS.2.1)) h1
/-- a method of the landed class: what it finds beside its world -/
def dP (Wd : State → Prop) (A : Nat → Prop) : State → Prop := fun U => Wd U ∧ dN U ∧ dT A U
/-- the exceptions by number -/
def exN (k : Nat) : String := if k = 1 then "java/lang/IndexOutOfBoundsException" else if k = 2 then "java/lang/IllegalArgumentException" else if k = 3 then "java/lang/IllegalStateException" else if k = 4 then "java/lang/ArithmeticException" else "java/util/NoSuchElementException"
section DB
variable {p : Program} {l : Launch} {e : Env} {R : Room} {s : State} {m : MethodId} {args : Array Value} {below : List Frame} {meth : Method} {c : Code} {H : Heap} {locs : List Loc} {cells slots : Nat} {Q : State → Prop}
variable {cc : ByteArray} {pc : Nat} {ls : Array Slot} {rest st0 : List Value} {D : va_G} {A : Nat → Prop} {a bs nL : Nat} {ws : va_W} {own : String} {Ts : List Cond} {cyI cyJ cyO : ClassId} {P : List Nat} {g : Nat → va_E} {d : Nat → Nat} {eA vr vt rs rr : Nat} {at' : Int32} {fa ra : Nat → Nat} {ol fd dc : Int32} {ds : Nat → Int32} {fw : Nat → Int32} {fn : Nat → Nat} {ff : Nat → Nat → Int32} {rw' : Nat → Int32} {rn : Nat → Nat} {rf' : Nat → Nat → Int32} {va tr : Nat → Int64} {X : va_W} {b n : Nat} {w : Int32} {f : Nat → Int32}
theorem dT_same {u U : State} (h : u.vm = U.vm) (hh : u.heap = U.heap) (hT : dT A u) : dT A U := by
  have ha : u.vm.Alike U.vm := by rw [h]; exact Vm.Alike.refl U.vm
  exact ⟨by rw [← hh]; exact vx_Zq.moved ha hT.1, by rw [← hh]; exact vx_Zq.moved ha hT.2⟩
theorem gP_blind {av : List Value} : FrameBlind (va_Pc av (dP (gW D (gT cyI cyJ cyO) ws A bs) A)) := fun a U g mk q => ⟨q.1, ⟨q.2.1.1, q.2.1.2.1, va_K.moved (u := U) (U := U.calling g mk a) (Vm.Alike.refl U.vm) q.2.1.2.2.1, q.2.1.2.2.2⟩, dN_same (u := U) (U := U.calling g mk a) rfl q.2.2.1, dT_same (u := U) (U := U.calling g mk a) rfl rfl q.2.2.2⟩
theorem gP_pre (Z : gZ D (gT cyI cyJ cyO) ws A bs s H locs) (hN : dN s) (hT : dT A s) (av : List Value) : ∀ U : State, U.heap = H → s.WarmedH U.vm → va_Pc av (dP (gW D (gT cyI cyJ cyO) ws A bs) A) av.toArray U := fun U hU hW => ⟨rfl, (g_pre Z av U hU hW).2, dN_warm hW hN, dT_go hT Z.2.2.2.1 hU hW (fun _ h => h)⟩
theorem dP_blind {av : List Value} : FrameBlind (va_Pc av (dP (dW D cyI cyJ cyO A bs P g d eA vr vt ol fd dc ds fw fn ff rw' rn rf' va tr) A)) := fun a U g mk q => by
  obtain ⟨q1, ⟨rs, rr, at', fa, ra, q2, q3⟩, q4, q5⟩ := q
  exact ⟨q1, ⟨rs, rr, at', fa, ra, ⟨q2.1, q2.2.1, va_K.moved (u := U) (U := U.calling g mk a) (Vm.Alike.refl U.vm) q2.2.2.1, q2.2.2.2⟩, q3⟩, dN_same (u := U) (U := U.calling g mk a) rfl q4, dT_same (u := U) (U := U.calling g mk a) rfl rfl q5⟩
theorem dP_pre (Z : dZ D cyI cyJ cyO A bs P g d eA vr vt ol fd dc ds fw fn ff rw' rn rf' va tr s H locs) (hN : dN s) (hT : dT A s) (av : List Value) : ∀ U : State, U.heap = H → s.WarmedH U.vm → va_Pc av (dP (dW D cyI cyJ cyO A bs P g d eA vr vt ol fd dc ds fw fn ff rw' rn rf' va tr) A) av.toArray U := fun U hU hW => by
  obtain ⟨rs, rr, at', fa, ra, Z, q3⟩ := Z
  exact ⟨rfl, ⟨rs, rr, at', fa, ra, (g_pre Z av U hU hW).2, q3⟩, dN_warm hW hN, dT_go hT Z.2.2.2.1 hU hW (fun _ h => h)⟩
theorem dW_post {t : State} {H1 : Heap} {locs1 : List Loc} (Z : gZ D (gT cyI cyJ cyO) ws A bs s H locs) (ht : t.heap = H1) (hvm : s.vm.Alike t.vm) (hB : dW D cyI cyJ cyO A bs P g d eA vr vt ol fd dc ds fw fn ff rw' rn rf' va tr t) (hS : va_S A s.heap H1 locs1) : dZ D cyI cyJ cyO A bs P g d eA vr vt ol fd dc ds fw fn ff rw' rn rf' va tr s H1 locs1 := by
  obtain ⟨rs, rr, at', fa, ra, hB, q3⟩ := hB
  exact ⟨rs, rr, at', fa, ra, g_post Z ht hvm hB hS, q3⟩
theorem dZ_end {t : State} (Z : dZ D cyI cyJ cyO A bs P g d eA vr vt ol fd dc ds fw fn ff rw' rn rf' va tr s H locs) (ht : t.heap = H) (hW : s.WarmedH t.vm) : dW D cyI cyJ cyO A bs P g d eA vr vt ol fd dc ds fw fn ff rw' rn rf' va tr t := by
  obtain ⟨rs, rr, at', fa, ra, Z, q3⟩ := Z
  exact ⟨rs, rr, at', fa, ra, g_end Z ht hW, q3⟩
theorem dZ_start (hA : ∀ q, bs ≤ q → A q) (h : dW D cyI cyJ cyO A bs P g d eA vr vt ol fd dc ds fw fn ff rw' rn rf' va tr s) : dZ D cyI cyJ cyO A bs P g d eA vr vt ol fd dc ds fw fn ff rw' rn rf' va tr s s.heap [] := by
  obtain ⟨rs, rr, at', fa, ra, h, q3⟩ := h
  exact ⟨rs, rr, at', fa, ra, g_start hA h, q3⟩
theorem dZ_S (Z : dZ D cyI cyJ cyO A bs P g d eA vr vt ol fd dc ds fw fn ff rw' rn rf' va tr s H locs) : va_S A s.heap H locs := by
  obtain ⟨rs, rr, at', fa, ra, Z, q3⟩ := Z
  exact Z.2.2.2.1
theorem dZ_A (Z : dZ D cyI cyJ cyO A bs P g d eA vr vt ol fd dc ds fw fn ff rw' rn rf' va tr s H locs) : ∀ q, bs ≤ q → A q := by
  obtain ⟨rs, rr, at', fa, ra, Z, q3⟩ := Z
  exact Z.2.2.2.2.2
theorem g_lt {i : Int32} {n : Nat} (h : vp_in i n) : i.toNatClampNeg < n := Nat.not_le.mp fun q => h (Or.inr q)
/-- a field of a nest mate -/
theorem g_getN (C0 : CallFix p m c cc nL s args Ts own) (Z : gZ D (gT cyI cyJ cyO) ws A bs s H locs) (q0 : Nat) {ci : Nat} {fs : List Value} (he : ws[q0]? = some (a, .inr (ci, fs))) {C ref host : String} {T : u_T} {N : Nat} (hc : vwCl[ci]? = some (C, T, N)) (k : Nat) (hk : k < N) (hin : ∀ w ∈ u_ws C T N, w ∈ Ts) {index : Nat} (hlink : va_Nw (.fieldLinkNest own index ref (T k).2.1 (T k).2.2.1 host) s) (href : (T k).1 = ref) {v : Value} (hv : fs[k]? = some v) (hdg : decode cc pc = .ok (.getfield index, 3))
    (kk : W p l e R s m args below meth c H locs cells slots Q (F0 m (pc + 3) ls (v :: rest))) : W p l e R s m args below meth c H locs cells slots Q (F0 m pc ls (.ref a :: rest)) := by
  subst href
  exact va_getN C0.1 C0.2.1 C0.2.2.2.2 hin C0.2.2.2.1 Z.2.1 Z.1 q0 he hc k hk (va_Nw.use rfl hlink) (fun _ h => h) hv hdg kk
theorem g_putN (C0 : CallFix p m c cc nL s args Ts own) (Z : gZ D (gT cyI cyJ cyO) ws A bs s H locs) (q0 : Nat) {ci : Nat} {fs : List Value} (he : ws[q0]? = some (a, .inr (ci, fs))) {C ref host : String} {T : u_T} {N : Nat} (hc : vwCl[ci]? = some (C, T, N)) (k : Nat) (hk : k < N) (hin : ∀ w ∈ u_ws C T N, w ∈ Ts) {index : Nat} (hlink : va_Nw (.fieldLinkNest own index ref (T k).2.1 (T k).2.2.1 host) s) (href : (T k).1 = ref) (ty0 : Nat → FieldType) (hty : ∀ k, k < N → parseFieldDescriptor (T k).2.2.1 = some (ty0 k)) (hnm : ∀ a, a < N → ∀ b, b < N → a ≠ b → (T a).2.1 ≠ (T b).2.1) (hfin : (T k).2.2.2 = false) {v : Value} (hn : narrow (ty0 k) v = v) (hfit : fits (ty0 k) v = true) (hl : k < fs.length) (hdg : decode cc pc = .ok (.putfield index, 3)) {ws' : va_W} (hws : ws.set q0 (a, .inr (ci, fs.set k v)) = ws')
    (kk : ∀ (H1 : Heap) (locs1 : List Loc), gZ D (gT cyI cyJ cyO) ws' A bs s H1 locs1 → W p l e R s m args below meth c H1 locs1 cells slots Q (F0 m (pc + 3) ls rest)) : W p l e R s m args below meth c H locs cells slots Q (F0 m pc ls (v :: .ref a :: rest)) := by
  subst href
  subst hws
  exact va_putN C0.1 C0.2.1 C0.2.2.2.2 hin ty0 hty hnm C0.2.2.2.1 Z.2.1 Z.1 Z.2.2.1 Z.2.2.2.1 q0 he hc k hk (va_Nw.use rfl hlink) (fun _ h => h) hfin (hty k hk) hn hfit hl hdg (fun H1 locs1 h1 h2 h3 => kk H1 locs1 ⟨h1, Z.2.1, h2, h3, Z.2.2.2.2⟩)
/-- a place of an int row of the pool -/
theorem d_iald (C0 : CallFix p m c cc nL s args Ts own) (Z : gZ D (gT cyI cyJ cyO) (X ++ va_pl P g) A bs s H locs) (hs : isA cyI P g b n f) {i : Int32} (hin : vp_in i n) (hdg : decode cc pc = .ok (.iaload, 1))
    (kk : W p l e R s m args below meth c H locs cells slots Q (F0 m (pc + 1) ls (.int (f i.toNatClampNeg) :: rest))) : W p l e R s m args below meth c H locs cells slots Q (F0 m pc ls (.int i :: .ref b :: rest)) := by
  obtain ⟨k, f1, hk, hf⟩ := isA_get X hs
  refine g_iald C0 Z k 0 hk rfl hin hdg ?_
  rw [hf _ (g_lt hin)]
  exact kk
theorem d_alen (C0 : CallFix p m c cc nL s args Ts own) (Z : gZ D (gT cyI cyJ cyO) (X ++ va_pl P g) A bs s H locs) (hs : isA cyI P g b n f) (hdg : decode cc pc = .ok (.arraylength, 1))
    (kk : W p l e R s m args below meth c H locs cells slots Q (F0 m (pc + 1) ls (.int (nI n) :: rest))) : W p l e R s m args below meth c H locs cells slots Q (F0 m pc ls (.ref b :: rest)) := by
  obtain ⟨k, f1, hk, hf⟩ := isA_get X hs
  exact g_alen C0 Z k 0 hk rfl rfl hdg kk
/-- what a formula of the pool holds -/
theorem d_named (C0 : CallFix p m c cc nL s args Ts own) (Z : gZ D (gT cyI cyJ cyO) (X ++ va_pl P g) A bs s H locs) (hs : isF cyI P g b w n f) (hin : ∀ w ∈ wsX10, w ∈ Ts) {index : Nat} {host : String} (hlink : va_Nw (.fieldLinkNest own index "GoalseekOffice$Formula" "named" "I" host) s) (hdg : decode cc pc = .ok (.getfield index, 3))
    (kk : W p l e R s m args below meth c H locs cells slots Q (F0 m (pc + 3) ls (.int w :: rest))) : W p l e R s m args below meth c H locs cells slots Q (F0 m pc ls (.ref b :: rest)) := by
  obtain ⟨k, sa, hk, hf⟩ := isF_get X hs
  exact g_getN (T := TX1) (N := 2) C0 Z k hk rfl 1 (by decide) hin hlink rfl rfl hdg kk
theorem d_fsigns (C0 : CallFix p m c cc nL s args Ts own) (Z : gZ D (gT cyI cyJ cyO) (X ++ va_pl P g) A bs s H locs) (hs : isF cyI P g b w n f) (hin : ∀ w ∈ wsX10, w ∈ Ts) {index : Nat} {host : String} (hlink : va_Nw (.fieldLinkNest own index "GoalseekOffice$Formula" "signs" "[I" host) s) (hdg : decode cc pc = .ok (.getfield index, 3))
    (kk : ∀ sa : Nat, isA cyI P g sa n f → W p l e R s m args below meth c H locs cells slots Q (F0 m (pc + 3) ls (.ref sa :: rest))) : W p l e R s m args below meth c H locs cells slots Q (F0 m pc ls (.ref b :: rest)) := by
  obtain ⟨k, sa, hk, hf⟩ := isF_get X hs
  exact g_getN (T := TX1) (N := 2) C0 Z k hk rfl 0 (by decide) hin hlink rfl rfl hdg (kk sa hf)
theorem d_fsignsO (C0 : CallFix p m c cc nL s args Ts own) (Z : gZ D (gT cyI cyJ cyO) (X ++ va_pl P g) A bs s H locs) (hs : isF cyI P g b w n f) (hin : ∀ w ∈ wsX10, w ∈ Ts) {index : Nat} (hlink : Cond.fieldLink own index "GoalseekOffice$Formula" "signs" "[I" ∈ Ts) (hdg : decode cc pc = .ok (.getfield index, 3))
    (kk : ∀ sa : Nat, isA cyI P g sa n f → W p l e R s m args below meth c H locs cells slots Q (F0 m (pc + 3) ls (.ref sa :: rest))) : W p l e R s m args below meth c H locs cells slots Q (F0 m pc ls (.ref b :: rest)) := by
  obtain ⟨k, sa, hk, hf⟩ := isF_get X hs
  exact g_get (T := TX1) (N := 2) C0 Z k hk rfl 0 (by decide) hin hlink rfl rfl hdg (kk sa hf)
theorem up_some {fa : Nat → Nat} {i b : Nat} : va_up (fun k => some (fa k)) i (some b) = fun k => some (va_up fa i b k) := by
  funext k
  by_cases h : k = i
  · simp [va_up, h]
  · simp [va_up, h]
/-- a formula out of the office's row, or out of what the layers remember -/
theorem d_aldF (C0 : CallFix p m c cc nL s args Ts own) (Z : gZ D (gT cyI cyJ cyO) (XD d cyI cyJ cyO eA vr vt rs rr at' fa ra ol fd dc ds va tr ++ va_pl P g) A bs s H locs) (hF : dF cyI P g eA fa ra fw fn ff rw' rn rf') {i : Int32} (hin : vp_in i 30) (hdg : decode cc pc = .ok (.aaload, 1))
    (kk : isF cyI P g (fa i.toNatClampNeg) (fw i.toNatClampNeg) (fn i.toNatClampNeg) (ff i.toNatClampNeg) → W p l e R s m args below meth c H locs cells slots Q (F0 m (pc + 1) ls (.ref (fa i.toNatClampNeg) :: rest))) : W p l e R s m args below meth c H locs cells slots Q (F0 m pc ls (.int i :: .ref (d 3) :: rest)) :=
  va_aldq C0.1 C0.2.1 Z.2.1 Z.1 3 2 (n := 30) (f := fun k => some (fa k)) rfl rfl hin hdg (kk (hF.1 _ (g_lt hin)))
theorem d_aldR (C0 : CallFix p m c cc nL s args Ts own) (Z : gZ D (gT cyI cyJ cyO) (XD d cyI cyJ cyO eA vr vt rs rr at' fa ra ol fd dc ds va tr ++ va_pl P g) A bs s H locs) (hF : dF cyI P g eA fa ra fw fn ff rw' rn rf') {i : Int32} (hin : vp_in i 120) (hdg : decode cc pc = .ok (.aaload, 1))
    (kk : isF cyI P g (ra i.toNatClampNeg) (rw' i.toNatClampNeg) (rn i.toNatClampNeg) (rf' i.toNatClampNeg) → W p l e R s m args below meth c H locs cells slots Q (F0 m (pc + 1) ls (.ref (ra i.toNatClampNeg) :: rest))) : W p l e R s m args below meth c H locs cells slots Q (F0 m pc ls (.int i :: .ref (d 4) :: rest)) :=
  va_aldq C0.1 C0.2.1 Z.2.1 Z.1 4 2 (n := 120) (f := fun k => some (ra k)) rfl rfl hin hdg (kk (hF.2.1 _ (g_lt hin)))
theorem d_astF (C0 : CallFix p m c cc nL s args Ts own) (Z : gZ D (gT cyI cyJ cyO) (XD d cyI cyJ cyO eA vr vt rs rr at' fa ra ol fd dc ds va tr ++ va_pl P g) A bs s H locs) (hF : dF cyI P g eA fa ra fw fn ff rw' rn rf') (hb : isF cyI P g b w n f) {i : Int32} (hin : vp_in i 30) (hdg : decode cc pc = .ok (.aastore, 1))
    (kk : ∀ (H1 : Heap) (locs1 : List Loc), gZ D (gT cyI cyJ cyO) (XD d cyI cyJ cyO eA vr vt rs rr at' (va_up fa i.toNatClampNeg b) ra ol fd dc ds va tr ++ va_pl P g) A bs s H1 locs1 → dF cyI P g eA (va_up fa i.toNatClampNeg b) ra (va_up fw i.toNatClampNeg w) (va_up fn i.toNatClampNeg n) (va_up ff i.toNatClampNeg f) rw' rn rf' → W p l e R s m args below meth c H1 locs1 cells slots Q (F0 m (pc + 1) ls rest)) : W p l e R s m args below meth c H locs cells slots Q (F0 m pc ls (.ref b :: .int i :: .ref (d 3) :: rest)) := by
  obtain ⟨k1, sa, hk1, hs⟩ := isF_get (XD d cyI cyJ cyO eA vr vt rs rr at' fa ra ol fd dc ds va tr) hb
  refine va_astq (r := (RX1, TX1, 2)) C0.1 C0.2.1 Z.2.1 Z.1 Z.2.2.1 Z.2.2.2.1 3 2 k1 3 (n := 30) (f := fun k => some (fa k)) rfl rfl hk1 rfl hin hdg (fun H1 locs1 h1 h2 h3 => ?_)
  rw [up_some] at h1 h2
  refine kk H1 locs1 ⟨h1, Z.2.1, h2, h3, Z.2.2.2.2⟩ ⟨fun k hk => ?_, hF.2⟩
  by_cases h : k = i.toNatClampNeg
  · simp only [va_up, h, if_true]; exact hb
  · simp only [va_up, h, if_false]; exact hF.1 k hk
theorem d_astR (C0 : CallFix p m c cc nL s args Ts own) (Z : gZ D (gT cyI cyJ cyO) (XD d cyI cyJ cyO eA vr vt rs rr at' fa ra ol fd dc ds va tr ++ va_pl P g) A bs s H locs) (hF : dF cyI P g eA fa ra fw fn ff rw' rn rf') (hb : isF cyI P g b w n f) {i : Int32} (hin : vp_in i 120) (hdg : decode cc pc = .ok (.aastore, 1))
    (kk : ∀ (H1 : Heap) (locs1 : List Loc), gZ D (gT cyI cyJ cyO) (XD d cyI cyJ cyO eA vr vt rs rr at' fa (va_up ra i.toNatClampNeg b) ol fd dc ds va tr ++ va_pl P g) A bs s H1 locs1 → dF cyI P g eA fa (va_up ra i.toNatClampNeg b) fw fn ff (va_up rw' i.toNatClampNeg w) (va_up rn i.toNatClampNeg n) (va_up rf' i.toNatClampNeg f) → W p l e R s m args below meth c H1 locs1 cells slots Q (F0 m (pc + 1) ls rest)) : W p l e R s m args below meth c H locs cells slots Q (F0 m pc ls (.ref b :: .int i :: .ref (d 4) :: rest)) := by
  obtain ⟨k1, sa, hk1, hs⟩ := isF_get (XD d cyI cyJ cyO eA vr vt rs rr at' fa ra ol fd dc ds va tr) hb
  refine va_astq (r := (RX1, TX1, 2)) C0.1 C0.2.1 Z.2.1 Z.1 Z.2.2.1 Z.2.2.2.1 4 2 k1 3 (n := 120) (f := fun k => some (ra k)) rfl rfl hk1 rfl hin hdg (fun H1 locs1 h1 h2 h3 => ?_)
  rw [up_some] at h1 h2
  refine kk H1 locs1 ⟨h1, Z.2.1, h2, h3, Z.2.2.2.2⟩ ⟨hF.1, fun k hk => ?_, hF.2.2⟩
  by_cases h : k = i.toNatClampNeg
  · simp only [va_up, h, if_true]; exact hb
  · simp only [va_up, h, if_false]; exact hF.2.1 k hk
end DB
