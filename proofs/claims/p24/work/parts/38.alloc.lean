/-! what is made: rows of ints, formulas -/
section AL
variable {p : Program} {l : Launch} {e : Env} {R : Room} {s : State} {m : MethodId} {args : Array Value} {below : List Frame} {meth : Method} {c : Code} {H : Heap} {locs : List Loc} {cells slots : Nat} {Q : State → Prop}
variable {cc : ByteArray} {pc : Nat} {ls : Array Slot} {rest st0 : List Value} {D : va_G} {A : Nat → Prop} {a bs nL : Nat} {ws : va_W} {own : String} {Ts : List Cond} {cyI cyJ cyO : ClassId} {P : List Nat} {g : Nat → va_E} {X : va_W} {b sa n : Nat} {w : Int32} {f : Nat → Int32}
theorem g_cyI {cA : ClassId} {tys : List (ClassId × FieldType)} (hK : va_K D vwCl (gT cyI cyJ cyO ++ tys) s) (k : Nat) (hk : tys[k]? = some (cA, .int)) : cA = cyI := by
  have h0 := (hK.2 0 (cyI, .int) rfl).2
  have h3 := (hK.2 (3 + k) (cA, .int) (by rw [List.getElem?_append_right (by show 3 ≤ 3 + k; omega)]; show tys[3 + k - 3]? = _; rw [Nat.add_sub_cancel_left]; exact hk)).2
  exact Option.some.inj (h3.symm.trans h0)
/-- a new row of ints, in the pool -/
theorem d_newI (C0 : CallFix p m c cc nL s args Ts own) (harr : Cond.arrayClass .int ∈ Ts) (Z : gZ D (gT cyI cyJ cyO) (X ++ va_pl P g) A bs s H locs) {i : Int32} {N' : Nat} (hn : ¬ i < 0) (hN : i.toNatClampNeg = N') (hby : N' * 4 ≤ 536870912) (hc : cells + 1 ≤ R.cells) (hs : slots + N' ≤ R.slots) (hdg : decode cc pc = .ok (.newarray .int, 2))
    (kk : ∀ (q : Nat) (H1 : Heap), q ∉ P → gZ D (gT cyI cyJ cyO) (X ++ va_pl (P ++ [q]) (va_up g q (.inl (cyI, N', .inl (fun _ => 0))))) A bs s H1 locs → W p l e R s m args below meth c H1 locs (cells + 1) (slots + N') Q (F0 m (pc + 2) ls (.ref q :: rest))) : W p l e R s m args below meth c H locs cells slots Q (F0 m pc ls (.int i :: rest)) := by
  refine va_newa (atype := .int) C0.1 C0.2.1 (C0.2.2.2.2 _ harr) rfl Z.2.1 Z.1 Z.2.2.1 Z.2.2.2.1 (fun q h => Z.2.2.2.2.2 q (Nat.le_trans Z.2.2.2.2.1 h)) (a0 := (N', .inl (fun _ => 0))) (fun cA => rfl) hn hN hby hc hs hdg (fun q cA H1 hK hP hD hS => ?_)
  have e1 : cA = cyI := g_cyI hK 0 rfl
  subst e1
  have hq : q ∉ P := va_pl_fresh2 hD
  have hw : (X ++ va_pl P g) ++ [(q, (.inl (cA, N', .inl (fun _ => 0)) : va_E))] = X ++ va_pl (P ++ [q]) (va_up g q (.inl (cA, N', .inl (fun _ => 0)))) := by rw [List.append_assoc, va_pl_push hq]
  rw [hw] at hP hD
  exact kk q H1 hq ⟨hP, Z.2.1, hD, hS, Z.2.2.2.2⟩
/-- a new formula, in the pool, as yet empty -/
theorem d_newF (C0 : CallFix p m c cc nL s args Ts own) (hin : ∀ w ∈ wsX10, w ∈ Ts) {index : Nat} (h1 : Cond.classLink own index RX1 ∈ Ts) (h2 : Cond.instantiable RX1 2 ∈ Ts) (h3 : Cond.initialized RX1 ∈ Ts) (Z : gZ D (gT cyI cyJ cyO) (X ++ va_pl P g) A bs s H locs) (hc : cells + 1 ≤ R.cells) (hs : slots + 2 ≤ R.slots) (hdg : decode cc pc = .ok (.new index, 3))
    (kk : ∀ (q : Nat) (H1 : Heap), q ∉ P → gZ D (gT cyI cyJ cyO) (X ++ va_pl (P ++ [q]) (va_up g q (.inr (3, [.null, .int 0])))) A bs s H1 locs → W p l e R s m args below meth c H1 locs (cells + 1) (slots + 2) Q (F0 m (pc + 3) ls (.ref q :: rest))) : W p l e R s m args below meth c H locs cells slots Q (F0 m pc ls rest) := by
  refine va_new (ci := 3) (fs := [.null, .int 0]) (C := RX1) (T := TX1) (N := 2) C0.1 C0.2.1 C0.2.2.2.2 hin tyX1 tyX1_ok C0.2.2.2.1 (C0.2.2.2.2 _ h1) (C0.2.2.2.2 _ h2) (C0.2.2.2.2 _ h3) Z.2.1 Z.1 Z.2.2.1 Z.2.2.2.1 (fun q h => Z.2.2.2.2.2 q (Nat.le_trans Z.2.2.2.2.1 h)) rfl (fun j hj => by rcases (show j = 0 ∨ j = 1 by omega) with rfl | rfl <;> rfl) hc hs hdg (fun q H1 hP hD hS => ?_)
  have hq : q ∉ P := va_pl_fresh2 hD
  have hw : (X ++ va_pl P g) ++ [(q, (.inr (3, [.null, .int 0]) : va_E))] = X ++ va_pl (P ++ [q]) (va_up g q (.inr (3, [.null, .int 0]))) := by rw [List.append_assoc, va_pl_push hq]
  rw [hw] at hP hD
  exact kk q H1 hq ⟨hP, Z.2.1, hD, hS, Z.2.2.2.2⟩
/-- a place of a row of the pool is written -/
theorem d_iast (C0 : CallFix p m c cc nL s args Ts own) (Z : gZ D (gT cyI cyJ cyO) (X ++ va_pl P g) A bs s H locs) (hb : b ∈ P) (hg : g b = .inl (cyI, n, .inl f)) {i x : Int32} (hin : vp_in i n) (hdg : decode cc pc = .ok (.iastore, 1))
    (kk : ∀ (H1 : Heap) (locs1 : List Loc), gZ D (gT cyI cyJ cyO) (X ++ va_pl P (va_up g b (.inl (cyI, n, .inl (upd f i.toNatClampNeg x))))) A bs s H1 locs1 → W p l e R s m args below meth c H1 locs1 cells slots Q (F0 m (pc + 1) ls rest)) : W p l e R s m args below meth c H locs cells slots Q (F0 m pc ls (.int x :: .int i :: .ref b :: rest)) := by
  obtain ⟨k, hk⟩ := va_pl_get (X := X) (f := g) hb
  have hk2 := hk
  rw [hg] at hk2
  refine g_iast C0 Z k 0 hk2 rfl hin hdg (va_pl_set Z.2.2.1 hb hk) kk
/-- the two fields of a formula that is being made -/
theorem d_putS (C0 : CallFix p m c cc nL s args Ts RX1) (hnm : meth.name = "<init>") (hin : ∀ w ∈ wsX10, w ∈ Ts) (hlink : Cond.fieldLink RX1 9 "GoalseekOffice$Formula" "signs" "[I" ∈ Ts) (Z : gZ D (gT cyI cyJ cyO) (X ++ va_pl P g) A bs s H locs) (hb : b ∈ P) {v0 v1 : Value} (hg : g b = .inr (3, [v0, v1])) (hdg : decode cc pc = .ok (.putfield 9, 3))
    (kk : ∀ (H1 : Heap) (locs1 : List Loc), gZ D (gT cyI cyJ cyO) (X ++ va_pl P (va_up g b (.inr (3, [.ref sa, v1])))) A bs s H1 locs1 → W p l e R s m args below meth c H1 locs1 cells slots Q (F0 m (pc + 3) ls rest)) : W p l e R s m args below meth c H locs cells slots Q (F0 m pc ls (.ref sa :: .ref b :: rest)) := by
  obtain ⟨k, hk⟩ := va_pl_get (X := X) (f := g) hb
  have hk2 := hk
  rw [hg] at hk2
  refine va_putF (T := TX1) (N := 2) (ty := .array .int) C0.1 C0.2.1 C0.2.2.2.2 hin tyX1 tyX1_ok nmX1 C0.2.2.2.1 Z.2.1 Z.1 Z.2.2.1 Z.2.2.2.1 k hk2 rfl 0 (by decide) (C0.2.2.2.2 _ hlink) (fun _ h => h) rfl hnm rfl (by decide +kernel) rfl rfl (Nat.le_of_ble_eq_true rfl) hdg (fun H1 locs1 h1 h2 h3 => ?_)
  have hw := va_pl_set (e := .inr (3, [.ref sa, v1])) Z.2.2.1 hb hk
  exact kk H1 locs1 (hw ▸ ⟨h1, Z.2.1, h2, h3, Z.2.2.2.2⟩)
theorem d_putNm (C0 : CallFix p m c cc nL s args Ts RX1) (hnm : meth.name = "<init>") (hin : ∀ w ∈ wsX10, w ∈ Ts) (hlink : Cond.fieldLink RX1 19 "GoalseekOffice$Formula" "named" "I" ∈ Ts) (Z : gZ D (gT cyI cyJ cyO) (X ++ va_pl P g) A bs s H locs) (hb : b ∈ P) {v0 v1 : Value} (hg : g b = .inr (3, [v0, v1])) (hdg : decode cc pc = .ok (.putfield 19, 3))
    (kk : ∀ (H1 : Heap) (locs1 : List Loc), gZ D (gT cyI cyJ cyO) (X ++ va_pl P (va_up g b (.inr (3, [v0, .int w])))) A bs s H1 locs1 → W p l e R s m args below meth c H1 locs1 cells slots Q (F0 m (pc + 3) ls rest)) : W p l e R s m args below meth c H locs cells slots Q (F0 m pc ls (.int w :: .ref b :: rest)) := by
  obtain ⟨k, hk⟩ := va_pl_get (X := X) (f := g) hb
  have hk2 := hk
  rw [hg] at hk2
  refine va_putF (T := TX1) (N := 2) (ty := .int) C0.1 C0.2.1 C0.2.2.2.2 hin tyX1 tyX1_ok nmX1 C0.2.2.2.1 Z.2.1 Z.1 Z.2.2.1 Z.2.2.2.1 k hk2 rfl 1 (by decide) (C0.2.2.2.2 _ hlink) (fun _ h => h) rfl hnm rfl (by decide +kernel) rfl rfl (Nat.le_of_ble_eq_true rfl) hdg (fun H1 locs1 h1 h2 h3 => ?_)
  have hw := va_pl_set (e := .inr (3, [v0, .int w])) Z.2.2.1 hb hk
  exact kk H1 locs1 (hw ▸ ⟨h1, Z.2.1, h2, h3, Z.2.2.2.2⟩)
end AL
/-- the cells that a row of signs names -/
def mX1_init_b (N n : Nat) (f : Nat → Int32) (r13 : Int32 → Int32 → Option Int32) (v2 v3 : Int32) : Option Int32 := if nI n ≤ v3 then some v2 else (if v3 < 0 ∨ n ≤ v3.toNatClampNeg then none else (if f v3.toNatClampNeg < (6 : Int32) then r13 v2 (v3 + (1 : Int32)) else (if (36 : Int32) ≤ f v3.toNatClampNeg then r13 v2 (v3 + (1 : Int32)) else ((mX3_only N (f v3.toNatClampNeg - (6 : Int32))).bind fun x => r13 (v2 ||| x) (v3 + (1 : Int32))))))
def mX1_init_13 (N n : Nat) (f : Nat → Int32) : Nat → Int32 → Int32 → Option Int32
  | 0 => fun _ _ => none
  | k + 1 => fun v2 v3 => mX1_init_b N n f (mX1_init_13 N n f k) v2 v3
def mX1_init (N n : Nat) (f : Nat → Int32) : Option Int32 := mX1_init_13 N n f N 0 0
abbrev rmX1_init : Room := { frames := 1, cells := 0, slots := 0, locals := 40 }
theorem kX1_init_in : ∀ w ∈ wsX10, w ∈ wsX1_init := by decide +kernel
theorem kX1_init_9 : Cond.fieldLink RX1 9 "GoalseekOffice$Formula" "signs" "[I" ∈ wsX1_init := by decide +kernel
theorem kX1_init_19 : Cond.fieldLink RX1 19 "GoalseekOffice$Formula" "named" "I" ∈ wsX1_init := by decide +kernel
theorem kX1_init_o1 : Cond.methodLink RX1 3 objectInit ∈ wsX1_init := by decide +kernel
theorem kX1_init_o2 : Cond.instanceMethod objectInit ∈ wsX1_init := by decide +kernel
theorem kX1_init_o3 : Cond.code objectInit ⟨#[0xb1]⟩ 1 none ∈ wsX1_init := by decide +kernel
theorem kX1_init_s : Cond.static yX3_only ∈ wsX1_init := by decide +kernel
theorem kX1_init_i : Cond.initialized RX3 ∈ wsX1_init := by decide +kernel
set_option maxRecDepth 20000 in
set_option maxHeartbeats 4000000 in
theorem wX1_init_13 {p : Program} {l : Launch} {e : Env} {s : State} {m : MethodId} {args : Array Value} {below : List Frame} {meth : Method} {c : Code} {D : va_G} {cyI cyJ cyO : ClassId} {A : Nat → Prop} {bs : Nat} {X : va_W} {P : List Nat} {g : Nat → va_E} {b sa n N : Nat} {f : Nat → Int32} {Q : State → Prop} {res : Int32} (C0 : gC p m meth c cX1_init 4 none s args wsX1_init RX1) (hN : dN s) (hs : isA cyI P g sa n f)
    (hend : ∀ (H : Heap) (locs : List Loc) (ls : Array Slot), gZ D (gT cyI cyJ cyO) (X ++ va_pl P g) A bs s H locs → lv_has ls 4 [(0, .ref b), (2, .int res)] → W p l e rmX1_init s m args below meth c H locs 0 0 Q (F0 m 53 ls [])) :
    ∀ (k : Nat) (v2 v3 : Int32) (H : Heap) (locs : List Loc) (ls : Array Slot), mX1_init_13 N n f k v2 v3 = some res → gZ D (gT cyI cyJ cyO) (X ++ va_pl P g) A bs s H locs → lv_has ls 4 [(0, .ref b), (1, .ref sa), (2, .int v2), (3, .int v3)] → W p l e rmX1_init s m args below meth c H locs 0 0 Q (F0 m 13 ls []) := by
  intro k
  induction k with
  | zero => intro _ _ _ _ _ h; cases h
  | succ k ih =>
    intro v2 v3 H locs ls h Z hl
    have hnext : ∀ (v2' : Int32) (H : Heap) (locs : List Loc) (ls : Array Slot), mX1_init_13 N n f k v2' (v3 + 1) = some res → gZ D (gT cyI cyJ cyO) (X ++ va_pl P g) A bs s H locs → lv_has ls 4 [(0, .ref b), (1, .ref sa), (2, .int v2'), (3, .int v3)] → W p l e rmX1_init s m args below meth c H locs 0 0 Q (F0 m 47 ls []) := by
      intro v2' H locs ls h Z hl
      refine lv_iinc (v := v3 + (1 : Int32)) (lv' := [(3, .int (v3 + (1 : Int32))), (0, .ref b), (1, .ref sa), (2, .int v2')]) C0.1.1 C0.1.2.1 dX1_init_47 hl (k := 3) rfl rfl (by decide) rfl (fun ls hl => ?_)
      refine lv_goto (tgt := 13) C0.1.1 C0.1.2.1 dX1_init_50 (by decide) ?_
      exact ih _ _ _ _ _ h Z (lv_sub hl [1, 2, 3, 0] rfl)
    change mX1_init_b N n f (mX1_init_13 N n f k) v2 v3 = some res at h
    unfold mX1_init_b at h
    refine lv_iload_n C0.1.1 C0.1.2.1 dX1_init_13 rfl (lv_at hl 3 rfl) ?_
    refine lv_aload_n C0.1.1 C0.1.2.1 dX1_init_14 rfl (lv_at hl 1 rfl) ?_
    refine d_alen C0.1 Z hs dX1_init_15 ?_
    refine lv_icmp_ge (tgt := 53) C0.1.1 C0.1.2.1 dX1_init_16 (by decide) (fun hc => ?_) (fun hc => ?_)
    · replace h := (if_pos hc).symm.trans h
      cases h
      exact hend _ _ _ Z (lv_sub hl [0, 2] rfl)
    · replace h := (if_neg hc).symm.trans h
      obtain ⟨hi, h⟩ := g_ni h
      refine lv_aload_n C0.1.1 C0.1.2.1 dX1_init_19 rfl (lv_at hl 1 rfl) ?_
      refine lv_iload_n C0.1.1 C0.1.2.1 dX1_init_20 rfl (lv_at hl 3 rfl) ?_
      refine d_iald C0.1 Z hs hi dX1_init_21 ?_
      refine lv_bipush (v := 6) C0.1.1 C0.1.2.1 dX1_init_22 (by decide +kernel) ?_
      refine lv_icmp_lt (tgt := 47) C0.1.1 C0.1.2.1 dX1_init_24 (by decide) (fun hc => ?_) (fun hc => ?_)
      · replace h := (if_pos hc).symm.trans h
        exact hnext _ _ _ _ h Z hl
      · replace h := (if_neg hc).symm.trans h
        refine lv_aload_n C0.1.1 C0.1.2.1 dX1_init_27 rfl (lv_at hl 1 rfl) ?_
        refine lv_iload_n C0.1.1 C0.1.2.1 dX1_init_28 rfl (lv_at hl 3 rfl) ?_
        refine d_iald C0.1 Z hs hi dX1_init_29 ?_
        refine lv_bipush (v := 36) C0.1.1 C0.1.2.1 dX1_init_30 (by decide +kernel) ?_
        refine lv_icmp_ge (tgt := 47) C0.1.1 C0.1.2.1 dX1_init_32 (by decide) (fun hc => ?_) (fun hc => ?_)
        · replace h := (if_pos hc).symm.trans h
          exact hnext _ _ _ _ h Z hl
        · replace h := (if_neg hc).symm.trans h
          obtain ⟨x, hx, h⟩ := g_bd h
          refine lv_iload_n C0.1.1 C0.1.2.1 dX1_init_35 rfl (lv_at hl 2 rfl) ?_
          refine lv_aload_n C0.1.1 C0.1.2.1 dX1_init_36 rfl (lv_at hl 1 rfl) ?_
          refine lv_iload_n C0.1.1 C0.1.2.1 dX1_init_37 rfl (lv_at hl 3 rfl) ?_
          refine d_iald C0.1 Z hs hi dX1_init_38 ?_
          refine lv_bipush (v := 6) C0.1.1 C0.1.2.1 dX1_init_39 (by decide +kernel) ?_
          refine lv_isub C0.1.1 C0.1.2.1 dX1_init_41 ?_
          refine x_calli (va_runSN (As := [.int (f v3.toNatClampNeg - (6 : Int32))]) (rest := [.int v2]) C0.1 (zX3_only l D cyI cyJ cyO A bs Z.2.2.2.2.2 (X ++ va_pl P g) N (f v3.toNatClampNeg - (6 : Int32)) x hx) ⟨va_cnB 1 C0.1.2.2.2.2 gX1_init_X3_only_n15 rfl rfl rfl (hN.1 _ (List.mem_of_getElem? (i := 12) rfl)) (C0.1.2.2.2.2 _ kX1_init_i) (by decide +kernel) ⟨Nat.le_of_ble_eq_true rfl, Nat.le_of_ble_eq_true rfl⟩, C0.1.2.2.2.2 _ kX1_init_s, trivial⟩ ⟨g_blind, g_pre Z _⟩ rfl rfl hl.1 rfl (lv_room (Nat.le_of_ble_eq_true rfl)) dX1_init_42 ⟨Nat.zero_le _, Nat.zero_le _⟩) Z.2.2.2.1 (fun u t H1 locs1 ht hvm hB hS => g_post Z ht hvm hB hS) (fun r u H locs hw Z => ?_)
          subst hw
          refine lv_ior C0.1.1 C0.1.2.1 dX1_init_45 ?_
          refine lv_istore_n (lv' := [(2, .int (v2 ||| x)), (0, .ref b), (1, .ref sa), (3, .int v3)]) C0.1.1 C0.1.2.1 dX1_init_46 rfl hl (by decide) rfl (fun ls hl => ?_)
          exact hnext _ _ _ _ h Z (lv_sub hl [1, 2, 0, 3] rfl)
set_option maxRecDepth 20000 in
set_option maxHeartbeats 4000000 in
/-- Formula(signs): a pool's new object becomes a formula -/
theorem zX1_init (l : Launch) (D : va_G) (cyI cyJ cyO : ClassId) (A : Nat → Prop) (bs : Nat) (hA : ∀ q, bs ≤ q → A q) (X : va_W) (P : List Nat) (g : Nat → va_E) (b sa n : Nat) (f : Nat → Int32) (hb : b ∈ P) (hg : g b = .inr (3, [.null, .int 0])) (hs : isA cyI P g sa n f) (N : Nat) (res : Int32) (h : mX1_init N n f = some res) : Met l yX1_init wsX1_init rmX1_init (va_Pc [.ref b, .ref sa] (fun U => gW D (gT cyI cyJ cyO) (X ++ va_pl P g) A bs U ∧ dN U)) (va_Qv (fun (_ : Unit) => True) (fun (_ : Unit) U => gW D (gT cyI cyJ cyO) (X ++ va_pl P (va_up g b (.inr (3, [.ref sa, .int res])))) A bs U) A) 0 0 A := by
  refine Met.ofW (cc := cX1_init) (maxL := 4) (ret := none) (by decide) rfl ?_
  intro p e s m args below meth c s₁ B hml hv
  obtain ⟨hav, hv, hN⟩ := hv
  have C0 : gC p m meth c cX1_init 4 none s args wsX1_init RX1 := ⟨⟨B.exec, B.bytes, hml, findClass_of_methodNamed B.named, atoms_spec (ws := wsX1_init) B.pre⟩, B.returns, B.notSynchronized⟩
  have hnm : meth.name = "<init>" := (name_of_methodNamed B.named B.method).1
  have Z := g_start hA hv
  have hne : sa ≠ b := by
    intro e1
    obtain ⟨-, f1, h2, -⟩ := hs
    rw [e1, hg] at h2
    cases h2
  have hl := lv_entry ([.ref b, .ref sa]) (n := 4) (Nat.le_of_ble_eq_true rfl)
  rw [hav, lg_entry_eq]
  generalize (lg_sl ([.ref b, .ref sa]) ++ List.replicate (4 - (lg_sl ([.ref b, .ref sa])).length) Slot.unset).toArray = ls at hl ⊢
  have hl : lv_has ls 4 [(0, .ref b), (1, .ref sa)] := hl
  rw [← hav]
  refine lv_aload_n C0.1.1 C0.1.2.1 dX1_init_0 rfl (lv_at hl 0 rfl) ?_
  refine W.objInit C0.1.1 C0.1.2.1 C0.1.2.2.2.1 (C0.1.2.2.2.2 _ kX1_init_o1) (C0.1.2.2.2.2 _ kX1_init_o2) (C0.1.2.2.2.2 _ kX1_init_o3) rfl (hl.1.trans C0.1.2.2.1.symm) rfl dX1_init_1 (Nat.le_of_ble_eq_true rfl) (Nat.le_of_ble_eq_true rfl) ?_
  refine W.eq (g2 := F0 m 4 ls []) rfl ?_
  refine lv_aload_n C0.1.1 C0.1.2.1 dX1_init_4 rfl (lv_at hl 0 rfl) ?_
  refine lv_aload_n C0.1.1 C0.1.2.1 dX1_init_5 rfl (lv_at hl 1 rfl) ?_
  refine d_putS C0.1 hnm kX1_init_in kX1_init_9 Z hb hg dX1_init_6 (fun H locs Z => ?_)
  refine lv_iconst (v := 0) C0.1.1 C0.1.2.1 dX1_init_9 (by decide) ?_
  refine lv_istore_n (lv' := [(2, .int 0), (0, .ref b), (1, .ref sa)]) C0.1.1 C0.1.2.1 dX1_init_10 rfl hl (by decide) rfl (fun ls hl => ?_)
  refine lv_iconst (v := 0) C0.1.1 C0.1.2.1 dX1_init_11 (by decide) ?_
  refine lv_istore_n (lv' := [(3, .int 0), (2, .int 0), (0, .ref b), (1, .ref sa)]) C0.1.1 C0.1.2.1 dX1_init_12 rfl hl (by decide) rfl (fun ls hl => ?_)
  have hs1 : isA cyI P (va_up g b (.inr (3, [.ref sa, .int 0]))) sa n f := by
    obtain ⟨h1, f1, h2, h3⟩ := hs
    exact ⟨h1, f1, by simp only [va_up, hne, if_false]; exact h2, h3⟩
  refine wX1_init_13 (N := N) C0 hN hs1 (fun H locs ls Z hl => ?_) N 0 0 _ _ _ h Z (lv_sub hl [2, 3, 1, 0] rfl)
  refine lv_aload_n C0.1.1 C0.1.2.1 dX1_init_53 rfl (lv_at hl 0 rfl) ?_
  refine lv_iload_n C0.1.1 C0.1.2.1 dX1_init_54 rfl (lv_at hl 1 rfl) ?_
  refine d_putNm C0.1 hnm kX1_init_in kX1_init_19 Z hb (v0 := .ref sa) (v1 := .int 0) (by simp [va_up]) dX1_init_55 (fun H locs Z => ?_)
  rw [bx_uu] at Z
  exact W.vret C0.1.1 C0.1.2.1 C0.2.1 (fun t ht hW => ⟨⟨(), rfl, trivial, g_end Z ht hW⟩, va_S.F Z.2.2.2.1 ht⟩) Z.2.2.2.1.2.2 dX1_init_58 C0.2.2
