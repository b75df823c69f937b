/-! X2_factor -/
theorem kX2_factor_c37 : Cond.constantLong RX2 37 (-9223372036854775808) ∈ wsRF := by decide +kernel
theorem kX2_factor_in2 : ∀ w ∈ wsX20, w ∈ wsRF := by decide +kernel
theorem kX2_factor_f22 : Cond.fieldLink RX2 22 "GoalseekOffice$Reckoner" "at" "I" ∈ wsRF := by decide +kernel
theorem kX2_factor_f9 : Cond.fieldLink RX2 9 "GoalseekOffice$Reckoner" "signs" "[I" ∈ wsRF := by decide +kernel
theorem kX2_factor_f15 : Cond.fieldLink RX2 15 "GoalseekOffice$Reckoner" "row" "[J" ∈ wsRF := by decide +kernel
def mX2_factor_190 (N : Nat) (rs : Int32 → Int32 → Option (Int64 × Int32)) (n : Nat) (f : Nat → Int32) (va : Nat → Int64) (ax : Int32) (s0 : Int64) : Option (Int64 × Int32) := some (s0, ax)
def mX2_factor_188 (N : Nat) (rs : Int32 → Int32 → Option (Int64 × Int32)) (n : Nat) (f : Nat → Int32) (va : Nat → Int64) (ax : Int32) (v4 : Int64) : Option (Int64 × Int32) := mX2_factor_190 N rs n f va ax v4
def mX2_factor_169 (N : Nat) (rs : Int32 → Int32 → Option (Int64 × Int32)) (n : Nat) (f : Nat → Int32) (va : Nat → Int64) (ax : Int32) (v2 : Int32) (v4 : Int64) : Option (Int64 × Int32) := (if v2 = 0 then mX2_factor_188 N rs n f va ax v4 else (if (lg_cmp v4 (-9223372036854775808 : Int64)) = 0 then mX2_factor_188 N rs n f va ax v4 else mX2_factor_190 N rs n f va ax (-v4)))
def mX2_factor_145 (N : Nat) (rs : Int32 → Int32 → Option (Int64 × Int32)) (n : Nat) (f : Nat → Int32) (va : Nat → Int64) (ax : Int32) (v1 : Int32) (v2 : Int32) (v3 : Int32) (v4 : Int64) : Option (Int64 × Int32) := (if v3 = (4 : Int32) then ((rs ax (v1 + (1 : Int32))).bind fun x1 => mX2_factor_169 N rs n f va (x1.2 + (1 : Int32)) v2 x1.1) else mX2_factor_169 N rs n f va ax v2 v4)
def mX2_factor_68 (N : Nat) (rs : Int32 → Int32 → Option (Int64 × Int32)) (n : Nat) (f : Nat → Int32) (va : Nat → Int64) (ax : Int32) : Option (Int64 × Int32) := some ((-9223372036854775808 : Int64), ax)
def mX2_factor_50 (N : Nat) (rs : Int32 → Int32 → Option (Int64 × Int32)) (n : Nat) (f : Nat → Int32) (va : Nat → Int64) (ax : Int32) (v1 : Int32) (v2 : Int32) : Option (Int64 × Int32) := (if (nI n) ≤ ax then mX2_factor_68 N rs n f va ax else (if v1 ≤ (15 : Int32) then (if ax < 0 ∨ n ≤ ax.toNatClampNeg then none else (if (f ax.toNatClampNeg) < (36 : Int32) then (if (f ax.toNatClampNeg) < (6 : Int32) then mX2_factor_145 N rs n f va (ax + (1 : Int32)) v1 v2 (f ax.toNatClampNeg) (-9223372036854775808 : Int64) else (if (30 : Int32) ≤ ((f ax.toNatClampNeg) - (6 : Int32)) then mX2_factor_145 N rs n f va (ax + (1 : Int32)) v1 v2 (f ax.toNatClampNeg) (-9223372036854775808 : Int64) else (if ((f ax.toNatClampNeg) - (6 : Int32)) < 0 ∨ 30 ≤ ((f ax.toNatClampNeg) - (6 : Int32)).toNatClampNeg then none else mX2_factor_169 N rs n f va (ax + (1 : Int32)) v2 (va ((f ax.toNatClampNeg) - (6 : Int32)).toNatClampNeg)))) else mX2_factor_169 N rs n f va (ax + (1 : Int32)) v2 (((f ax.toNatClampNeg) - (36 : Int32)).toInt64))) else mX2_factor_68 N rs n f va ax))
def mX2_factor_36 (N : Nat) (rs : Int32 → Int32 → Option (Int64 × Int32)) (n : Nat) (f : Nat → Int32) (va : Nat → Int64) (r2 : Int32 → Int32 → Int32 → Option (Int64 × Int32)) (ax : Int32) (v1 : Int32) (s0 : Int32) : Option (Int64 × Int32) := r2 (ax + (1 : Int32)) v1 s0
def mX2_factor_2_b (N : Nat) (rs : Int32 → Int32 → Option (Int64 × Int32)) (n : Nat) (f : Nat → Int32) (va : Nat → Int64) (r2 : Int32 → Int32 → Int32 → Option (Int64 × Int32)) (ax : Int32) (v1 : Int32) (v2 : Int32) : Option (Int64 × Int32) := (if (nI n) ≤ ax then mX2_factor_50 N rs n f va ax v1 v2 else (if ax < 0 ∨ n ≤ ax.toNatClampNeg then none else (if (f ax.toNatClampNeg) = (1 : Int32) then (if v2 = 0 then mX2_factor_36 N rs n f va r2 ax v1 (1 : Int32) else mX2_factor_36 N rs n f va r2 ax v1 (0 : Int32)) else mX2_factor_50 N rs n f va ax v1 v2)))
def mX2_factor_2 (N : Nat) (rs : Int32 → Int32 → Option (Int64 × Int32)) (n : Nat) (f : Nat → Int32) (va : Nat → Int64) : Nat → Int32 → Int32 → Int32 → Option (Int64 × Int32)
  | 0 => fun _ _ _ => none
  | n_ + 1 => fun ax v1 v2 => mX2_factor_2_b N rs n f va (mX2_factor_2 N rs n f va n_) ax v1 v2
def mX2_factor (N : Nat) (rs : Int32 → Int32 → Option (Int64 × Int32)) (n : Nat) (f : Nat → Int32) (va : Nat → Int64) (ax : Int32) (p0 : Int32) : Option (Int64 × Int32) := mX2_factor_2 N rs n f va N ax p0 (0 : Int32)
set_option maxRecDepth 20000 in
set_option maxHeartbeats 4000000 in
theorem wX2_factor_190 {p : Program} {l : Launch} {e : Env} {s : State} {m : MethodId} {args : Array Value} {below : List Frame} {meth : Method} {c : Code} {D : va_G} {cyI cyJ cyO : ClassId} {A : Nat → Prop} {bs : Nat} {P : List Nat} {g : Nat → va_E} {d : Nat → Nat} {eA vr vt : Nat} {sA : Nat} {fa ra : Nat → Nat} {Q : State → Prop} {ol : Int32} {fd : Int32} {dc : Int32} {ds : Nat → Int32} {va : Nat → Int64} {tr : Nat → Int64} {N : Nat} {rs : Int32 → Int32 → Option (Int64 × Int32)} {n : Nat} {f : Nat → Int32} {res : Int64 × Int32} (C0 : gC p m meth c cX2_factor 6 (some .long) s args wsRF RX2) (hN : dN s) (hs : isA cyI P g sA n f) {kk : Nat} (hrs : ∀ (at0 p0 : Int32) (res : Int64 × Int32), rs at0 p0 = some res → Met l yX2_sum wsRS (rmX2_sum kk) (va_Pc [.ref (d 2), .int p0] (fun U => gW D (gT cyI cyJ cyO) (XD d cyI cyJ cyO eA vr vt sA (d 5) at0 fa ra ol fd dc ds va tr ++ va_pl P g) A bs U ∧ dN U)) (va_Ql (fun r u => res.1 = r ∧ res.2 = u) (fun u U => gW D (gT cyI cyJ cyO) (XD d cyI cyJ cyO eA vr vt sA (d 5) u fa ra ol fd dc ds va tr ++ va_pl P g) A bs U) A) 0 0 A) (hret : ∀ (r : Int64) (ax_r : Int32) (H : Heap) (locs : List Loc) (pc : Nat) (ls : Array Slot), some (r, ax_r) = some res → gZ D (gT cyI cyJ cyO) (XD d cyI cyJ cyO eA vr vt sA (d 5) ax_r fa ra ol fd dc ds va tr ++ va_pl P g) A bs s H locs → decode cX2_factor pc = .ok (.lreturn, 1) → W p l e (rmX2_factor kk) s m args below meth c H locs 0 0 Q (F0 m pc ls [.long r]))  : ∀ (ax : Int32) (s0 : Int64) (H : Heap) (locs : List Loc) (ls : Array Slot), mX2_factor_190 N rs n f va ax s0 = some res → gZ D (gT cyI cyJ cyO) (XD d cyI cyJ cyO eA vr vt sA (d 5) ax fa ra ol fd dc ds va tr ++ va_pl P g) A bs s H locs → lv_has ls 6 [] → W p l e (rmX2_factor kk) s m args below meth c H locs 0 0 Q (F0 m 190 ls [.long s0]) := by
  intro ax s0 H locs ls h Z hl
  unfold mX2_factor_190 at h
  exact hret s0 ax _ _ _ _ h Z dX2_factor_190
set_option maxRecDepth 20000 in
set_option maxHeartbeats 4000000 in
theorem wX2_factor_188 {p : Program} {l : Launch} {e : Env} {s : State} {m : MethodId} {args : Array Value} {below : List Frame} {meth : Method} {c : Code} {D : va_G} {cyI cyJ cyO : ClassId} {A : Nat → Prop} {bs : Nat} {P : List Nat} {g : Nat → va_E} {d : Nat → Nat} {eA vr vt : Nat} {sA : Nat} {fa ra : Nat → Nat} {Q : State → Prop} {ol : Int32} {fd : Int32} {dc : Int32} {ds : Nat → Int32} {va : Nat → Int64} {tr : Nat → Int64} {N : Nat} {rs : Int32 → Int32 → Option (Int64 × Int32)} {n : Nat} {f : Nat → Int32} {res : Int64 × Int32} (C0 : gC p m meth c cX2_factor 6 (some .long) s args wsRF RX2) (hN : dN s) (hs : isA cyI P g sA n f) {kk : Nat} (hrs : ∀ (at0 p0 : Int32) (res : Int64 × Int32), rs at0 p0 = some res → Met l yX2_sum wsRS (rmX2_sum kk) (va_Pc [.ref (d 2), .int p0] (fun U => gW D (gT cyI cyJ cyO) (XD d cyI cyJ cyO eA vr vt sA (d 5) at0 fa ra ol fd dc ds va tr ++ va_pl P g) A bs U ∧ dN U)) (va_Ql (fun r u => res.1 = r ∧ res.2 = u) (fun u U => gW D (gT cyI cyJ cyO) (XD d cyI cyJ cyO eA vr vt sA (d 5) u fa ra ol fd dc ds va tr ++ va_pl P g) A bs U) A) 0 0 A) (hret : ∀ (r : Int64) (ax_r : Int32) (H : Heap) (locs : List Loc) (pc : Nat) (ls : Array Slot), some (r, ax_r) = some res → gZ D (gT cyI cyJ cyO) (XD d cyI cyJ cyO eA vr vt sA (d 5) ax_r fa ra ol fd dc ds va tr ++ va_pl P g) A bs s H locs → decode cX2_factor pc = .ok (.lreturn, 1) → W p l e (rmX2_factor kk) s m args below meth c H locs 0 0 Q (F0 m pc ls [.long r]))  : ∀ (ax : Int32) (v4 : Int64) (H : Heap) (locs : List Loc) (ls : Array Slot), mX2_factor_188 N rs n f va ax v4 = some res → gZ D (gT cyI cyJ cyO) (XD d cyI cyJ cyO eA vr vt sA (d 5) ax fa ra ol fd dc ds va tr ++ va_pl P g) A bs s H locs → lv_has ls 6 [(4, .long v4)] → W p l e (rmX2_factor kk) s m args below meth c H locs 0 0 Q (F0 m 188 ls []) := by
  intro ax v4 H locs ls h Z hl
  unfold mX2_factor_188 at h
  refine lv_lload C0.1.1 C0.1.2.1 dX2_factor_188 (lv_at hl 0 rfl) ?_
  exact wX2_factor_190 (N := N) C0 hN hs hrs hret ax v4 _ _ _ h Z (lv_sub hl [] rfl)
set_option maxRecDepth 20000 in
set_option maxHeartbeats 4000000 in
theorem wX2_factor_169 {p : Program} {l : Launch} {e : Env} {s : State} {m : MethodId} {args : Array Value} {below : List Frame} {meth : Method} {c : Code} {D : va_G} {cyI cyJ cyO : ClassId} {A : Nat → Prop} {bs : Nat} {P : List Nat} {g : Nat → va_E} {d : Nat → Nat} {eA vr vt : Nat} {sA : Nat} {fa ra : Nat → Nat} {Q : State → Prop} {ol : Int32} {fd : Int32} {dc : Int32} {ds : Nat → Int32} {va : Nat → Int64} {tr : Nat → Int64} {N : Nat} {rs : Int32 → Int32 → Option (Int64 × Int32)} {n : Nat} {f : Nat → Int32} {res : Int64 × Int32} (C0 : gC p m meth c cX2_factor 6 (some .long) s args wsRF RX2) (hN : dN s) (hs : isA cyI P g sA n f) {kk : Nat} (hrs : ∀ (at0 p0 : Int32) (res : Int64 × Int32), rs at0 p0 = some res → Met l yX2_sum wsRS (rmX2_sum kk) (va_Pc [.ref (d 2), .int p0] (fun U => gW D (gT cyI cyJ cyO) (XD d cyI cyJ cyO eA vr vt sA (d 5) at0 fa ra ol fd dc ds va tr ++ va_pl P g) A bs U ∧ dN U)) (va_Ql (fun r u => res.1 = r ∧ res.2 = u) (fun u U => gW D (gT cyI cyJ cyO) (XD d cyI cyJ cyO eA vr vt sA (d 5) u fa ra ol fd dc ds va tr ++ va_pl P g) A bs U) A) 0 0 A) (hret : ∀ (r : Int64) (ax_r : Int32) (H : Heap) (locs : List Loc) (pc : Nat) (ls : Array Slot), some (r, ax_r) = some res → gZ D (gT cyI cyJ cyO) (XD d cyI cyJ cyO eA vr vt sA (d 5) ax_r fa ra ol fd dc ds va tr ++ va_pl P g) A bs s H locs → decode cX2_factor pc = .ok (.lreturn, 1) → W p l e (rmX2_factor kk) s m args below meth c H locs 0 0 Q (F0 m pc ls [.long r]))  : ∀ (ax : Int32) (v2 : Int32) (v4 : Int64) (H : Heap) (locs : List Loc) (ls : Array Slot), mX2_factor_169 N rs n f va ax v2 v4 = some res → gZ D (gT cyI cyJ cyO) (XD d cyI cyJ cyO eA vr vt sA (d 5) ax fa ra ol fd dc ds va tr ++ va_pl P g) A bs s H locs → lv_has ls 6 [(2, .int v2), (4, .long v4)] → W p l e (rmX2_factor kk) s m args below meth c H locs 0 0 Q (F0 m 169 ls []) := by
  intro ax v2 v4 H locs ls h Z hl
  unfold mX2_factor_169 at h
  refine lv_iload_n C0.1.1 C0.1.2.1 dX2_factor_169 rfl (lv_at hl 0 rfl) ?_
  refine lv_if_eq (tgt := 188) C0.1.1 C0.1.2.1 dX2_factor_170 (by decide) (fun hc => ?_) (fun hc => ?_)
  · replace h := (if_pos hc).symm.trans h
    exact wX2_factor_188 (N := N) C0 hN hs hrs hret ax v4 _ _ _ h Z (lv_sub hl [1] rfl)
  · replace h := (if_neg hc).symm.trans h
    refine lv_lload C0.1.1 C0.1.2.1 dX2_factor_173 (lv_at hl 1 rfl) ?_
    refine lv_ldc2 C0.1.1 C0.1.2.1 C0.1.2.2.2.1 (C0.1.2.2.2.2 _ kX2_factor_c37) dX2_factor_175 ?_
    refine W.lcmp C0.1.1 C0.1.2.1 dX2_factor_178 ?_
    refine lv_if_eq (tgt := 188) C0.1.1 C0.1.2.1 dX2_factor_179 (by decide) (fun hc => ?_) (fun hc => ?_)
    · replace h := (if_pos hc).symm.trans h
      exact wX2_factor_188 (N := N) C0 hN hs hrs hret ax v4 _ _ _ h Z (lv_sub hl [1] rfl)
    · replace h := (if_neg hc).symm.trans h
      refine lv_lload C0.1.1 C0.1.2.1 dX2_factor_182 (lv_at hl 1 rfl) ?_
      refine lv_lneg C0.1.1 C0.1.2.1 dX2_factor_184 ?_
      refine lv_goto (tgt := 190) C0.1.1 C0.1.2.1 dX2_factor_185 (by decide) ?_
      exact wX2_factor_190 (N := N) C0 hN hs hrs hret ax (-v4) _ _ _ h Z (lv_sub hl [] rfl)
set_option maxRecDepth 20000 in
set_option maxHeartbeats 4000000 in
theorem wX2_factor_145 {p : Program} {l : Launch} {e : Env} {s : State} {m : MethodId} {args : Array Value} {below : List Frame} {meth : Method} {c : Code} {D : va_G} {cyI cyJ cyO : ClassId} {A : Nat → Prop} {bs : Nat} {P : List Nat} {g : Nat → va_E} {d : Nat → Nat} {eA vr vt : Nat} {sA : Nat} {fa ra : Nat → Nat} {Q : State → Prop} {ol : Int32} {fd : Int32} {dc : Int32} {ds : Nat → Int32} {va : Nat → Int64} {tr : Nat → Int64} {N : Nat} {rs : Int32 → Int32 → Option (Int64 × Int32)} {n : Nat} {f : Nat → Int32} {res : Int64 × Int32} (C0 : gC p m meth c cX2_factor 6 (some .long) s args wsRF RX2) (hN : dN s) (hs : isA cyI P g sA n f) {kk : Nat} (hrs : ∀ (at0 p0 : Int32) (res : Int64 × Int32), rs at0 p0 = some res → Met l yX2_sum wsRS (rmX2_sum kk) (va_Pc [.ref (d 2), .int p0] (fun U => gW D (gT cyI cyJ cyO) (XD d cyI cyJ cyO eA vr vt sA (d 5) at0 fa ra ol fd dc ds va tr ++ va_pl P g) A bs U ∧ dN U)) (va_Ql (fun r u => res.1 = r ∧ res.2 = u) (fun u U => gW D (gT cyI cyJ cyO) (XD d cyI cyJ cyO eA vr vt sA (d 5) u fa ra ol fd dc ds va tr ++ va_pl P g) A bs U) A) 0 0 A) (hret : ∀ (r : Int64) (ax_r : Int32) (H : Heap) (locs : List Loc) (pc : Nat) (ls : Array Slot), some (r, ax_r) = some res → gZ D (gT cyI cyJ cyO) (XD d cyI cyJ cyO eA vr vt sA (d 5) ax_r fa ra ol fd dc ds va tr ++ va_pl P g) A bs s H locs → decode cX2_factor pc = .ok (.lreturn, 1) → W p l e (rmX2_factor kk) s m args below meth c H locs 0 0 Q (F0 m pc ls [.long r]))  : ∀ (ax : Int32) (v1 : Int32) (v2 : Int32) (v3 : Int32) (v4 : Int64) (H : Heap) (locs : List Loc) (ls : Array Slot), mX2_factor_145 N rs n f va ax v1 v2 v3 v4 = some res → gZ D (gT cyI cyJ cyO) (XD d cyI cyJ cyO eA vr vt sA (d 5) ax fa ra ol fd dc ds va tr ++ va_pl P g) A bs s H locs → lv_has ls 6 [(0, .ref (d 2)), (1, .int v1), (2, .int v2), (3, .int v3), (4, .long v4)] → W p l e (rmX2_factor kk) s m args below meth c H locs 0 0 Q (F0 m 145 ls []) := by
  intro ax v1 v2 v3 v4 H locs ls h Z hl
  unfold mX2_factor_145 at h
  refine lv_iload_n C0.1.1 C0.1.2.1 dX2_factor_145 rfl (lv_at hl 3 rfl) ?_
  refine lv_iconst (v := 4) C0.1.1 C0.1.2.1 dX2_factor_146 (by decide) ?_
  refine lv_icmp_ne (tgt := 169) C0.1.1 C0.1.2.1 dX2_factor_147 (by decide) (fun hc => ?_) (fun hc => ?_)
  · replace h := (if_neg hc).symm.trans h
    exact wX2_factor_169 (N := N) C0 hN hs hrs hret ax v2 v4 _ _ _ h Z (lv_sub hl [2, 4] rfl)
  · replace h := (if_pos hc).symm.trans h
    refine lv_aload_n C0.1.1 C0.1.2.1 dX2_factor_150 rfl (lv_at hl 0 rfl) ?_
    refine lv_iload_n C0.1.1 C0.1.2.1 dX2_factor_151 rfl (lv_at hl 1 rfl) ?_
    refine lv_iconst (v := 1) C0.1.1 C0.1.2.1 dX2_factor_152 (by decide) ?_
    refine lv_iadd C0.1.1 C0.1.2.1 dX2_factor_153 ?_
    obtain ⟨x1, hx2, h⟩ := g_bd h
    refine x_calll (va_runV (b := d 2) (C := RX2) (As := [.int (v1 + (1 : Int32))]) (rest := []) C0.1 (hrs ax (v1 + (1 : Int32)) x1 hx2) (cwV 1 C0.1.2.2.2.2 gRF_sum rfl rfl rfl (by decide +kernel) ⟨by dsimp only [headSpec, rmX2_sum, rmX2_product, rmX2_factor, rmX2_combine]; omega, by dsimp only [headSpec, rmX2_sum, rmX2_product, rmX2_factor, rmX2_combine]; omega⟩) ⟨gN_blind, va_recv Z.2.1 Z.1 (ci := 4) (q0 := 2) rfl rfl, gN_pre Z hN _⟩ rfl rfl hl.1 rfl (lv_room (Nat.le_of_ble_eq_true rfl)) dX2_factor_154 ⟨Nat.zero_le _, Nat.zero_le _⟩) Z.2.2.2.1 (fun u t H1 locs1 ht hvm hB hS => g_post Z ht hvm hB hS) (fun r u H locs hw Z => ?_)
    obtain ⟨rfl, rfl⟩ := hw
    refine lv_lstore (lv' := [(4, .long x1.1), (0, .ref (d 2)), (1, .int v1), (2, .int v2), (3, .int v3)]) C0.1.1 C0.1.2.1 dX2_factor_157 hl (by decide) rfl (fun ls hl => ?_)
    refine lv_aload_n C0.1.1 C0.1.2.1 dX2_factor_159 rfl (lv_at hl 1 rfl) ?_
    refine lv_dup C0.1.1 C0.1.2.1 dX2_factor_160 rfl ?_
    refine g_get (ci := 4) (v := .int x1.2) (T := TX2) (N := 3) C0.1 Z 2 rfl rfl 2 (by decide) kX2_factor_in2 kX2_factor_f22 rfl rfl dX2_factor_161 ?_
    refine lv_iconst (v := 1) C0.1.1 C0.1.2.1 dX2_factor_164 (by decide) ?_
    refine lv_iadd C0.1.1 C0.1.2.1 dX2_factor_165 ?_
    refine g_put (ci := 4) (v := .int (x1.2 + (1 : Int32))) (T := TX2) (N := 3) (ws' := (XD d cyI cyJ cyO eA vr vt sA (d 5) (x1.2 + (1 : Int32)) fa ra ol fd dc ds va tr ++ va_pl P g)) C0.1 Z 2 rfl rfl 2 (by decide) kX2_factor_in2 kX2_factor_f22 rfl tyX2 tyX2_ok nmX2 rfl rfl rfl (Nat.le_of_ble_eq_true rfl) dX2_factor_166 rfl (fun H locs Z => ?_)
    exact wX2_factor_169 (N := N) C0 hN hs hrs hret (x1.2 + (1 : Int32)) v2 x1.1 _ _ _ h Z (lv_sub hl [3, 0] rfl)
set_option maxRecDepth 20000 in
set_option maxHeartbeats 4000000 in
theorem wX2_factor_68 {p : Program} {l : Launch} {e : Env} {s : State} {m : MethodId} {args : Array Value} {below : List Frame} {meth : Method} {c : Code} {D : va_G} {cyI cyJ cyO : ClassId} {A : Nat → Prop} {bs : Nat} {P : List Nat} {g : Nat → va_E} {d : Nat → Nat} {eA vr vt : Nat} {sA : Nat} {fa ra : Nat → Nat} {Q : State → Prop} {ol : Int32} {fd : Int32} {dc : Int32} {ds : Nat → Int32} {va : Nat → Int64} {tr : Nat → Int64} {N : Nat} {rs : Int32 → Int32 → Option (Int64 × Int32)} {n : Nat} {f : Nat → Int32} {res : Int64 × Int32} (C0 : gC p m meth c cX2_factor 6 (some .long) s args wsRF RX2) (hN : dN s) (hs : isA cyI P g sA n f) {kk : Nat} (hrs : ∀ (at0 p0 : Int32) (res : Int64 × Int32), rs at0 p0 = some res → Met l yX2_sum wsRS (rmX2_sum kk) (va_Pc [.ref (d 2), .int p0] (fun U => gW D (gT cyI cyJ cyO) (XD d cyI cyJ cyO eA vr vt sA (d 5) at0 fa ra ol fd dc ds va tr ++ va_pl P g) A bs U ∧ dN U)) (va_Ql (fun r u => res.1 = r ∧ res.2 = u) (fun u U => gW D (gT cyI cyJ cyO) (XD d cyI cyJ cyO eA vr vt sA (d 5) u fa ra ol fd dc ds va tr ++ va_pl P g) A bs U) A) 0 0 A) (hret : ∀ (r : Int64) (ax_r : Int32) (H : Heap) (locs : List Loc) (pc : Nat) (ls : Array Slot), some (r, ax_r) = some res → gZ D (gT cyI cyJ cyO) (XD d cyI cyJ cyO eA vr vt sA (d 5) ax_r fa ra ol fd dc ds va tr ++ va_pl P g) A bs s H locs → decode cX2_factor pc = .ok (.lreturn, 1) → W p l e (rmX2_factor kk) s m args below meth c H locs 0 0 Q (F0 m pc ls [.long r]))  : ∀ (ax : Int32) (H : Heap) (locs : List Loc) (ls : Array Slot), mX2_factor_68 N rs n f va ax = some res → gZ D (gT cyI cyJ cyO) (XD d cyI cyJ cyO eA vr vt sA (d 5) ax fa ra ol fd dc ds va tr ++ va_pl P g) A bs s H locs → lv_has ls 6 [] → W p l e (rmX2_factor kk) s m args below meth c H locs 0 0 Q (F0 m 68 ls []) := by
  intro ax H locs ls h Z hl
  unfold mX2_factor_68 at h
  refine lv_ldc2 C0.1.1 C0.1.2.1 C0.1.2.2.2.1 (C0.1.2.2.2.2 _ kX2_factor_c37) dX2_factor_68 ?_
  exact hret (-9223372036854775808 : Int64) ax _ _ _ _ h Z dX2_factor_71
set_option maxRecDepth 20000 in
set_option maxHeartbeats 4000000 in
theorem wX2_factor_50 {p : Program} {l : Launch} {e : Env} {s : State} {m : MethodId} {args : Array Value} {below : List Frame} {meth : Method} {c : Code} {D : va_G} {cyI cyJ cyO : ClassId} {A : Nat → Prop} {bs : Nat} {P : List Nat} {g : Nat → va_E} {d : Nat → Nat} {eA vr vt : Nat} {sA : Nat} {fa ra : Nat → Nat} {Q : State → Prop} {ol : Int32} {fd : Int32} {dc : Int32} {ds : Nat → Int32} {va : Nat → Int64} {tr : Nat → Int64} {N : Nat} {rs : Int32 → Int32 → Option (Int64 × Int32)} {n : Nat} {f : Nat → Int32} {res : Int64 × Int32} (C0 : gC p m meth c cX2_factor 6 (some .long) s args wsRF RX2) (hN : dN s) (hs : isA cyI P g sA n f) {kk : Nat} (hrs : ∀ (at0 p0 : Int32) (res : Int64 × Int32), rs at0 p0 = some res → Met l yX2_sum wsRS (rmX2_sum kk) (va_Pc [.ref (d 2), .int p0] (fun U => gW D (gT cyI cyJ cyO) (XD d cyI cyJ cyO eA vr vt sA (d 5) at0 fa ra ol fd dc ds va tr ++ va_pl P g) A bs U ∧ dN U)) (va_Ql (fun r u => res.1 = r ∧ res.2 = u) (fun u U => gW D (gT cyI cyJ cyO) (XD d cyI cyJ cyO eA vr vt sA (d 5) u fa ra ol fd dc ds va tr ++ va_pl P g) A bs U) A) 0 0 A) (hret : ∀ (r : Int64) (ax_r : Int32) (H : Heap) (locs : List Loc) (pc : Nat) (ls : Array Slot), some (r, ax_r) = some res → gZ D (gT cyI cyJ cyO) (XD d cyI cyJ cyO eA vr vt sA (d 5) ax_r fa ra ol fd dc ds va tr ++ va_pl P g) A bs s H locs → decode cX2_factor pc = .ok (.lreturn, 1) → W p l e (rmX2_factor kk) s m args below meth c H locs 0 0 Q (F0 m pc ls [.long r]))  : ∀ (ax : Int32) (v1 : Int32) (v2 : Int32) (H : Heap) (locs : List Loc) (ls : Array Slot), mX2_factor_50 N rs n f va ax v1 v2 = some res → gZ D (gT cyI cyJ cyO) (XD d cyI cyJ cyO eA vr vt sA (d 5) ax fa ra ol fd dc ds va tr ++ va_pl P g) A bs s H locs → lv_has ls 6 [(0, .ref (d 2)), (1, .int v1), (2, .int v2)] → W p l e (rmX2_factor kk) s m args below meth c H locs 0 0 Q (F0 m 50 ls []) := by
  intro ax v1 v2 H locs ls h Z hl
  unfold mX2_factor_50 at h
  refine lv_aload_n C0.1.1 C0.1.2.1 dX2_factor_50 rfl (lv_at hl 0 rfl) ?_
  refine g_get (ci := 4) (v := .int ax) (T := TX2) (N := 3) C0.1 Z 2 rfl rfl 2 (by decide) kX2_factor_in2 kX2_factor_f22 rfl rfl dX2_factor_51 ?_
  refine lv_aload_n C0.1.1 C0.1.2.1 dX2_factor_54 rfl (lv_at hl 0 rfl) ?_
  refine g_get (ci := 4) (v := .ref sA) (T := TX2) (N := 3) C0.1 Z 2 rfl rfl 0 (by decide) kX2_factor_in2 kX2_factor_f9 rfl rfl dX2_factor_55 ?_
  refine d_alen C0.1 Z hs dX2_factor_58 ?_
  refine lv_icmp_ge (tgt := 68) C0.1.1 C0.1.2.1 dX2_factor_59 (by decide) (fun hc => ?_) (fun hc => ?_)
  · replace h := (if_pos hc).symm.trans h
    exact wX2_factor_68 (N := N) C0 hN hs hrs hret ax _ _ _ h Z (lv_sub hl [] rfl)
  · replace h := (if_neg hc).symm.trans h
    refine lv_iload_n C0.1.1 C0.1.2.1 dX2_factor_62 rfl (lv_at hl 1 rfl) ?_
    refine lv_bipush (v := 15) C0.1.1 C0.1.2.1 dX2_factor_63 (by decide +kernel) ?_
    refine lv_icmp_le (tgt := 72) C0.1.1 C0.1.2.1 dX2_factor_65 (by decide) (fun hc => ?_) (fun hc => ?_)
    · replace h := (if_pos hc).symm.trans h
      refine lv_aload_n C0.1.1 C0.1.2.1 dX2_factor_72 rfl (lv_at hl 0 rfl) ?_
      refine g_get (ci := 4) (v := .ref sA) (T := TX2) (N := 3) C0.1 Z 2 rfl rfl 0 (by decide) kX2_factor_in2 kX2_factor_f9 rfl rfl dX2_factor_73 ?_
      refine lv_aload_n C0.1.1 C0.1.2.1 dX2_factor_76 rfl (lv_at hl 0 rfl) ?_
      refine g_get (ci := 4) (v := .int ax) (T := TX2) (N := 3) C0.1 Z 2 rfl rfl 2 (by decide) kX2_factor_in2 kX2_factor_f22 rfl rfl dX2_factor_77 ?_
      obtain ⟨hi3, h⟩ := g_ni h
      refine d_iald C0.1 Z hs hi3 dX2_factor_80 ?_
      refine lv_istore_n (lv' := [(3, .int (f ax.toNatClampNeg)), (0, .ref (d 2)), (1, .int v1), (2, .int v2)]) C0.1.1 C0.1.2.1 dX2_factor_81 rfl hl (by decide) rfl (fun ls hl => ?_)
      refine lv_aload_n C0.1.1 C0.1.2.1 dX2_factor_82 rfl (lv_at hl 1 rfl) ?_
      refine lv_dup C0.1.1 C0.1.2.1 dX2_factor_83 rfl ?_
      refine g_get (ci := 4) (v := .int ax) (T := TX2) (N := 3) C0.1 Z 2 rfl rfl 2 (by decide) kX2_factor_in2 kX2_factor_f22 rfl rfl dX2_factor_84 ?_
      refine lv_iconst (v := 1) C0.1.1 C0.1.2.1 dX2_factor_87 (by decide) ?_
      refine lv_iadd C0.1.1 C0.1.2.1 dX2_factor_88 ?_
      refine g_put (ci := 4) (v := .int (ax + (1 : Int32))) (T := TX2) (N := 3) (ws' := (XD d cyI cyJ cyO eA vr vt sA (d 5) (ax + (1 : Int32)) fa ra ol fd dc ds va tr ++ va_pl P g)) C0.1 Z 2 rfl rfl 2 (by decide) kX2_factor_in2 kX2_factor_f22 rfl tyX2 tyX2_ok nmX2 rfl rfl rfl (Nat.le_of_ble_eq_true rfl) dX2_factor_89 rfl (fun H locs Z => ?_)
      refine lv_ldc2 C0.1.1 C0.1.2.1 C0.1.2.2.2.1 (C0.1.2.2.2.2 _ kX2_factor_c37) dX2_factor_92 ?_
      refine lv_lstore (lv' := [(4, .long (-9223372036854775808 : Int64)), (3, .int (f ax.toNatClampNeg)), (0, .ref (d 2)), (1, .int v1), (2, .int v2)]) C0.1.1 C0.1.2.1 dX2_factor_95 hl (by decide) rfl (fun ls hl => ?_)
      refine lv_iload_n C0.1.1 C0.1.2.1 dX2_factor_97 rfl (lv_at hl 1 rfl) ?_
      refine lv_bipush (v := 36) C0.1.1 C0.1.2.1 dX2_factor_98 (by decide +kernel) ?_
      refine lv_icmp_lt (tgt := 113) C0.1.1 C0.1.2.1 dX2_factor_100 (by decide) (fun hc => ?_) (fun hc => ?_)
      · replace h := (if_pos hc).symm.trans h
        refine lv_iload_n C0.1.1 C0.1.2.1 dX2_factor_113 rfl (lv_at hl 1 rfl) ?_
        refine lv_bipush (v := 6) C0.1.1 C0.1.2.1 dX2_factor_114 (by decide +kernel) ?_
        refine lv_icmp_lt (tgt := 145) C0.1.1 C0.1.2.1 dX2_factor_116 (by decide) (fun hc => ?_) (fun hc => ?_)
        · replace h := (if_pos hc).symm.trans h
          exact wX2_factor_145 (N := N) C0 hN hs hrs hret (ax + (1 : Int32)) v1 v2 (f ax.toNatClampNeg) (-9223372036854775808 : Int64) _ _ _ h Z (lv_sub hl [2, 3, 4, 1, 0] rfl)
        · replace h := (if_neg hc).symm.trans h
          refine lv_iload_n C0.1.1 C0.1.2.1 dX2_factor_119 rfl (lv_at hl 1 rfl) ?_
          refine lv_bipush (v := 6) C0.1.1 C0.1.2.1 dX2_factor_120 (by decide +kernel) ?_
          refine lv_isub C0.1.1 C0.1.2.1 dX2_factor_122 ?_
          refine lv_aload_n C0.1.1 C0.1.2.1 dX2_factor_123 rfl (lv_at hl 2 rfl) ?_
          refine g_get (ci := 4) (v := .ref (d 5)) (T := TX2) (N := 3) C0.1 Z 2 rfl rfl 1 (by decide) kX2_factor_in2 kX2_factor_f15 rfl rfl dX2_factor_124 ?_
          refine g_alen C0.1 Z 5 1 (ty := .long) rfl rfl (v := 30) rfl dX2_factor_127 ?_
          refine lv_icmp_ge (tgt := 145) C0.1.1 C0.1.2.1 dX2_factor_128 (by decide) (fun hc => ?_) (fun hc => ?_)
          · replace h := (if_pos hc).symm.trans h
            exact wX2_factor_145 (N := N) C0 hN hs hrs hret (ax + (1 : Int32)) v1 v2 (f ax.toNatClampNeg) (-9223372036854775808 : Int64) _ _ _ h Z (lv_sub hl [2, 3, 4, 1, 0] rfl)
          · replace h := (if_neg hc).symm.trans h
            refine lv_aload_n C0.1.1 C0.1.2.1 dX2_factor_131 rfl (lv_at hl 2 rfl) ?_
            refine g_get (ci := 4) (v := .ref (d 5)) (T := TX2) (N := 3) C0.1 Z 2 rfl rfl 1 (by decide) kX2_factor_in2 kX2_factor_f15 rfl rfl dX2_factor_132 ?_
            refine lv_iload_n C0.1.1 C0.1.2.1 dX2_factor_135 rfl (lv_at hl 1 rfl) ?_
            refine lv_bipush (v := 6) C0.1.1 C0.1.2.1 dX2_factor_136 (by decide +kernel) ?_
            refine lv_isub C0.1.1 C0.1.2.1 dX2_factor_138 ?_
            obtain ⟨hi4, h⟩ := g_ni h
            refine g_lald (f := va) (n := 30) C0.1 Z 5 1 rfl rfl hi4 dX2_factor_139 ?_
            refine lv_lstore (lv' := [(4, .long (va ((f ax.toNatClampNeg) - (6 : Int32)).toNatClampNeg)), (3, .int (f ax.toNatClampNeg)), (0, .ref (d 2)), (1, .int v1), (2, .int v2)]) C0.1.1 C0.1.2.1 dX2_factor_140 hl (by decide) rfl (fun ls hl => ?_)
            refine lv_goto (tgt := 169) C0.1.1 C0.1.2.1 dX2_factor_142 (by decide) ?_
            exact wX2_factor_169 (N := N) C0 hN hs hrs hret (ax + (1 : Int32)) v2 (va ((f ax.toNatClampNeg) - (6 : Int32)).toNatClampNeg) _ _ _ h Z (lv_sub hl [4, 0] rfl)
      · replace h := (if_neg hc).symm.trans h
        refine lv_iload_n C0.1.1 C0.1.2.1 dX2_factor_103 rfl (lv_at hl 1 rfl) ?_
        refine lv_bipush (v := 36) C0.1.1 C0.1.2.1 dX2_factor_104 (by decide +kernel) ?_
        refine lv_isub C0.1.1 C0.1.2.1 dX2_factor_106 ?_
        refine lv_i2l C0.1.1 C0.1.2.1 dX2_factor_107 rfl ?_
        refine lv_lstore (lv' := [(4, .long (((f ax.toNatClampNeg) - (36 : Int32)).toInt64)), (3, .int (f ax.toNatClampNeg)), (0, .ref (d 2)), (1, .int v1), (2, .int v2)]) C0.1.1 C0.1.2.1 dX2_factor_108 hl (by decide) rfl (fun ls hl => ?_)
        refine lv_goto (tgt := 169) C0.1.1 C0.1.2.1 dX2_factor_110 (by decide) ?_
        exact wX2_factor_169 (N := N) C0 hN hs hrs hret (ax + (1 : Int32)) v2 (((f ax.toNatClampNeg) - (36 : Int32)).toInt64) _ _ _ h Z (lv_sub hl [4, 0] rfl)
    · replace h := (if_neg hc).symm.trans h
      exact wX2_factor_68 (N := N) C0 hN hs hrs hret ax _ _ _ h Z (lv_sub hl [] rfl)
set_option maxRecDepth 20000 in
set_option maxHeartbeats 4000000 in
theorem wX2_factor_36 {p : Program} {l : Launch} {e : Env} {s : State} {m : MethodId} {args : Array Value} {below : List Frame} {meth : Method} {c : Code} {D : va_G} {cyI cyJ cyO : ClassId} {A : Nat → Prop} {bs : Nat} {P : List Nat} {g : Nat → va_E} {d : Nat → Nat} {eA vr vt : Nat} {sA : Nat} {fa ra : Nat → Nat} {Q : State → Prop} {ol : Int32} {fd : Int32} {dc : Int32} {ds : Nat → Int32} {va : Nat → Int64} {tr : Nat → Int64} {N : Nat} {rs : Int32 → Int32 → Option (Int64 × Int32)} {n : Nat} {f : Nat → Int32} {res : Int64 × Int32} (C0 : gC p m meth c cX2_factor 6 (some .long) s args wsRF RX2) (hN : dN s) (hs : isA cyI P g sA n f) {kk : Nat} (hrs : ∀ (at0 p0 : Int32) (res : Int64 × Int32), rs at0 p0 = some res → Met l yX2_sum wsRS (rmX2_sum kk) (va_Pc [.ref (d 2), .int p0] (fun U => gW D (gT cyI cyJ cyO) (XD d cyI cyJ cyO eA vr vt sA (d 5) at0 fa ra ol fd dc ds va tr ++ va_pl P g) A bs U ∧ dN U)) (va_Ql (fun r u => res.1 = r ∧ res.2 = u) (fun u U => gW D (gT cyI cyJ cyO) (XD d cyI cyJ cyO eA vr vt sA (d 5) u fa ra ol fd dc ds va tr ++ va_pl P g) A bs U) A) 0 0 A) (hret : ∀ (r : Int64) (ax_r : Int32) (H : Heap) (locs : List Loc) (pc : Nat) (ls : Array Slot), some (r, ax_r) = some res → gZ D (gT cyI cyJ cyO) (XD d cyI cyJ cyO eA vr vt sA (d 5) ax_r fa ra ol fd dc ds va tr ++ va_pl P g) A bs s H locs → decode cX2_factor pc = .ok (.lreturn, 1) → W p l e (rmX2_factor kk) s m args below meth c H locs 0 0 Q (F0 m pc ls [.long r])) {r2 : Int32 → Int32 → Int32 → Option (Int64 × Int32)} (hr2 : ∀ (ax : Int32) (v1 : Int32) (v2 : Int32) (H : Heap) (locs : List Loc) (ls : Array Slot), r2 ax v1 v2 = some res → gZ D (gT cyI cyJ cyO) (XD d cyI cyJ cyO eA vr vt sA (d 5) ax fa ra ol fd dc ds va tr ++ va_pl P g) A bs s H locs → lv_has ls 6 [(0, .ref (d 2)), (1, .int v1), (2, .int v2)] → W p l e (rmX2_factor kk) s m args below meth c H locs 0 0 Q (F0 m 2 ls [])) : ∀ (ax : Int32) (v1 : Int32) (s0 : Int32) (H : Heap) (locs : List Loc) (ls : Array Slot), mX2_factor_36 N rs n f va r2 ax v1 s0 = some res → gZ D (gT cyI cyJ cyO) (XD d cyI cyJ cyO eA vr vt sA (d 5) ax fa ra ol fd dc ds va tr ++ va_pl P g) A bs s H locs → lv_has ls 6 [(0, .ref (d 2)), (1, .int v1)] → W p l e (rmX2_factor kk) s m args below meth c H locs 0 0 Q (F0 m 36 ls [.int s0]) := by
  intro ax v1 s0 H locs ls h Z hl
  unfold mX2_factor_36 at h
  refine lv_istore_n (lv' := [(2, .int s0), (0, .ref (d 2)), (1, .int v1)]) C0.1.1 C0.1.2.1 dX2_factor_36 rfl hl (by decide) rfl (fun ls hl => ?_)
  refine lv_aload_n C0.1.1 C0.1.2.1 dX2_factor_37 rfl (lv_at hl 1 rfl) ?_
  refine lv_dup C0.1.1 C0.1.2.1 dX2_factor_38 rfl ?_
  refine g_get (ci := 4) (v := .int ax) (T := TX2) (N := 3) C0.1 Z 2 rfl rfl 2 (by decide) kX2_factor_in2 kX2_factor_f22 rfl rfl dX2_factor_39 ?_
  refine lv_iconst (v := 1) C0.1.1 C0.1.2.1 dX2_factor_42 (by decide) ?_
  refine lv_iadd C0.1.1 C0.1.2.1 dX2_factor_43 ?_
  refine g_put (ci := 4) (v := .int (ax + (1 : Int32))) (T := TX2) (N := 3) (ws' := (XD d cyI cyJ cyO eA vr vt sA (d 5) (ax + (1 : Int32)) fa ra ol fd dc ds va tr ++ va_pl P g)) C0.1 Z 2 rfl rfl 2 (by decide) kX2_factor_in2 kX2_factor_f22 rfl tyX2 tyX2_ok nmX2 rfl rfl rfl (Nat.le_of_ble_eq_true rfl) dX2_factor_44 rfl (fun H locs Z => ?_)
  refine lv_goto (tgt := 2) C0.1.1 C0.1.2.1 dX2_factor_47 (by decide) ?_
  exact hr2 (ax + (1 : Int32)) v1 s0 _ _ _ h Z (lv_sub hl [1, 2, 0] rfl)
set_option maxRecDepth 20000 in
set_option maxHeartbeats 4000000 in
theorem wX2_factor_2_b {p : Program} {l : Launch} {e : Env} {s : State} {m : MethodId} {args : Array Value} {below : List Frame} {meth : Method} {c : Code} {D : va_G} {cyI cyJ cyO : ClassId} {A : Nat → Prop} {bs : Nat} {P : List Nat} {g : Nat → va_E} {d : Nat → Nat} {eA vr vt : Nat} {sA : Nat} {fa ra : Nat → Nat} {Q : State → Prop} {ol : Int32} {fd : Int32} {dc : Int32} {ds : Nat → Int32} {va : Nat → Int64} {tr : Nat → Int64} {N : Nat} {rs : Int32 → Int32 → Option (Int64 × Int32)} {n : Nat} {f : Nat → Int32} {res : Int64 × Int32} (C0 : gC p m meth c cX2_factor 6 (some .long) s args wsRF RX2) (hN : dN s) (hs : isA cyI P g sA n f) {kk : Nat} (hrs : ∀ (at0 p0 : Int32) (res : Int64 × Int32), rs at0 p0 = some res → Met l yX2_sum wsRS (rmX2_sum kk) (va_Pc [.ref (d 2), .int p0] (fun U => gW D (gT cyI cyJ cyO) (XD d cyI cyJ cyO eA vr vt sA (d 5) at0 fa ra ol fd dc ds va tr ++ va_pl P g) A bs U ∧ dN U)) (va_Ql (fun r u => res.1 = r ∧ res.2 = u) (fun u U => gW D (gT cyI cyJ cyO) (XD d cyI cyJ cyO eA vr vt sA (d 5) u fa ra ol fd dc ds va tr ++ va_pl P g) A bs U) A) 0 0 A) (hret : ∀ (r : Int64) (ax_r : Int32) (H : Heap) (locs : List Loc) (pc : Nat) (ls : Array Slot), some (r, ax_r) = some res → gZ D (gT cyI cyJ cyO) (XD d cyI cyJ cyO eA vr vt sA (d 5) ax_r fa ra ol fd dc ds va tr ++ va_pl P g) A bs s H locs → decode cX2_factor pc = .ok (.lreturn, 1) → W p l e (rmX2_factor kk) s m args below meth c H locs 0 0 Q (F0 m pc ls [.long r])) {r2 : Int32 → Int32 → Int32 → Option (Int64 × Int32)} (hr2 : ∀ (ax : Int32) (v1 : Int32) (v2 : Int32) (H : Heap) (locs : List Loc) (ls : Array Slot), r2 ax v1 v2 = some res → gZ D (gT cyI cyJ cyO) (XD d cyI cyJ cyO eA vr vt sA (d 5) ax fa ra ol fd dc ds va tr ++ va_pl P g) A bs s H locs → lv_has ls 6 [(0, .ref (d 2)), (1, .int v1), (2, .int v2)] → W p l e (rmX2_factor kk) s m args below meth c H locs 0 0 Q (F0 m 2 ls [])) : ∀ (ax : Int32) (v1 : Int32) (v2 : Int32) (H : Heap) (locs : List Loc) (ls : Array Slot), mX2_factor_2_b N rs n f va r2 ax v1 v2 = some res → gZ D (gT cyI cyJ cyO) (XD d cyI cyJ cyO eA vr vt sA (d 5) ax fa ra ol fd dc ds va tr ++ va_pl P g) A bs s H locs → lv_has ls 6 [(0, .ref (d 2)), (1, .int v1), (2, .int v2)] → W p l e (rmX2_factor kk) s m args below meth c H locs 0 0 Q (F0 m 2 ls []) := by
  intro ax v1 v2 H locs ls h Z hl
  unfold mX2_factor_2_b at h
  refine lv_aload_n C0.1.1 C0.1.2.1 dX2_factor_2 rfl (lv_at hl 0 rfl) ?_
  refine g_get (ci := 4) (v := .int ax) (T := TX2) (N := 3) C0.1 Z 2 rfl rfl 2 (by decide) kX2_factor_in2 kX2_factor_f22 rfl rfl dX2_factor_3 ?_
  refine lv_aload_n C0.1.1 C0.1.2.1 dX2_factor_6 rfl (lv_at hl 0 rfl) ?_
  refine g_get (ci := 4) (v := .ref sA) (T := TX2) (N := 3) C0.1 Z 2 rfl rfl 0 (by decide) kX2_factor_in2 kX2_factor_f9 rfl rfl dX2_factor_7 ?_
  refine d_alen C0.1 Z hs dX2_factor_10 ?_
  refine lv_icmp_ge (tgt := 50) C0.1.1 C0.1.2.1 dX2_factor_11 (by decide) (fun hc => ?_) (fun hc => ?_)
  · replace h := (if_pos hc).symm.trans h
    exact wX2_factor_50 (N := N) C0 hN hs hrs hret ax v1 v2 _ _ _ h Z (lv_sub hl [0, 1, 2] rfl)
  · replace h := (if_neg hc).symm.trans h
    refine lv_aload_n C0.1.1 C0.1.2.1 dX2_factor_14 rfl (lv_at hl 0 rfl) ?_
    refine g_get (ci := 4) (v := .ref sA) (T := TX2) (N := 3) C0.1 Z 2 rfl rfl 0 (by decide) kX2_factor_in2 kX2_factor_f9 rfl rfl dX2_factor_15 ?_
    refine lv_aload_n C0.1.1 C0.1.2.1 dX2_factor_18 rfl (lv_at hl 0 rfl) ?_
    refine g_get (ci := 4) (v := .int ax) (T := TX2) (N := 3) C0.1 Z 2 rfl rfl 2 (by decide) kX2_factor_in2 kX2_factor_f22 rfl rfl dX2_factor_19 ?_
    obtain ⟨hi5, h⟩ := g_ni h
    refine d_iald C0.1 Z hs hi5 dX2_factor_22 ?_
    refine lv_iconst (v := 1) C0.1.1 C0.1.2.1 dX2_factor_23 (by decide) ?_
    refine lv_icmp_ne (tgt := 50) C0.1.1 C0.1.2.1 dX2_factor_24 (by decide) (fun hc => ?_) (fun hc => ?_)
    · replace h := (if_neg hc).symm.trans h
      exact wX2_factor_50 (N := N) C0 hN hs hrs hret ax v1 v2 _ _ _ h Z (lv_sub hl [0, 1, 2] rfl)
    · replace h := (if_pos hc).symm.trans h
      refine lv_iload_n C0.1.1 C0.1.2.1 dX2_factor_27 rfl (lv_at hl 2 rfl) ?_
      refine lv_if_ne (tgt := 35) C0.1.1 C0.1.2.1 dX2_factor_28 (by decide) (fun hc => ?_) (fun hc => ?_)
      · replace h := (if_neg hc).symm.trans h
        refine lv_iconst (v := 0) C0.1.1 C0.1.2.1 dX2_factor_35 (by decide) ?_
        exact wX2_factor_36 (N := N) C0 hN hs hrs hret hr2 ax v1 (0 : Int32) _ _ _ h Z (lv_sub hl [0, 1] rfl)
      · replace h := (if_pos hc).symm.trans h
        refine lv_iconst (v := 1) C0.1.1 C0.1.2.1 dX2_factor_31 (by decide) ?_
        refine lv_goto (tgt := 36) C0.1.1 C0.1.2.1 dX2_factor_32 (by decide) ?_
        exact wX2_factor_36 (N := N) C0 hN hs hrs hret hr2 ax v1 (1 : Int32) _ _ _ h Z (lv_sub hl [0, 1] rfl)
theorem wX2_factor_2 {p : Program} {l : Launch} {e : Env} {s : State} {m : MethodId} {args : Array Value} {below : List Frame} {meth : Method} {c : Code} {D : va_G} {cyI cyJ cyO : ClassId} {A : Nat → Prop} {bs : Nat} {P : List Nat} {g : Nat → va_E} {d : Nat → Nat} {eA vr vt : Nat} {sA : Nat} {fa ra : Nat → Nat} {Q : State → Prop} {ol : Int32} {fd : Int32} {dc : Int32} {ds : Nat → Int32} {va : Nat → Int64} {tr : Nat → Int64} {N : Nat} {rs : Int32 → Int32 → Option (Int64 × Int32)} {n : Nat} {f : Nat → Int32} {res : Int64 × Int32} (C0 : gC p m meth c cX2_factor 6 (some .long) s args wsRF RX2) (hN : dN s) (hs : isA cyI P g sA n f) {kk : Nat} (hrs : ∀ (at0 p0 : Int32) (res : Int64 × Int32), rs at0 p0 = some res → Met l yX2_sum wsRS (rmX2_sum kk) (va_Pc [.ref (d 2), .int p0] (fun U => gW D (gT cyI cyJ cyO) (XD d cyI cyJ cyO eA vr vt sA (d 5) at0 fa ra ol fd dc ds va tr ++ va_pl P g) A bs U ∧ dN U)) (va_Ql (fun r u => res.1 = r ∧ res.2 = u) (fun u U => gW D (gT cyI cyJ cyO) (XD d cyI cyJ cyO eA vr vt sA (d 5) u fa ra ol fd dc ds va tr ++ va_pl P g) A bs U) A) 0 0 A) (hret : ∀ (r : Int64) (ax_r : Int32) (H : Heap) (locs : List Loc) (pc : Nat) (ls : Array Slot), some (r, ax_r) = some res → gZ D (gT cyI cyJ cyO) (XD d cyI cyJ cyO eA vr vt sA (d 5) ax_r fa ra ol fd dc ds va tr ++ va_pl P g) A bs s H locs → decode cX2_factor pc = .ok (.lreturn, 1) → W p l e (rmX2_factor kk) s m args below meth c H locs 0 0 Q (F0 m pc ls [.long r]))  : ∀ (n_ : Nat), ∀ (ax : Int32) (v1 : Int32) (v2 : Int32) (H : Heap) (locs : List Loc) (ls : Array Slot), mX2_factor_2 N rs n f va n_ ax v1 v2 = some res → gZ D (gT cyI cyJ cyO) (XD d cyI cyJ cyO eA vr vt sA (d 5) ax fa ra ol fd dc ds va tr ++ va_pl P g) A bs s H locs → lv_has ls 6 [(0, .ref (d 2)), (1, .int v1), (2, .int v2)] → W p l e (rmX2_factor kk) s m args below meth c H locs 0 0 Q (F0 m 2 ls []) := by
  intro n_
  induction n_ with
  | zero => intro _ _ _ _ _ _ h; cases h
  | succ n_ ih => exact wX2_factor_2_b (N := N) C0 hN hs hrs hret ih
set_option maxRecDepth 20000 in
set_option maxHeartbeats 4000000 in
theorem zX2_factor (l : Launch) (D : va_G) (cyI cyJ cyO : ClassId) (A : Nat → Prop) (bs : Nat) (hA : ∀ q, bs ≤ q → A q) (P : List Nat) (g : Nat → va_E) (d : Nat → Nat) (eA vr vt sA : Nat) (fa ra : Nat → Nat) (ol : Int32) (fd : Int32) (dc : Int32) (ds : Nat → Int32) (va : Nat → Int64) (tr : Nat → Int64) (N : Nat) (rs : Int32 → Int32 → Option (Int64 × Int32)) (n : Nat) (f : Nat → Int32) (hs : isA cyI P g sA n f) (kk : Nat) (hrs : ∀ (at0 p0 : Int32) (res : Int64 × Int32), rs at0 p0 = some res → Met l yX2_sum wsRS (rmX2_sum kk) (va_Pc [.ref (d 2), .int p0] (fun U => gW D (gT cyI cyJ cyO) (XD d cyI cyJ cyO eA vr vt sA (d 5) at0 fa ra ol fd dc ds va tr ++ va_pl P g) A bs U ∧ dN U)) (va_Ql (fun r u => res.1 = r ∧ res.2 = u) (fun u U => gW D (gT cyI cyJ cyO) (XD d cyI cyJ cyO eA vr vt sA (d 5) u fa ra ol fd dc ds va tr ++ va_pl P g) A bs U) A) 0 0 A) (ax : Int32) (p0 : Int32) (res : Int64 × Int32) (h : mX2_factor N rs n f va ax p0 = some res) : Met l yX2_factor wsRF (rmX2_factor kk) (va_Pc [.ref (d 2), .int p0] (fun U => gW D (gT cyI cyJ cyO) (XD d cyI cyJ cyO eA vr vt sA (d 5) ax fa ra ol fd dc ds va tr ++ va_pl P g) A bs U ∧ dN U)) (va_Ql (fun (r : Int64) (u : Int32) => res.1 = r ∧ res.2 = u) (fun (u : Int32) U => gW D (gT cyI cyJ cyO) (XD d cyI cyJ cyO eA vr vt sA (d 5) u fa ra ol fd dc ds va tr ++ va_pl P g) A bs U) A)  0 0 A := by
  refine Met.ofW (cc := cX2_factor) (maxL := 6) (ret := (some .long)) (by decide) rfl ?_
  intro p e s m args below meth c s₁ B hml hv
  obtain ⟨hav, hv⟩ := hv
  obtain ⟨hv, hN⟩ := hv
  have C0 : gC p m meth c cX2_factor 6 (some .long) s args wsRF RX2 := ⟨⟨B.exec, B.bytes, hml, findClass_of_methodNamed B.named, atoms_spec (ws := wsRF) B.pre⟩, B.returns, B.notSynchronized⟩
  have Z := g_start hA hv
  have hret : ∀ (r : Int64) (ax_r : Int32) (H : Heap) (locs : List Loc) (pc : Nat) (ls : Array Slot), some (r, ax_r) = some res → gZ D (gT cyI cyJ cyO) (XD d cyI cyJ cyO eA vr vt sA (d 5) ax_r fa ra ol fd dc ds va tr ++ va_pl P g) A bs s H locs → decode cX2_factor pc = .ok (.lreturn, 1) → W p l e (rmX2_factor kk) s m args below meth c H locs 0 0 (MQ below (va_Ql (fun (r : Int64) (u : Int32) => res.1 = r ∧ res.2 = u) (fun (u : Int32) U => gW D (gT cyI cyJ cyO) (XD d cyI cyJ cyO eA vr vt sA (d 5) u fa ra ol fd dc ds va tr ++ va_pl P g) A bs U) A) args s 0 0 A) (F0 m pc ls [.long r]) := by
    intro r ax_r H locs pc ls h Z hd
    replace h := Option.some.inj h
    subst h
    exact W.lret C0.1.1 C0.1.2.1 C0.2.1 (fun t ht hW => ⟨⟨r, ax_r, rfl, ⟨rfl, rfl⟩, g_end Z ht hW⟩, va_S.F Z.2.2.2.1 ht⟩) Z.2.2.2.1.2.2 hd C0.2.2
  have hl := lv_entry ([.ref (d 2), .int p0]) (n := 6) (Nat.le_of_ble_eq_true rfl)
  rw [hav, lg_entry_eq]
  generalize (lg_sl ([.ref (d 2), .int p0]) ++ List.replicate (6 - (lg_sl ([.ref (d 2), .int p0])).length) Slot.unset).toArray = ls at hl ⊢
  have hl : lv_has ls 6 [(0, .ref (d 2)), (1, .int p0)] := hl
  rw [← hav]
  unfold mX2_factor at h
  refine lv_iconst (v := 0) C0.1.1 C0.1.2.1 dX2_factor_0 (by decide) ?_
  refine lv_istore_n (lv' := [(2, .int (0 : Int32)), (0, .ref (d 2)), (1, .int p0)]) C0.1.1 C0.1.2.1 dX2_factor_1 rfl hl (by decide) rfl (fun ls hl => ?_)
  exact wX2_factor_2 (N := N) C0 hN hs hrs hret N ax p0 (0 : Int32) _ _ _ h Z (lv_sub hl [1, 2, 0] rfl)
/-! X2_product -/
theorem kX2_product_in2 : ∀ w ∈ wsX20, w ∈ wsRP := by decide +kernel
theorem kX2_product_f9 : Cond.fieldLink RX2 9 "GoalseekOffice$Reckoner" "signs" "[I" ∈ wsRP := by decide +kernel
theorem kX2_product_f22 : Cond.fieldLink RX2 22 "GoalseekOffice$Reckoner" "at" "I" ∈ wsRP := by decide +kernel
def mX2_product_80 (N : Nat) (rs : Int32 → Int32 → Option (Int64 × Int32)) (n : Nat) (f : Nat → Int32) (va : Nat → Int64) (ax : Int32) (v2 : Int64) : Option (Int64 × Int32) := some (v2, ax)
def mX2_product_44 (N : Nat) (rs : Int32 → Int32 → Option (Int64 × Int32)) (n : Nat) (f : Nat → Int32) (va : Nat → Int64) (r6 : Int32 → Int32 → Int64 → Option (Int64 × Int32)) (ax : Int32) (v1 : Int32) (v2 : Int64) : Option (Int64 × Int32) := (if ax < 0 ∨ n ≤ ax.toNatClampNeg then none else ((mX2_factor N rs n f va (ax + (1 : Int32)) v1).bind fun x2 => ((mX2_combine N (f ax.toNatClampNeg) v2 x2.1).bind fun x4 => r6 x2.2 v1 x4)))
def mX2_product_6_b (N : Nat) (rs : Int32 → Int32 → Option (Int64 × Int32)) (n : Nat) (f : Nat → Int32) (va : Nat → Int64) (r6 : Int32 → Int32 → Int64 → Option (Int64 × Int32)) (ax : Int32) (v1 : Int32) (v2 : Int64) : Option (Int64 × Int32) := (if (nI n) ≤ ax then mX2_product_80 N rs n f va ax v2 else (if ax < 0 ∨ n ≤ ax.toNatClampNeg then none else (if (f ax.toNatClampNeg) = (2 : Int32) then mX2_product_44 N rs n f va r6 ax v1 v2 else (if ax < 0 ∨ n ≤ ax.toNatClampNeg then none else (if (f ax.toNatClampNeg) = (3 : Int32) then mX2_product_44 N rs n f va r6 ax v1 v2 else mX2_product_80 N rs n f va ax v2)))))
def mX2_product_6 (N : Nat) (rs : Int32 → Int32 → Option (Int64 × Int32)) (n : Nat) (f : Nat → Int32) (va : Nat → Int64) : Nat → Int32 → Int32 → Int64 → Option (Int64 × Int32)
  | 0 => fun _ _ _ => none
  | n_ + 1 => fun ax v1 v2 => mX2_product_6_b N rs n f va (mX2_product_6 N rs n f va n_) ax v1 v2
def mX2_product (N : Nat) (rs : Int32 → Int32 → Option (Int64 × Int32)) (n : Nat) (f : Nat → Int32) (va : Nat → Int64) (ax : Int32) (p0 : Int32) : Option (Int64 × Int32) := ((mX2_factor N rs n f va ax p0).bind fun x8 => mX2_product_6 N rs n f va N x8.2 p0 x8.1)
set_option maxRecDepth 20000 in
set_option maxHeartbeats 4000000 in
theorem wX2_product_80 {p : Program} {l : Launch} {e : Env} {s : State} {m : MethodId} {args : Array Value} {below : List Frame} {meth : Method} {c : Code} {D : va_G} {cyI cyJ cyO : ClassId} {A : Nat → Prop} {bs : Nat} {P : List Nat} {g : Nat → va_E} {d : Nat → Nat} {eA vr vt : Nat} {sA : Nat} {fa ra : Nat → Nat} {Q : State → Prop} {ol : Int32} {fd : Int32} {dc : Int32} {ds : Nat → Int32} {va : Nat → Int64} {tr : Nat → Int64} {N : Nat} {rs : Int32 → Int32 → Option (Int64 × Int32)} {n : Nat} {f : Nat → Int32} {res : Int64 × Int32} (C0 : gC p m meth c cX2_product 5 (some .long) s args wsRP RX2) (hN : dN s) (hs : isA cyI P g sA n f) {kk : Nat} (hrs : ∀ (at0 p0 : Int32) (res : Int64 × Int32), rs at0 p0 = some res → Met l yX2_sum wsRS (rmX2_sum kk) (va_Pc [.ref (d 2), .int p0] (fun U => gW D (gT cyI cyJ cyO) (XD d cyI cyJ cyO eA vr vt sA (d 5) at0 fa ra ol fd dc ds va tr ++ va_pl P g) A bs U ∧ dN U)) (va_Ql (fun r u => res.1 = r ∧ res.2 = u) (fun u U => gW D (gT cyI cyJ cyO) (XD d cyI cyJ cyO eA vr vt sA (d 5) u fa ra ol fd dc ds va tr ++ va_pl P g) A bs U) A) 0 0 A) (hret : ∀ (r : Int64) (ax_r : Int32) (H : Heap) (locs : List Loc) (pc : Nat) (ls : Array Slot), some (r, ax_r) = some res → gZ D (gT cyI cyJ cyO) (XD d cyI cyJ cyO eA vr vt sA (d 5) ax_r fa ra ol fd dc ds va tr ++ va_pl P g) A bs s H locs → decode cX2_product pc = .ok (.lreturn, 1) → W p l e (rmX2_product kk) s m args below meth c H locs 0 0 Q (F0 m pc ls [.long r]))  : ∀ (ax : Int32) (v2 : Int64) (H : Heap) (locs : List Loc) (ls : Array Slot), mX2_product_80 N rs n f va ax v2 = some res → gZ D (gT cyI cyJ cyO) (XD d cyI cyJ cyO eA vr vt sA (d 5) ax fa ra ol fd dc ds va tr ++ va_pl P g) A bs s H locs → lv_has ls 5 [(2, .long v2)] → W p l e (rmX2_product kk) s m args below meth c H locs 0 0 Q (F0 m 80 ls []) := by
  intro ax v2 H locs ls h Z hl
  unfold mX2_product_80 at h
  refine lv_lload_n C0.1.1 C0.1.2.1 dX2_product_80 rfl (lv_at hl 0 rfl) ?_
  exact hret v2 ax _ _ _ _ h Z dX2_product_81
set_option maxRecDepth 20000 in
set_option maxHeartbeats 4000000 in
theorem wX2_product_44 {p : Program} {l : Launch} {e : Env} {s : State} {m : MethodId} {args : Array Value} {below : List Frame} {meth : Method} {c : Code} {D : va_G} {cyI cyJ cyO : ClassId} {A : Nat → Prop} {bs : Nat} {P : List Nat} {g : Nat → va_E} {d : Nat → Nat} {eA vr vt : Nat} {sA : Nat} {fa ra : Nat → Nat} {Q : State → Prop} {ol : Int32} {fd : Int32} {dc : Int32} {ds : Nat → Int32} {va : Nat → Int64} {tr : Nat → Int64} {N : Nat} {rs : Int32 → Int32 → Option (Int64 × Int32)} {n : Nat} {f : Nat → Int32} {res : Int64 × Int32} (C0 : gC p m meth c cX2_product 5 (some .long) s args wsRP RX2) (hN : dN s) (hs : isA cyI P g sA n f) {kk : Nat} (hrs : ∀ (at0 p0 : Int32) (res : Int64 × Int32), rs at0 p0 = some res → Met l yX2_sum wsRS (rmX2_sum kk) (va_Pc [.ref (d 2), .int p0] (fun U => gW D (gT cyI cyJ cyO) (XD d cyI cyJ cyO eA vr vt sA (d 5) at0 fa ra ol fd dc ds va tr ++ va_pl P g) A bs U ∧ dN U)) (va_Ql (fun r u => res.1 = r ∧ res.2 = u) (fun u U => gW D (gT cyI cyJ cyO) (XD d cyI cyJ cyO eA vr vt sA (d 5) u fa ra ol fd dc ds va tr ++ va_pl P g) A bs U) A) 0 0 A) (hret : ∀ (r : Int64) (ax_r : Int32) (H : Heap) (locs : List Loc) (pc : Nat) (ls : Array Slot), some (r, ax_r) = some res → gZ D (gT cyI cyJ cyO) (XD d cyI cyJ cyO eA vr vt sA (d 5) ax_r fa ra ol fd dc ds va tr ++ va_pl P g) A bs s H locs → decode cX2_product pc = .ok (.lreturn, 1) → W p l e (rmX2_product kk) s m args below meth c H locs 0 0 Q (F0 m pc ls [.long r])) {r6 : Int32 → Int32 → Int64 → Option (Int64 × Int32)} (hr6 : ∀ (ax : Int32) (v1 : Int32) (v2 : Int64) (H : Heap) (locs : List Loc) (ls : Array Slot), r6 ax v1 v2 = some res → gZ D (gT cyI cyJ cyO) (XD d cyI cyJ cyO eA vr vt sA (d 5) ax fa ra ol fd dc ds va tr ++ va_pl P g) A bs s H locs → lv_has ls 5 [(0, .ref (d 2)), (1, .int v1), (2, .long v2)] → W p l e (rmX2_product kk) s m args below meth c H locs 0 0 Q (F0 m 6 ls [])) : ∀ (ax : Int32) (v1 : Int32) (v2 : Int64) (H : Heap) (locs : List Loc) (ls : Array Slot), mX2_product_44 N rs n f va r6 ax v1 v2 = some res → gZ D (gT cyI cyJ cyO) (XD d cyI cyJ cyO eA vr vt sA (d 5) ax fa ra ol fd dc ds va tr ++ va_pl P g) A bs s H locs → lv_has ls 5 [(0, .ref (d 2)), (1, .int v1), (2, .long v2)] → W p l e (rmX2_product kk) s m args below meth c H locs 0 0 Q (F0 m 44 ls []) := by
  intro ax v1 v2 H locs ls h Z hl
  unfold mX2_product_44 at h
  refine lv_aload_n C0.1.1 C0.1.2.1 dX2_product_44 rfl (lv_at hl 0 rfl) ?_
  refine g_get (ci := 4) (v := .ref sA) (T := TX2) (N := 3) C0.1 Z 2 rfl rfl 0 (by decide) kX2_product_in2 kX2_product_f9 rfl rfl dX2_product_45 ?_
  refine lv_aload_n C0.1.1 C0.1.2.1 dX2_product_48 rfl (lv_at hl 0 rfl) ?_
  refine g_get (ci := 4) (v := .int ax) (T := TX2) (N := 3) C0.1 Z 2 rfl rfl 2 (by decide) kX2_product_in2 kX2_product_f22 rfl rfl dX2_product_49 ?_
  obtain ⟨hi1, h⟩ := g_ni h
  refine d_iald C0.1 Z hs hi1 dX2_product_52 ?_
  refine lv_istore (lv' := [(4, .int (f ax.toNatClampNeg)), (0, .ref (d 2)), (1, .int v1), (2, .long v2)]) C0.1.1 C0.1.2.1 dX2_product_53 hl (by decide) rfl (fun ls hl => ?_)
  refine lv_aload_n C0.1.1 C0.1.2.1 dX2_product_55 rfl (lv_at hl 1 rfl) ?_
  refine lv_dup C0.1.1 C0.1.2.1 dX2_product_56 rfl ?_
  refine g_get (ci := 4) (v := .int ax) (T := TX2) (N := 3) C0.1 Z 2 rfl rfl 2 (by decide) kX2_product_in2 kX2_product_f22 rfl rfl dX2_product_57 ?_
  refine lv_iconst (v := 1) C0.1.1 C0.1.2.1 dX2_product_60 (by decide) ?_
  refine lv_iadd C0.1.1 C0.1.2.1 dX2_product_61 ?_
  refine g_put (ci := 4) (v := .int (ax + (1 : Int32))) (T := TX2) (N := 3) (ws' := (XD d cyI cyJ cyO eA vr vt sA (d 5) (ax + (1 : Int32)) fa ra ol fd dc ds va tr ++ va_pl P g)) C0.1 Z 2 rfl rfl 2 (by decide) kX2_product_in2 kX2_product_f22 rfl tyX2 tyX2_ok nmX2 rfl rfl rfl (Nat.le_of_ble_eq_true rfl) dX2_product_62 rfl (fun H locs Z => ?_)
  refine lv_iload C0.1.1 C0.1.2.1 dX2_product_65 (lv_at hl 0 rfl) ?_
  refine lv_lload_n C0.1.1 C0.1.2.1 dX2_product_67 rfl (lv_at hl 3 rfl) ?_
  refine lv_aload_n C0.1.1 C0.1.2.1 dX2_product_68 rfl (lv_at hl 1 rfl) ?_
  refine lv_iload_n C0.1.1 C0.1.2.1 dX2_product_69 rfl (lv_at hl 2 rfl) ?_
  obtain ⟨x2, hx3, h⟩ := g_bd h
  refine x_calll (va_runV (b := d 2) (C := RX2) (As := [.int v1]) (rest := [.long v2, .int (f ax.toNatClampNeg)]) C0.1 (zX2_factor l D cyI cyJ cyO A bs Z.2.2.2.2.2 P g d eA vr vt sA fa ra ol fd dc ds va tr N rs n f hs kk hrs (ax + (1 : Int32)) v1 x2 hx3) (cwV 1 C0.1.2.2.2.2 gRP_factor rfl rfl rfl (by decide +kernel) ⟨by dsimp only [headSpec, rmX2_sum, rmX2_product, rmX2_factor, rmX2_combine]; omega, by dsimp only [headSpec, rmX2_sum, rmX2_product, rmX2_factor, rmX2_combine]; omega⟩) ⟨gN_blind, va_recv Z.2.1 Z.1 (ci := 4) (q0 := 2) rfl rfl, gN_pre Z hN _⟩ rfl rfl hl.1 rfl (lv_room (Nat.le_of_ble_eq_true rfl)) dX2_product_70 ⟨Nat.zero_le _, Nat.zero_le _⟩) Z.2.2.2.1 (fun u t H1 locs1 ht hvm hB hS => g_post Z ht hvm hB hS) (fun r u H locs hw Z => ?_)
  obtain ⟨rfl, rfl⟩ := hw
  obtain ⟨x4, hx5, h⟩ := g_bd h
  refine x_calll (va_runS (As := [.int (f ax.toNatClampNeg), .long v2, .long x2.1]) (rest := []) C0.1 (zX2_combine l D cyI cyJ cyO A bs Z.2.2.2.2.2 (XD d cyI cyJ cyO eA vr vt sA (d 5) x2.2 fa ra ol fd dc ds va tr ++ va_pl P g) N (f ax.toNatClampNeg) v2 x2.1 x4 hx5) (va_cwS 3 C0.1.2.2.2.2 gRP_combine rfl rfl rfl (by decide +kernel) ⟨by dsimp only [headSpec, rmX2_sum, rmX2_product, rmX2_factor, rmX2_combine]; omega, by dsimp only [headSpec, rmX2_sum, rmX2_product, rmX2_factor, rmX2_combine]; omega⟩) ⟨g_blind, g_pre Z _⟩ rfl rfl hl.1 rfl (lv_room (Nat.le_of_ble_eq_true rfl)) dX2_product_73 ⟨Nat.zero_le _, Nat.zero_le _⟩) Z.2.2.2.1 (fun u t H1 locs1 ht hvm hB hS => g_post Z ht hvm hB hS) (fun r u H locs hw Z => ?_)
  subst hw
  refine lv_lstore_n (lv' := [(2, .long x4), (4, .int (f ax.toNatClampNeg)), (0, .ref (d 2)), (1, .int v1)]) C0.1.1 C0.1.2.1 dX2_product_76 rfl hl (by decide) rfl (fun ls hl => ?_)
  refine lv_goto (tgt := 6) C0.1.1 C0.1.2.1 dX2_product_77 (by decide) ?_
  exact hr6 x2.2 v1 x4 _ _ _ h Z (lv_sub hl [2, 3, 0] rfl)
set_option maxRecDepth 20000 in
set_option maxHeartbeats 4000000 in
theorem wX2_product_6_b {p : Program} {l : Launch} {e : Env} {s : State} {m : MethodId} {args : Array Value} {below : List Frame} {meth : Method} {c : Code} {D : va_G} {cyI cyJ cyO : ClassId} {A : Nat → Prop} {bs : Nat} {P : List Nat} {g : Nat → va_E} {d : Nat → Nat} {eA vr vt : Nat} {sA : Nat} {fa ra : Nat → Nat} {Q : State → Prop} {ol : Int32} {fd : Int32} {dc : Int32} {ds : Nat → Int32} {va : Nat → Int64} {tr : Nat → Int64} {N : Nat} {rs : Int32 → Int32 → Option (Int64 × Int32)} {n : Nat} {f : Nat → Int32} {res : Int64 × Int32} (C0 : gC p m meth c cX2_product 5 (some .long) s args wsRP RX2) (hN : dN s) (hs : isA cyI P g sA n f) {kk : Nat} (hrs : ∀ (at0 p0 : Int32) (res : Int64 × Int32), rs at0 p0 = some res → Met l yX2_sum wsRS (rmX2_sum kk) (va_Pc [.ref (d 2), .int p0] (fun U => gW D (gT cyI cyJ cyO) (XD d cyI cyJ cyO eA vr vt sA (d 5) at0 fa ra ol fd dc ds va tr ++ va_pl P g) A bs U ∧ dN U)) (va_Ql (fun r u => res.1 = r ∧ res.2 = u) (fun u U => gW D (gT cyI cyJ cyO) (XD d cyI cyJ cyO eA vr vt sA (d 5) u fa ra ol fd dc ds va tr ++ va_pl P g) A bs U) A) 0 0 A) (hret : ∀ (r : Int64) (ax_r : Int32) (H : Heap) (locs : List Loc) (pc : Nat) (ls : Array Slot), some (r, ax_r) = some res → gZ D (gT cyI cyJ cyO) (XD d cyI cyJ cyO eA vr vt sA (d 5) ax_r fa ra ol fd dc ds va tr ++ va_pl P g) A bs s H locs → decode cX2_product pc = .ok (.lreturn, 1) → W p l e (rmX2_product kk) s m args below meth c H locs 0 0 Q (F0 m pc ls [.long r])) {r6 : Int32 → Int32 → Int64 → Option (Int64 × Int32)} (hr6 : ∀ (ax : Int32) (v1 : Int32) (v2 : Int64) (H : Heap) (locs : List Loc) (ls : Array Slot), r6 ax v1 v2 = some res → gZ D (gT cyI cyJ cyO) (XD d cyI cyJ cyO eA vr vt sA (d 5) ax fa ra ol fd dc ds va tr ++ va_pl P g) A bs s H locs → lv_has ls 5 [(0, .ref (d 2)), (1, .int v1), (2, .long v2)] → W p l e (rmX2_product kk) s m args below meth c H locs 0 0 Q (F0 m 6 ls [])) : ∀ (ax : Int32) (v1 : Int32) (v2 : Int64) (H : Heap) (locs : List Loc) (ls : Array Slot), mX2_product_6_b N rs n f va r6 ax v1 v2 = some res → gZ D (gT cyI cyJ cyO) (XD d cyI cyJ cyO eA vr vt sA (d 5) ax fa ra ol fd dc ds va tr ++ va_pl P g) A bs s H locs → lv_has ls 5 [(0, .ref (d 2)), (1, .int v1), (2, .long v2)] → W p l e (rmX2_product kk) s m args below meth c H locs 0 0 Q (F0 m 6 ls []) := by
  intro ax v1 v2 H locs ls h Z hl
  unfold mX2_product_6_b at h
  refine lv_aload_n C0.1.1 C0.1.2.1 dX2_product_6 rfl (lv_at hl 0 rfl) ?_
  refine g_get (ci := 4) (v := .int ax) (T := TX2) (N := 3) C0.1 Z 2 rfl rfl 2 (by decide) kX2_product_in2 kX2_product_f22 rfl rfl dX2_product_7 ?_
  refine lv_aload_n C0.1.1 C0.1.2.1 dX2_product_10 rfl (lv_at hl 0 rfl) ?_
  refine g_get (ci := 4) (v := .ref sA) (T := TX2) (N := 3) C0.1 Z 2 rfl rfl 0 (by decide) kX2_product_in2 kX2_product_f9 rfl rfl dX2_product_11 ?_
  refine d_alen C0.1 Z hs dX2_product_14 ?_
  refine lv_icmp_ge (tgt := 80) C0.1.1 C0.1.2.1 dX2_product_15 (by decide) (fun hc => ?_) (fun hc => ?_)
  · replace h := (if_pos hc).symm.trans h
    exact wX2_product_80 (N := N) C0 hN hs hrs hret ax v2 _ _ _ h Z (lv_sub hl [2] rfl)
  · replace h := (if_neg hc).symm.trans h
    refine lv_aload_n C0.1.1 C0.1.2.1 dX2_product_18 rfl (lv_at hl 0 rfl) ?_
    refine g_get (ci := 4) (v := .ref sA) (T := TX2) (N := 3) C0.1 Z 2 rfl rfl 0 (by decide) kX2_product_in2 kX2_product_f9 rfl rfl dX2_product_19 ?_
    refine lv_aload_n C0.1.1 C0.1.2.1 dX2_product_22 rfl (lv_at hl 0 rfl) ?_
    refine g_get (ci := 4) (v := .int ax) (T := TX2) (N := 3) C0.1 Z 2 rfl rfl 2 (by decide) kX2_product_in2 kX2_product_f22 rfl rfl dX2_product_23 ?_
    obtain ⟨hi6, h⟩ := g_ni h
    refine d_iald C0.1 Z hs hi6 dX2_product_26 ?_
    refine lv_iconst (v := 2) C0.1.1 C0.1.2.1 dX2_product_27 (by decide) ?_
    refine lv_icmp_eq (tgt := 44) C0.1.1 C0.1.2.1 dX2_product_28 (by decide) (fun hc => ?_) (fun hc => ?_)
    · replace h := (if_pos hc).symm.trans h
      exact wX2_product_44 (N := N) C0 hN hs hrs hret hr6 ax v1 v2 _ _ _ h Z (lv_sub hl [0, 1, 2] rfl)
    · replace h := (if_neg hc).symm.trans h
      refine lv_aload_n C0.1.1 C0.1.2.1 dX2_product_31 rfl (lv_at hl 0 rfl) ?_
      refine g_get (ci := 4) (v := .ref sA) (T := TX2) (N := 3) C0.1 Z 2 rfl rfl 0 (by decide) kX2_product_in2 kX2_product_f9 rfl rfl dX2_product_32 ?_
      refine lv_aload_n C0.1.1 C0.1.2.1 dX2_product_35 rfl (lv_at hl 0 rfl) ?_
      refine g_get (ci := 4) (v := .int ax) (T := TX2) (N := 3) C0.1 Z 2 rfl rfl 2 (by decide) kX2_product_in2 kX2_product_f22 rfl rfl dX2_product_36 ?_
      obtain ⟨hi7, h⟩ := g_ni h
      refine d_iald C0.1 Z hs hi7 dX2_product_39 ?_
      refine lv_iconst (v := 3) C0.1.1 C0.1.2.1 dX2_product_40 (by decide) ?_
      refine lv_icmp_ne (tgt := 80) C0.1.1 C0.1.2.1 dX2_product_41 (by decide) (fun hc => ?_) (fun hc => ?_)
      · replace h := (if_neg hc).symm.trans h
        exact wX2_product_80 (N := N) C0 hN hs hrs hret ax v2 _ _ _ h Z (lv_sub hl [2] rfl)
      · replace h := (if_pos hc).symm.trans h
        exact wX2_product_44 (N := N) C0 hN hs hrs hret hr6 ax v1 v2 _ _ _ h Z (lv_sub hl [0, 1, 2] rfl)
theorem wX2_product_6 {p : Program} {l : Launch} {e : Env} {s : State} {m : MethodId} {args : Array Value} {below : List Frame} {meth : Method} {c : Code} {D : va_G} {cyI cyJ cyO : ClassId} {A : Nat → Prop} {bs : Nat} {P : List Nat} {g : Nat → va_E} {d : Nat → Nat} {eA vr vt : Nat} {sA : Nat} {fa ra : Nat → Nat} {Q : State → Prop} {ol : Int32} {fd : Int32} {dc : Int32} {ds : Nat → Int32} {va : Nat → Int64} {tr : Nat → Int64} {N : Nat} {rs : Int32 → Int32 → Option (Int64 × Int32)} {n : Nat} {f : Nat → Int32} {res : Int64 × Int32} (C0 : gC p m meth c cX2_product 5 (some .long) s args wsRP RX2) (hN : dN s) (hs : isA cyI P g sA n f) {kk : Nat} (hrs : ∀ (at0 p0 : Int32) (res : Int64 × Int32), rs at0 p0 = some res → Met l yX2_sum wsRS (rmX2_sum kk) (va_Pc [.ref (d 2), .int p0] (fun U => gW D (gT cyI cyJ cyO) (XD d cyI cyJ cyO eA vr vt sA (d 5) at0 fa ra ol fd dc ds va tr ++ va_pl P g) A bs U ∧ dN U)) (va_Ql (fun r u => res.1 = r ∧ res.2 = u) (fun u U => gW D (gT cyI cyJ cyO) (XD d cyI cyJ cyO eA vr vt sA (d 5) u fa ra ol fd dc ds va tr ++ va_pl P g) A bs U) A) 0 0 A) (hret : ∀ (r : Int64) (ax_r : Int32) (H : Heap) (locs : List Loc) (pc : Nat) (ls : Array Slot), some (r, ax_r) = some res → gZ D (gT cyI cyJ cyO) (XD d cyI cyJ cyO eA vr vt sA (d 5) ax_r fa ra ol fd dc ds va tr ++ va_pl P g) A bs s H locs → decode cX2_product pc = .ok (.lreturn, 1) → W p l e (rmX2_product kk) s m args below meth c H locs 0 0 Q (F0 m pc ls [.long r]))  : ∀ (n_ : Nat), ∀ (ax : Int32) (v1 : Int32) (v2 : Int64) (H : Heap) (locs : List Loc) (ls : Array Slot), mX2_product_6 N rs n f va n_ ax v1 v2 = some res → gZ D (gT cyI cyJ cyO) (XD d cyI cyJ cyO eA vr vt sA (d 5) ax fa ra ol fd dc ds va tr ++ va_pl P g) A bs s H locs → lv_has ls 5 [(0, .ref (d 2)), (1, .int v1), (2, .long v2)] → W p l e (rmX2_product kk) s m args below meth c H locs 0 0 Q (F0 m 6 ls []) := by
  intro n_
  induction n_ with
  | zero => intro _ _ _ _ _ _ h; cases h
  | succ n_ ih => exact wX2_product_6_b (N := N) C0 hN hs hrs hret ih
set_option maxRecDepth 20000 in
set_option maxHeartbeats 4000000 in
theorem zX2_product (l : Launch) (D : va_G) (cyI cyJ cyO : ClassId) (A : Nat → Prop) (bs : Nat) (hA : ∀ q, bs ≤ q → A q) (P : List Nat) (g : Nat → va_E) (d : Nat → Nat) (eA vr vt sA : Nat) (fa ra : Nat → Nat) (ol : Int32) (fd : Int32) (dc : Int32) (ds : Nat → Int32) (va : Nat → Int64) (tr : Nat → Int64) (N : Nat) (rs : Int32 → Int32 → Option (Int64 × Int32)) (n : Nat) (f : Nat → Int32) (hs : isA cyI P g sA n f) (kk : Nat) (hrs : ∀ (at0 p0 : Int32) (res : Int64 × Int32), rs at0 p0 = some res → Met l yX2_sum wsRS (rmX2_sum kk) (va_Pc [.ref (d 2), .int p0] (fun U => gW D (gT cyI cyJ cyO) (XD d cyI cyJ cyO eA vr vt sA (d 5) at0 fa ra ol fd dc ds va tr ++ va_pl P g) A bs U ∧ dN U)) (va_Ql (fun r u => res.1 = r ∧ res.2 = u) (fun u U => gW D (gT cyI cyJ cyO) (XD d cyI cyJ cyO eA vr vt sA (d 5) u fa ra ol fd dc ds va tr ++ va_pl P g) A bs U) A) 0 0 A) (ax : Int32) (p0 : Int32) (res : Int64 × Int32) (h : mX2_product N rs n f va ax p0 = some res) : Met l yX2_product wsRP (rmX2_product kk) (va_Pc [.ref (d 2), .int p0] (fun U => gW D (gT cyI cyJ cyO) (XD d cyI cyJ cyO eA vr vt sA (d 5) ax fa ra ol fd dc ds va tr ++ va_pl P g) A bs U ∧ dN U)) (va_Ql (fun (r : Int64) (u : Int32) => res.1 = r ∧ res.2 = u) (fun (u : Int32) U => gW D (gT cyI cyJ cyO) (XD d cyI cyJ cyO eA vr vt sA (d 5) u fa ra ol fd dc ds va tr ++ va_pl P g) A bs U) A)  0 0 A := by
  refine Met.ofW (cc := cX2_product) (maxL := 5) (ret := (some .long)) (by decide) rfl ?_
  intro p e s m args below meth c s₁ B hml hv
  obtain ⟨hav, hv⟩ := hv
  obtain ⟨hv, hN⟩ := hv
  have C0 : gC p m meth c cX2_product 5 (some .long) s args wsRP RX2 := ⟨⟨B.exec, B.bytes, hml, findClass_of_methodNamed B.named, atoms_spec (ws := wsRP) B.pre⟩, B.returns, B.notSynchronized⟩
  have Z := g_start hA hv
  have hret : ∀ (r : Int64) (ax_r : Int32) (H : Heap) (locs : List Loc) (pc : Nat) (ls : Array Slot), some (r, ax_r) = some res → gZ D (gT cyI cyJ cyO) (XD d cyI cyJ cyO eA vr vt sA (d 5) ax_r fa ra ol fd dc ds va tr ++ va_pl P g) A bs s H locs → decode cX2_product pc = .ok (.lreturn, 1) → W p l e (rmX2_product kk) s m args below meth c H locs 0 0 (MQ below (va_Ql (fun (r : Int64) (u : Int32) => res.1 = r ∧ res.2 = u) (fun (u : Int32) U => gW D (gT cyI cyJ cyO) (XD d cyI cyJ cyO eA vr vt sA (d 5) u fa ra ol fd dc ds va tr ++ va_pl P g) A bs U) A) args s 0 0 A) (F0 m pc ls [.long r]) := by
    intro r ax_r H locs pc ls h Z hd
    replace h := Option.some.inj h
    subst h
    exact W.lret C0.1.1 C0.1.2.1 C0.2.1 (fun t ht hW => ⟨⟨r, ax_r, rfl, ⟨rfl, rfl⟩, g_end Z ht hW⟩, va_S.F Z.2.2.2.1 ht⟩) Z.2.2.2.1.2.2 hd C0.2.2
  have hl := lv_entry ([.ref (d 2), .int p0]) (n := 5) (Nat.le_of_ble_eq_true rfl)
  rw [hav, lg_entry_eq]
  generalize (lg_sl ([.ref (d 2), .int p0]) ++ List.replicate (5 - (lg_sl ([.ref (d 2), .int p0])).length) Slot.unset).toArray = ls at hl ⊢
  have hl : lv_has ls 5 [(0, .ref (d 2)), (1, .int p0)] := hl
  rw [← hav]
  unfold mX2_product at h
  refine lv_aload_n C0.1.1 C0.1.2.1 dX2_product_0 rfl (lv_at hl 0 rfl) ?_
  refine lv_iload_n C0.1.1 C0.1.2.1 dX2_product_1 rfl (lv_at hl 1 rfl) ?_
  obtain ⟨x8, hx9, h⟩ := g_bd h
  refine x_calll (va_runV (b := d 2) (C := RX2) (As := [.int p0]) (rest := []) C0.1 (zX2_factor l D cyI cyJ cyO A bs Z.2.2.2.2.2 P g d eA vr vt sA fa ra ol fd dc ds va tr N rs n f hs kk hrs ax p0 x8 hx9) (cwV 1 C0.1.2.2.2.2 gRP_factor rfl rfl rfl (by decide +kernel) ⟨by dsimp only [headSpec, rmX2_sum, rmX2_product, rmX2_factor, rmX2_combine]; omega, by dsimp only [headSpec, rmX2_sum, rmX2_product, rmX2_factor, rmX2_combine]; omega⟩) ⟨gN_blind, va_recv Z.2.1 Z.1 (ci := 4) (q0 := 2) rfl rfl, gN_pre Z hN _⟩ rfl rfl hl.1 rfl (lv_room (Nat.le_of_ble_eq_true rfl)) dX2_product_2 ⟨Nat.zero_le _, Nat.zero_le _⟩) Z.2.2.2.1 (fun u t H1 locs1 ht hvm hB hS => g_post Z ht hvm hB hS) (fun r u H locs hw Z => ?_)
  obtain ⟨rfl, rfl⟩ := hw
  refine lv_lstore_n (lv' := [(2, .long x8.1), (0, .ref (d 2)), (1, .int p0)]) C0.1.1 C0.1.2.1 dX2_product_5 rfl hl (by decide) rfl (fun ls hl => ?_)
  exact wX2_product_6 (N := N) C0 hN hs hrs hret N x8.2 p0 x8.1 _ _ _ h Z (lv_sub hl [1, 2, 0] rfl)
/-! X2_sum -/
theorem kX2_sum_in2 : ∀ w ∈ wsX20, w ∈ wsRS := by decide +kernel
theorem kX2_sum_f9 : Cond.fieldLink RX2 9 "GoalseekOffice$Reckoner" "signs" "[I" ∈ wsRS := by decide +kernel
theorem kX2_sum_f22 : Cond.fieldLink RX2 22 "GoalseekOffice$Reckoner" "at" "I" ∈ wsRS := by decide +kernel
def mX2_sum_79 (N : Nat) (rs : Int32 → Int32 → Option (Int64 × Int32)) (n : Nat) (f : Nat → Int32) (va : Nat → Int64) (ax : Int32) (v2 : Int64) : Option (Int64 × Int32) := some (v2, ax)
def mX2_sum_43 (N : Nat) (rs : Int32 → Int32 → Option (Int64 × Int32)) (n : Nat) (f : Nat → Int32) (va : Nat → Int64) (r6 : Int32 → Int32 → Int64 → Option (Int64 × Int32)) (ax : Int32) (v1 : Int32) (v2 : Int64) : Option (Int64 × Int32) := (if ax < 0 ∨ n ≤ ax.toNatClampNeg then none else ((mX2_product N rs n f va (ax + (1 : Int32)) v1).bind fun x2 => ((mX2_combine N (f ax.toNatClampNeg) v2 x2.1).bind fun x4 => r6 x2.2 v1 x4)))
def mX2_sum_6_b (N : Nat) (rs : Int32 → Int32 → Option (Int64 × Int32)) (n : Nat) (f : Nat → Int32) (va : Nat → Int64) (r6 : Int32 → Int32 → Int64 → Option (Int64 × Int32)) (ax : Int32) (v1 : Int32) (v2 : Int64) : Option (Int64 × Int32) := (if (nI n) ≤ ax then mX2_sum_79 N rs n f va ax v2 else (if ax < 0 ∨ n ≤ ax.toNatClampNeg then none else (if (f ax.toNatClampNeg) = 0 then mX2_sum_43 N rs n f va r6 ax v1 v2 else (if ax < 0 ∨ n ≤ ax.toNatClampNeg then none else (if (f ax.toNatClampNeg) = (1 : Int32) then mX2_sum_43 N rs n f va r6 ax v1 v2 else mX2_sum_79 N rs n f va ax v2)))))
def mX2_sum_6 (N : Nat) (rs : Int32 → Int32 → Option (Int64 × Int32)) (n : Nat) (f : Nat → Int32) (va : Nat → Int64) : Nat → Int32 → Int32 → Int64 → Option (Int64 × Int32)
  | 0 => fun _ _ _ => none
  | n_ + 1 => fun ax v1 v2 => mX2_sum_6_b N rs n f va (mX2_sum_6 N rs n f va n_) ax v1 v2
def mX2_sum_B (N : Nat) (rs : Int32 → Int32 → Option (Int64 × Int32)) (n : Nat) (f : Nat → Int32) (va : Nat → Int64) (ax : Int32) (p0 : Int32) : Option (Int64 × Int32) := ((mX2_product N rs n f va ax p0).bind fun x8 => mX2_sum_6 N rs n f va N x8.2 p0 x8.1)
set_option maxRecDepth 20000 in
set_option maxHeartbeats 4000000 in
theorem wX2_sum_79 {p : Program} {l : Launch} {e : Env} {s : State} {m : MethodId} {args : Array Value} {below : List Frame} {meth : Method} {c : Code} {D : va_G} {cyI cyJ cyO : ClassId} {A : Nat → Prop} {bs : Nat} {P : List Nat} {g : Nat → va_E} {d : Nat → Nat} {eA vr vt : Nat} {sA : Nat} {fa ra : Nat → Nat} {Q : State → Prop} {ol : Int32} {fd : Int32} {dc : Int32} {ds : Nat → Int32} {va : Nat → Int64} {tr : Nat → Int64} {N : Nat} {rs : Int32 → Int32 → Option (Int64 × Int32)} {n : Nat} {f : Nat → Int32} {res : Int64 × Int32} (C0 : gC p m meth c cX2_sum 5 (some .long) s args wsRS RX2) (hN : dN s) (hs : isA cyI P g sA n f) {kk : Nat} (hrs : ∀ (at0 p0 : Int32) (res : Int64 × Int32), rs at0 p0 = some res → Met l yX2_sum wsRS (rmX2_sum kk) (va_Pc [.ref (d 2), .int p0] (fun U => gW D (gT cyI cyJ cyO) (XD d cyI cyJ cyO eA vr vt sA (d 5) at0 fa ra ol fd dc ds va tr ++ va_pl P g) A bs U ∧ dN U)) (va_Ql (fun r u => res.1 = r ∧ res.2 = u) (fun u U => gW D (gT cyI cyJ cyO) (XD d cyI cyJ cyO eA vr vt sA (d 5) u fa ra ol fd dc ds va tr ++ va_pl P g) A bs U) A) 0 0 A) (hret : ∀ (r : Int64) (ax_r : Int32) (H : Heap) (locs : List Loc) (pc : Nat) (ls : Array Slot), some (r, ax_r) = some res → gZ D (gT cyI cyJ cyO) (XD d cyI cyJ cyO eA vr vt sA (d 5) ax_r fa ra ol fd dc ds va tr ++ va_pl P g) A bs s H locs → decode cX2_sum pc = .ok (.lreturn, 1) → W p l e (rmX2_sum (kk + 1)) s m args below meth c H locs 0 0 Q (F0 m pc ls [.long r]))  : ∀ (ax : Int32) (v2 : Int64) (H : Heap) (locs : List Loc) (ls : Array Slot), mX2_sum_79 N rs n f va ax v2 = some res → gZ D (gT cyI cyJ cyO) (XD d cyI cyJ cyO eA vr vt sA (d 5) ax fa ra ol fd dc ds va tr ++ va_pl P g) A bs s H locs → lv_has ls 5 [(2, .long v2)] → W p l e (rmX2_sum (kk + 1)) s m args below meth c H locs 0 0 Q (F0 m 79 ls []) := by
  intro ax v2 H locs ls h Z hl
  unfold mX2_sum_79 at h
  refine lv_lload_n C0.1.1 C0.1.2.1 dX2_sum_79 rfl (lv_at hl 0 rfl) ?_
  exact hret v2 ax _ _ _ _ h Z dX2_sum_80
set_option maxRecDepth 20000 in
set_option maxHeartbeats 4000000 in
theorem wX2_sum_43 {p : Program} {l : Launch} {e : Env} {s : State} {m : MethodId} {args : Array Value} {below : List Frame} {meth : Method} {c : Code} {D : va_G} {cyI cyJ cyO : ClassId} {A : Nat → Prop} {bs : Nat} {P : List Nat} {g : Nat → va_E} {d : Nat → Nat} {eA vr vt : Nat} {sA : Nat} {fa ra : Nat → Nat} {Q : State → Prop} {ol : Int32} {fd : Int32} {dc : Int32} {ds : Nat → Int32} {va : Nat → Int64} {tr : Nat → Int64} {N : Nat} {rs : Int32 → Int32 → Option (Int64 × Int32)} {n : Nat} {f : Nat → Int32} {res : Int64 × Int32} (C0 : gC p m meth c cX2_sum 5 (some .long) s args wsRS RX2) (hN : dN s) (hs : isA cyI P g sA n f) {kk : Nat} (hrs : ∀ (at0 p0 : Int32) (res : Int64 × Int32), rs at0 p0 = some res → Met l yX2_sum wsRS (rmX2_sum kk) (va_Pc [.ref (d 2), .int p0] (fun U => gW D (gT cyI cyJ cyO) (XD d cyI cyJ cyO eA vr vt sA (d 5) at0 fa ra ol fd dc ds va tr ++ va_pl P g) A bs U ∧ dN U)) (va_Ql (fun r u => res.1 = r ∧ res.2 = u) (fun u U => gW D (gT cyI cyJ cyO) (XD d cyI cyJ cyO eA vr vt sA (d 5) u fa ra ol fd dc ds va tr ++ va_pl P g) A bs U) A) 0 0 A) (hret : ∀ (r : Int64) (ax_r : Int32) (H : Heap) (locs : List Loc) (pc : Nat) (ls : Array Slot), some (r, ax_r) = some res → gZ D (gT cyI cyJ cyO) (XD d cyI cyJ cyO eA vr vt sA (d 5) ax_r fa ra ol fd dc ds va tr ++ va_pl P g) A bs s H locs → decode cX2_sum pc = .ok (.lreturn, 1) → W p l e (rmX2_sum (kk + 1)) s m args below meth c H locs 0 0 Q (F0 m pc ls [.long r])) {r6 : Int32 → Int32 → Int64 → Option (Int64 × Int32)} (hr6 : ∀ (ax : Int32) (v1 : Int32) (v2 : Int64) (H : Heap) (locs : List Loc) (ls : Array Slot), r6 ax v1 v2 = some res → gZ D (gT cyI cyJ cyO) (XD d cyI cyJ cyO eA vr vt sA (d 5) ax fa ra ol fd dc ds va tr ++ va_pl P g) A bs s H locs → lv_has ls 5 [(0, .ref (d 2)), (1, .int v1), (2, .long v2)] → W p l e (rmX2_sum (kk + 1)) s m args below meth c H locs 0 0 Q (F0 m 6 ls [])) : ∀ (ax : Int32) (v1 : Int32) (v2 : Int64) (H : Heap) (locs : List Loc) (ls : Array Slot), mX2_sum_43 N rs n f va r6 ax v1 v2 = some res → gZ D (gT cyI cyJ cyO) (XD d cyI cyJ cyO eA vr vt sA (d 5) ax fa ra ol fd dc ds va tr ++ va_pl P g) A bs s H locs → lv_has ls 5 [(0, .ref (d 2)), (1, .int v1), (2, .long v2)] → W p l e (rmX2_sum (kk + 1)) s m args below meth c H locs 0 0 Q (F0 m 43 ls []) := by
  intro ax v1 v2 H locs ls h Z hl
  unfold mX2_sum_43 at h
  refine lv_aload_n C0.1.1 C0.1.2.1 dX2_sum_43 rfl (lv_at hl 0 rfl) ?_
  refine g_get (ci := 4) (v := .ref sA) (T := TX2) (N := 3) C0.1 Z 2 rfl rfl 0 (by decide) kX2_sum_in2 kX2_sum_f9 rfl rfl dX2_sum_44 ?_
  refine lv_aload_n C0.1.1 C0.1.2.1 dX2_sum_47 rfl (lv_at hl 0 rfl) ?_
  refine g_get (ci := 4) (v := .int ax) (T := TX2) (N := 3) C0.1 Z 2 rfl rfl 2 (by decide) kX2_sum_in2 kX2_sum_f22 rfl rfl dX2_sum_48 ?_
  obtain ⟨hi1, h⟩ := g_ni h
  refine d_iald C0.1 Z hs hi1 dX2_sum_51 ?_
  refine lv_istore (lv' := [(4, .int (f ax.toNatClampNeg)), (0, .ref (d 2)), (1, .int v1), (2, .long v2)]) C0.1.1 C0.1.2.1 dX2_sum_52 hl (by decide) rfl (fun ls hl => ?_)
  refine lv_aload_n C0.1.1 C0.1.2.1 dX2_sum_54 rfl (lv_at hl 1 rfl) ?_
  refine lv_dup C0.1.1 C0.1.2.1 dX2_sum_55 rfl ?_
  refine g_get (ci := 4) (v := .int ax) (T := TX2) (N := 3) C0.1 Z 2 rfl rfl 2 (by decide) kX2_sum_in2 kX2_sum_f22 rfl rfl dX2_sum_56 ?_
  refine lv_iconst (v := 1) C0.1.1 C0.1.2.1 dX2_sum_59 (by decide) ?_
  refine lv_iadd C0.1.1 C0.1.2.1 dX2_sum_60 ?_
  refine g_put (ci := 4) (v := .int (ax + (1 : Int32))) (T := TX2) (N := 3) (ws' := (XD d cyI cyJ cyO eA vr vt sA (d 5) (ax + (1 : Int32)) fa ra ol fd dc ds va tr ++ va_pl P g)) C0.1 Z 2 rfl rfl 2 (by decide) kX2_sum_in2 kX2_sum_f22 rfl tyX2 tyX2_ok nmX2 rfl rfl rfl (Nat.le_of_ble_eq_true rfl) dX2_sum_61 rfl (fun H locs Z => ?_)
  refine lv_iload C0.1.1 C0.1.2.1 dX2_sum_64 (lv_at hl 0 rfl) ?_
  refine lv_lload_n C0.1.1 C0.1.2.1 dX2_sum_66 rfl (lv_at hl 3 rfl) ?_
  refine lv_aload_n C0.1.1 C0.1.2.1 dX2_sum_67 rfl (lv_at hl 1 rfl) ?_
  refine lv_iload_n C0.1.1 C0.1.2.1 dX2_sum_68 rfl (lv_at hl 2 rfl) ?_
  obtain ⟨x2, hx3, h⟩ := g_bd h
  refine x_calll (va_runV (b := d 2) (C := RX2) (As := [.int v1]) (rest := [.long v2, .int (f ax.toNatClampNeg)]) C0.1 (zX2_product l D cyI cyJ cyO A bs Z.2.2.2.2.2 P g d eA vr vt sA fa ra ol fd dc ds va tr N rs n f hs kk hrs (ax + (1 : Int32)) v1 x2 hx3) (cwV 1 C0.1.2.2.2.2 gRS_product rfl rfl rfl (by decide +kernel) ⟨by dsimp only [headSpec, rmX2_sum, rmX2_product, rmX2_factor, rmX2_combine]; omega, by dsimp only [headSpec, rmX2_sum, rmX2_product, rmX2_factor, rmX2_combine]; omega⟩) ⟨gN_blind, va_recv Z.2.1 Z.1 (ci := 4) (q0 := 2) rfl rfl, gN_pre Z hN _⟩ rfl rfl hl.1 rfl (lv_room (Nat.le_of_ble_eq_true rfl)) dX2_sum_69 ⟨Nat.zero_le _, Nat.zero_le _⟩) Z.2.2.2.1 (fun u t H1 locs1 ht hvm hB hS => g_post Z ht hvm hB hS) (fun r u H locs hw Z => ?_)
  obtain ⟨rfl, rfl⟩ := hw
  obtain ⟨x4, hx5, h⟩ := g_bd h
  refine x_calll (va_runS (As := [.int (f ax.toNatClampNeg), .long v2, .long x2.1]) (rest := []) C0.1 (zX2_combine l D cyI cyJ cyO A bs Z.2.2.2.2.2 (XD d cyI cyJ cyO eA vr vt sA (d 5) x2.2 fa ra ol fd dc ds va tr ++ va_pl P g) N (f ax.toNatClampNeg) v2 x2.1 x4 hx5) (va_cwS 3 C0.1.2.2.2.2 gRS_combine rfl rfl rfl (by decide +kernel) ⟨by dsimp only [headSpec, rmX2_sum, rmX2_product, rmX2_factor, rmX2_combine]; omega, by dsimp only [headSpec, rmX2_sum, rmX2_product, rmX2_factor, rmX2_combine]; omega⟩) ⟨g_blind, g_pre Z _⟩ rfl rfl hl.1 rfl (lv_room (Nat.le_of_ble_eq_true rfl)) dX2_sum_72 ⟨Nat.zero_le _, Nat.zero_le _⟩) Z.2.2.2.1 (fun u t H1 locs1 ht hvm hB hS => g_post Z ht hvm hB hS) (fun r u H locs hw Z => ?_)
  subst hw
  refine lv_lstore_n (lv' := [(2, .long x4), (4, .int (f ax.toNatClampNeg)), (0, .ref (d 2)), (1, .int v1)]) C0.1.1 C0.1.2.1 dX2_sum_75 rfl hl (by decide) rfl (fun ls hl => ?_)
  refine lv_goto (tgt := 6) C0.1.1 C0.1.2.1 dX2_sum_76 (by decide) ?_
  exact hr6 x2.2 v1 x4 _ _ _ h Z (lv_sub hl [2, 3, 0] rfl)
set_option maxRecDepth 20000 in
set_option maxHeartbeats 4000000 in
theorem wX2_sum_6_b {p : Program} {l : Launch} {e : Env} {s : State} {m : MethodId} {args : Array Value} {below : List Frame} {meth : Method} {c : Code} {D : va_G} {cyI cyJ cyO : ClassId} {A : Nat → Prop} {bs : Nat} {P : List Nat} {g : Nat → va_E} {d : Nat → Nat} {eA vr vt : Nat} {sA : Nat} {fa ra : Nat → Nat} {Q : State → Prop} {ol : Int32} {fd : Int32} {dc : Int32} {ds : Nat → Int32} {va : Nat → Int64} {tr : Nat → Int64} {N : Nat} {rs : Int32 → Int32 → Option (Int64 × Int32)} {n : Nat} {f : Nat → Int32} {res : Int64 × Int32} (C0 : gC p m meth c cX2_sum 5 (some .long) s args wsRS RX2) (hN : dN s) (hs : isA cyI P g sA n f) {kk : Nat} (hrs : ∀ (at0 p0 : Int32) (res : Int64 × Int32), rs at0 p0 = some res → Met l yX2_sum wsRS (rmX2_sum kk) (va_Pc [.ref (d 2), .int p0] (fun U => gW D (gT cyI cyJ cyO) (XD d cyI cyJ cyO eA vr vt sA (d 5) at0 fa ra ol fd dc ds va tr ++ va_pl P g) A bs U ∧ dN U)) (va_Ql (fun r u => res.1 = r ∧ res.2 = u) (fun u U => gW D (gT cyI cyJ cyO) (XD d cyI cyJ cyO eA vr vt sA (d 5) u fa ra ol fd dc ds va tr ++ va_pl P g) A bs U) A) 0 0 A) (hret : ∀ (r : Int64) (ax_r : Int32) (H : Heap) (locs : List Loc) (pc : Nat) (ls : Array Slot), some (r, ax_r) = some res → gZ D (gT cyI cyJ cyO) (XD d cyI cyJ cyO eA vr vt sA (d 5) ax_r fa ra ol fd dc ds va tr ++ va_pl P g) A bs s H locs → decode cX2_sum pc = .ok (.lreturn, 1) → W p l e (rmX2_sum (kk + 1)) s m args below meth c H locs 0 0 Q (F0 m pc ls [.long r])) {r6 : Int32 → Int32 → Int64 → Option (Int64 × Int32)} (hr6 : ∀ (ax : Int32) (v1 : Int32) (v2 : Int64) (H : Heap) (locs : List Loc) (ls : Array Slot), r6 ax v1 v2 = some res → gZ D (gT cyI cyJ cyO) (XD d cyI cyJ cyO eA vr vt sA (d 5) ax fa ra ol fd dc ds va tr ++ va_pl P g) A bs s H locs → lv_has ls 5 [(0, .ref (d 2)), (1, .int v1), (2, .long v2)] → W p l e (rmX2_sum (kk + 1)) s m args below meth c H locs 0 0 Q (F0 m 6 ls [])) : ∀ (ax : Int32) (v1 : Int32) (v2 : Int64) (H : Heap) (locs : List Loc) (ls : Array Slot), mX2_sum_6_b N rs n f va r6 ax v1 v2 = some res → gZ D (gT cyI cyJ cyO) (XD d cyI cyJ cyO eA vr vt sA (d 5) ax fa ra ol fd dc ds va tr ++ va_pl P g) A bs s H locs → lv_has ls 5 [(0, .ref (d 2)), (1, .int v1), (2, .long v2)] → W p l e (rmX2_sum (kk + 1)) s m args below meth c H locs 0 0 Q (F0 m 6 ls []) := by
  intro ax v1 v2 H locs ls h Z hl
  unfold mX2_sum_6_b at h
  refine lv_aload_n C0.1.1 C0.1.2.1 dX2_sum_6 rfl (lv_at hl 0 rfl) ?_
  refine g_get (ci := 4) (v := .int ax) (T := TX2) (N := 3) C0.1 Z 2 rfl rfl 2 (by decide) kX2_sum_in2 kX2_sum_f22 rfl rfl dX2_sum_7 ?_
  refine lv_aload_n C0.1.1 C0.1.2.1 dX2_sum_10 rfl (lv_at hl 0 rfl) ?_
  refine g_get (ci := 4) (v := .ref sA) (T := TX2) (N := 3) C0.1 Z 2 rfl rfl 0 (by decide) kX2_sum_in2 kX2_sum_f9 rfl rfl dX2_sum_11 ?_
  refine d_alen C0.1 Z hs dX2_sum_14 ?_
  refine lv_icmp_ge (tgt := 79) C0.1.1 C0.1.2.1 dX2_sum_15 (by decide) (fun hc => ?_) (fun hc => ?_)
  · replace h := (if_pos hc).symm.trans h
    exact wX2_sum_79 (N := N) C0 hN hs hrs hret ax v2 _ _ _ h Z (lv_sub hl [2] rfl)
  · replace h := (if_neg hc).symm.trans h
    refine lv_aload_n C0.1.1 C0.1.2.1 dX2_sum_18 rfl (lv_at hl 0 rfl) ?_
    refine g_get (ci := 4) (v := .ref sA) (T := TX2) (N := 3) C0.1 Z 2 rfl rfl 0 (by decide) kX2_sum_in2 kX2_sum_f9 rfl rfl dX2_sum_19 ?_
    refine lv_aload_n C0.1.1 C0.1.2.1 dX2_sum_22 rfl (lv_at hl 0 rfl) ?_
    refine g_get (ci := 4) (v := .int ax) (T := TX2) (N := 3) C0.1 Z 2 rfl rfl 2 (by decide) kX2_sum_in2 kX2_sum_f22 rfl rfl dX2_sum_23 ?_
    obtain ⟨hi6, h⟩ := g_ni h
    refine d_iald C0.1 Z hs hi6 dX2_sum_26 ?_
    refine lv_if_eq (tgt := 43) C0.1.1 C0.1.2.1 dX2_sum_27 (by decide) (fun hc => ?_) (fun hc => ?_)
    · replace h := (if_pos hc).symm.trans h
      exact wX2_sum_43 (N := N) C0 hN hs hrs hret hr6 ax v1 v2 _ _ _ h Z (lv_sub hl [0, 1, 2] rfl)
    · replace h := (if_neg hc).symm.trans h
      refine lv_aload_n C0.1.1 C0.1.2.1 dX2_sum_30 rfl (lv_at hl 0 rfl) ?_
      refine g_get (ci := 4) (v := .ref sA) (T := TX2) (N := 3) C0.1 Z 2 rfl rfl 0 (by decide) kX2_sum_in2 kX2_sum_f9 rfl rfl dX2_sum_31 ?_
      refine lv_aload_n C0.1.1 C0.1.2.1 dX2_sum_34 rfl (lv_at hl 0 rfl) ?_
      refine g_get (ci := 4) (v := .int ax) (T := TX2) (N := 3) C0.1 Z 2 rfl rfl 2 (by decide) kX2_sum_in2 kX2_sum_f22 rfl rfl dX2_sum_35 ?_
      obtain ⟨hi7, h⟩ := g_ni h
      refine d_iald C0.1 Z hs hi7 dX2_sum_38 ?_
      refine lv_iconst (v := 1) C0.1.1 C0.1.2.1 dX2_sum_39 (by decide) ?_
      refine lv_icmp_ne (tgt := 79) C0.1.1 C0.1.2.1 dX2_sum_40 (by decide) (fun hc => ?_) (fun hc => ?_)
      · replace h := (if_neg hc).symm.trans h
        exact wX2_sum_79 (N := N) C0 hN hs hrs hret ax v2 _ _ _ h Z (lv_sub hl [2] rfl)
      · replace h := (if_pos hc).symm.trans h
        exact wX2_sum_43 (N := N) C0 hN hs hrs hret hr6 ax v1 v2 _ _ _ h Z (lv_sub hl [0, 1, 2] rfl)
theorem wX2_sum_6 {p : Program} {l : Launch} {e : Env} {s : State} {m : MethodId} {args : Array Value} {below : List Frame} {meth : Method} {c : Code} {D : va_G} {cyI cyJ cyO : ClassId} {A : Nat → Prop} {bs : Nat} {P : List Nat} {g : Nat → va_E} {d : Nat → Nat} {eA vr vt : Nat} {sA : Nat} {fa ra : Nat → Nat} {Q : State → Prop} {ol : Int32} {fd : Int32} {dc : Int32} {ds : Nat → Int32} {va : Nat → Int64} {tr : Nat → Int64} {N : Nat} {rs : Int32 → Int32 → Option (Int64 × Int32)} {n : Nat} {f : Nat → Int32} {res : Int64 × Int32} (C0 : gC p m meth c cX2_sum 5 (some .long) s args wsRS RX2) (hN : dN s) (hs : isA cyI P g sA n f) {kk : Nat} (hrs : ∀ (at0 p0 : Int32) (res : Int64 × Int32), rs at0 p0 = some res → Met l yX2_sum wsRS (rmX2_sum kk) (va_Pc [.ref (d 2), .int p0] (fun U => gW D (gT cyI cyJ cyO) (XD d cyI cyJ cyO eA vr vt sA (d 5) at0 fa ra ol fd dc ds va tr ++ va_pl P g) A bs U ∧ dN U)) (va_Ql (fun r u => res.1 = r ∧ res.2 = u) (fun u U => gW D (gT cyI cyJ cyO) (XD d cyI cyJ cyO eA vr vt sA (d 5) u fa ra ol fd dc ds va tr ++ va_pl P g) A bs U) A) 0 0 A) (hret : ∀ (r : Int64) (ax_r : Int32) (H : Heap) (locs : List Loc) (pc : Nat) (ls : Array Slot), some (r, ax_r) = some res → gZ D (gT cyI cyJ cyO) (XD d cyI cyJ cyO eA vr vt sA (d 5) ax_r fa ra ol fd dc ds va tr ++ va_pl P g) A bs s H locs → decode cX2_sum pc = .ok (.lreturn, 1) → W p l e (rmX2_sum (kk + 1)) s m args below meth c H locs 0 0 Q (F0 m pc ls [.long r]))  : ∀ (n_ : Nat), ∀ (ax : Int32) (v1 : Int32) (v2 : Int64) (H : Heap) (locs : List Loc) (ls : Array Slot), mX2_sum_6 N rs n f va n_ ax v1 v2 = some res → gZ D (gT cyI cyJ cyO) (XD d cyI cyJ cyO eA vr vt sA (d 5) ax fa ra ol fd dc ds va tr ++ va_pl P g) A bs s H locs → lv_has ls 5 [(0, .ref (d 2)), (1, .int v1), (2, .long v2)] → W p l e (rmX2_sum (kk + 1)) s m args below meth c H locs 0 0 Q (F0 m 6 ls []) := by
  intro n_
  induction n_ with
  | zero => intro _ _ _ _ _ _ h; cases h
  | succ n_ ih => exact wX2_sum_6_b (N := N) C0 hN hs hrs hret ih
set_option maxRecDepth 20000 in
set_option maxHeartbeats 4000000 in
theorem zX2_sum_B (l : Launch) (D : va_G) (cyI cyJ cyO : ClassId) (A : Nat → Prop) (bs : Nat) (hA : ∀ q, bs ≤ q → A q) (P : List Nat) (g : Nat → va_E) (d : Nat → Nat) (eA vr vt sA : Nat) (fa ra : Nat → Nat) (ol : Int32) (fd : Int32) (dc : Int32) (ds : Nat → Int32) (va : Nat → Int64) (tr : Nat → Int64) (N : Nat) (rs : Int32 → Int32 → Option (Int64 × Int32)) (n : Nat) (f : Nat → Int32) (hs : isA cyI P g sA n f) (kk : Nat) (hrs : ∀ (at0 p0 : Int32) (res : Int64 × Int32), rs at0 p0 = some res → Met l yX2_sum wsRS (rmX2_sum kk) (va_Pc [.ref (d 2), .int p0] (fun U => gW D (gT cyI cyJ cyO) (XD d cyI cyJ cyO eA vr vt sA (d 5) at0 fa ra ol fd dc ds va tr ++ va_pl P g) A bs U ∧ dN U)) (va_Ql (fun r u => res.1 = r ∧ res.2 = u) (fun u U => gW D (gT cyI cyJ cyO) (XD d cyI cyJ cyO eA vr vt sA (d 5) u fa ra ol fd dc ds va tr ++ va_pl P g) A bs U) A) 0 0 A) (ax : Int32) (p0 : Int32) (res : Int64 × Int32) (h : mX2_sum_B N rs n f va ax p0 = some res) : Met l yX2_sum wsRS (rmX2_sum (kk + 1)) (va_Pc [.ref (d 2), .int p0] (fun U => gW D (gT cyI cyJ cyO) (XD d cyI cyJ cyO eA vr vt sA (d 5) ax fa ra ol fd dc ds va tr ++ va_pl P g) A bs U ∧ dN U)) (va_Ql (fun (r : Int64) (u : Int32) => res.1 = r ∧ res.2 = u) (fun (u : Int32) U => gW D (gT cyI cyJ cyO) (XD d cyI cyJ cyO eA vr vt sA (d 5) u fa ra ol fd dc ds va tr ++ va_pl P g) A bs U) A)  0 0 A := by
  refine Met.ofW (cc := cX2_sum) (maxL := 5) (ret := (some .long)) (by decide) rfl ?_
  intro p e s m args below meth c s₁ B hml hv
  obtain ⟨hav, hv⟩ := hv
  obtain ⟨hv, hN⟩ := hv
  have C0 : gC p m meth c cX2_sum 5 (some .long) s args wsRS RX2 := ⟨⟨B.exec, B.bytes, hml, findClass_of_methodNamed B.named, atoms_spec (ws := wsRS) B.pre⟩, B.returns, B.notSynchronized⟩
  have Z := g_start hA hv
  have hret : ∀ (r : Int64) (ax_r : Int32) (H : Heap) (locs : List Loc) (pc : Nat) (ls : Array Slot), some (r, ax_r) = some res → gZ D (gT cyI cyJ cyO) (XD d cyI cyJ cyO eA vr vt sA (d 5) ax_r fa ra ol fd dc ds va tr ++ va_pl P g) A bs s H locs → decode cX2_sum pc = .ok (.lreturn, 1) → W p l e (rmX2_sum (kk + 1)) s m args below meth c H locs 0 0 (MQ below (va_Ql (fun (r : Int64) (u : Int32) => res.1 = r ∧ res.2 = u) (fun (u : Int32) U => gW D (gT cyI cyJ cyO) (XD d cyI cyJ cyO eA vr vt sA (d 5) u fa ra ol fd dc ds va tr ++ va_pl P g) A bs U) A) args s 0 0 A) (F0 m pc ls [.long r]) := by
    intro r ax_r H locs pc ls h Z hd
    replace h := Option.some.inj h
    subst h
    exact W.lret C0.1.1 C0.1.2.1 C0.2.1 (fun t ht hW => ⟨⟨r, ax_r, rfl, ⟨rfl, rfl⟩, g_end Z ht hW⟩, va_S.F Z.2.2.2.1 ht⟩) Z.2.2.2.1.2.2 hd C0.2.2
  have hl := lv_entry ([.ref (d 2), .int p0]) (n := 5) (Nat.le_of_ble_eq_true rfl)
  rw [hav, lg_entry_eq]
  generalize (lg_sl ([.ref (d 2), .int p0]) ++ List.replicate (5 - (lg_sl ([.ref (d 2), .int p0])).length) Slot.unset).toArray = ls at hl ⊢
  have hl : lv_has ls 5 [(0, .ref (d 2)), (1, .int p0)] := hl
  rw [← hav]
  unfold mX2_sum_B at h
  refine lv_aload_n C0.1.1 C0.1.2.1 dX2_sum_0 rfl (lv_at hl 0 rfl) ?_
  refine lv_iload_n C0.1.1 C0.1.2.1 dX2_sum_1 rfl (lv_at hl 1 rfl) ?_
  obtain ⟨x8, hx9, h⟩ := g_bd h
  refine x_calll (va_runV (b := d 2) (C := RX2) (As := [.int p0]) (rest := []) C0.1 (zX2_product l D cyI cyJ cyO A bs Z.2.2.2.2.2 P g d eA vr vt sA fa ra ol fd dc ds va tr N rs n f hs kk hrs ax p0 x8 hx9) (cwV 1 C0.1.2.2.2.2 gRS_product rfl rfl rfl (by decide +kernel) ⟨by dsimp only [headSpec, rmX2_sum, rmX2_product, rmX2_factor, rmX2_combine]; omega, by dsimp only [headSpec, rmX2_sum, rmX2_product, rmX2_factor, rmX2_combine]; omega⟩) ⟨gN_blind, va_recv Z.2.1 Z.1 (ci := 4) (q0 := 2) rfl rfl, gN_pre Z hN _⟩ rfl rfl hl.1 rfl (lv_room (Nat.le_of_ble_eq_true rfl)) dX2_sum_2 ⟨Nat.zero_le _, Nat.zero_le _⟩) Z.2.2.2.1 (fun u t H1 locs1 ht hvm hB hS => g_post Z ht hvm hB hS) (fun r u H locs hw Z => ?_)
  obtain ⟨rfl, rfl⟩ := hw
  refine lv_lstore_n (lv' := [(2, .long x8.1), (0, .ref (d 2)), (1, .int p0)]) C0.1.1 C0.1.2.1 dX2_sum_5 rfl hl (by decide) rfl (fun ls hl => ?_)
  exact wX2_sum_6 (N := N) C0 hN hs hrs hret N x8.2 p0 x8.1 _ _ _ h Z (lv_sub hl [1, 2, 0] rfl)
