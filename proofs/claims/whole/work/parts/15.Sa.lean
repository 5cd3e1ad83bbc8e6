section
variable {p : Program} {l : Launch} {e : Env} {R : Room} {s : State} {m : MethodId} {args : Array Value} {below : List Frame} {meth : Method} {c : Code} {G : GG} {A : Nat → Prop} {own : String} {cc : ByteArray} {nL cells slots : Nat} {ret : Option FieldType} {Q : State → Prop} {ws : va_W} {lv : List (Nat × Value)} {pc : Nat} {st : List Value}
theorem w_mono {Q' : State → Prop} (h : ∀ t, Q t → Q' t) (kk : Wd p l e R s m args below meth c G A nL cells slots Q ws lv pc st) : Wd p l e R s m args below meth c G A nL cells slots Q' ws lv pc st := fun H locs ls hP hD hS hl T hT X => by
  obtain ⟨t, a, b⟩ := kk H locs ls hP hD hS hl T hT X
  exact ⟨t, a, h t b⟩
theorem w_post {Po Po2 : Option Value → va_W → Prop} {mc ms : Nat} (h : ∀ o w, Po o w → Po2 o w) (kk : Wd p l e R s m args below meth c G A nL cells slots (QQ G A Po below args s mc ms) ws lv pc st) : Wd p l e R s m args below meth c G A nL cells slots (QQ G A Po2 below args s mc ms) ws lv pc st := w_mono (fun t q => by
  obtain ⟨oc, h1, h2, ⟨⟨o, w1, a1, a2, a3⟩, h4⟩, h5⟩ := q
  exact ⟨oc, h1, h2, ⟨⟨o, w1, a1, h o w1 a2, a3⟩, h4⟩, h5⟩) kk
theorem w_newa (C : Cx p s m args meth c G A own cc nL ret) {k : Int32} {N' : Nat} (hn : ¬ k < 0) (hN : k.toNatClampNeg = N') (hbytes : N' * 4 ≤ 536870912) (hcells : cells + 1 ≤ R.cells) (hslots : slots + N' ≤ R.slots) (hdg : decode cc pc = .ok (.newarray .int, 2)) (kk : ∀ q : Nat, Wd p l e R s m args below meth c G A nL (cells + 1) (slots + N') Q (ws ++ [(q, .inl (G.2 0, N', .inl (fun _ => 0)))]) lv (pc + 2) (.ref q :: st)) : Wd p l e R s m args below meth c G A nL cells slots Q ws lv pc (.int k :: st) := fun H locs ls hP hD hS hl => va_newa (atype := .int) (ty := .int) (a0 := (N', .inl (fun _ => 0))) C.1 C.2.1 (C.2.2.2.2.2.2.1 _ ac_int) rfl C.2.2.2.2.2.2.2.1.1 hP hD hS C.2.2.2.2.2.2.2.2 (fun _ => rfl) hn hN hbytes hcells hslots hdg (fun q cA H1 hK1 hP1 hD1 hS1 => by
  have h1 : s.vm.findClass ("[" ++ FieldType.int.toString) = some cA := (hK1.2 4 _ rfl).2
  have h2 : s.vm.findClass ("[" ++ FieldType.int.toString) = some (G.2 0) := (C.2.2.2.2.2.2.2.1.1.2 0 _ rfl).2
  have e : cA = G.2 0 := Option.some.inj (h1.symm.trans h2)
  subst e
  exact kk q H1 locs ls hP1 hD1 hS1 hl)
theorem w_newq (C : Cx p s m args meth c G A own cc nL ret) {nm : String} {index t0 : Nat} {cA0 : ClassId} (ht : (tyl G)[t0]? = some (cA0, .object nm)) (hover : va_AO nm s) (hcl : Cond.classLink own index nm ∈ WA) {k : Int32} {N' : Nat} (hn : ¬ k < 0) (hN : k.toNatClampNeg = N') (hbytes : N' * 4 ≤ 536870912) (hcells : cells + 1 ≤ R.cells) (hslots : slots + N' ≤ R.slots) (hdg : decode cc pc = .ok (.anewarray index, 3)) (kk : ∀ q : Nat, Wd p l e R s m args below meth c G A nL (cells + 1) (slots + N') Q (ws ++ [(q, .inl (cA0, N', .inr (.inr (.inr (.inr (fun _ => none))))))]) lv (pc + 3) (.ref q :: st)) : Wd p l e R s m args below meth c G A nL cells slots Q ws lv pc (.int k :: st) := fun H locs ls hP hD hS hl => va_newq C.1 C.2.1 C.2.2.2.2.2.1 (C.2.2.2.2.2.2.1 _ hcl) hover C.2.2.2.2.2.2.2.1.1 hP hD hS C.2.2.2.2.2.2.2.2 hn hN hbytes hcells hslots hdg (fun q cA H1 hK1 hP1 hD1 hS1 => by
  obtain ⟨_, _, _, _, _, h1⟩ : va_RA s cA (.object nm) := (hK1.2 4 _ rfl).2
  obtain ⟨_, _, _, _, _, h2⟩ : va_RA s cA0 (.object nm) := (C.2.2.2.2.2.2.2.1.1.2 t0 _ ht).2
  have e : cA = cA0 := Option.some.inj (h1.symm.trans h2)
  subst e
  exact kk q H1 locs ls hP1 hD1 hS1 hl)
theorem w_new (C : Cx p s m args meth c G A own cc nL ret) {cls : String} {T : u_T} {N ci index : Nat} (hc : vwCl[ci]? = some (cls, T, N)) (hin : ∀ w ∈ u_ws cls T N, w ∈ WA) (ty : Nat → FieldType) (hty : ∀ k, k < N → parseFieldDescriptor (T k).2.2.1 = some (ty k)) (hcl : Cond.classLink own index cls ∈ WA) (hinst : Cond.instantiable cls N ∈ WA) (hini : Cond.initialized cls ∈ WA) {fs : List Value} (hfs : ∀ j, j < N → defaultValue (ty j) = vp_V fs j) (hcells : cells + 1 ≤ R.cells) (hslots : slots + N ≤ R.slots) (hdg : decode cc pc = .ok (.new index, 3)) (kk : ∀ q : Nat, Wd p l e R s m args below meth c G A nL (cells + 1) (slots + N) Q (ws ++ [(q, .inr (ci, fs))]) lv (pc + 3) (.ref q :: st)) : Wd p l e R s m args below meth c G A nL cells slots Q ws lv pc st := fun H locs ls hP hD hS hl => va_new C.1 C.2.1 C.2.2.2.2.2.2.1 hin ty hty C.2.2.2.2.2.1 (C.2.2.2.2.2.2.1 _ hcl) (C.2.2.2.2.2.2.1 _ hinst) (C.2.2.2.2.2.2.1 _ hini) C.2.2.2.2.2.2.2.1.1 hP hD hS C.2.2.2.2.2.2.2.2 hc hfs hcells hslots hdg (fun q H1 hP1 hD1 hS1 => kk q H1 locs ls hP1 hD1 hS1 hl)
theorem w_astq (C : Cx p s m args meth c G A own cc nL ret) {a n v ci : Nat} {f : Nat → Option Nat} {i : Int32} {cA : ClassId} {r : vw_C} {vs : List Value} {ws2 : va_W} (q0 t0 qk : Nat) (ht : (tyl G)[t0]? = some (cA, .object r.1)) (ha : ws[q0]? = some (a, .inl (cA, n, .inr (.inr (.inr (.inr f)))))) (hv : ws[qk]? = some (v, .inr (ci, vs))) (hc : vwCl[ci]? = some r) (hin : vp_in i n) (hws : ws.set q0 (a, .inl (cA, n, .inr (.inr (.inr (.inr (va_up f i.toNatClampNeg (some v))))))) = ws2) (hdg : decode cc pc = .ok (.aastore, 1)) (kk : Wd p l e R s m args below meth c G A nL cells slots Q ws2 lv (pc + 1) st) : Wd p l e R s m args below meth c G A nL cells slots Q ws lv pc (.ref v :: .int i :: .ref a :: st) := fun H locs ls hP hD hS hl => va_astq C.1 C.2.1 C.2.2.2.2.2.2.2.1.1 hP hD hS q0 t0 qk ci ha ht hv hc hin hdg (fun H1 locs1 hP1 hD1 hS1 => kk H1 locs1 ls (hws ▸ hP1) (hws ▸ hD1) hS1 hl)
end
/-- a listing's cells -/
def lwd (G : GG) (b a L : Nat) (f : Nat → Int32) (sz : Int32) : va_W := [(b, .inr (1, [.ref a, .int sz])), (a, .inl (G.2 0, L, .inl f))]
section
variable {p : Program} {l : Launch} {e : Env} {s : State} {m : MethodId} {args : Array Value} {below : List Frame} {meth : Method} {c : Code} {G : GG} {A : Nat → Prop}
abbrev rm_X2_init : Room := { frames := 1, cells := 0, slots := 0, locals := 12 }
theorem pk_X2_init : PkI yX2_init cX2_init 1 0 := ⟨rfl, co_X2_init, ini_RX2, im_X2_init, by decide +kernel⟩
theorem c_X2_init {b : Nat} : Ct l yX2_init cX2_init 1 none G rm_X2_init [.ref b] [rcw b 0 0 0 0 0] (fun o w => o = none ∧ w = [rcw b 0 0 0 0 0]) 0 0 := Ct.of (by decide) (Nat.le_of_ble_eq_true rfl) (fun p e s m args below meth c A C _ => by
  show Wd p l e rm_X2_init s m args below meth c G A 1 0 0 _ _ [(0, .ref b)] 0 []
  refine w_aload_n C 0 rfl dX2_init_0 ?_
  refine w_objInit C ml_X2_3 (Nat.le_of_ble_eq_true rfl) (Nat.le_of_ble_eq_true rfl) dX2_init_1 ?_
  exact w_vret C ⟨rfl, rfl⟩ dX2_init_4)
abbrev rm_X1_init : Room := { frames := 1, cells := 1, slots := 8, locals := 12 }
theorem pk_X1_init : PkI yX1_init cX1_init 1 0 := ⟨rfl, co_X1_init, ini_RX1, im_X1_init, by decide +kernel⟩
theorem c_X1_init {b : Nat} : Ct l yX1_init cX1_init 1 none G rm_X1_init [.ref b] [(b, .inr (1, [.null, .int 0]))] (fun o w => o = none ∧ ∃ a : Nat, w = lwd G b a 8 (fun _ => 0) 0) 1 8 := Ct.of (by decide) (Nat.le_of_ble_eq_true rfl) (fun p e s m args below meth c A C _ => by
  show Wd p l e rm_X1_init s m args below meth c G A 1 0 0 _ _ [(0, .ref b)] 0 []
  refine w_aload_n C 0 rfl dX1_init_0 ?_
  refine w_objInit C ml_X1_1 (Nat.le_of_ble_eq_true rfl) (Nat.le_of_ble_eq_true rfl) dX1_init_1 ?_
  refine w_aload_n C 0 rfl dX1_init_4 ?_
  refine w_bipush (v := 8) C dX1_init_5 (by decide) ?_
  refine w_newa (N' := 8) C (by decide) (by decide) (by decide) (Nat.le_of_ble_eq_true rfl) (Nat.le_of_ble_eq_true rfl) dX1_init_7 (fun a => ?_)
  refine w_put (ws2 := lwd G b a 8 (fun _ => 0) 0) C 0 rfl rfl inX1 tyX1 tyX1_ok nmX1 0 (by decide) fl_X1_9 rfl rfl rfl rfl rfl (Nat.le_of_ble_eq_true rfl) rfl dX1_init_9 ?_
  exact w_vret C ⟨rfl, a, rfl⟩ dX1_init_12)
abbrev rm_J7_copyOf (k : Nat) : Room := { frames := 1, cells := 1, slots := k, locals := 40 }
theorem pk_J7_copyOf : PkS yJ7_copyOf_59c91 cJ7_copyOf_59c91 3 (some (.array .int)) 2 := ⟨co_J7_copyOf_59c91, ini_RJ7, st_J7_copyOf_59c91, by decide +kernel⟩
theorem c_J7_copyOf {a L k : Nat} {f : Nat → Int32} (hL : L < k) (hk : k < 2 ^ 27) : Ct l yJ7_copyOf_59c91 cJ7_copyOf_59c91 3 (some (.array .int)) G (rm_J7_copyOf k) [.ref a, .int (nI k)] [(a, .inl (G.2 0, L, .inl f))] (fun o w => ∃ q : Nat, o = some (.ref q) ∧ w = [(a, .inl (G.2 0, L, .inl f)), (q, .inl (G.2 0, k, .inl (va_cpy f (fun _ => 0) 0 0 L)))]) 1 k := Ct.of (by decide) (Nat.le_of_ble_eq_true rfl) (fun p e s m args below meth c A C _ => by
  show Wd p l e (rm_J7_copyOf k) s m args below meth c G A 3 0 0 _ _ [(0, .ref a), (1, .int (nI k))] 0 []
  have hk31 : k < 2 ^ 31 := Nat.lt_trans hk (by decide)
  have hL31 : L < 2 ^ 31 := Nat.lt_trans hL hk31
  refine w_iload_n C 1 rfl dJ7_copyOf_59c91_0 ?_
  refine w_aload_n C 0 rfl dJ7_copyOf_59c91_1 ?_
  refine w_alen C 0 rfl (v := nI L) rfl dJ7_copyOf_59c91_2 ?_
  refine w_icmp_ne (tgt := 14) C dJ7_copyOf_59c91_3 (by decide) (fun _ => ?_) (fun hb => absurd ((nI_eq hk31 hL31).mp hb) (by omega))
  refine w_iload_n C 1 rfl dJ7_copyOf_59c91_14 ?_
  refine w_newa (N' := k) C (nI_pos hk31) (nI_clamp hk31) (by omega) (Nat.le_of_ble_eq_true rfl) (by show 0 + k ≤ k; omega) dJ7_copyOf_59c91_15 (fun q => ?_)
  refine w_astore_n C (Nat.le_of_ble_eq_true rfl) rfl dJ7_copyOf_59c91_17 ?_
  refine w_aload_n C 1 rfl dJ7_copyOf_59c91_18 ?_
  refine w_iconst (v := 0) C dJ7_copyOf_59c91_19 (by decide) ?_
  refine w_aload_n C 0 rfl dJ7_copyOf_59c91_20 ?_
  refine w_iconst (v := 0) C dJ7_copyOf_59c91_21 (by decide) ?_
  refine w_aload_n C 1 rfl dJ7_copyOf_59c91_22 ?_
  refine w_alen C 0 rfl (v := nI L) rfl dJ7_copyOf_59c91_23 ?_
  refine w_iload_n C 2 rfl dJ7_copyOf_59c91_24 ?_
  refine w_mmin C ml_J7_304 (Nat.le_of_ble_eq_true rfl) (Nat.le_of_ble_eq_true rfl) (Nat.le_of_ble_eq_true rfl) (by show 0 + k ≤ k; omega) dJ7_copyOf_59c91_25 ?_
  rw [if_neg (nI_nlt (Nat.le_of_lt hL) hk31)]
  refine w_copyi (ws2 := [(a, .inl (G.2 0, L, .inl f)), (q, .inl (G.2 0, k, .inl (va_cpy f (fun _ => 0) 0 0 L)))]) C ml_J7_150 0 1 rfl rfl (by decide) (by decide) (nI_pos hL31) (by rw [nI_clamp hL31]; show 0 + L ≤ L; omega) (by rw [nI_clamp hL31]; show 0 + L ≤ k; omega) (Nat.le_of_ble_eq_true rfl) (Nat.le_of_ble_eq_true rfl) (by rw [nI_clamp hL31]; rfl) dJ7_copyOf_59c91_28 ?_
  refine w_aload_n C 0 rfl dJ7_copyOf_59c91_31 ?_
  refine w_widen (k := 1) (n := k) (Nat.le_of_ble_eq_true rfl) (by omega) ?_
  exact w_aret C (Or.inr ⟨_, rfl⟩) ⟨q, rfl, rfl⟩ dJ7_copyOf_59c91_32)
abbrev rm_X1_append (k : Nat) : Room := { frames := 2, cells := if k = 0 then 0 else 1, slots := k, locals := 62 }
theorem pk_X1_append : PkV RX1 yX1_append cX1_append 2 none 1 := ⟨rfl, co_X1_append, ini_RX1, im_X1_append, se_X1_append, by decide +kernel⟩
theorem w_app_end {mc ms : Nat} {R : Room} {b a L k : Nat} {f : Nat → Int32} {v : Int32} {Po : Option Value → va_W → Prop} (C : Cx p s m args meth c G A RX1 cX1_append 2 none) (hk : k < L) (hL : L < 2 ^ 31) (hq : Po none (lwd G b a L (upd f k v) (nI (k + 1)))) : Wd p l e R s m args below meth c G A 2 mc ms (QQ G A Po below args s mc ms) (lwd G b a L f (nI k)) [(0, .ref b), (1, .int v)] 29 [] := by
  refine w_aload_n C 0 rfl dX1_append_29 ?_
  refine w_get (v := .ref a) C 0 rfl rfl inX1 0 (by decide) fl_X1_9 rfl rfl dX1_append_30 ?_
  refine w_aload_n C 0 rfl dX1_append_33 ?_
  refine w_get (v := .int (nI k)) C 0 rfl rfl inX1 1 (by decide) fl_X1_13 rfl rfl dX1_append_34 ?_
  refine w_iload_n C 1 rfl dX1_append_37 ?_
  refine w_iast (ws2 := lwd G b a L (upd f k v) (nI k)) C 1 rfl (vp_in_nI hk hL) (by rw [nI_clamp (Nat.lt_trans hk hL)]; rfl) dX1_append_38 ?_
  refine w_aload_n C 0 rfl dX1_append_39 ?_
  refine w_dup C dX1_append_40 rfl ?_
  refine w_get (v := .int (nI k)) C 0 rfl rfl inX1 1 (by decide) fl_X1_13 rfl rfl dX1_append_41 ?_
  refine w_iconst (v := 1) C dX1_append_44 (by decide) ?_
  refine w_iadd C dX1_append_45 ?_
  rw [nI_1]
  refine w_put (ws2 := lwd G b a L (upd f k v) (nI (k + 1))) C 0 rfl rfl inX1 tyX1 tyX1_ok nmX1 1 (by decide) fl_X1_13 rfl rfl rfl rfl rfl (Nat.le_of_ble_eq_true rfl) rfl dX1_append_46 ?_
  exact w_vret C hq dX1_append_49
/-- there is room left in the row -/
theorem c_X1_append_A {b a L k : Nat} {f : Nat → Int32} {v : Int32} (hk : k < L) (hL : L < 2 ^ 31) : Ct l yX1_append cX1_append 2 none G (rm_X1_append 0) [.ref b, .int v] (lwd G b a L f (nI k)) (fun o w => o = none ∧ w = lwd G b a L (upd f k v) (nI (k + 1))) 0 0 := Ct.of (by decide) (Nat.le_of_ble_eq_true rfl) (fun p e s m args below meth c A C _ => by
  show Wd p l e (rm_X1_append 0) s m args below meth c G A 2 0 0 _ _ [(0, .ref b), (1, .int v)] 0 []
  refine w_aload_n C 0 rfl dX1_append_0 ?_
  refine w_get (v := .int (nI k)) C 0 rfl rfl inX1 1 (by decide) fl_X1_13 rfl rfl dX1_append_1 ?_
  refine w_aload_n C 0 rfl dX1_append_4 ?_
  refine w_get (v := .ref a) C 0 rfl rfl inX1 0 (by decide) fl_X1_9 rfl rfl dX1_append_5 ?_
  refine w_alen C 1 rfl (v := nI L) rfl dX1_append_8 ?_
  refine w_icmp_ne (tgt := 29) C dX1_append_9 (by decide) (fun _ => ?_) (fun hb => absurd ((nI_eq (Nat.lt_trans hk hL) hL).mp hb) (by omega))
  exact w_app_end C hk hL ⟨rfl, rfl⟩)
/-- the row is full: a new one, twice as long -/
theorem c_X1_append_B {b a L : Nat} {f : Nat → Int32} {v : Int32} (h0 : 0 < L) (hL : L < 2 ^ 26) : Ct l yX1_append cX1_append 2 none G (rm_X1_append (2 * L)) [.ref b, .int v] (lwd G b a L f (nI L)) (fun o w => o = none ∧ ∃ a2 : Nat, w = lwd G b a2 (2 * L) (upd (va_cpy f (fun _ => 0) 0 0 L) L v) (nI (L + 1))) 1 (2 * L) := Ct.of (by decide) (Nat.le_of_ble_eq_true rfl) (fun p e s m args below meth c A C _ => by
  show Wd p l e (rm_X1_append (2 * L)) s m args below meth c G A 2 0 0 _ _ [(0, .ref b), (1, .int v)] 0 []
  have hcell : (rm_X1_append (2 * L)).cells = 1 := if_neg (by omega)
  refine w_aload_n C 0 rfl dX1_append_0 ?_
  refine w_get (v := .int (nI L)) C 0 rfl rfl inX1 1 (by decide) fl_X1_13 rfl rfl dX1_append_1 ?_
  refine w_aload_n C 0 rfl dX1_append_4 ?_
  refine w_get (v := .ref a) C 0 rfl rfl inX1 0 (by decide) fl_X1_9 rfl rfl dX1_append_5 ?_
  refine w_alen C 1 rfl (v := nI L) rfl dX1_append_8 ?_
  refine w_icmp_ne (tgt := 29) C dX1_append_9 (by decide) (fun hb => absurd rfl hb) (fun _ => ?_)
  refine w_aload_n C 0 rfl dX1_append_12 ?_
  refine w_aload_n C 0 rfl dX1_append_13 ?_
  refine w_get (v := .ref a) C 0 rfl rfl inX1 0 (by decide) fl_X1_9 rfl rfl dX1_append_14 ?_
  refine w_iconst (v := 2) C dX1_append_17 (by decide) ?_
  refine w_aload_n C 0 rfl dX1_append_18 ?_
  refine w_get (v := .int (nI L)) C 0 rfl rfl inX1 1 (by decide) fl_X1_13 rfl rfl dX1_append_19 ?_
  refine w_imul C dX1_append_22 ?_
  have e2 : (2 : Int32) * nI L = nI (2 * L) := pk_mul 2 L
  rw [e2]
  refine w_callS (wr := [(b, .inr (1, [.ref a, .int (nI L)]))]) C (c_J7_copyOf (a := a) (L := L) (k := 2 * L) (f := f) (by omega) (by omega)) pk_J7_copyOf ml_X1_17 (As := [.ref a, .int (nI (2 * L))]) (rest := [.ref b]) ⟨⟨rfl, rfl⟩, (Nat.le_of_ble_eq_true rfl), (Nat.le_of_ble_eq_true rfl)⟩ rfl ⟨by rw [hcell]; exact (Nat.le_of_ble_eq_true rfl), by show 0 + 2 * L ≤ 2 * L; omega⟩ (Nat.le_of_ble_eq_true rfl) rfl dX1_append_23 (fun o w1 h => ?_)
  obtain ⟨q, rfl, rfl⟩ := h
  refine w_put (ws2 := [(b, .inr (1, [.ref q, .int (nI L)])), (a, .inl (G.2 0, L, .inl f)), (q, .inl (G.2 0, 2 * L, .inl (va_cpy f (fun _ => 0) 0 0 L)))]) C 0 rfl rfl inX1 tyX1 tyX1_ok nmX1 0 (by decide) fl_X1_9 rfl rfl rfl rfl rfl (Nat.le_of_ble_eq_true rfl) rfl dX1_append_26 ?_
  refine w_sub (ws2 := lwd G b q (2 * L) (va_cpy f (fun _ => 0) 0 0 L) (nI L)) ((List.Sublist.refl _).cons _ |>.cons₂ _) ?_
  refine w_widen (k := 1) (n := 2 * L) (Nat.le_of_ble_eq_true rfl) (by omega) ?_
  exact w_app_end C (by omega) (by omega) ⟨rfl, q, rfl⟩)
end
