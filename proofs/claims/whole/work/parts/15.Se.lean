section
variable {p : Program} {l : Launch} {e : Env} {s : State} {m : MethodId} {args : Array Value} {below : List Frame} {meth : Method} {c : Code} {G : GG} {A : Nat → Prop}
abbrev rm_X4_init : Room := { frames := 2, cells := 6, slots := 616, locals := 49 }
theorem pk_X4_init : PkI yX4_init cX4_init 1 0 := ⟨rfl, co_X4_init, ini_RX4, im_X4_init, by decide +kernel⟩
set_option maxRecDepth 20000 in
set_option maxHeartbeats 4000000 in
theorem c_X4_init {fu b : Nat} {r : Int32 × Int32 × (Nat → Int32) × (Nat → Int32) × (Nat → Int32) × (Nat → Int32)} (h : X4_begins fu 0 0 (fun _ => 0) (fun _ => 0) (fun _ => 0) (fun _ => 0) 5 = some r) : Ct l yX4_init cX4_init 1 none G rm_X4_init [.ref b] [(b, .inr (4, [.int 0, .long 0, .int 0, .int 0, .null, .null, .null, .null, .null, .null]))] (fun o w => o = none ∧ ∃ ma : Nat → Nat, ma 0 = b ∧ w = mw G ma 0 0 r.1 r.2.1 r.2.2.1 r.2.2.2.1 r.2.2.2.2.1 (fun _ => 0) (fun _ => 0) r.2.2.2.2.2) 6 616 := Ct.of (by decide) (Nat.le_of_ble_eq_true rfl) (fun p e s m args below meth c A C hini => by
  show Wd p l e rm_X4_init s m args below meth c G A 1 0 0 _ _ [(0, .ref b)] 0 []
  refine w_aload_n C 0 rfl dX4_init_0 ?_
  refine w_objInit C ml_X4_1 (Nat.le_of_ble_eq_true rfl) (Nat.le_of_ble_eq_true rfl) dX4_init_1 ?_
  refine w_aload_n C 0 rfl dX4_init_4 ?_
  refine w_sipush (v := 256) C dX4_init_5 (by decide) ?_
  refine w_newa (N' := 256) C (by decide) (by decide) (by decide) (Nat.le_of_ble_eq_true rfl) (Nat.le_of_ble_eq_true rfl) dX4_init_8 (fun a1 => ?_)
  refine w_putF (ws2 := [(b, .inr (4, [.int 0, .long 0, .int 0, .int 0, .ref a1, .null, .null, .null, .null, .null])), (a1, .inl (G.2 0, 256, .inl (fun _ => 0)))]) C hini 0 rfl rfl inX4 tyX4 tyX4_ok nmX4 4 (by decide) fl_X4_7 rfl rfl rfl rfl rfl rfl (Nat.le_of_ble_eq_true rfl) rfl dX4_init_10 ?_
  refine w_aload_n C 0 rfl dX4_init_13 ?_
  refine w_sipush (v := 256) C dX4_init_14 (by decide) ?_
  refine w_newa (N' := 256) C (by decide) (by decide) (by decide) (Nat.le_of_ble_eq_true rfl) (Nat.le_of_ble_eq_true rfl) dX4_init_17 (fun a2 => ?_)
  refine w_putF (ws2 := [(b, .inr (4, [.int 0, .long 0, .int 0, .int 0, .ref a1, .ref a2, .null, .null, .null, .null])), (a1, .inl (G.2 0, 256, .inl (fun _ => 0))), (a2, .inl (G.2 0, 256, .inl (fun _ => 0)))]) C hini 0 rfl rfl inX4 tyX4 tyX4_ok nmX4 5 (by decide) fl_X4_13 rfl rfl rfl rfl rfl rfl (Nat.le_of_ble_eq_true rfl) rfl dX4_init_19 ?_
  refine w_aload_n C 0 rfl dX4_init_22 ?_
  refine w_bipush (v := 64) C dX4_init_23 (by decide) ?_
  refine w_newa (N' := 64) C (by decide) (by decide) (by decide) (Nat.le_of_ble_eq_true rfl) (Nat.le_of_ble_eq_true rfl) dX4_init_25 (fun a3 => ?_)
  refine w_putF (ws2 := [(b, .inr (4, [.int 0, .long 0, .int 0, .int 0, .ref a1, .ref a2, .ref a3, .null, .null, .null])), (a1, .inl (G.2 0, 256, .inl (fun _ => 0))), (a2, .inl (G.2 0, 256, .inl (fun _ => 0))), (a3, .inl (G.2 0, 64, .inl (fun _ => 0)))]) C hini 0 rfl rfl inX4 tyX4 tyX4_ok nmX4 6 (by decide) fl_X4_16 rfl rfl rfl rfl rfl rfl (Nat.le_of_ble_eq_true rfl) rfl dX4_init_27 ?_
  refine w_aload_n C 0 rfl dX4_init_30 ?_
  refine w_bipush (v := 16) C dX4_init_31 (by decide) ?_
  refine w_newa (N' := 16) C (by decide) (by decide) (by decide) (Nat.le_of_ble_eq_true rfl) (Nat.le_of_ble_eq_true rfl) dX4_init_33 (fun a4 => ?_)
  refine w_putF (ws2 := [(b, .inr (4, [.int 0, .long 0, .int 0, .int 0, .ref a1, .ref a2, .ref a3, .ref a4, .null, .null])), (a1, .inl (G.2 0, 256, .inl (fun _ => 0))), (a2, .inl (G.2 0, 256, .inl (fun _ => 0))), (a3, .inl (G.2 0, 64, .inl (fun _ => 0))), (a4, .inl (G.2 0, 16, .inl (fun _ => 0)))]) C hini 0 rfl rfl inX4 tyX4 tyX4_ok nmX4 7 (by decide) fl_X4_19 rfl rfl rfl rfl rfl rfl (Nat.le_of_ble_eq_true rfl) rfl dX4_init_35 ?_
  refine w_aload_n C 0 rfl dX4_init_38 ?_
  refine w_bipush (v := 16) C dX4_init_39 (by decide) ?_
  refine w_newa (N' := 16) C (by decide) (by decide) (by decide) (Nat.le_of_ble_eq_true rfl) (Nat.le_of_ble_eq_true rfl) dX4_init_41 (fun a5 => ?_)
  refine w_putF (ws2 := [(b, .inr (4, [.int 0, .long 0, .int 0, .int 0, .ref a1, .ref a2, .ref a3, .ref a4, .ref a5, .null])), (a1, .inl (G.2 0, 256, .inl (fun _ => 0))), (a2, .inl (G.2 0, 256, .inl (fun _ => 0))), (a3, .inl (G.2 0, 64, .inl (fun _ => 0))), (a4, .inl (G.2 0, 16, .inl (fun _ => 0))), (a5, .inl (G.2 0, 16, .inl (fun _ => 0)))]) C hini 0 rfl rfl inX4 tyX4 tyX4_ok nmX4 8 (by decide) fl_X4_22 rfl rfl rfl rfl rfl rfl (Nat.le_of_ble_eq_true rfl) rfl dX4_init_43 ?_
  refine w_aload_n C 0 rfl dX4_init_46 ?_
  refine w_bipush (v := 8) C dX4_init_47 (by decide) ?_
  refine w_newa (N' := 8) C (by decide) (by decide) (by decide) (Nat.le_of_ble_eq_true rfl) (Nat.le_of_ble_eq_true rfl) dX4_init_49 (fun a6 => ?_)
  refine w_putF (ws2 := [(b, .inr (4, [.int 0, .long 0, .int 0, .int 0, .ref a1, .ref a2, .ref a3, .ref a4, .ref a5, .ref a6])), (a1, .inl (G.2 0, 256, .inl (fun _ => 0))), (a2, .inl (G.2 0, 256, .inl (fun _ => 0))), (a3, .inl (G.2 0, 64, .inl (fun _ => 0))), (a4, .inl (G.2 0, 16, .inl (fun _ => 0))), (a5, .inl (G.2 0, 16, .inl (fun _ => 0))), (a6, .inl (G.2 0, 8, .inl (fun _ => 0)))]) C hini 0 rfl rfl inX4 tyX4 tyX4_ok nmX4 9 (by decide) fl_X4_25 rfl rfl rfl rfl rfl rfl (Nat.le_of_ble_eq_true rfl) rfl dX4_init_51 ?_
  obtain ⟨ma, hma⟩ : ∃ ma : Nat → Nat, ma = fun i => [b, a1, a2, a3, a4, a5, a6].getD i 0 := ⟨_, rfl⟩
  refine w_eqs (ws2 := mw G ma 0 0 0 0 (fun _ => 0) (fun _ => 0) (fun _ => 0) (fun _ => 0) (fun _ => 0) (fun _ => 0)) (by subst hma; rfl) ?_
  have hb0 : b = ma 0 := by subst hma; rfl
  rw [hb0]
  refine w_aload_n C 0 rfl dX4_init_54 ?_
  refine w_iconst (v := 5) C dX4_init_55 (by decide) ?_
  refine w_cVv (wr := []) (qc := (RX4, TX4, 10)) C (c_X4_begins fu h) pk_X4_begins ml_X4_28 (As := [.int 5]) (rest := []) (k9 := 0) rfl rfl ⟨⟨rfl, rfl⟩, (Nat.le_of_ble_eq_true rfl), (Nat.le_of_ble_eq_true rfl)⟩ rfl ⟨(Nat.le_of_ble_eq_true rfl), (Nat.le_of_ble_eq_true rfl)⟩ (Nat.le_of_ble_eq_true rfl) rfl rfl (List.nil_append _) dX4_init_56 ?_
  exact w_vret C ⟨rfl, ma, rfl, rfl⟩ dX4_init_59)
theorem mna_outer (c : ClassId) (N h0 : Nat) : ∀ i : Nat, Jvm.Free.Multi.outerC c N h0 i = arrV c N (fun j => va_rf (if j < i then some (h0 + 1 + j) else none))
  | 0 => by
    show ({ cls := c, slots := Array.replicate N .null, vm := .none } : Cell) = _
    rw [arrV_new]
    refine congrArg (arrV c N) (funext fun j => ?_)
    simp [va_rf]
  | i + 1 => by
    show (Jvm.Free.Multi.outerC c N h0 i).setSlot i (.ref (h0 + 1 + i)) = _
    rw [mna_outer c N h0 i, arrV_store]
    refine congrArg (arrV c N) (funext fun j => ?_)
    by_cases e : j = i
    · subst e
      simp [updV, va_rf]
    · by_cases h : j < i
      · simp [updV, e, h, Nat.lt_succ_of_lt h]
      · simp [updV, e, h, show ¬ j < i + 1 by omega]
theorem mna_inner (c : ClassId) : Jvm.Free.Multi.innerC c 16 (defaultValue .int) = vp_cell c (16, .inl (fun _ => 0)) := by
  rw [vp_cell_i]
  show ({ cls := c, slots := Array.replicate 16 (.int 0), vm := .none } : Cell) = _
  rw [arrV_new]
/-- new int[4][16] -/
theorem w_mna {R : Room} {own : String} {cc : ByteArray} {nL cells slots : Nat} {ret : Option FieldType} {Q : State → Prop} {ws : va_W} {lv : List (Nat × Value)} {pc : Nat} {st : List Value} (C : Cx p s m args meth c G A own cc nL ret) {index : Nat} (hcl : Cond.classLink own index "[[I" ∈ WA) (hcells : cells + 5 ≤ R.cells) (hslots : slots + 68 ≤ R.slots) (hdg : decode cc pc = .ok (.multianewarray index 2, 4)) (kk : ∀ q : Nat, Wd p l e R s m args below meth c G A nL (cells + 5) (slots + 68) Q (ws ++ [(q, .inl (G.2 3, 4, .inr (.inr (.inr (.inr (fun i => if i < 4 then some (q + 1 + i) else none)))))), (q + 1 + 0, .inl (G.2 0, 16, .inl (fun _ => 0))), (q + 1 + 1, .inl (G.2 0, 16, .inl (fun _ => 0))), (q + 1 + 2, .inl (G.2 0, 16, .inl (fun _ => 0))), (q + 1 + 3, .inl (G.2 0, 16, .inl (fun _ => 0)))]) lv (pc + 4) (.ref q :: st)) : Wd p l e R s m args below meth c G A nL cells slots Q ws lv pc (.int 16 :: .int 4 :: st) := fun H locs ls hP hD hS hl => by
  intro T hT X
  have hK := C.2.2.2.2.2.2.2.1
  obtain ⟨vm₁, cA, comp, -, fA, fC, hO, -, X', step⟩ := X.multianewarray2F (ty := .int) C.1 C.2.2.2.2.2.1 (C.2.2.2.2.2.2.1 _ hcl) (va_AOA.use hK.2.2.2.1) (C.2.2.2.2.2.2.1 _ ac_int) (g := F0 m pc ls (.int 16 :: .int 4 :: st)) rfl (by rw [C.2.1]; exact hdg) rfl (by decide) (by decide) (by decide) (by decide) (by decide) rfl rfl (by show cells + (1 + 4) ≤ R.cells; omega) (by show slots + (4 + 4 * 16) ≤ R.slots; omega)
  have h2 : s.vm.findClass ("[" ++ FieldType.int.toString) = some (G.2 0) := (hK.1.2 0 _ rfl).2
  have h3 : s.vm.findClass ("[" ++ (FieldType.array .int).toString) = some (G.2 3) := (hK.1.2 3 _ rfl).2
  have e1 : comp = G.2 0 := Option.some.inj (fC.symm.trans h2)
  have e2 : cA = G.2 3 := Option.some.inj (fA.symm.trans h3)
  subst e1
  subst e2
  change Stand p l e R s m args below meth c (Jvm.Free.Multi.fill (T.setVm vm₁) (G.2 3) (G.2 0) 4 16 (defaultValue .int) 4) locs (cells + 1 + 4) (slots + 4 + 4 * 16) at X'
  change ∀ target, Steps p.tables e below ((Jvm.Free.Multi.fill (T.setVm vm₁) (G.2 3) (G.2 0) 4 16 (defaultValue .int) 4).setTop (F0 m (pc + 4) ls (.ref T.heap.size :: st))) target → Steps p.tables e below (T.setTop (F0 m pc ls (.int 16 :: .int 4 :: st))) target at step
  generalize hF : Jvm.Free.Multi.fill (T.setVm vm₁) (G.2 3) (G.2 0) 4 16 (defaultValue .int) 4 = F at X' step
  have hTh : (T.setVm vm₁).heap = H := hT
  obtain ⟨f1, f2, -, -⟩ := Jvm.Free.Multi.fill_facts (T.setVm vm₁) (G.2 3) (G.2 0) 4 16 (defaultValue .int) 4
  rw [hF, hTh] at f1 f2
  have hold : ∀ x : Nat, x < H.size → F.heap[x]? = H[x]? := fun x hx => by
    have := Jvm.Free.Multi.fill_old (T.setVm vm₁) (G.2 3) (G.2 0) 4 16 (defaultValue .int) (a := x) (by rw [hTh]; exact hx) 4
    rw [hF, hTh] at this
    exact this
  have hrow : ∀ j : Nat, j < 4 → F.heap[H.size + 1 + j]? = some (vp_cell (G.2 0) (16, .inl (fun _ => 0))) := fun j hj => by
    have := Jvm.Free.Multi.fill_inner (T.setVm vm₁) (G.2 3) (G.2 0) 4 16 (defaultValue .int) 4 j hj
    rw [hF, hTh, mna_inner] at this
    exact this
  rw [mna_outer] at f2
  have hTs : T.heap.size = H.size := by rw [hT]
  rw [hTs] at step
  have hP0 : va_P G.1 vwCl ws F.heap := hP.kept (fun k9 x hx => hold x.1 ((hP k9 x hx).lt))
  have hP1 : va_P G.1 vwCl (ws ++ [(H.size, .inl (G.2 3, 4, .inr (.inr (.inr (.inr (fun i => if i < 4 then some (H.size + 1 + i) else none)))))), (H.size + 1 + 0, .inl (G.2 0, 16, .inl (fun _ => 0))), (H.size + 1 + 1, .inl (G.2 0, 16, .inl (fun _ => 0))), (H.size + 1 + 2, .inl (G.2 0, 16, .inl (fun _ => 0))), (H.size + 1 + 3, .inl (G.2 0, 16, .inl (fun _ => 0)))]) F.heap := hP0.app (vP_iff.mpr fun x hx => by
    simp only [List.mem_cons, List.not_mem_nil, or_false] at hx
    rcases hx with rfl | rfl | rfl | rfl | rfl
    · exact f2
    · exact hrow 0 (by decide)
    · exact hrow 1 (by decide)
    · exact hrow 2 (by decide)
    · exact hrow 3 (by decide))
  have hAl := C.2.2.2.2.2.2.2.2
  have hD1 : va_D A (ws ++ [(H.size, .inl (G.2 3, 4, .inr (.inr (.inr (.inr (fun i => if i < 4 then some (H.size + 1 + i) else none)))))), (H.size + 1 + 0, .inl (G.2 0, 16, .inl (fun _ => 0))), (H.size + 1 + 1, .inl (G.2 0, 16, .inl (fun _ => 0))), (H.size + 1 + 2, .inl (G.2 0, 16, .inl (fun _ => 0))), (H.size + 1 + 3, .inl (G.2 0, 16, .inl (fun _ => 0)))]) := by
    refine va_D.app hD (vD_iff.mpr ⟨?_, fun x hx => ?_⟩) (fun i j x y hx hy hxy => ?_)
    · show [H.size, H.size + 1 + 0, H.size + 1 + 1, H.size + 1 + 2, H.size + 1 + 3].Nodup
      simp only [List.nodup_cons, List.mem_cons, List.not_mem_nil, or_false, not_or, not_false_eq_true, List.nodup_nil, and_true]
      omega
    · have hb : H.size ≤ x.1 := by
        simp only [List.mem_cons, List.not_mem_nil, or_false] at hx
        rcases hx with rfl | rfl | rfl | rfl | rfl <;> (show H.size ≤ _; omega)
      exact hAl _ (Nat.le_trans hS.1 hb)
    · have h1 : x.1 < H.size := (hP i x hx).lt
      have hm := List.mem_of_getElem? hy
      have hb : H.size ≤ y.1 := by
        simp only [List.mem_cons, List.not_mem_nil, or_false] at hm
        rcases hm with rfl | rfl | rfl | rfl | rfl <;> (show H.size ≤ _; omega)
      omega
  obtain ⟨t, a1, b1⟩ := kk H.size F.heap locs ls hP1 hD1 ⟨by rw [f1]; have := hS.1; omega, fun x h1 h2 => (hold x (Nat.lt_of_lt_of_le h1 hS.1)).trans (hS.2.1 x h1 h2), hS.2.2⟩ hl F rfl X'
  exact ⟨t, step t a1, b1⟩
theorem prI (r a f : va_W) : (r ++ (a ++ f)).Perm (a ++ (r ++ f)) := by
  rw [← List.append_assoc, ← List.append_assoc]
  exact (List.perm_append_comm (l₁ := r) (l₂ := a)).append_right f
/-- the class's cells before the first field -/
def xm0 (G : GG) (xa : Nat → Nat) (FA : Nat → Option Nat) (ra : Nat) (RR : Nat → Nat → Int32) : va_W := (xm G xa FA 0 ra 0 0 RR).set 0 (xa 0, .inr (3, [.ref (xa 1), .ref (xa 2), .ref (xa (3 + 4)), .ref (xa (3 + 5)), .ref ra, .null, .int 0, .long 0]))
set_option maxRecDepth 20000 in
set_option maxHeartbeats 4000000 in
theorem c_X3_enter_0 {xa : Nat → Nat} {ra fu : Nat} {RR2 : Nat → Nat → Int32} {pp : Int32} {T0 T1 T2 T3 T4 : Nat → Int32} (hF : Fok fu 5 pp T0 T1 T2 T3 T4) (h : X3_enter_40 fu (nI 5) fu (fun _ _ => 0) 0 = some RR2) : Ct l yX3_enter cX3_enter 4 none G rm_X3_enter [.ref (xa 0), .int 5] (xm0 G xa (fun _ => none) ra (fun _ _ => 0)) (fun o w => o = none ∧ ∃ fa : Nat → Nat, w = xm G xa (va_up (fun _ => none) 5 (some (fa 0))) (fa 0) ra (nI 5) 0 RR2 ++ fw G fa 5 pp (nI 5) T0 T1 T2 T3 T4 (fun _ => 0) (fun _ => none)) 8 821 := Ct.of (by decide) (Nat.le_of_ble_eq_true rfl) (fun p e s m args below meth c A C _ => by
  show Wd p l e rm_X3_enter s m args below meth c G A 4 0 0 _ _ [(0, .ref (xa 0)), (1, .int (nI 5))] 0 []
  have hin : vp_in (nI 5) 17 := vp_in_nI (by decide) (by decide)
  have hc : (nI 5).toNatClampNeg = 5 := nI_clamp (by decide)
  refine w_aload_n C 0 rfl dX3_enter_0 ?_
  refine w_get (v := .ref (xa 1)) C 0 rfl rfl inX3 0 (by decide) fl_X3_11 rfl rfl dX3_enter_1 ?_
  refine w_iload_n C 1 rfl dX3_enter_4 ?_
  refine w_aldq C 1 1 rfl rfl hin dX3_enter_5 ?_
  refine w_ifnonnullN C dX3_enter_6 ?_
  refine w_aload_n C 0 rfl dX3_enter_9 ?_
  refine w_get (v := .ref (xa 1)) C 0 rfl rfl inX3 0 (by decide) fl_X3_11 rfl rfl dX3_enter_10 ?_
  refine w_iload_n C 1 rfl dX3_enter_13 ?_
  refine w_new (ci := 0) (fs := [.int 0, .int 0, .null, .null, .null, .null, .null, .null, .null]) C rfl inX0 tyX0 tyX0_ok cl_X3_9 ins_RX0 ini_RX0 (fun j hj => by rcases (show j = 0 ∨ j = 1 ∨ j = 2 ∨ j = 3 ∨ j = 4 ∨ j = 5 ∨ j = 6 ∨ j = 7 ∨ j = 8 by omega) with rfl | rfl | rfl | rfl | rfl | rfl | rfl | rfl | rfl <;> rfl) (Nat.le_of_ble_eq_true rfl) (Nat.le_of_ble_eq_true rfl) dX3_enter_14 (fun b => ?_)
  refine w_dup C dX3_enter_17 rfl ?_
  refine w_iload_n C 1 rfl dX3_enter_18 ?_
  refine w_callI C (c_X0_init (fu := fu) (b := b) (by decide) (by decide) hF) pk_X0_init ml_X3_188 (As := [.int (nI 5)]) (rest := [.ref b, .int (nI 5), .ref (xa 1)]) ⟨⟨rfl, rfl⟩, (Nat.le_of_ble_eq_true rfl), (Nat.le_of_ble_eq_true rfl)⟩ rfl ⟨(Nat.le_of_ble_eq_true rfl), (Nat.le_of_ble_eq_true rfl)⟩ (Nat.le_of_ble_eq_true rfl) rfl dX3_enter_19 (fun o w1 h9 => ?_)
  obtain ⟨rfl, fa, rfl, rfl⟩ := h9
  refine w_astq (ws2 := xm0 G xa (va_up (fun _ => none) 5 (some (fa 0))) ra (fun _ _ => 0) ++ fw G fa 5 pp (nI 5) T0 T1 T2 T3 T4 (fun _ => 0) (fun _ => none)) (r := (RX0, TX0, 9)) C 1 1 9 rfl rfl rfl rfl hin (by rw [hc]; rfl) dX3_enter_22 ?_
  refine w_aload_n C 0 rfl dX3_enter_23 ?_
  refine w_aload_n C 0 rfl dX3_enter_24 ?_
  refine w_get (v := .ref (xa 1)) C 0 rfl rfl inX3 0 (by decide) fl_X3_11 rfl rfl dX3_enter_25 ?_
  refine w_iload_n C 1 rfl dX3_enter_28 ?_
  refine w_aldq C 1 1 rfl rfl hin dX3_enter_29 ?_
  rw [hc, show va_up (fun _ => none) 5 (some (fa 0)) 5 = some (fa 0) from if_pos rfl]
  refine w_put (v := .ref (fa 0)) (ws2 := xm G xa (va_up (fun _ => none) 5 (some (fa 0))) (fa 0) ra 0 0 (fun _ _ => 0) ++ fw G fa 5 pp (nI 5) T0 T1 T2 T3 T4 (fun _ => 0) (fun _ => none)) C 0 rfl rfl inX3 tyX3 tyX3_ok nmX3 5 (by decide) fl_X3_49 rfl rfl rfl rfl rfl (Nat.le_of_ble_eq_true rfl) rfl dX3_enter_30 ?_
  refine w_aload_n C 0 rfl dX3_enter_33 ?_
  refine w_iload_n C 1 rfl dX3_enter_34 ?_
  refine pt_X3_42 C dX3_enter_35 ?_
  refine w_iconst (v := 0) C dX3_enter_38 (by decide) ?_
  refine w_istore_n C (Nat.le_of_ble_eq_true rfl) rfl dX3_enter_39 ?_
  refine w_lv [1, 0] rfl ?_
  exact w_post (fun o w q => by obtain ⟨rfl, rfl⟩ := q; exact ⟨rfl, fa, rfl⟩) (w_X3_enter_40 C _ _ _ h))
abbrev rm_X3_init : Room := { frames := 6, cells := 17, slots := 943, locals := 138 }
theorem pk_X3_init : PkI yX3_init cX3_init 1 0 := ⟨rfl, co_X3_init, ini_RX3, im_X3_init, by decide +kernel⟩
set_option maxRecDepth 20000 in
set_option maxHeartbeats 4000000 in
theorem c_X3_init {fu b : Nat} {RR2 : Nat → Nat → Int32} {pp : Int32} {T0 T1 T2 T3 T4 : Nat → Int32} (hF : Fok fu 5 pp T0 T1 T2 T3 T4) (h : X3_enter_40 fu (nI 5) fu (fun _ _ => 0) 0 = some RR2) : Ct l yX3_init cX3_init 1 none G rm_X3_init [.ref b] [(b, .inr (3, [.null, .null, .null, .null, .null, .null, .int 0, .long 0]))] (fun o w => o = none ∧ ∃ (xa fa : Nat → Nat) (ra : Nat), xa 0 = b ∧ w = xm G xa (va_up (fun _ => none) 5 (some (fa 0))) (fa 0) ra (nI 5) 0 RR2 ++ ([rcw ra 0 0 0 0 0] ++ fw G fa 5 pp (nI 5) T0 T1 T2 T3 T4 (fun _ => 0) (fun _ => none))) 17 943 := Ct.of (by decide) (Nat.le_of_ble_eq_true rfl) (fun p e s m args below meth c A C hini => by
  show Wd p l e rm_X3_init s m args below meth c G A 1 0 0 _ _ [(0, .ref b)] 0 []
  refine w_aload_n C 0 rfl dX3_init_0 ?_
  refine w_objInit C ml_X3_1 (Nat.le_of_ble_eq_true rfl) (Nat.le_of_ble_eq_true rfl) dX3_init_1 ?_
  refine w_aload_n C 0 rfl dX3_init_4 ?_
  refine w_bipush (v := 17) C dX3_init_5 (by decide) ?_
  refine w_newq (t0 := 1) (N' := 17) C rfl C.2.2.2.2.2.2.2.1.2.1 cl_X3_9 (by decide) (by decide) (by decide) (Nat.le_of_ble_eq_true rfl) (Nat.le_of_ble_eq_true rfl) dX3_init_7 (fun x1 => ?_)
  refine w_putF (ws2 := [(b, .inr (3, [.ref x1, .null, .null, .null, .null, .null, .int 0, .long 0])), (x1, .inl (G.2 1, 17, .inr (.inr (.inr (.inr (fun _ => none))))))]) C hini 0 rfl rfl inX3 tyX3 tyX3_ok nmX3 0 (by decide) fl_X3_11 rfl rfl rfl rfl rfl rfl (Nat.le_of_ble_eq_true rfl) rfl dX3_init_10 ?_
  refine w_aload_n C 0 rfl dX3_init_13 ?_
  refine w_iconst (v := 4) C dX3_init_14 (by decide) ?_
  refine w_bipush (v := 16) C dX3_init_15 (by decide) ?_
  refine w_mna C cl_X3_15 (Nat.le_of_ble_eq_true rfl) (Nat.le_of_ble_eq_true rfl) dX3_init_17 (fun q => ?_)
  refine w_putF (ws2 := [(b, .inr (3, [.ref x1, .ref q, .null, .null, .null, .null, .int 0, .long 0])), (x1, .inl (G.2 1, 17, .inr (.inr (.inr (.inr (fun _ => none)))))), (q, .inl (G.2 3, 4, .inr (.inr (.inr (.inr (fun i => if i < 4 then some (q + 1 + i) else none)))))), (q + 1 + 0, .inl (G.2 0, 16, .inl (fun _ => 0))), (q + 1 + 1, .inl (G.2 0, 16, .inl (fun _ => 0))), (q + 1 + 2, .inl (G.2 0, 16, .inl (fun _ => 0))), (q + 1 + 3, .inl (G.2 0, 16, .inl (fun _ => 0)))]) C hini 0 rfl rfl inX3 tyX3 tyX3_ok nmX3 1 (by decide) fl_X3_17 rfl rfl rfl rfl rfl rfl (Nat.le_of_ble_eq_true rfl) rfl dX3_init_21 ?_
  refine w_aload_n C 0 rfl dX3_init_24 ?_
  refine w_bipush (v := 16) C dX3_init_25 (by decide) ?_
  refine w_newa (N' := 16) C (by decide) (by decide) (by decide) (Nat.le_of_ble_eq_true rfl) (Nat.le_of_ble_eq_true rfl) dX3_init_27 (fun x7 => ?_)
  refine w_putF (ws2 := [(b, .inr (3, [.ref x1, .ref q, .ref x7, .null, .null, .null, .int 0, .long 0])), (x1, .inl (G.2 1, 17, .inr (.inr (.inr (.inr (fun _ => none)))))), (q, .inl (G.2 3, 4, .inr (.inr (.inr (.inr (fun i => if i < 4 then some (q + 1 + i) else none)))))), (q + 1 + 0, .inl (G.2 0, 16, .inl (fun _ => 0))), (q + 1 + 1, .inl (G.2 0, 16, .inl (fun _ => 0))), (q + 1 + 2, .inl (G.2 0, 16, .inl (fun _ => 0))), (q + 1 + 3, .inl (G.2 0, 16, .inl (fun _ => 0))), (x7, .inl (G.2 0, 16, .inl (fun _ => 0)))]) C hini 0 rfl rfl inX3 tyX3 tyX3_ok nmX3 2 (by decide) fl_X3_20 rfl rfl rfl rfl rfl rfl (Nat.le_of_ble_eq_true rfl) rfl dX3_init_29 ?_
  refine w_aload_n C 0 rfl dX3_init_32 ?_
  refine w_bipush (v := 16) C dX3_init_33 (by decide) ?_
  refine w_newa (N' := 16) C (by decide) (by decide) (by decide) (Nat.le_of_ble_eq_true rfl) (Nat.le_of_ble_eq_true rfl) dX3_init_35 (fun x8 => ?_)
  refine w_putF (ws2 := [(b, .inr (3, [.ref x1, .ref q, .ref x7, .ref x8, .null, .null, .int 0, .long 0])), (x1, .inl (G.2 1, 17, .inr (.inr (.inr (.inr (fun _ => none)))))), (q, .inl (G.2 3, 4, .inr (.inr (.inr (.inr (fun i => if i < 4 then some (q + 1 + i) else none)))))), (q + 1 + 0, .inl (G.2 0, 16, .inl (fun _ => 0))), (q + 1 + 1, .inl (G.2 0, 16, .inl (fun _ => 0))), (q + 1 + 2, .inl (G.2 0, 16, .inl (fun _ => 0))), (q + 1 + 3, .inl (G.2 0, 16, .inl (fun _ => 0))), (x7, .inl (G.2 0, 16, .inl (fun _ => 0))), (x8, .inl (G.2 0, 16, .inl (fun _ => 0)))]) C hini 0 rfl rfl inX3 tyX3 tyX3_ok nmX3 3 (by decide) fl_X3_24 rfl rfl rfl rfl rfl rfl (Nat.le_of_ble_eq_true rfl) rfl dX3_init_37 ?_
  refine w_aload_n C 0 rfl dX3_init_40 ?_
  refine w_new (ci := 2) (fs := [.int 0, .int 0, .int 0, .int 0, .int 0]) C rfl inX2 tyX2 tyX2_ok cl_X3_27 ins_RX2 ini_RX2 (fun j hj => by rcases (show j = 0 ∨ j = 1 ∨ j = 2 ∨ j = 3 ∨ j = 4 by omega) with rfl | rfl | rfl | rfl | rfl <;> rfl) (Nat.le_of_ble_eq_true rfl) (Nat.le_of_ble_eq_true rfl) dX3_init_41 (fun ra => ?_)
  refine w_dup C dX3_init_44 rfl ?_
  refine w_callIN C (c_X2_init (b := ra)) pk_X2_init C.2.2.2.2.2.2.2.1.2.2.2.2.2 (As := []) (rest := [.ref ra, .ref b]) ⟨⟨rfl, rfl⟩, (Nat.le_of_ble_eq_true rfl), (Nat.le_of_ble_eq_true rfl)⟩ rfl ⟨(Nat.le_of_ble_eq_true rfl), (Nat.le_of_ble_eq_true rfl)⟩ (Nat.le_of_ble_eq_true rfl) rfl dX3_init_45 (fun o w1 h9 => ?_)
  obtain ⟨rfl, rfl⟩ := h9
  refine w_putF (ws2 := [(b, .inr (3, [.ref x1, .ref q, .ref x7, .ref x8, .ref ra, .null, .int 0, .long 0])), (x1, .inl (G.2 1, 17, .inr (.inr (.inr (.inr (fun _ => none)))))), (q, .inl (G.2 3, 4, .inr (.inr (.inr (.inr (fun i => if i < 4 then some (q + 1 + i) else none)))))), (q + 1 + 0, .inl (G.2 0, 16, .inl (fun _ => 0))), (q + 1 + 1, .inl (G.2 0, 16, .inl (fun _ => 0))), (q + 1 + 2, .inl (G.2 0, 16, .inl (fun _ => 0))), (q + 1 + 3, .inl (G.2 0, 16, .inl (fun _ => 0))), (x7, .inl (G.2 0, 16, .inl (fun _ => 0))), (x8, .inl (G.2 0, 16, .inl (fun _ => 0))), rcw ra 0 0 0 0 0]) C hini 0 rfl rfl inX3 tyX3 tyX3_ok nmX3 4 (by decide) fl_X3_30 rfl rfl rfl rfl rfl rfl (Nat.le_of_ble_eq_true rfl) rfl dX3_init_48 ?_
  obtain ⟨xa, hxa⟩ : ∃ xa : Nat → Nat, xa = fun i => if i = 0 then b else if i = 1 then x1 else if i = 2 then q else if i < 7 then q + 1 + (i - 3) else if i = 7 then x7 else x8 := ⟨_, rfl⟩
  have hfun : (fun i => if i < 4 then some (q + 1 + i) else none) = (fun i => if i < 4 then some (xa (3 + i)) else none : Nat → Option Nat) := funext fun i => by
    by_cases hi : i < 4
    · subst hxa
      rw [if_pos hi, if_pos hi]
      show some (q + 1 + i) = some (if 3 + i = 0 then b else if 3 + i = 1 then x1 else if 3 + i = 2 then q else if 3 + i < 7 then q + 1 + (3 + i - 3) else if 3 + i = 7 then x7 else x8)
      rw [if_neg (by omega), if_neg (by omega), if_neg (by omega), if_pos (by omega), show 3 + i - 3 = i by omega]
    · rw [if_neg hi, if_neg hi]
  rw [hfun]
  refine w_eqs (ws2 := xm0 G xa (fun _ => none) ra (fun _ _ => 0) ++ [rcw ra 0 0 0 0 0]) (by subst hxa; rfl) ?_
  have hb0 : b = xa 0 := by subst hxa; rfl
  rw [hb0]
  refine w_aload_n C 0 rfl dX3_init_51 ?_
  refine w_iconst (v := 5) C dX3_init_52 (by decide) ?_
  refine w_perm List.perm_append_comm ?_
  refine w_callV (qc := (RX3, TX3, 8)) C (c_X3_enter_0 (fu := fu) hF h) pk_X3_enter ml_X3_34 (As := [.int 5]) (rest := []) (k9 := 0) (ci := 3) rfl rfl ⟨⟨rfl, rfl⟩, (Nat.le_of_ble_eq_true rfl), (Nat.le_of_ble_eq_true rfl)⟩ rfl ⟨(Nat.le_of_ble_eq_true rfl), (Nat.le_of_ble_eq_true rfl)⟩ (Nat.le_of_ble_eq_true rfl) rfl dX3_init_53 (fun o w1 h9 => ?_)
  obtain ⟨rfl, fa, rfl⟩ := h9
  refine w_perm (ws2 := xm G xa (va_up (fun _ => none) 5 (some (fa 0))) (fa 0) ra (nI 5) 0 RR2 ++ ([rcw ra 0 0 0 0 0] ++ fw G fa 5 pp (nI 5) T0 T1 T2 T3 T4 (fun _ => 0) (fun _ => none))) (prI _ _ _) ?_
  exact w_vret C ⟨rfl, xa, fa, ra, rfl, rfl⟩ dX3_init_56)
end
