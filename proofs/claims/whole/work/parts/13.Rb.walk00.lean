section
variable {p : Program} {l : Launch} {e : Env} {s : State} {m : MethodId} {args : Array Value} {below : List Frame} {meth : Method} {c : Code} {G : GG} {A : Nat → Prop}
abbrev rm_X2_write : Room := { frames := 0, cells := 0, slots := 0, locals := 0 }
theorem pk_X2_write : PkV RX2 yX2_write cX2_write 5 none 4 := ⟨rfl, co_X2_write, ini_RX2, im_X2_write, se_X2_write, by decide +kernel⟩
set_option maxRecDepth 20000 in
set_option maxHeartbeats 4000000 in
theorem w_X2_write {fa : Nat → Nat} {N : Nat} {ra : Nat} {fp : Int32} {fq : Int32} {t0 : Nat → Int32} {t1 : Nat → Int32} {t2 : Nat → Int32} {t3 : Nat → Int32} {t4 : Nat → Int32} {t5 : Nat → Int32} {tL : Nat → Option Nat} {fu : Nat}  {r1 : Int32} {r2 : Int32} {r3 : Int32} {r4 : Int32} {r5 : Int32} {v1 : Int32} {v2 : Int32} {v3 : Int32} {v4 : Int32} {r : Int32 × Int32 × Int32 × Int32 × Int32} (C : Cx p s m args meth c G A RX2 cX2_write 5 none)   (h : X2_write fu N  r1 r2 r3 r4 r5 v1 v2 v3 v4 = some r) : Wd p l e rm_X2_write s m args below meth c G A 5 0 0 (QQ G A (fun o w => o = none ∧ w = ([rcw ra r.1 r.2.1 r.2.2.1 r.2.2.2.1 r.2.2.2.2] ++ (fw G fa N fp fq t0 t1 t2 t3 t4 t5 tL))) below args s 0 0) ([rcw ra r1 r2 r3 r4 r5] ++ (fw G fa N fp fq t0 t1 t2 t3 t4 t5 tL)) [(0, .ref ra), (1, .int v1), (2, .int v2), (3, .int v3), (4, .int v4)] 0 [] := by
  unfold X2_write at h
  refine w_aload_n C 0 rfl dX2_write_0 ?_
  refine w_iload_n C 1 rfl dX2_write_1 ?_
  refine pt_X2_9 C dX2_write_2 ?_
  refine w_aload_n C 0 rfl dX2_write_5 ?_
  refine w_iload_n C 2 rfl dX2_write_6 ?_
  refine pt_X2_15 C dX2_write_7 ?_
  refine w_aload_n C 0 rfl dX2_write_10 ?_
  refine w_iload_n C 3 rfl dX2_write_11 ?_
  refine pt_X2_18 C dX2_write_12 ?_
  refine w_aload_n C 0 rfl dX2_write_15 ?_
  refine w_iload C 4 rfl dX2_write_16 ?_
  refine pt_X2_21 C dX2_write_18 ?_
  refine w_aload_n C 0 rfl dX2_write_21 ?_
  refine w_iconst (v := 0) C dX2_write_22 (by decide) ?_
  refine pt_X2_24 C dX2_write_23 ?_
  cases h
  exact w_vret C ⟨rfl, rfl⟩ dX2_write_26
theorem c_X2_write {l : Launch} {G : GG} {fa : Nat → Nat} {N : Nat} {ra : Nat} {r1 : Int32} {r2 : Int32} {r3 : Int32} {r4 : Int32} {r5 : Int32} {fp : Int32} {fq : Int32} {t0 : Nat → Int32} {t1 : Nat → Int32} {t2 : Nat → Int32} {t3 : Nat → Int32} {t4 : Nat → Int32} {t5 : Nat → Int32} {tL : Nat → Option Nat} (fu : Nat) {v1 : Int32} {v2 : Int32} {v3 : Int32} {v4 : Int32} {r : Int32 × Int32 × Int32 × Int32 × Int32} (h : X2_write fu N r1 r2 r3 r4 r5 v1 v2 v3 v4 = some r) : Ct l yX2_write cX2_write 5 none G rm_X2_write [.ref ra, .int v1, .int v2, .int v3, .int v4] ([rcw ra r1 r2 r3 r4 r5] ++ (fw G fa N fp fq t0 t1 t2 t3 t4 t5 tL)) (fun o w => o = none ∧ w = ([rcw ra r.1 r.2.1 r.2.2.1 r.2.2.2.1 r.2.2.2.2] ++ (fw G fa N fp fq t0 t1 t2 t3 t4 t5 tL))) 0 0 := Ct.of (by decide) (Nat.le_of_ble_eq_true rfl) (fun p e s m args below meth c A C _ => w_X2_write C h)
abbrev rm_X2_power : Room := { frames := 1, cells := 0, slots := 0, locals := 22 }
theorem pk_X2_power : PkV RX2 yX2_power cX2_power 3 ((some .int)) 2 := ⟨rfl, co_X2_power, ini_RX2, im_X2_power, se_X2_power, by decide +kernel⟩
set_option maxRecDepth 20000 in
set_option maxHeartbeats 4000000 in
theorem w_X2_power {fa : Nat → Nat} {N : Nat} {ra : Nat} {r2 : Int32} {r3 : Int32} {r4 : Int32} {fp : Int32} {t0 : Nat → Int32} {t1 : Nat → Int32} {t3 : Nat → Int32} {t4 : Nat → Int32} {t5 : Nat → Int32} {tL : Nat → Option Nat} {fu : Nat}  {r1 : Int32} {r5 : Int32} {fq : Int32} {t2 : Nat → Int32} {v2 : Int32} {r : Int32 × Int32} (C : Cx p s m args meth c G A RX2 cX2_power 3 ((some .int)))   (h : X2_power fu N  r1 r5 fq t2 v2 = some r) : Wd p l e rm_X2_power s m args below meth c G A 3 0 0 (QQ G A (fun o w => o = some (.int r.1) ∧ w = ([rcw ra r1 r2 r3 r4 r.2] ++ (fw G fa N fp fq t0 t1 t2 t3 t4 t5 tL))) below args s 0 0) ([rcw ra r1 r2 r3 r4 r5] ++ (fw G fa N fp fq t0 t1 t2 t3 t4 t5 tL)) [(0, .ref ra), (1, .ref (fa 0)), (2, .int v2)] 0 [] := by
  unfold X2_power at h
  refine w_aload_n C 0 rfl dX2_power_0 ?_
  refine w_dup C dX2_power_1 rfl ?_
  refine gt_X2_24 C dX2_power_2 ?_
  refine w_iconst (v := 1) C dX2_power_5 (by decide) ?_
  refine w_iadd C dX2_power_6 ?_
  refine pt_X2_24 C dX2_power_7 ?_
  refine w_aload_n C 1 rfl dX2_power_10 ?_
  refine w_iload_n C 2 rfl dX2_power_11 ?_
  refine w_aload_n C 0 rfl dX2_power_12 ?_
  refine gt_X2_9 C dX2_power_13 ?_
  obtain ⟨x1, hx1, h⟩ := bd_some h
  refine w_cVi (qc := (RX0, TX0, 9)) C (c_X0_raised fu  hx1) pk_X0_raised ml_X2_37 (As := [.int v2, .int r1]) (rest := []) (k9 := 0) rfl rfl ⟨⟨rfl, rfl⟩, Nat.le_of_ble_eq_true rfl, Nat.le_of_ble_eq_true rfl⟩ rfl ⟨(Nat.le_of_ble_eq_true rfl), (Nat.le_of_ble_eq_true rfl)⟩ (Nat.le_of_ble_eq_true rfl) rfl rfl (rfl) dX2_power_16 ?_
  cases h
  exact w_iret C ⟨rfl, rfl⟩ dX2_power_19
theorem c_X2_power {l : Launch} {G : GG} {fa : Nat → Nat} {N : Nat} {ra : Nat} {r1 : Int32} {r2 : Int32} {r3 : Int32} {r4 : Int32} {r5 : Int32} {fp : Int32} {fq : Int32} {t0 : Nat → Int32} {t1 : Nat → Int32} {t2 : Nat → Int32} {t3 : Nat → Int32} {t4 : Nat → Int32} {t5 : Nat → Int32} {tL : Nat → Option Nat} (fu : Nat) {v2 : Int32} {r : Int32 × Int32} (h : X2_power fu N r1 r5 fq t2 v2 = some r) : Ct l yX2_power cX2_power 3 ((some .int)) G rm_X2_power [.ref ra, .ref (fa 0), .int v2] ([rcw ra r1 r2 r3 r4 r5] ++ (fw G fa N fp fq t0 t1 t2 t3 t4 t5 tL)) (fun o w => o = some (.int r.1) ∧ w = ([rcw ra r1 r2 r3 r4 r.2] ++ (fw G fa N fp fq t0 t1 t2 t3 t4 t5 tL))) 0 0 := Ct.of (by decide) (Nat.le_of_ble_eq_true rfl) (fun p e s m args below meth c A C _ => w_X2_power C h)
abbrev rm_X2_dressed : Room := { frames := 2, cells := 0, slots := 0, locals := 44 }
theorem pk_X2_dressed : PkV RX2 yX2_dressed cX2_dressed 3 ((some .int)) 2 := ⟨rfl, co_X2_dressed, ini_RX2, im_X2_dressed, se_X2_dressed, by decide +kernel⟩
set_option maxRecDepth 20000 in
set_option maxHeartbeats 4000000 in
theorem w_X2_dressed {fa : Nat → Nat} {N : Nat} {ra : Nat} {fp : Int32} {t3 : Nat → Int32} {t4 : Nat → Int32} {t5 : Nat → Int32} {tL : Nat → Option Nat} {fu : Nat}  {r1 : Int32} {r2 : Int32} {r3 : Int32} {r4 : Int32} {r5 : Int32} {fq : Int32} {t0 : Nat → Int32} {t1 : Nat → Int32} {t2 : Nat → Int32} {v2 : Int32} {r : Int32 × Int32} (C : Cx p s m args meth c G A RX2 cX2_dressed 3 ((some .int)))   (h : X2_dressed fu N  r1 r2 r3 r4 r5 fq t0 t1 t2 v2 = some r) : Wd p l e rm_X2_dressed s m args below meth c G A 3 0 0 (QQ G A (fun o w => o = some (.int r.1) ∧ w = ([rcw ra r1 r2 r3 r4 r.2] ++ (fw G fa N fp fq t0 t1 t2 t3 t4 t5 tL))) below args s 0 0) ([rcw ra r1 r2 r3 r4 r5] ++ (fw G fa N fp fq t0 t1 t2 t3 t4 t5 tL)) [(0, .ref ra), (1, .ref (fa 0)), (2, .int v2)] 0 [] := by
  unfold X2_dressed at h
  refine w_aload_n C 0 rfl dX2_dressed_0 ?_
  refine w_dup C dX2_dressed_1 rfl ?_
  refine gt_X2_24 C dX2_dressed_2 ?_
  refine w_bipush (v := 10) C dX2_dressed_5 (by decide) ?_
  refine w_iadd C dX2_dressed_7 ?_
  refine pt_X2_24 C dX2_dressed_8 ?_
  refine w_aload_n C 1 rfl dX2_dressed_11 ?_
  refine w_aload_n C 1 rfl dX2_dressed_12 ?_
  refine w_aload_n C 0 rfl dX2_dressed_13 ?_
  refine gt_X2_15 C dX2_dressed_14 ?_
  refine w_aload_n C 0 rfl dX2_dressed_17 ?_
  refine w_aload_n C 1 rfl dX2_dressed_18 ?_
  refine w_aload_n C 1 rfl dX2_dressed_19 ?_
  refine w_iload_n C 2 rfl dX2_dressed_20 ?_
  refine w_aload_n C 0 rfl dX2_dressed_21 ?_
  refine gt_X2_18 C dX2_dressed_22 ?_
  obtain ⟨x1, hx1, h⟩ := bd_some h
  refine w_cVi (qc := (RX0, TX0, 9)) C (c_X0_sum fu  hx1) pk_X0_sum ml_X2_43 (As := [.int v2, .int r3]) (rest := [.ref (fa 0), .ref ra, .int r2, .ref (fa 0), .ref (fa 0)]) (k9 := 0) rfl rfl ⟨⟨rfl, rfl⟩, Nat.le_of_ble_eq_true rfl, Nat.le_of_ble_eq_true rfl⟩ rfl ⟨(Nat.le_of_ble_eq_true rfl), (Nat.le_of_ble_eq_true rfl)⟩ (Nat.le_of_ble_eq_true rfl) rfl rfl (rfl) dX2_dressed_25 ?_
  obtain ⟨x2, hx2, h⟩ := bd_some h
  refine w_cVi (wr := []) (qc := (RX2, TX2, 5)) C (c_X2_power fu  hx2) pk_X2_power ml_X2_27 (As := [.ref (fa 0), .int x1]) (rest := [.int r2, .ref (fa 0), .ref (fa 0)]) (k9 := 0) rfl rfl ⟨⟨rfl, rfl⟩, Nat.le_of_ble_eq_true rfl, Nat.le_of_ble_eq_true rfl⟩ rfl ⟨(Nat.le_of_ble_eq_true rfl), (Nat.le_of_ble_eq_true rfl)⟩ (Nat.le_of_ble_eq_true rfl) rfl rfl (List.nil_append _) dX2_dressed_28 ?_
  obtain ⟨x3, hx3, h⟩ := bd_some h
  refine w_cVi (qc := (RX0, TX0, 9)) C (c_X0_product fu  hx3) pk_X0_product ml_X2_46 (As := [.int r2, .int x2.1]) (rest := [.ref (fa 0)]) (k9 := 0) rfl rfl ⟨⟨rfl, rfl⟩, Nat.le_of_ble_eq_true rfl, Nat.le_of_ble_eq_true rfl⟩ rfl ⟨(Nat.le_of_ble_eq_true rfl), (Nat.le_of_ble_eq_true rfl)⟩ (Nat.le_of_ble_eq_true rfl) rfl rfl (rfl) dX2_dressed_31 ?_
  refine w_aload_n C 0 rfl dX2_dressed_34 ?_
  refine gt_X2_21 C dX2_dressed_35 ?_
  obtain ⟨x4, hx4, h⟩ := bd_some h
  refine w_cVi (qc := (RX0, TX0, 9)) C (c_X0_sum fu  hx4) pk_X0_sum ml_X2_43 (As := [.int x3, .int r4]) (rest := []) (k9 := 0) rfl rfl ⟨⟨rfl, rfl⟩, Nat.le_of_ble_eq_true rfl, Nat.le_of_ble_eq_true rfl⟩ rfl ⟨(Nat.le_of_ble_eq_true rfl), (Nat.le_of_ble_eq_true rfl)⟩ (Nat.le_of_ble_eq_true rfl) rfl rfl (rfl) dX2_dressed_38 ?_
  cases h
  exact w_iret C ⟨rfl, rfl⟩ dX2_dressed_41
theorem c_X2_dressed {l : Launch} {G : GG} {fa : Nat → Nat} {N : Nat} {ra : Nat} {r1 : Int32} {r2 : Int32} {r3 : Int32} {r4 : Int32} {r5 : Int32} {fp : Int32} {fq : Int32} {t0 : Nat → Int32} {t1 : Nat → Int32} {t2 : Nat → Int32} {t3 : Nat → Int32} {t4 : Nat → Int32} {t5 : Nat → Int32} {tL : Nat → Option Nat} (fu : Nat) {v2 : Int32} {r : Int32 × Int32} (h : X2_dressed fu N r1 r2 r3 r4 r5 fq t0 t1 t2 v2 = some r) : Ct l yX2_dressed cX2_dressed 3 ((some .int)) G rm_X2_dressed [.ref ra, .ref (fa 0), .int v2] ([rcw ra r1 r2 r3 r4 r5] ++ (fw G fa N fp fq t0 t1 t2 t3 t4 t5 tL)) (fun o w => o = some (.int r.1) ∧ w = ([rcw ra r1 r2 r3 r4 r.2] ++ (fw G fa N fp fq t0 t1 t2 t3 t4 t5 tL))) 0 0 := Ct.of (by decide) (Nat.le_of_ble_eq_true rfl) (fun p e s m args below meth c A C _ => w_X2_dressed C h)
abbrev rm_X2_twice : Room := { frames := 3, cells := 0, slots := 0, locals := 66 }
theorem pk_X2_twice : PkV RX2 yX2_twice cX2_twice 3 ((some .int)) 2 := ⟨rfl, co_X2_twice, ini_RX2, im_X2_twice, se_X2_twice, by decide +kernel⟩
set_option maxRecDepth 20000 in
set_option maxHeartbeats 4000000 in
theorem w_X2_twice {fa : Nat → Nat} {N : Nat} {ra : Nat} {fp : Int32} {t3 : Nat → Int32} {t4 : Nat → Int32} {t5 : Nat → Int32} {tL : Nat → Option Nat} {fu : Nat}  {r1 : Int32} {r2 : Int32} {r3 : Int32} {r4 : Int32} {r5 : Int32} {fq : Int32} {t0 : Nat → Int32} {t1 : Nat → Int32} {t2 : Nat → Int32} {v2 : Int32} {r : Int32 × Int32} (C : Cx p s m args meth c G A RX2 cX2_twice 3 ((some .int)))   (h : X2_twice fu N  r1 r2 r3 r4 r5 fq t0 t1 t2 v2 = some r) : Wd p l e rm_X2_twice s m args below meth c G A 3 0 0 (QQ G A (fun o w => o = some (.int r.1) ∧ w = ([rcw ra r1 r2 r3 r4 r.2] ++ (fw G fa N fp fq t0 t1 t2 t3 t4 t5 tL))) below args s 0 0) ([rcw ra r1 r2 r3 r4 r5] ++ (fw G fa N fp fq t0 t1 t2 t3 t4 t5 tL)) [(0, .ref ra), (1, .ref (fa 0)), (2, .int v2)] 0 [] := by
  unfold X2_twice at h
  refine w_aload_n C 0 rfl dX2_twice_0 ?_
  refine w_dup C dX2_twice_1 rfl ?_
  refine gt_X2_24 C dX2_twice_2 ?_
  refine w_bipush (v := 100) C dX2_twice_5 (by decide) ?_
  refine w_iadd C dX2_twice_7 ?_
  refine pt_X2_24 C dX2_twice_8 ?_
  refine w_aload_n C 0 rfl dX2_twice_11 ?_
  refine w_aload_n C 1 rfl dX2_twice_12 ?_
  refine w_aload_n C 0 rfl dX2_twice_13 ?_
  refine w_aload_n C 1 rfl dX2_twice_14 ?_
  refine w_iload_n C 2 rfl dX2_twice_15 ?_
  obtain ⟨x1, hx1, h⟩ := bd_some h
  refine w_cVi (wr := []) (qc := (RX2, TX2, 5)) C (c_X2_dressed fu  hx1) pk_X2_dressed ml_X2_31 (As := [.ref (fa 0), .int v2]) (rest := [.ref (fa 0), .ref ra]) (k9 := 0) rfl rfl ⟨⟨rfl, rfl⟩, Nat.le_of_ble_eq_true rfl, Nat.le_of_ble_eq_true rfl⟩ rfl ⟨(Nat.le_of_ble_eq_true rfl), (Nat.le_of_ble_eq_true rfl)⟩ (Nat.le_of_ble_eq_true rfl) rfl rfl (List.nil_append _) dX2_twice_16 ?_
  obtain ⟨x2, hx2, h⟩ := bd_some h
  refine w_cVi (wr := []) (qc := (RX2, TX2, 5)) C (c_X2_dressed fu  hx2) pk_X2_dressed ml_X2_31 (As := [.ref (fa 0), .int x1.1]) (rest := []) (k9 := 0) rfl rfl ⟨⟨rfl, rfl⟩, Nat.le_of_ble_eq_true rfl, Nat.le_of_ble_eq_true rfl⟩ rfl ⟨(Nat.le_of_ble_eq_true rfl), (Nat.le_of_ble_eq_true rfl)⟩ (Nat.le_of_ble_eq_true rfl) rfl rfl (List.nil_append _) dX2_twice_19 ?_
  cases h
  exact w_iret C ⟨rfl, rfl⟩ dX2_twice_22
theorem c_X2_twice {l : Launch} {G : GG} {fa : Nat → Nat} {N : Nat} {ra : Nat} {r1 : Int32} {r2 : Int32} {r3 : Int32} {r4 : Int32} {r5 : Int32} {fp : Int32} {fq : Int32} {t0 : Nat → Int32} {t1 : Nat → Int32} {t2 : Nat → Int32} {t3 : Nat → Int32} {t4 : Nat → Int32} {t5 : Nat → Int32} {tL : Nat → Option Nat} (fu : Nat) {v2 : Int32} {r : Int32 × Int32} (h : X2_twice fu N r1 r2 r3 r4 r5 fq t0 t1 t2 v2 = some r) : Ct l yX2_twice cX2_twice 3 ((some .int)) G rm_X2_twice [.ref ra, .ref (fa 0), .int v2] ([rcw ra r1 r2 r3 r4 r5] ++ (fw G fa N fp fq t0 t1 t2 t3 t4 t5 tL)) (fun o w => o = some (.int r.1) ∧ w = ([rcw ra r1 r2 r3 r4 r.2] ++ (fw G fa N fp fq t0 t1 t2 t3 t4 t5 tL))) 0 0 := Ct.of (by decide) (Nat.le_of_ble_eq_true rfl) (fun p e s m args below meth c A C _ => w_X2_twice C h)
abbrev rm_X2_takes : Room := { frames := 4, cells := 0, slots := 0, locals := 88 }
theorem pk_X2_takes : PkV RX2 yX2_takes cX2_takes 4 ((some .int)) 3 := ⟨rfl, co_X2_takes, ini_RX2, im_X2_takes, se_X2_takes, by decide +kernel⟩
set_option maxRecDepth 20000 in
set_option maxHeartbeats 4000000 in
theorem w_X2_takes {fa : Nat → Nat} {N : Nat} {ra : Nat} {fp : Int32} {t3 : Nat → Int32} {t4 : Nat → Int32} {t5 : Nat → Int32} {tL : Nat → Option Nat} {fu : Nat}  {r1 : Int32} {r2 : Int32} {r3 : Int32} {r4 : Int32} {r5 : Int32} {fq : Int32} {t0 : Nat → Int32} {t1 : Nat → Int32} {t2 : Nat → Int32} {v2 : Int32} {v3 : Int32} {r : Int32 × Int32} (C : Cx p s m args meth c G A RX2 cX2_takes 4 ((some .int)))   (h : X2_takes fu N  r1 r2 r3 r4 r5 fq t0 t1 t2 v2 v3 = some r) : Wd p l e rm_X2_takes s m args below meth c G A 4 0 0 (QQ G A (fun o w => o = some (.int r.1) ∧ w = ([rcw ra r1 r2 r3 r4 r.2] ++ (fw G fa N fp fq t0 t1 t2 t3 t4 t5 tL))) below args s 0 0) ([rcw ra r1 r2 r3 r4 r5] ++ (fw G fa N fp fq t0 t1 t2 t3 t4 t5 tL)) [(0, .ref ra), (1, .ref (fa 0)), (2, .int v2), (3, .int v3)] 0 [] := by
  unfold X2_takes at h
  refine w_iload_n C 2 rfl dX2_takes_0 ?_
  by_cases hb4 : v2 = 0
  · have h := if_t hb4 h
    refine w_lookup (off := 27) (tgt := 28) C dX2_takes_1 (by decide) (by rw [hb4]; decide) (by decide) ?_
    refine w_aload_n C 0 rfl dX2_takes_28 ?_
    refine w_aload_n C 1 rfl dX2_takes_29 ?_
    refine w_iload_n C 3 rfl dX2_takes_30 ?_
    obtain ⟨x2, hx2, h⟩ := bd_some h
    refine w_cVi (wr := []) (qc := (RX2, TX2, 5)) C (c_X2_power fu  hx2) pk_X2_power ml_X2_27 (As := [.ref (fa 0), .int v3]) (rest := []) (k9 := 0) rfl rfl ⟨⟨rfl, rfl⟩, Nat.le_of_ble_eq_true rfl, Nat.le_of_ble_eq_true rfl⟩ rfl ⟨(Nat.le_of_ble_eq_true rfl), (Nat.le_of_ble_eq_true rfl)⟩ (Nat.le_of_ble_eq_true rfl) rfl rfl (List.nil_append _) dX2_takes_31 ?_
    cases h
    exact w_iret C ⟨rfl, rfl⟩ dX2_takes_34
  · have h := if_f hb4 h
    by_cases hb5 : v2 = 1
    · have h := if_t hb5 h
      refine w_lookup (off := 34) (tgt := 35) C dX2_takes_1 (by decide) (by rw [hb5]; decide) (by decide) ?_
      refine w_aload_n C 0 rfl dX2_takes_35 ?_
      refine w_aload_n C 1 rfl dX2_takes_36 ?_
      refine w_iload_n C 3 rfl dX2_takes_37 ?_
      obtain ⟨x3, hx3, h⟩ := bd_some h
      refine w_cVi (wr := []) (qc := (RX2, TX2, 5)) C (c_X2_dressed fu  hx3) pk_X2_dressed ml_X2_31 (As := [.ref (fa 0), .int v3]) (rest := []) (k9 := 0) rfl rfl ⟨⟨rfl, rfl⟩, Nat.le_of_ble_eq_true rfl, Nat.le_of_ble_eq_true rfl⟩ rfl ⟨(Nat.le_of_ble_eq_true rfl), (Nat.le_of_ble_eq_true rfl)⟩ (Nat.le_of_ble_eq_true rfl) rfl rfl (List.nil_append _) dX2_takes_38 ?_
      cases h
      exact w_iret C ⟨rfl, rfl⟩ dX2_takes_41
    · have h := if_f hb5 h
      refine w_lookup (off := 41) (tgt := 42) C dX2_takes_1 (by decide) ((lv_osw hb4 (by decide)).trans ((lv_osw hb5 (by decide)).trans (rfl))) (by decide) ?_
      refine w_aload_n C 0 rfl dX2_takes_42 ?_
      refine w_aload_n C 1 rfl dX2_takes_43 ?_
      refine w_iload_n C 3 rfl dX2_takes_44 ?_
      obtain ⟨x1, hx1, h⟩ := bd_some h
      refine w_cVi (wr := []) (qc := (RX2, TX2, 5)) C (c_X2_twice fu  hx1) pk_X2_twice ml_X2_34 (As := [.ref (fa 0), .int v3]) (rest := []) (k9 := 0) rfl rfl ⟨⟨rfl, rfl⟩, Nat.le_of_ble_eq_true rfl, Nat.le_of_ble_eq_true rfl⟩ rfl ⟨(Nat.le_of_ble_eq_true rfl), (Nat.le_of_ble_eq_true rfl)⟩ (Nat.le_of_ble_eq_true rfl) rfl rfl (List.nil_append _) dX2_takes_45 ?_
      cases h
      exact w_iret C ⟨rfl, rfl⟩ dX2_takes_48
theorem c_X2_takes {l : Launch} {G : GG} {fa : Nat → Nat} {N : Nat} {ra : Nat} {r1 : Int32} {r2 : Int32} {r3 : Int32} {r4 : Int32} {r5 : Int32} {fp : Int32} {fq : Int32} {t0 : Nat → Int32} {t1 : Nat → Int32} {t2 : Nat → Int32} {t3 : Nat → Int32} {t4 : Nat → Int32} {t5 : Nat → Int32} {tL : Nat → Option Nat} (fu : Nat) {v2 : Int32} {v3 : Int32} {r : Int32 × Int32} (h : X2_takes fu N r1 r2 r3 r4 r5 fq t0 t1 t2 v2 v3 = some r) : Ct l yX2_takes cX2_takes 4 ((some .int)) G rm_X2_takes [.ref ra, .ref (fa 0), .int v2, .int v3] ([rcw ra r1 r2 r3 r4 r5] ++ (fw G fa N fp fq t0 t1 t2 t3 t4 t5 tL)) (fun o w => o = some (.int r.1) ∧ w = ([rcw ra r1 r2 r3 r4 r.2] ++ (fw G fa N fp fq t0 t1 t2 t3 t4 t5 tL))) 0 0 := Ct.of (by decide) (Nat.le_of_ble_eq_true rfl) (fun p e s m args below meth c A C _ => w_X2_takes C h)
end
