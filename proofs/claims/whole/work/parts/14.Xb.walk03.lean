section
variable {p : Program} {l : Launch} {e : Env} {s : State} {m : MethodId} {args : Array Value} {below : List Frame} {meth : Method} {c : Code} {G : GG} {A : Nat → Prop}
abbrev rm_X3_dressedAt : Room := { frames := 1, cells := 0, slots := 0, locals := 22 }
theorem pk_X3_dressedAt : PkV RX3 yX3_dressedAt cX3_dressedAt 6 ((some .int)) 5 := ⟨rfl, co_X3_dressedAt, ini_RX3, im_X3_dressedAt, se_X3_dressedAt, by decide +kernel⟩
set_option maxRecDepth 20000 in
set_option maxHeartbeats 4000000 in
theorem w_X3_dressedAt {fa : Nat → Nat} {N : Nat} {ra : Nat} {xa : Nat → Nat} {FA : Nat → Option Nat} {xq : Int32} {ak : Int64} {r1 : Int32} {r2 : Int32} {r3 : Int32} {r4 : Int32} {r5 : Int32} {fp : Int32} {t2 : Nat → Int32} {t3 : Nat → Int32} {t4 : Nat → Int32} {t5 : Nat → Int32} {tL : Nat → Option Nat} {fu : Nat}  {RR : Nat → Nat → Int32} {fq : Int32} {t0 : Nat → Int32} {t1 : Nat → Int32} {j1 : Nat} {v2 : Int32} {v3 : Int32} {v4 : Int32} {v5 : Int32} {r : Int32} (C : Cx p s m args meth c G A RX3 cX3_dressedAt 6 ((some .int))) (hj1 : j1 < 6)  (h : X3_dressedAt fu N  RR fq t0 t1 j1 v2 v3 v4 v5 = some r) : Wd p l e rm_X3_dressedAt s m args below meth c G A 6 0 0 (QQ G A (fun o w => o = some (.int r) ∧ w = (xm G xa FA (fa 0) ra xq ak RR ++ ([rcw ra r1 r2 r3 r4 r5] ++ (fw G fa N fp fq t0 t1 t2 t3 t4 t5 tL)))) below args s 0 0) (xm G xa FA (fa 0) ra xq ak RR ++ ([rcw ra r1 r2 r3 r4 r5] ++ (fw G fa N fp fq t0 t1 t2 t3 t4 t5 tL))) [(0, .ref (xa 0)), (1, .ref (xa (3 + j1))), (2, .int v2), (3, .int v3), (4, .int v4), (5, .int v5)] 0 [] := by
  unfold X3_dressedAt at h
  refine w_aload_n C 0 rfl dX3_dressedAt_0 ?_
  refine gt_X3_49 C dX3_dressedAt_1 ?_
  refine w_iload_n C 2 rfl dX3_dressedAt_4 ?_
  refine w_aload_n C 1 rfl dX3_dressedAt_5 ?_
  refine w_aload_n C 0 rfl dX3_dressedAt_6 ?_
  refine gt_X3_49 C dX3_dressedAt_7 ?_
  refine w_aload_n C 0 rfl dX3_dressedAt_10 ?_
  refine gt_X3_49 C dX3_dressedAt_11 ?_
  refine w_iload_n C 3 rfl dX3_dressedAt_14 ?_
  refine w_iload C 5 rfl dX3_dressedAt_15 ?_
  obtain ⟨x1, hx1, h⟩ := bd_some h
  refine w_cVi (qc := (RX0, TX0, 9)) C (c_X0_product fu  hx1) pk_X0_product ml_X3_57 (As := [.int v3, .int v5]) (rest := [.ref (fa 0), .ref (xa (3 + j1)), .int v2, .ref (fa 0)]) (k9 := 0) rfl rfl ⟨⟨rfl, rfl⟩, Nat.le_of_ble_eq_true rfl, Nat.le_of_ble_eq_true rfl⟩ rfl ⟨(Nat.le_of_ble_eq_true rfl), (Nat.le_of_ble_eq_true rfl)⟩ (Nat.le_of_ble_eq_true rfl) rfl (List.append_assoc _ _ _).symm (List.append_assoc _ _ _) dX3_dressedAt_17 ?_
  refine w_iload C 4 rfl dX3_dressedAt_20 ?_
  obtain ⟨x2, hx2, h⟩ := bd_some h
  refine w_cVi (qc := (RX0, TX0, 9)) C (c_X0_sum fu  hx2) pk_X0_sum ml_X3_53 (As := [.int x1, .int v4]) (rest := [.ref (xa (3 + j1)), .int v2, .ref (fa 0)]) (k9 := 0) rfl rfl ⟨⟨rfl, rfl⟩, Nat.le_of_ble_eq_true rfl, Nat.le_of_ble_eq_true rfl⟩ rfl ⟨(Nat.le_of_ble_eq_true rfl), (Nat.le_of_ble_eq_true rfl)⟩ (Nat.le_of_ble_eq_true rfl) rfl (List.append_assoc _ _ _).symm (List.append_assoc _ _ _) dX3_dressedAt_22 ?_
  obtain ⟨hi3, h⟩ := ckI_some h
  refine ld_row C hj1 hi3 dX3_dressedAt_25 ?_
  obtain ⟨x4, hx4, h⟩ := bd_some h
  refine w_cVi (qc := (RX0, TX0, 9)) C (c_X0_product fu  hx4) pk_X0_product ml_X3_57 (As := [.int v2, .int (RR j1 x2.toNatClampNeg)]) (rest := []) (k9 := 0) rfl rfl ⟨⟨rfl, rfl⟩, Nat.le_of_ble_eq_true rfl, Nat.le_of_ble_eq_true rfl⟩ rfl ⟨(Nat.le_of_ble_eq_true rfl), (Nat.le_of_ble_eq_true rfl)⟩ (Nat.le_of_ble_eq_true rfl) rfl (List.append_assoc _ _ _).symm (List.append_assoc _ _ _) dX3_dressedAt_26 ?_
  cases h
  exact w_iret C ⟨rfl, rfl⟩ dX3_dressedAt_29
theorem c_X3_dressedAt {l : Launch} {G : GG} {fa : Nat → Nat} {N : Nat} {ra : Nat} {xa : Nat → Nat} {FA : Nat → Option Nat} {xq : Int32} {ak : Int64} {RR : Nat → Nat → Int32} {r1 : Int32} {r2 : Int32} {r3 : Int32} {r4 : Int32} {r5 : Int32} {fp : Int32} {fq : Int32} {t0 : Nat → Int32} {t1 : Nat → Int32} {t2 : Nat → Int32} {t3 : Nat → Int32} {t4 : Nat → Int32} {t5 : Nat → Int32} {tL : Nat → Option Nat} (fu : Nat) {j1 : Nat} {v2 : Int32} {v3 : Int32} {v4 : Int32} {v5 : Int32} (hj1 : j1 < 6) {r : Int32} (h : X3_dressedAt fu N RR fq t0 t1 j1 v2 v3 v4 v5 = some r) : Ct l yX3_dressedAt cX3_dressedAt 6 ((some .int)) G rm_X3_dressedAt [.ref (xa 0), .ref (xa (3 + j1)), .int v2, .int v3, .int v4, .int v5] (xm G xa FA (fa 0) ra xq ak RR ++ ([rcw ra r1 r2 r3 r4 r5] ++ (fw G fa N fp fq t0 t1 t2 t3 t4 t5 tL))) (fun o w => o = some (.int r) ∧ w = (xm G xa FA (fa 0) ra xq ak RR ++ ([rcw ra r1 r2 r3 r4 r5] ++ (fw G fa N fp fq t0 t1 t2 t3 t4 t5 tL)))) 0 0 := Ct.of (by decide) (Nat.le_of_ble_eq_true rfl) (fun p e s m args below meth c A C _ => w_X3_dressedAt C hj1 h)
abbrev rm_X3_isDress : Room := { frames := 2, cells := 0, slots := 0, locals := 47 }
theorem pk_X3_isDress : PkV RX3 yX3_isDress cX3_isDress 8 ((some .boolean)) 5 := ⟨rfl, co_X3_isDress, ini_RX3, im_X3_isDress, se_X3_isDress, by decide +kernel⟩
set_option maxRecDepth 20000 in
set_option maxHeartbeats 4000000 in
theorem w_X3_isDress_26 {fa : Nat → Nat} {N : Nat} {ra : Nat} {xa : Nat → Nat} {FA : Nat → Option Nat} {ak : Int64} {r1 : Int32} {r2 : Int32} {r3 : Int32} {r4 : Int32} {r5 : Int32} {fp : Int32} {t2 : Nat → Int32} {t4 : Nat → Int32} {t5 : Nat → Int32} {tL : Nat → Option Nat} {xq : Int32} {RR : Nat → Nat → Int32} {fq : Int32} {t0 : Nat → Int32} {t1 : Nat → Int32} {t3 : Nat → Int32} {j1 : Nat} {j2 : Nat} {v3 : Int32} {v4 : Int32} {v5 : Int32} {v6 : Int32} {fu : Nat}  {r : Int32} (C : Cx p s m args meth c G A RX3 cX3_isDress 8 ((some .boolean))) (hj1 : j1 < 6) (hj2 : j2 < 6)  : ∀ (fk : Nat) (v7 : Int32), X3_isDress_26 fu N  xq RR fq t0 t1 t3 j1 j2 v3 v4 v5 v6 fk v7 = some r → Wd p l e rm_X3_isDress s m args below meth c G A 8 0 0 (QQ G A (fun o w => o = some (.int r) ∧ w = (xm G xa FA (fa 0) ra xq ak RR ++ ([rcw ra r1 r2 r3 r4 r5] ++ (fw G fa N fp fq t0 t1 t2 t3 t4 t5 tL)))) below args s 0 0) (xm G xa FA (fa 0) ra xq ak RR ++ ([rcw ra r1 r2 r3 r4 r5] ++ (fw G fa N fp fq t0 t1 t2 t3 t4 t5 tL))) [(0, .ref (xa 0)), (1, .ref (xa (3 + j1))), (2, .ref (xa (3 + j2))), (3, .int v3), (4, .int v4), (5, .int v5), (6, .int v6), (7, .int v7)] 26 [] := by
  intro fk
  induction fk with
  | zero =>
    intro v7 h
    have h : (none : Option Int32) = some r := h
    cases h
  | succ fk ih =>
    intro v7 h
    have h : X3_isDress_26_b fu N  xq RR fq t0 t1 t3 j1 j2 v3 v4 v5 v6 (X3_isDress_26 fu N  xq RR fq t0 t1 t3 j1 j2 v3 v4 v5 v6 fk) v7 = some r := h
    unfold X3_isDress_26_b at h
    refine w_iload C 7 rfl dX3_isDress_26 ?_
    refine w_aload_n C 0 rfl dX3_isDress_28 ?_
    refine gt_X3_42 C dX3_isDress_29 ?_
    refine w_icmp_ge (tgt := 71) C dX3_isDress_32 (by decide) (fun hb4 => ?_) (fun hb4 => ?_)
    · have h := if_t hb4 h
      refine w_iconst (v := 1) C dX3_isDress_71 (by decide) ?_
      cases h
      exact w_zret C rfl ⟨rfl, rfl⟩ dX3_isDress_72
    · have h := if_f hb4 h
      refine w_aload_n C 0 rfl dX3_isDress_35 ?_
      refine gt_X3_49 C dX3_isDress_36 ?_
      refine w_aload_n C 0 rfl dX3_isDress_39 ?_
      refine w_aload_n C 1 rfl dX3_isDress_40 ?_
      refine w_iload_n C 3 rfl dX3_isDress_41 ?_
      refine w_iload C 4 rfl dX3_isDress_42 ?_
      refine w_iload C 5 rfl dX3_isDress_44 ?_
      refine w_iload C 7 rfl dX3_isDress_46 ?_
      obtain ⟨x5, hx5, h⟩ := bd_some h
      refine w_cVi (wr := []) (qc := (RX3, TX3, 8)) C (c_X3_dressedAt fu hj1 hx5) pk_X3_dressedAt ml_X3_201 (As := [.ref (xa (3 + j1)), .int v3, .int v4, .int v5, .int v7]) (rest := [.ref (fa 0)]) (k9 := 0) rfl rfl ⟨⟨rfl, rfl⟩, Nat.le_of_ble_eq_true rfl, Nat.le_of_ble_eq_true rfl⟩ rfl ⟨(Nat.le_of_ble_eq_true rfl), (Nat.le_of_ble_eq_true rfl)⟩ (Nat.le_of_ble_eq_true rfl) rfl rfl (List.nil_append _) dX3_isDress_48 ?_
      refine w_iload C 6 rfl dX3_isDress_51 ?_
      obtain ⟨x6, hx6, h⟩ := bd_some h
      refine w_cVi (qc := (RX0, TX0, 9)) C (c_X0_sum fu  hx6) pk_X0_sum ml_X3_53 (As := [.int x5, .int v6]) (rest := []) (k9 := 0) rfl rfl ⟨⟨rfl, rfl⟩, Nat.le_of_ble_eq_true rfl, Nat.le_of_ble_eq_true rfl⟩ rfl ⟨(Nat.le_of_ble_eq_true rfl), (Nat.le_of_ble_eq_true rfl)⟩ (Nat.le_of_ble_eq_true rfl) rfl (List.append_assoc _ _ _).symm (List.append_assoc _ _ _) dX3_isDress_53 ?_
      refine w_aload_n C 2 rfl dX3_isDress_56 ?_
      refine w_iload C 7 rfl dX3_isDress_57 ?_
      obtain ⟨hi7, h⟩ := ckI_some h
      refine ld_row C hj2 hi7 dX3_isDress_59 ?_
      refine w_icmp_eq (tgt := 65) C dX3_isDress_60 (by decide) (fun hb8 => ?_) (fun hb8 => ?_)
      · have h := if_t hb8 h
        refine w_iinc (v := v7 + 1) (k := 7) C rfl rfl (Nat.le_of_ble_eq_true rfl) rfl dX3_isDress_65 ?_
        refine w_goto (tgt := 26) C dX3_isDress_68 (by decide) ?_
        refine w_lv [1, 2, 3, 4, 5, 6, 7, 0] rfl ?_
        exact ih _ h
      · have h := if_f hb8 h
        refine w_iconst (v := 0) C dX3_isDress_63 (by decide) ?_
        cases h
        exact w_zret C rfl ⟨rfl, rfl⟩ dX3_isDress_64
set_option maxRecDepth 20000 in
set_option maxHeartbeats 4000000 in
theorem w_X3_isDress {fa : Nat → Nat} {N : Nat} {ra : Nat} {xa : Nat → Nat} {FA : Nat → Option Nat} {ak : Int64} {r1 : Int32} {r2 : Int32} {r3 : Int32} {r4 : Int32} {r5 : Int32} {fp : Int32} {t2 : Nat → Int32} {t4 : Nat → Int32} {t5 : Nat → Int32} {tL : Nat → Option Nat} {fu : Nat}  {xq : Int32} {RR : Nat → Nat → Int32} {fq : Int32} {t0 : Nat → Int32} {t1 : Nat → Int32} {t3 : Nat → Int32} {j1 : Nat} {j2 : Nat} {v3 : Int32} {v4 : Int32} {v5 : Int32} {r : Int32} (C : Cx p s m args meth c G A RX3 cX3_isDress 8 ((some .boolean))) (hj1 : j1 < 6) (hj2 : j2 < 6)  (h : X3_isDress fu N  xq RR fq t0 t1 t3 j1 j2 v3 v4 v5 = some r) : Wd p l e rm_X3_isDress s m args below meth c G A 8 0 0 (QQ G A (fun o w => o = some (.int r) ∧ w = (xm G xa FA (fa 0) ra xq ak RR ++ ([rcw ra r1 r2 r3 r4 r5] ++ (fw G fa N fp fq t0 t1 t2 t3 t4 t5 tL)))) below args s 0 0) (xm G xa FA (fa 0) ra xq ak RR ++ ([rcw ra r1 r2 r3 r4 r5] ++ (fw G fa N fp fq t0 t1 t2 t3 t4 t5 tL))) [(0, .ref (xa 0)), (1, .ref (xa (3 + j1))), (2, .ref (xa (3 + j2))), (3, .int v3), (4, .int v4), (5, .int v5)] 0 [] := by
  unfold X3_isDress at h
  refine w_aload_n C 0 rfl dX3_isDress_0 ?_
  refine gt_X3_49 C dX3_isDress_1 ?_
  refine w_aload_n C 2 rfl dX3_isDress_4 ?_
  refine w_iconst (v := 0) C dX3_isDress_5 (by decide) ?_
  obtain ⟨hi1, h⟩ := ckI_some h
  refine ld_row C hj2 hi1 dX3_isDress_6 ?_
  refine w_aload_n C 0 rfl dX3_isDress_7 ?_
  refine w_aload_n C 1 rfl dX3_isDress_8 ?_
  refine w_iload_n C 3 rfl dX3_isDress_9 ?_
  refine w_iload C 4 rfl dX3_isDress_10 ?_
  refine w_iload C 5 rfl dX3_isDress_12 ?_
  refine w_iconst (v := 0) C dX3_isDress_14 (by decide) ?_
  obtain ⟨x2, hx2, h⟩ := bd_some h
  refine w_cVi (wr := []) (qc := (RX3, TX3, 8)) C (c_X3_dressedAt fu hj1 hx2) pk_X3_dressedAt ml_X3_201 (As := [.ref (xa (3 + j1)), .int v3, .int v4, .int v5, .int 0]) (rest := [.int (RR j2 (0 : Int32).toNatClampNeg), .ref (fa 0)]) (k9 := 0) rfl rfl ⟨⟨rfl, rfl⟩, Nat.le_of_ble_eq_true rfl, Nat.le_of_ble_eq_true rfl⟩ rfl ⟨(Nat.le_of_ble_eq_true rfl), (Nat.le_of_ble_eq_true rfl)⟩ (Nat.le_of_ble_eq_true rfl) rfl rfl (List.nil_append _) dX3_isDress_15 ?_
  obtain ⟨x3, hx3, h⟩ := bd_some h
  refine w_cVi (qc := (RX0, TX0, 9)) C (c_X0_less fu  hx3) pk_X0_less ml_X3_71 (As := [.int (RR j2 (0 : Int32).toNatClampNeg), .int x2]) (rest := []) (k9 := 0) rfl rfl ⟨⟨rfl, rfl⟩, Nat.le_of_ble_eq_true rfl, Nat.le_of_ble_eq_true rfl⟩ rfl ⟨(Nat.le_of_ble_eq_true rfl), (Nat.le_of_ble_eq_true rfl)⟩ (Nat.le_of_ble_eq_true rfl) rfl (List.append_assoc _ _ _).symm (List.append_assoc _ _ _) dX3_isDress_18 ?_
  refine w_istore C (Nat.le_of_ble_eq_true rfl) rfl dX3_isDress_21 ?_
  refine w_iconst (v := 1) C dX3_isDress_23 (by decide) ?_
  refine w_istore C (Nat.le_of_ble_eq_true rfl) rfl dX3_isDress_24 ?_
  refine w_lv [2, 3, 4, 5, 6, 7, 1, 0] rfl ?_
  exact w_X3_isDress_26 C  hj1 hj2  _ _ h
theorem c_X3_isDress {l : Launch} {G : GG} {fa : Nat → Nat} {N : Nat} {ra : Nat} {xa : Nat → Nat} {FA : Nat → Option Nat} {xq : Int32} {ak : Int64} {RR : Nat → Nat → Int32} {r1 : Int32} {r2 : Int32} {r3 : Int32} {r4 : Int32} {r5 : Int32} {fp : Int32} {fq : Int32} {t0 : Nat → Int32} {t1 : Nat → Int32} {t2 : Nat → Int32} {t3 : Nat → Int32} {t4 : Nat → Int32} {t5 : Nat → Int32} {tL : Nat → Option Nat} (fu : Nat) {j1 : Nat} {j2 : Nat} {v3 : Int32} {v4 : Int32} {v5 : Int32} (hj1 : j1 < 6) (hj2 : j2 < 6) {r : Int32} (h : X3_isDress fu N xq RR fq t0 t1 t3 j1 j2 v3 v4 v5 = some r) : Ct l yX3_isDress cX3_isDress 8 ((some .boolean)) G rm_X3_isDress [.ref (xa 0), .ref (xa (3 + j1)), .ref (xa (3 + j2)), .int v3, .int v4, .int v5] (xm G xa FA (fa 0) ra xq ak RR ++ ([rcw ra r1 r2 r3 r4 r5] ++ (fw G fa N fp fq t0 t1 t2 t3 t4 t5 tL))) (fun o w => o = some (.int r) ∧ w = (xm G xa FA (fa 0) ra xq ak RR ++ ([rcw ra r1 r2 r3 r4 r5] ++ (fw G fa N fp fq t0 t1 t2 t3 t4 t5 tL)))) 0 0 := Ct.of (by decide) (Nat.le_of_ble_eq_true rfl) (fun p e s m args below meth c A C _ => w_X3_isDress C hj1 hj2 h)
abbrev rm_X3_like : Room := { frames := 3, cells := 0, slots := 0, locals := 74 }
theorem pk_X3_like : PkV RX3 yX3_like cX3_like 6 ((some .int)) 2 := ⟨rfl, co_X3_like, ini_RX3, im_X3_like, se_X3_like, by decide +kernel⟩
set_option maxRecDepth 20000 in
set_option maxHeartbeats 4000000 in
theorem w_X3_like_41 {fa : Nat → Nat} {N : Nat} {ra : Nat} {xa : Nat → Nat} {FA : Nat → Option Nat} {ak : Int64} {r1 : Int32} {r2 : Int32} {r3 : Int32} {r4 : Int32} {r5 : Int32} {fp : Int32} {t2 : Nat → Int32} {t4 : Nat → Int32} {t5 : Nat → Int32} {tL : Nat → Option Nat} {xq : Int32} {RR : Nat → Nat → Int32} {fq : Int32} {t0 : Nat → Int32} {t1 : Nat → Int32} {t3 : Nat → Int32} {v1 : Int32} {v2 : Int32} {v3 : Int32} {v4 : Int32} {fu : Nat} {rc18 : Int32 → Option Int32} {rc29 : Int32 → Option Int32} {r : Int32} (C : Cx p s m args meth c G A RX3 cX3_like 6 ((some .int)))  (hrc18 : ∀ (v3 : Int32), rc18 v3 = some r → Wd p l e rm_X3_like s m args below meth c G A 6 0 0 (QQ G A (fun o w => o = some (.int r) ∧ w = (xm G xa FA (fa 0) ra xq ak RR ++ ([rcw ra r1 r2 r3 r4 r5] ++ (fw G fa N fp fq t0 t1 t2 t3 t4 t5 tL)))) below args s 0 0) (xm G xa FA (fa 0) ra xq ak RR ++ ([rcw ra r1 r2 r3 r4 r5] ++ (fw G fa N fp fq t0 t1 t2 t3 t4 t5 tL))) [(0, .ref (xa 0)), (1, .int v1), (2, .int v2), (3, .int v3)] 18 []) (hrc29 : ∀ (v4 : Int32), rc29 v4 = some r → Wd p l e rm_X3_like s m args below meth c G A 6 0 0 (QQ G A (fun o w => o = some (.int r) ∧ w = (xm G xa FA (fa 0) ra xq ak RR ++ ([rcw ra r1 r2 r3 r4 r5] ++ (fw G fa N fp fq t0 t1 t2 t3 t4 t5 tL)))) below args s 0 0) (xm G xa FA (fa 0) ra xq ak RR ++ ([rcw ra r1 r2 r3 r4 r5] ++ (fw G fa N fp fq t0 t1 t2 t3 t4 t5 tL))) [(0, .ref (xa 0)), (1, .int v1), (2, .int v2), (3, .int v3), (4, .int v4)] 29 []) : ∀ (fk : Nat) (v5 : Int32), X3_like_41 fu N rc18 rc29 xq RR fq t0 t1 t3 v1 v2 v3 v4 fk v5 = some r → Wd p l e rm_X3_like s m args below meth c G A 6 0 0 (QQ G A (fun o w => o = some (.int r) ∧ w = (xm G xa FA (fa 0) ra xq ak RR ++ ([rcw ra r1 r2 r3 r4 r5] ++ (fw G fa N fp fq t0 t1 t2 t3 t4 t5 tL)))) below args s 0 0) (xm G xa FA (fa 0) ra xq ak RR ++ ([rcw ra r1 r2 r3 r4 r5] ++ (fw G fa N fp fq t0 t1 t2 t3 t4 t5 tL))) [(0, .ref (xa 0)), (1, .int v1), (2, .int v2), (3, .int v3), (4, .int v4), (5, .int v5)] 41 [] := by
  intro fk
  induction fk with
  | zero =>
    intro v5 h
    have h : (none : Option Int32) = some r := h
    cases h
  | succ fk ih =>
    intro v5 h
    have h : X3_like_41_b fu N rc18 rc29 xq RR fq t0 t1 t3 v1 v2 v3 v4 (X3_like_41 fu N rc18 rc29 xq RR fq t0 t1 t3 v1 v2 v3 v4 fk) v5 = some r := h
    unfold X3_like_41_b at h
    refine w_iload C 5 rfl dX3_like_41 ?_
    refine w_aload_n C 0 rfl dX3_like_43 ?_
    refine gt_X3_42 C dX3_like_44 ?_
    refine w_icmp_ge (tgt := 82) C dX3_like_47 (by decide) (fun hb7 => ?_) (fun hb7 => ?_)
    · have h := if_t hb7 h
      refine w_iinc (v := v4 + 1) (k := 4) C rfl rfl (Nat.le_of_ble_eq_true rfl) rfl dX3_like_82 ?_
      refine w_goto (tgt := 29) C dX3_like_85 (by decide) ?_
      refine w_lv [1, 2, 3, 4, 0] rfl ?_
      exact hrc29 _ h
    · have h := if_f hb7 h
      refine w_aload_n C 0 rfl dX3_like_50 ?_
      refine w_aload_n C 0 rfl dX3_like_51 ?_
      refine gt_X3_17 C dX3_like_52 ?_
      refine w_iload_n C 1 rfl dX3_like_55 ?_
      obtain ⟨hi8, h⟩ := ckI_some h
      refine ld_maps C hi8 dX3_like_56 ?_
      refine w_aload_n C 0 rfl dX3_like_57 ?_
      refine gt_X3_17 C dX3_like_58 ?_
      refine w_iload_n C 2 rfl dX3_like_61 ?_
      obtain ⟨hi9, h⟩ := ckI_some h
      refine ld_maps C hi9 dX3_like_62 ?_
      refine w_iload_n C 3 rfl dX3_like_63 ?_
      refine w_iload C 4 rfl dX3_like_64 ?_
      refine w_iload C 5 rfl dX3_like_66 ?_
      obtain ⟨x10, hx10, h⟩ := bd_some h
      refine w_cVi (wr := []) (qc := (RX3, TX3, 8)) C (c_X3_isDress fu (Nat.lt_trans (vp_lt hi8) (by decide)) (Nat.lt_trans (vp_lt hi9) (by decide)) hx10) pk_X3_isDress ml_X3_148 (As := [.ref (xa (3 + v1.toNatClampNeg)), .ref (xa (3 + v2.toNatClampNeg)), .int v3, .int v4, .int v5]) (rest := []) (k9 := 0) rfl rfl ⟨⟨rfl, rfl⟩, Nat.le_of_ble_eq_true rfl, Nat.le_of_ble_eq_true rfl⟩ rfl ⟨(Nat.le_of_ble_eq_true rfl), (Nat.le_of_ble_eq_true rfl)⟩ (Nat.le_of_ble_eq_true rfl) rfl rfl (List.nil_append _) dX3_like_68 ?_
      refine w_if_eq (tgt := 76) C dX3_like_71 (by decide) (fun hb11 => ?_) (fun hb11 => ?_)
      · have h := if_t hb11 h
        refine w_iinc (v := v5 + 1) (k := 5) C rfl rfl (Nat.le_of_ble_eq_true rfl) rfl dX3_like_76 ?_
        refine w_goto (tgt := 41) C dX3_like_79 (by decide) ?_
        refine w_lv [1, 2, 3, 4, 5, 0] rfl ?_
        exact ih _ h
      · have h := if_f hb11 h
        refine w_iconst (v := 1) C dX3_like_74 (by decide) ?_
        cases h
        exact w_iret C ⟨rfl, rfl⟩ dX3_like_75
set_option maxRecDepth 20000 in
set_option maxHeartbeats 4000000 in
theorem w_X3_like_29 {fa : Nat → Nat} {N : Nat} {ra : Nat} {xa : Nat → Nat} {FA : Nat → Option Nat} {ak : Int64} {r1 : Int32} {r2 : Int32} {r3 : Int32} {r4 : Int32} {r5 : Int32} {fp : Int32} {t2 : Nat → Int32} {t4 : Nat → Int32} {t5 : Nat → Int32} {tL : Nat → Option Nat} {xq : Int32} {RR : Nat → Nat → Int32} {fq : Int32} {t0 : Nat → Int32} {t1 : Nat → Int32} {t3 : Nat → Int32} {v1 : Int32} {v2 : Int32} {v3 : Int32} {fu : Nat} {rc18 : Int32 → Option Int32} {r : Int32} (C : Cx p s m args meth c G A RX3 cX3_like 6 ((some .int)))  (hrc18 : ∀ (v3 : Int32), rc18 v3 = some r → Wd p l e rm_X3_like s m args below meth c G A 6 0 0 (QQ G A (fun o w => o = some (.int r) ∧ w = (xm G xa FA (fa 0) ra xq ak RR ++ ([rcw ra r1 r2 r3 r4 r5] ++ (fw G fa N fp fq t0 t1 t2 t3 t4 t5 tL)))) below args s 0 0) (xm G xa FA (fa 0) ra xq ak RR ++ ([rcw ra r1 r2 r3 r4 r5] ++ (fw G fa N fp fq t0 t1 t2 t3 t4 t5 tL))) [(0, .ref (xa 0)), (1, .int v1), (2, .int v2), (3, .int v3)] 18 []) : ∀ (fk : Nat) (v4 : Int32), X3_like_29 fu N rc18 xq RR fq t0 t1 t3 v1 v2 v3 fk v4 = some r → Wd p l e rm_X3_like s m args below meth c G A 6 0 0 (QQ G A (fun o w => o = some (.int r) ∧ w = (xm G xa FA (fa 0) ra xq ak RR ++ ([rcw ra r1 r2 r3 r4 r5] ++ (fw G fa N fp fq t0 t1 t2 t3 t4 t5 tL)))) below args s 0 0) (xm G xa FA (fa 0) ra xq ak RR ++ ([rcw ra r1 r2 r3 r4 r5] ++ (fw G fa N fp fq t0 t1 t2 t3 t4 t5 tL))) [(0, .ref (xa 0)), (1, .int v1), (2, .int v2), (3, .int v3), (4, .int v4)] 29 [] := by
  intro fk
  induction fk with
  | zero =>
    intro v4 h
    have h : (none : Option Int32) = some r := h
    cases h
  | succ fk ih =>
    intro v4 h
    have h : X3_like_29_b fu N rc18 xq RR fq t0 t1 t3 v1 v2 v3 (X3_like_29 fu N rc18 xq RR fq t0 t1 t3 v1 v2 v3 fk) v4 = some r := h
    unfold X3_like_29_b at h
    refine w_iload C 4 rfl dX3_like_29 ?_
    refine w_aload_n C 0 rfl dX3_like_31 ?_
    refine gt_X3_42 C dX3_like_32 ?_
    refine w_icmp_ge (tgt := 88) C dX3_like_35 (by decide) (fun hb6 => ?_) (fun hb6 => ?_)
    · have h := if_t hb6 h
      refine w_iinc (v := v3 + 1) (k := 3) C rfl rfl (Nat.le_of_ble_eq_true rfl) rfl dX3_like_88 ?_
      refine w_goto (tgt := 18) C dX3_like_91 (by decide) ?_
      refine w_lv [1, 2, 3, 0] rfl ?_
      exact hrc18 _ h
    · have h := if_f hb6 h
      refine w_iconst (v := 0) C dX3_like_38 (by decide) ?_
      refine w_istore C (Nat.le_of_ble_eq_true rfl) rfl dX3_like_39 ?_
      refine w_lv [1, 2, 3, 4, 5, 0] rfl ?_
      exact w_X3_like_41 C   hrc18 ih _ _ h
set_option maxRecDepth 20000 in
set_option maxHeartbeats 4000000 in
theorem w_X3_like_18 {fa : Nat → Nat} {N : Nat} {ra : Nat} {xa : Nat → Nat} {FA : Nat → Option Nat} {ak : Int64} {r1 : Int32} {r2 : Int32} {r3 : Int32} {r4 : Int32} {r5 : Int32} {fp : Int32} {t2 : Nat → Int32} {t4 : Nat → Int32} {t5 : Nat → Int32} {tL : Nat → Option Nat} {xq : Int32} {RR : Nat → Nat → Int32} {fq : Int32} {t0 : Nat → Int32} {t1 : Nat → Int32} {t3 : Nat → Int32} {v1 : Int32} {v2 : Int32} {fu : Nat}  {r : Int32} (C : Cx p s m args meth c G A RX3 cX3_like 6 ((some .int)))   : ∀ (fk : Nat) (v3 : Int32), X3_like_18 fu N  xq RR fq t0 t1 t3 v1 v2 fk v3 = some r → Wd p l e rm_X3_like s m args below meth c G A 6 0 0 (QQ G A (fun o w => o = some (.int r) ∧ w = (xm G xa FA (fa 0) ra xq ak RR ++ ([rcw ra r1 r2 r3 r4 r5] ++ (fw G fa N fp fq t0 t1 t2 t3 t4 t5 tL)))) below args s 0 0) (xm G xa FA (fa 0) ra xq ak RR ++ ([rcw ra r1 r2 r3 r4 r5] ++ (fw G fa N fp fq t0 t1 t2 t3 t4 t5 tL))) [(0, .ref (xa 0)), (1, .int v1), (2, .int v2), (3, .int v3)] 18 [] := by
  intro fk
  induction fk with
  | zero =>
    intro v3 h
    have h : (none : Option Int32) = some r := h
    cases h
  | succ fk ih =>
    intro v3 h
    have h : X3_like_18_b fu N  xq RR fq t0 t1 t3 v1 v2 (X3_like_18 fu N  xq RR fq t0 t1 t3 v1 v2 fk) v3 = some r := h
    unfold X3_like_18_b at h
    refine w_iload_n C 3 rfl dX3_like_18 ?_
    refine w_aload_n C 0 rfl dX3_like_19 ?_
    refine gt_X3_42 C dX3_like_20 ?_
    refine w_icmp_ge (tgt := 94) C dX3_like_23 (by decide) (fun hb5 => ?_) (fun hb5 => ?_)
    · have h := if_t hb5 h
      refine w_iconst (v := 0) C dX3_like_94 (by decide) ?_
      cases h
      exact w_iret C ⟨rfl, rfl⟩ dX3_like_95
    · have h := if_f hb5 h
      refine w_iconst (v := 1) C dX3_like_26 (by decide) ?_
      refine w_istore C (Nat.le_of_ble_eq_true rfl) rfl dX3_like_27 ?_
      refine w_lv [1, 2, 3, 4, 0] rfl ?_
      exact w_X3_like_29 C   ih _ _ h
set_option maxRecDepth 20000 in
set_option maxHeartbeats 4000000 in
theorem w_X3_like {fa : Nat → Nat} {N : Nat} {ra : Nat} {xa : Nat → Nat} {FA : Nat → Option Nat} {ak : Int64} {r1 : Int32} {r2 : Int32} {r3 : Int32} {r4 : Int32} {r5 : Int32} {fp : Int32} {t2 : Nat → Int32} {t4 : Nat → Int32} {t5 : Nat → Int32} {tL : Nat → Option Nat} {fu : Nat}  {xq : Int32} {RR : Nat → Nat → Int32} {fq : Int32} {t0 : Nat → Int32} {t1 : Nat → Int32} {t3 : Nat → Int32} {v1 : Int32} {v2 : Int32} {r : Int32} (C : Cx p s m args meth c G A RX3 cX3_like 6 ((some .int)))   (h : X3_like fu N  xq RR fq t0 t1 t3 v1 v2 = some r) : Wd p l e rm_X3_like s m args below meth c G A 6 0 0 (QQ G A (fun o w => o = some (.int r) ∧ w = (xm G xa FA (fa 0) ra xq ak RR ++ ([rcw ra r1 r2 r3 r4 r5] ++ (fw G fa N fp fq t0 t1 t2 t3 t4 t5 tL)))) below args s 0 0) (xm G xa FA (fa 0) ra xq ak RR ++ ([rcw ra r1 r2 r3 r4 r5] ++ (fw G fa N fp fq t0 t1 t2 t3 t4 t5 tL))) [(0, .ref (xa 0)), (1, .int v1), (2, .int v2)] 0 [] := by
  unfold X3_like at h
  refine w_iload_n C 1 rfl dX3_like_0 ?_
  obtain ⟨x1, hx1, h⟩ := bd_some h
  refine w_cSi C (c_X3_isMap fu  hx1) pk_X3_isMap ml_X3_64 (As := [.int v1]) (rest := []) ⟨⟨rfl, rfl⟩, Nat.le_of_ble_eq_true rfl, Nat.le_of_ble_eq_true rfl⟩ rfl ⟨(Nat.le_of_ble_eq_true rfl), (Nat.le_of_ble_eq_true rfl)⟩ (Nat.le_of_ble_eq_true rfl) rfl (List.append_nil _).symm (List.append_nil _) dX3_like_1 ?_
  refine w_if_eq (tgt := 14) C dX3_like_4 (by decide) (fun hb2 => ?_) (fun hb2 => ?_)
  · have h := if_t hb2 h
    refine w_iconst (v := (-1)) C dX3_like_14 (by decide) ?_
    cases h
    exact w_iret C ⟨rfl, rfl⟩ dX3_like_15
  · have h := if_f hb2 h
    refine w_iload_n C 2 rfl dX3_like_7 ?_
    obtain ⟨x3, hx3, h⟩ := bd_some h
    refine w_cSi C (c_X3_isMap fu  hx3) pk_X3_isMap ml_X3_64 (As := [.int v2]) (rest := []) ⟨⟨rfl, rfl⟩, Nat.le_of_ble_eq_true rfl, Nat.le_of_ble_eq_true rfl⟩ rfl ⟨(Nat.le_of_ble_eq_true rfl), (Nat.le_of_ble_eq_true rfl)⟩ (Nat.le_of_ble_eq_true rfl) rfl (List.append_nil _).symm (List.append_nil _) dX3_like_8 ?_
    refine w_if_ne (tgt := 16) C dX3_like_11 (by decide) (fun hb4 => ?_) (fun hb4 => ?_)
    · have h := if_f hb4 h
      refine w_iconst (v := 1) C dX3_like_16 (by decide) ?_
      refine w_istore_n C (Nat.le_of_ble_eq_true rfl) rfl dX3_like_17 ?_
      refine w_lv [1, 2, 3, 0] rfl ?_
      exact w_X3_like_18 C    _ _ h
    · have h := if_t hb4 h
      refine w_iconst (v := (-1)) C dX3_like_14 (by decide) ?_
      cases h
      exact w_iret C ⟨rfl, rfl⟩ dX3_like_15
theorem c_X3_like {l : Launch} {G : GG} {fa : Nat → Nat} {N : Nat} {ra : Nat} {xa : Nat → Nat} {FA : Nat → Option Nat} {xq : Int32} {ak : Int64} {RR : Nat → Nat → Int32} {r1 : Int32} {r2 : Int32} {r3 : Int32} {r4 : Int32} {r5 : Int32} {fp : Int32} {fq : Int32} {t0 : Nat → Int32} {t1 : Nat → Int32} {t2 : Nat → Int32} {t3 : Nat → Int32} {t4 : Nat → Int32} {t5 : Nat → Int32} {tL : Nat → Option Nat} (fu : Nat) {v1 : Int32} {v2 : Int32} {r : Int32} (h : X3_like fu N xq RR fq t0 t1 t3 v1 v2 = some r) : Ct l yX3_like cX3_like 6 ((some .int)) G rm_X3_like [.ref (xa 0), .int v1, .int v2] (xm G xa FA (fa 0) ra xq ak RR ++ ([rcw ra r1 r2 r3 r4 r5] ++ (fw G fa N fp fq t0 t1 t2 t3 t4 t5 tL))) (fun o w => o = some (.int r) ∧ w = (xm G xa FA (fa 0) ra xq ak RR ++ ([rcw ra r1 r2 r3 r4 r5] ++ (fw G fa N fp fq t0 t1 t2 t3 t4 t5 tL)))) 0 0 := Ct.of (by decide) (Nat.le_of_ble_eq_true rfl) (fun p e s m args below meth c A C _ => w_X3_like C h)
abbrev rm_X3_keepIfLess : Room := { frames := 2, cells := 0, slots := 0, locals := 47 }
theorem pk_X3_keepIfLess : PkV RX3 yX3_keepIfLess cX3_keepIfLess 9 none 4 := ⟨rfl, co_X3_keepIfLess, ini_RX3, im_X3_keepIfLess, se_X3_keepIfLess, by decide +kernel⟩
set_option maxRecDepth 20000 in
set_option maxHeartbeats 4000000 in
theorem w_X3_keepIfLess_97 {fa : Nat → Nat} {N : Nat} {ra : Nat} {xa : Nat → Nat} {FA : Nat → Option Nat} {ak : Int64} {r1 : Int32} {r2 : Int32} {r3 : Int32} {r4 : Int32} {r5 : Int32} {fp : Int32} {t2 : Nat → Int32} {t4 : Nat → Int32} {t5 : Nat → Int32} {tL : Nat → Option Nat} {fu : Nat} {rc26 : (Nat → Nat → Int32) → Int32 → Int32 → Option ((Nat → Nat → Int32))} {xq : Int32} {RR : Nat → Nat → Int32} {fq : Int32} {t0 : Nat → Int32} {t1 : Nat → Int32} {t3 : Nat → Int32} {s0 : Int32} {j1 : Nat} {v2 : Int32} {v3 : Int32} {v4 : Int32} {v5 : Int32} {v7 : Int32} {v8 : Int32} {r : (Nat → Nat → Int32)} (C : Cx p s m args meth c G A RX3 cX3_keepIfLess 9 none) (hj1 : j1 < 6) (hrc26 : ∀ (RR : Nat → Nat → Int32) (v6 : Int32) (v7 : Int32), rc26 RR v6 v7 = some r → Wd p l e rm_X3_keepIfLess s m args below meth c G A 9 0 0 (QQ G A (fun o w => o = none ∧ w = (xm G xa FA (fa 0) ra xq ak r ++ ([rcw ra r1 r2 r3 r4 r5] ++ (fw G fa N fp fq t0 t1 t2 t3 t4 t5 tL)))) below args s 0 0) (xm G xa FA (fa 0) ra xq ak RR ++ ([rcw ra r1 r2 r3 r4 r5] ++ (fw G fa N fp fq t0 t1 t2 t3 t4 t5 tL))) [(0, .ref (xa 0)), (1, .ref (xa (3 + j1))), (2, .int v2), (3, .int v3), (4, .int v4), (5, .int v5), (6, .int v6), (7, .int v7)] 26 []) (h : X3_keepIfLess_97 fu N rc26 xq RR fq t0 t1 t3 s0 j1 v2 v3 v4 v5 v7 v8 = some r) : Wd p l e rm_X3_keepIfLess s m args below meth c G A 9 0 0 (QQ G A (fun o w => o = none ∧ w = (xm G xa FA (fa 0) ra xq ak r ++ ([rcw ra r1 r2 r3 r4 r5] ++ (fw G fa N fp fq t0 t1 t2 t3 t4 t5 tL)))) below args s 0 0) (xm G xa FA (fa 0) ra xq ak RR ++ ([rcw ra r1 r2 r3 r4 r5] ++ (fw G fa N fp fq t0 t1 t2 t3 t4 t5 tL))) [(0, .ref (xa 0)), (1, .ref (xa (3 + j1))), (2, .int v2), (3, .int v3), (4, .int v4), (5, .int v5), (7, .int v7), (8, .int v8)] 97 [.int s0] := by
  unfold X3_keepIfLess_97 at h
  refine w_istore C (Nat.le_of_ble_eq_true rfl) rfl dX3_keepIfLess_97 ?_
  refine w_aload_n C 1 rfl dX3_keepIfLess_99 ?_
  refine gt_X3_20 C dX3_keepIfLess_100 ?_
  refine w_iload C 7 rfl dX3_keepIfLess_103 ?_
  refine w_iload C 8 rfl dX3_keepIfLess_105 ?_
  obtain ⟨hi8, h⟩ := ckI_some h
  refine sr_row C (by decide) hi8 dX3_keepIfLess_107 ?_
  refine w_iinc (v := v7 + 1) (k := 7) C rfl rfl (Nat.le_of_ble_eq_true rfl) rfl dX3_keepIfLess_108 ?_
  refine w_goto (tgt := 26) C dX3_keepIfLess_111 (by decide) ?_
  refine w_lv [2, 3, 4, 5, 6, 7, 1, 0] rfl ?_
  exact hrc26 _ _ _ h
set_option maxRecDepth 20000 in
set_option maxHeartbeats 4000000 in
theorem w_X3_keepIfLess_92 {fa : Nat → Nat} {N : Nat} {ra : Nat} {xa : Nat → Nat} {FA : Nat → Option Nat} {ak : Int64} {r1 : Int32} {r2 : Int32} {r3 : Int32} {r4 : Int32} {r5 : Int32} {fp : Int32} {t2 : Nat → Int32} {t4 : Nat → Int32} {t5 : Nat → Int32} {tL : Nat → Option Nat} {fu : Nat} {rc26 : (Nat → Nat → Int32) → Int32 → Int32 → Option ((Nat → Nat → Int32))} {xq : Int32} {RR : Nat → Nat → Int32} {fq : Int32} {t0 : Nat → Int32} {t1 : Nat → Int32} {t3 : Nat → Int32} {j1 : Nat} {v2 : Int32} {v3 : Int32} {v4 : Int32} {v5 : Int32} {v7 : Int32} {v8 : Int32} {r : (Nat → Nat → Int32)} (C : Cx p s m args meth c G A RX3 cX3_keepIfLess 9 none) (hj1 : j1 < 6) (hrc26 : ∀ (RR : Nat → Nat → Int32) (v6 : Int32) (v7 : Int32), rc26 RR v6 v7 = some r → Wd p l e rm_X3_keepIfLess s m args below meth c G A 9 0 0 (QQ G A (fun o w => o = none ∧ w = (xm G xa FA (fa 0) ra xq ak r ++ ([rcw ra r1 r2 r3 r4 r5] ++ (fw G fa N fp fq t0 t1 t2 t3 t4 t5 tL)))) below args s 0 0) (xm G xa FA (fa 0) ra xq ak RR ++ ([rcw ra r1 r2 r3 r4 r5] ++ (fw G fa N fp fq t0 t1 t2 t3 t4 t5 tL))) [(0, .ref (xa 0)), (1, .ref (xa (3 + j1))), (2, .int v2), (3, .int v3), (4, .int v4), (5, .int v5), (6, .int v6), (7, .int v7)] 26 []) (h : X3_keepIfLess_92 fu N rc26 xq RR fq t0 t1 t3 j1 v2 v3 v4 v5 v7 v8 = some r) : Wd p l e rm_X3_keepIfLess s m args below meth c G A 9 0 0 (QQ G A (fun o w => o = none ∧ w = (xm G xa FA (fa 0) ra xq ak r ++ ([rcw ra r1 r2 r3 r4 r5] ++ (fw G fa N fp fq t0 t1 t2 t3 t4 t5 tL)))) below args s 0 0) (xm G xa FA (fa 0) ra xq ak RR ++ ([rcw ra r1 r2 r3 r4 r5] ++ (fw G fa N fp fq t0 t1 t2 t3 t4 t5 tL))) [(0, .ref (xa 0)), (1, .ref (xa (3 + j1))), (2, .int v2), (3, .int v3), (4, .int v4), (5, .int v5), (7, .int v7), (8, .int v8)] 92 [] := by
  unfold X3_keepIfLess_92 at h
  refine w_iconst (v := 1) C dX3_keepIfLess_92 (by decide) ?_
  refine w_goto (tgt := 97) C dX3_keepIfLess_93 (by decide) ?_
  refine w_lv [0, 1, 2, 3, 4, 5, 6, 7] rfl ?_
  exact w_X3_keepIfLess_97 C  hj1 hrc26 h
set_option maxRecDepth 20000 in
set_option maxHeartbeats 4000000 in
theorem w_X3_keepIfLess_75 {fa : Nat → Nat} {N : Nat} {ra : Nat} {xa : Nat → Nat} {FA : Nat → Option Nat} {ak : Int64} {r1 : Int32} {r2 : Int32} {r3 : Int32} {r4 : Int32} {r5 : Int32} {fp : Int32} {t2 : Nat → Int32} {t4 : Nat → Int32} {t5 : Nat → Int32} {tL : Nat → Option Nat} {fu : Nat} {rc26 : (Nat → Nat → Int32) → Int32 → Int32 → Option ((Nat → Nat → Int32))} {xq : Int32} {RR : Nat → Nat → Int32} {fq : Int32} {t0 : Nat → Int32} {t1 : Nat → Int32} {t3 : Nat → Int32} {j1 : Nat} {v2 : Int32} {v3 : Int32} {v4 : Int32} {v5 : Int32} {v6 : Int32} {v7 : Int32} {v8 : Int32} {r : (Nat → Nat → Int32)} (C : Cx p s m args meth c G A RX3 cX3_keepIfLess 9 none) (hj1 : j1 < 6) (hrc26 : ∀ (RR : Nat → Nat → Int32) (v6 : Int32) (v7 : Int32), rc26 RR v6 v7 = some r → Wd p l e rm_X3_keepIfLess s m args below meth c G A 9 0 0 (QQ G A (fun o w => o = none ∧ w = (xm G xa FA (fa 0) ra xq ak r ++ ([rcw ra r1 r2 r3 r4 r5] ++ (fw G fa N fp fq t0 t1 t2 t3 t4 t5 tL)))) below args s 0 0) (xm G xa FA (fa 0) ra xq ak RR ++ ([rcw ra r1 r2 r3 r4 r5] ++ (fw G fa N fp fq t0 t1 t2 t3 t4 t5 tL))) [(0, .ref (xa 0)), (1, .ref (xa (3 + j1))), (2, .int v2), (3, .int v3), (4, .int v4), (5, .int v5), (6, .int v6), (7, .int v7)] 26 []) (h : X3_keepIfLess_75 fu N rc26 xq RR fq t0 t1 t3 j1 v2 v3 v4 v5 v6 v7 v8 = some r) : Wd p l e rm_X3_keepIfLess s m args below meth c G A 9 0 0 (QQ G A (fun o w => o = none ∧ w = (xm G xa FA (fa 0) ra xq ak r ++ ([rcw ra r1 r2 r3 r4 r5] ++ (fw G fa N fp fq t0 t1 t2 t3 t4 t5 tL)))) below args s 0 0) (xm G xa FA (fa 0) ra xq ak RR ++ ([rcw ra r1 r2 r3 r4 r5] ++ (fw G fa N fp fq t0 t1 t2 t3 t4 t5 tL))) [(0, .ref (xa 0)), (1, .ref (xa (3 + j1))), (2, .int v2), (3, .int v3), (4, .int v4), (5, .int v5), (6, .int v6), (7, .int v7), (8, .int v8)] 75 [] := by
  unfold X3_keepIfLess_75 at h
  refine w_iload C 6 rfl dX3_keepIfLess_75 ?_
  refine w_if_ne (tgt := 92) C dX3_keepIfLess_77 (by decide) (fun hb7 => ?_) (fun hb7 => ?_)
  · have h := if_f hb7 h
    refine w_lv [0, 1, 2, 3, 4, 5, 7, 8] rfl ?_
    exact w_X3_keepIfLess_92 C  hj1 hrc26 h
  · have h := if_t hb7 h
    refine w_iload C 8 rfl dX3_keepIfLess_80 ?_
    refine w_aload_n C 0 rfl dX3_keepIfLess_82 ?_
    refine gt_X3_20 C dX3_keepIfLess_83 ?_
    refine w_iload C 7 rfl dX3_keepIfLess_86 ?_
    obtain ⟨hi9, h⟩ := ckI_some h
    refine ld_row C (by decide) hi9 dX3_keepIfLess_88 ?_
    refine w_icmp_ge (tgt := 96) C dX3_keepIfLess_89 (by decide) (fun hb10 => ?_) (fun hb10 => ?_)
    · have h := if_t hb10 h
      refine w_iconst (v := 0) C dX3_keepIfLess_96 (by decide) ?_
      refine w_lv [0, 1, 2, 3, 4, 5, 7, 8] rfl ?_
      exact w_X3_keepIfLess_97 C  hj1 hrc26 h
    · have h := if_f hb10 h
      refine w_lv [0, 1, 2, 3, 4, 5, 7, 8] rfl ?_
      exact w_X3_keepIfLess_92 C  hj1 hrc26 h
set_option maxRecDepth 20000 in
set_option maxHeartbeats 4000000 in
theorem w_X3_keepIfLess_26 {fa : Nat → Nat} {N : Nat} {ra : Nat} {xa : Nat → Nat} {FA : Nat → Option Nat} {ak : Int64} {r1 : Int32} {r2 : Int32} {r3 : Int32} {r4 : Int32} {r5 : Int32} {fp : Int32} {t2 : Nat → Int32} {t4 : Nat → Int32} {t5 : Nat → Int32} {tL : Nat → Option Nat} {xq : Int32} {fq : Int32} {t0 : Nat → Int32} {t1 : Nat → Int32} {t3 : Nat → Int32} {j1 : Nat} {v2 : Int32} {v3 : Int32} {v4 : Int32} {v5 : Int32} {fu : Nat}  {r : (Nat → Nat → Int32)} (C : Cx p s m args meth c G A RX3 cX3_keepIfLess 9 none) (hj1 : j1 < 6)  : ∀ (fk : Nat) (RR : Nat → Nat → Int32) (v6 : Int32) (v7 : Int32), X3_keepIfLess_26 fu N  xq fq t0 t1 t3 j1 v2 v3 v4 v5 fk RR v6 v7 = some r → Wd p l e rm_X3_keepIfLess s m args below meth c G A 9 0 0 (QQ G A (fun o w => o = none ∧ w = (xm G xa FA (fa 0) ra xq ak r ++ ([rcw ra r1 r2 r3 r4 r5] ++ (fw G fa N fp fq t0 t1 t2 t3 t4 t5 tL)))) below args s 0 0) (xm G xa FA (fa 0) ra xq ak RR ++ ([rcw ra r1 r2 r3 r4 r5] ++ (fw G fa N fp fq t0 t1 t2 t3 t4 t5 tL))) [(0, .ref (xa 0)), (1, .ref (xa (3 + j1))), (2, .int v2), (3, .int v3), (4, .int v4), (5, .int v5), (6, .int v6), (7, .int v7)] 26 [] := by
  intro fk
  induction fk with
  | zero =>
    intro RR v6 v7 h
    have h : (none : Option ((Nat → Nat → Int32))) = some r := h
    cases h
  | succ fk ih =>
    intro RR v6 v7 h
    have h : X3_keepIfLess_26_b fu N  xq fq t0 t1 t3 j1 v2 v3 v4 v5 (X3_keepIfLess_26 fu N  xq fq t0 t1 t3 j1 v2 v3 v4 v5 fk) RR v6 v7 = some r := h
    unfold X3_keepIfLess_26_b at h
    refine w_iload C 7 rfl dX3_keepIfLess_26 ?_
    refine w_aload_n C 0 rfl dX3_keepIfLess_28 ?_
    refine gt_X3_42 C dX3_keepIfLess_29 ?_
    refine w_icmp_ge (tgt := 114) C dX3_keepIfLess_32 (by decide) (fun hb3 => ?_) (fun hb3 => ?_)
    · have h := if_t hb3 h
      cases h
      exact w_vret C ⟨rfl, rfl⟩ dX3_keepIfLess_114
    · have h := if_f hb3 h
      refine w_aload_n C 0 rfl dX3_keepIfLess_35 ?_
      refine gt_X3_49 C dX3_keepIfLess_36 ?_
      refine w_aload_n C 0 rfl dX3_keepIfLess_39 ?_
      refine w_aload_n C 1 rfl dX3_keepIfLess_40 ?_
      refine w_iload_n C 2 rfl dX3_keepIfLess_41 ?_
      refine w_iload_n C 3 rfl dX3_keepIfLess_42 ?_
      refine w_iload C 4 rfl dX3_keepIfLess_43 ?_
      refine w_iload C 7 rfl dX3_keepIfLess_45 ?_
      obtain ⟨x4, hx4, h⟩ := bd_some h
      refine w_cVi (wr := []) (qc := (RX3, TX3, 8)) C (c_X3_dressedAt fu hj1 hx4) pk_X3_dressedAt ml_X3_201 (As := [.ref (xa (3 + j1)), .int v2, .int v3, .int v4, .int v7]) (rest := [.ref (fa 0)]) (k9 := 0) rfl rfl ⟨⟨rfl, rfl⟩, Nat.le_of_ble_eq_true rfl, Nat.le_of_ble_eq_true rfl⟩ rfl ⟨(Nat.le_of_ble_eq_true rfl), (Nat.le_of_ble_eq_true rfl)⟩ (Nat.le_of_ble_eq_true rfl) rfl rfl (List.nil_append _) dX3_keepIfLess_47 ?_
      refine w_iload C 5 rfl dX3_keepIfLess_50 ?_
      obtain ⟨x5, hx5, h⟩ := bd_some h
      refine w_cVi (qc := (RX0, TX0, 9)) C (c_X0_sum fu  hx5) pk_X0_sum ml_X3_53 (As := [.int x4, .int v5]) (rest := []) (k9 := 0) rfl rfl ⟨⟨rfl, rfl⟩, Nat.le_of_ble_eq_true rfl, Nat.le_of_ble_eq_true rfl⟩ rfl ⟨(Nat.le_of_ble_eq_true rfl), (Nat.le_of_ble_eq_true rfl)⟩ (Nat.le_of_ble_eq_true rfl) rfl (List.append_assoc _ _ _).symm (List.append_assoc _ _ _) dX3_keepIfLess_52 ?_
      refine w_istore C (Nat.le_of_ble_eq_true rfl) rfl dX3_keepIfLess_55 ?_
      refine w_iload C 7 rfl dX3_keepIfLess_57 ?_
      refine w_if_ne (tgt := 75) C dX3_keepIfLess_59 (by decide) (fun hb6 => ?_) (fun hb6 => ?_)
      · have h := if_f hb6 h
        refine w_lv [1, 2, 3, 4, 5, 6, 7, 8, 0] rfl ?_
        exact w_X3_keepIfLess_75 C  hj1 ih h
      · have h := if_t hb6 h
        refine w_iload C 0 rfl dX3_keepIfLess_62 ?_
        refine w_aload_n C 1 rfl dX3_keepIfLess_64 ?_
        refine gt_X3_20 C dX3_keepIfLess_65 ?_
        refine w_iload C 8 rfl dX3_keepIfLess_68 ?_
        obtain ⟨hi11, h⟩ := ckI_some h
        refine ld_row C (by decide) hi11 dX3_keepIfLess_70 ?_
        refine w_icmp_le (tgt := 75) C dX3_keepIfLess_71 (by decide) (fun hb12 => ?_) (fun hb12 => ?_)
        · have h := if_t hb12 h
          refine w_lv [1, 2, 3, 4, 5, 6, 7, 8, 0] rfl ?_
          exact w_X3_keepIfLess_75 C  hj1 ih h
        · have h := if_f hb12 h
          cases h
          exact w_vret C ⟨rfl, rfl⟩ dX3_keepIfLess_74
set_option maxRecDepth 20000 in
set_option maxHeartbeats 4000000 in
theorem w_X3_keepIfLess {fa : Nat → Nat} {N : Nat} {ra : Nat} {xa : Nat → Nat} {FA : Nat → Option Nat} {ak : Int64} {r1 : Int32} {r2 : Int32} {r3 : Int32} {r4 : Int32} {r5 : Int32} {fp : Int32} {t2 : Nat → Int32} {t4 : Nat → Int32} {t5 : Nat → Int32} {tL : Nat → Option Nat} {fu : Nat}  {xq : Int32} {RR : Nat → Nat → Int32} {fq : Int32} {t0 : Nat → Int32} {t1 : Nat → Int32} {t3 : Nat → Int32} {j1 : Nat} {v2 : Int32} {v3 : Int32} {v4 : Int32} {r : (Nat → Nat → Int32)} (C : Cx p s m args meth c G A RX3 cX3_keepIfLess 9 none) (hj1 : j1 < 6)  (h : X3_keepIfLess fu N  xq RR fq t0 t1 t3 j1 v2 v3 v4 = some r) : Wd p l e rm_X3_keepIfLess s m args below meth c G A 9 0 0 (QQ G A (fun o w => o = none ∧ w = (xm G xa FA (fa 0) ra xq ak r ++ ([rcw ra r1 r2 r3 r4 r5] ++ (fw G fa N fp fq t0 t1 t2 t3 t4 t5 tL)))) below args s 0 0) (xm G xa FA (fa 0) ra xq ak RR ++ ([rcw ra r1 r2 r3 r4 r5] ++ (fw G fa N fp fq t0 t1 t2 t3 t4 t5 tL))) [(0, .ref (xa 0)), (1, .ref (xa (3 + j1))), (2, .int v2), (3, .int v3), (4, .int v4)] 0 [] := by
  unfold X3_keepIfLess at h
  refine w_aload_n C 0 rfl dX3_keepIfLess_0 ?_
  refine gt_X3_49 C dX3_keepIfLess_1 ?_
  refine w_iconst (v := 0) C dX3_keepIfLess_4 (by decide) ?_
  refine w_aload_n C 0 rfl dX3_keepIfLess_5 ?_
  refine w_aload_n C 1 rfl dX3_keepIfLess_6 ?_
  refine w_iload_n C 2 rfl dX3_keepIfLess_7 ?_
  refine w_iload_n C 3 rfl dX3_keepIfLess_8 ?_
  refine w_iload C 4 rfl dX3_keepIfLess_9 ?_
  refine w_iconst (v := 0) C dX3_keepIfLess_11 (by decide) ?_
  obtain ⟨x1, hx1, h⟩ := bd_some h
  refine w_cVi (wr := []) (qc := (RX3, TX3, 8)) C (c_X3_dressedAt fu hj1 hx1) pk_X3_dressedAt ml_X3_201 (As := [.ref (xa (3 + j1)), .int v2, .int v3, .int v4, .int 0]) (rest := [.int 0, .ref (fa 0)]) (k9 := 0) rfl rfl ⟨⟨rfl, rfl⟩, Nat.le_of_ble_eq_true rfl, Nat.le_of_ble_eq_true rfl⟩ rfl ⟨(Nat.le_of_ble_eq_true rfl), (Nat.le_of_ble_eq_true rfl)⟩ (Nat.le_of_ble_eq_true rfl) rfl rfl (List.nil_append _) dX3_keepIfLess_12 ?_
  obtain ⟨x2, hx2, h⟩ := bd_some h
  refine w_cVi (qc := (RX0, TX0, 9)) C (c_X0_less fu  hx2) pk_X0_less ml_X3_71 (As := [.int 0, .int x1]) (rest := []) (k9 := 0) rfl rfl ⟨⟨rfl, rfl⟩, Nat.le_of_ble_eq_true rfl, Nat.le_of_ble_eq_true rfl⟩ rfl ⟨(Nat.le_of_ble_eq_true rfl), (Nat.le_of_ble_eq_true rfl)⟩ (Nat.le_of_ble_eq_true rfl) rfl (List.append_assoc _ _ _).symm (List.append_assoc _ _ _) dX3_keepIfLess_15 ?_
  refine w_istore C (Nat.le_of_ble_eq_true rfl) rfl dX3_keepIfLess_18 ?_
  refine w_iconst (v := 0) C dX3_keepIfLess_20 (by decide) ?_
  refine w_istore C (Nat.le_of_ble_eq_true rfl) rfl dX3_keepIfLess_21 ?_
  refine w_iconst (v := 0) C dX3_keepIfLess_23 (by decide) ?_
  refine w_istore C (Nat.le_of_ble_eq_true rfl) rfl dX3_keepIfLess_24 ?_
  refine w_lv [3, 4, 5, 6, 7, 2, 1, 0] rfl ?_
  exact w_X3_keepIfLess_26 C  hj1  _ _ _ _ h
theorem c_X3_keepIfLess {l : Launch} {G : GG} {fa : Nat → Nat} {N : Nat} {ra : Nat} {xa : Nat → Nat} {FA : Nat → Option Nat} {xq : Int32} {ak : Int64} {RR : Nat → Nat → Int32} {r1 : Int32} {r2 : Int32} {r3 : Int32} {r4 : Int32} {r5 : Int32} {fp : Int32} {fq : Int32} {t0 : Nat → Int32} {t1 : Nat → Int32} {t2 : Nat → Int32} {t3 : Nat → Int32} {t4 : Nat → Int32} {t5 : Nat → Int32} {tL : Nat → Option Nat} (fu : Nat) {j1 : Nat} {v2 : Int32} {v3 : Int32} {v4 : Int32} (hj1 : j1 < 6) {r : (Nat → Nat → Int32)} (h : X3_keepIfLess fu N xq RR fq t0 t1 t3 j1 v2 v3 v4 = some r) : Ct l yX3_keepIfLess cX3_keepIfLess 9 none G rm_X3_keepIfLess [.ref (xa 0), .ref (xa (3 + j1)), .int v2, .int v3, .int v4] (xm G xa FA (fa 0) ra xq ak RR ++ ([rcw ra r1 r2 r3 r4 r5] ++ (fw G fa N fp fq t0 t1 t2 t3 t4 t5 tL))) (fun o w => o = none ∧ w = (xm G xa FA (fa 0) ra xq ak r ++ ([rcw ra r1 r2 r3 r4 r5] ++ (fw G fa N fp fq t0 t1 t2 t3 t4 t5 tL)))) 0 0 := Ct.of (by decide) (Nat.le_of_ble_eq_true rfl) (fun p e s m args below meth c A C _ => w_X3_keepIfLess C hj1 h)
abbrev rm_X3_least : Room := { frames := 3, cells := 0, slots := 0, locals := 75 }
theorem pk_X3_least : PkV RX3 yX3_least cX3_least 5 ((some .int)) 1 := ⟨rfl, co_X3_least, ini_RX3, im_X3_least, se_X3_least, by decide +kernel⟩
set_option maxRecDepth 20000 in
set_option maxHeartbeats 4000000 in
theorem w_X3_least_43 {fa : Nat → Nat} {N : Nat} {ra : Nat} {xa : Nat → Nat} {FA : Nat → Option Nat} {ak : Int64} {r1 : Int32} {r2 : Int32} {r3 : Int32} {r4 : Int32} {r5 : Int32} {fp : Int32} {t2 : Nat → Int32} {t4 : Nat → Int32} {t5 : Nat → Int32} {tL : Nat → Option Nat} {xq : Int32} {fq : Int32} {t0 : Nat → Int32} {t1 : Nat → Int32} {t3 : Nat → Int32} {v1 : Int32} {v2 : Int32} {v3 : Int32} {fu : Nat} {rc22 : (Nat → Nat → Int32) → Int32 → Option (Int32 × (Nat → Nat → Int32))} {rc32 : (Nat → Nat → Int32) → Int32 → Option (Int32 × (Nat → Nat → Int32))} {r : Int32 × (Nat → Nat → Int32)} (C : Cx p s m args meth c G A RX3 cX3_least 5 ((some .int)))  (hrc22 : ∀ (RR : Nat → Nat → Int32) (v2 : Int32), rc22 RR v2 = some r → Wd p l e rm_X3_least s m args below meth c G A 5 0 0 (QQ G A (fun o w => o = some (.int r.1) ∧ w = (xm G xa FA (fa 0) ra xq ak r.2 ++ ([rcw ra r1 r2 r3 r4 r5] ++ (fw G fa N fp fq t0 t1 t2 t3 t4 t5 tL)))) below args s 0 0) (xm G xa FA (fa 0) ra xq ak RR ++ ([rcw ra r1 r2 r3 r4 r5] ++ (fw G fa N fp fq t0 t1 t2 t3 t4 t5 tL))) [(0, .ref (xa 0)), (1, .int v1), (2, .int v2)] 22 []) (hrc32 : ∀ (RR : Nat → Nat → Int32) (v3 : Int32), rc32 RR v3 = some r → Wd p l e rm_X3_least s m args below meth c G A 5 0 0 (QQ G A (fun o w => o = some (.int r.1) ∧ w = (xm G xa FA (fa 0) ra xq ak r.2 ++ ([rcw ra r1 r2 r3 r4 r5] ++ (fw G fa N fp fq t0 t1 t2 t3 t4 t5 tL)))) below args s 0 0) (xm G xa FA (fa 0) ra xq ak RR ++ ([rcw ra r1 r2 r3 r4 r5] ++ (fw G fa N fp fq t0 t1 t2 t3 t4 t5 tL))) [(0, .ref (xa 0)), (1, .int v1), (2, .int v2), (3, .int v3)] 32 []) : ∀ (fk : Nat) (RR : Nat → Nat → Int32) (v4 : Int32), X3_least_43 fu N rc22 rc32 xq fq t0 t1 t3 v1 v2 v3 fk RR v4 = some r → Wd p l e rm_X3_least s m args below meth c G A 5 0 0 (QQ G A (fun o w => o = some (.int r.1) ∧ w = (xm G xa FA (fa 0) ra xq ak r.2 ++ ([rcw ra r1 r2 r3 r4 r5] ++ (fw G fa N fp fq t0 t1 t2 t3 t4 t5 tL)))) below args s 0 0) (xm G xa FA (fa 0) ra xq ak RR ++ ([rcw ra r1 r2 r3 r4 r5] ++ (fw G fa N fp fq t0 t1 t2 t3 t4 t5 tL))) [(0, .ref (xa 0)), (1, .int v1), (2, .int v2), (3, .int v3), (4, .int v4)] 43 [] := by
  intro fk
  induction fk with
  | zero =>
    intro RR v4 h
    have h : (none : Option (Int32 × (Nat → Nat → Int32))) = some r := h
    cases h
  | succ fk ih =>
    intro RR v4 h
    have h : X3_least_43_b fu N rc22 rc32 xq fq t0 t1 t3 v1 v2 v3 (X3_least_43 fu N rc22 rc32 xq fq t0 t1 t3 v1 v2 v3 fk) RR v4 = some r := h
    unfold X3_least_43_b at h
    refine w_iload C 4 rfl dX3_least_43 ?_
    refine w_aload_n C 0 rfl dX3_least_45 ?_
    refine gt_X3_42 C dX3_least_46 ?_
    refine w_icmp_ge (tgt := 72) C dX3_least_49 (by decide) (fun hb7 => ?_) (fun hb7 => ?_)
    · have h := if_t hb7 h
      refine w_iinc (v := v3 + 1) (k := 3) C rfl rfl (Nat.le_of_ble_eq_true rfl) rfl dX3_least_72 ?_
      refine w_goto (tgt := 32) C dX3_least_75 (by decide) ?_
      refine w_lv [1, 2, 3, 0] rfl ?_
      exact hrc32 _ _ h
    · have h := if_f hb7 h
      refine w_aload_n C 0 rfl dX3_least_52 ?_
      refine w_aload_n C 0 rfl dX3_least_53 ?_
      refine gt_X3_17 C dX3_least_54 ?_
      refine w_iload_n C 1 rfl dX3_least_57 ?_
      obtain ⟨hi8, h⟩ := ckI_some h
      refine ld_maps C hi8 dX3_least_58 ?_
      refine w_iload_n C 2 rfl dX3_least_59 ?_
      refine w_iload_n C 3 rfl dX3_least_60 ?_
      refine w_iload C 4 rfl dX3_least_61 ?_
      obtain ⟨x9, hx9, h⟩ := bd_some h
      refine w_cVv (wr := []) (qc := (RX3, TX3, 8)) C (c_X3_keepIfLess fu (Nat.lt_trans (vp_lt hi8) (by decide)) hx9) pk_X3_keepIfLess ml_X3_152 (As := [.ref (xa (3 + v1.toNatClampNeg)), .int v2, .int v3, .int v4]) (rest := []) (k9 := 0) rfl rfl ⟨⟨rfl, rfl⟩, Nat.le_of_ble_eq_true rfl, Nat.le_of_ble_eq_true rfl⟩ rfl ⟨(Nat.le_of_ble_eq_true rfl), (Nat.le_of_ble_eq_true rfl)⟩ (Nat.le_of_ble_eq_true rfl) rfl rfl (List.nil_append _) dX3_least_63 ?_
      refine w_iinc (v := v4 + 1) (k := 4) C rfl rfl (Nat.le_of_ble_eq_true rfl) rfl dX3_least_66 ?_
      refine w_goto (tgt := 43) C dX3_least_69 (by decide) ?_
      refine w_lv [1, 2, 3, 4, 0] rfl ?_
      exact ih _ _ h
set_option maxRecDepth 20000 in
set_option maxHeartbeats 4000000 in
theorem w_X3_least_32 {fa : Nat → Nat} {N : Nat} {ra : Nat} {xa : Nat → Nat} {FA : Nat → Option Nat} {ak : Int64} {r1 : Int32} {r2 : Int32} {r3 : Int32} {r4 : Int32} {r5 : Int32} {fp : Int32} {t2 : Nat → Int32} {t4 : Nat → Int32} {t5 : Nat → Int32} {tL : Nat → Option Nat} {xq : Int32} {fq : Int32} {t0 : Nat → Int32} {t1 : Nat → Int32} {t3 : Nat → Int32} {v1 : Int32} {v2 : Int32} {fu : Nat} {rc22 : (Nat → Nat → Int32) → Int32 → Option (Int32 × (Nat → Nat → Int32))} {r : Int32 × (Nat → Nat → Int32)} (C : Cx p s m args meth c G A RX3 cX3_least 5 ((some .int)))  (hrc22 : ∀ (RR : Nat → Nat → Int32) (v2 : Int32), rc22 RR v2 = some r → Wd p l e rm_X3_least s m args below meth c G A 5 0 0 (QQ G A (fun o w => o = some (.int r.1) ∧ w = (xm G xa FA (fa 0) ra xq ak r.2 ++ ([rcw ra r1 r2 r3 r4 r5] ++ (fw G fa N fp fq t0 t1 t2 t3 t4 t5 tL)))) below args s 0 0) (xm G xa FA (fa 0) ra xq ak RR ++ ([rcw ra r1 r2 r3 r4 r5] ++ (fw G fa N fp fq t0 t1 t2 t3 t4 t5 tL))) [(0, .ref (xa 0)), (1, .int v1), (2, .int v2)] 22 []) : ∀ (fk : Nat) (RR : Nat → Nat → Int32) (v3 : Int32), X3_least_32 fu N rc22 xq fq t0 t1 t3 v1 v2 fk RR v3 = some r → Wd p l e rm_X3_least s m args below meth c G A 5 0 0 (QQ G A (fun o w => o = some (.int r.1) ∧ w = (xm G xa FA (fa 0) ra xq ak r.2 ++ ([rcw ra r1 r2 r3 r4 r5] ++ (fw G fa N fp fq t0 t1 t2 t3 t4 t5 tL)))) below args s 0 0) (xm G xa FA (fa 0) ra xq ak RR ++ ([rcw ra r1 r2 r3 r4 r5] ++ (fw G fa N fp fq t0 t1 t2 t3 t4 t5 tL))) [(0, .ref (xa 0)), (1, .int v1), (2, .int v2), (3, .int v3)] 32 [] := by
  intro fk
  induction fk with
  | zero =>
    intro RR v3 h
    have h : (none : Option (Int32 × (Nat → Nat → Int32))) = some r := h
    cases h
  | succ fk ih =>
    intro RR v3 h
    have h : X3_least_32_b fu N rc22 xq fq t0 t1 t3 v1 v2 (X3_least_32 fu N rc22 xq fq t0 t1 t3 v1 v2 fk) RR v3 = some r := h
    unfold X3_least_32_b at h
    refine w_iload_n C 3 rfl dX3_least_32 ?_
    refine w_aload_n C 0 rfl dX3_least_33 ?_
    refine gt_X3_42 C dX3_least_34 ?_
    refine w_icmp_ge (tgt := 78) C dX3_least_37 (by decide) (fun hb6 => ?_) (fun hb6 => ?_)
    · have h := if_t hb6 h
      refine w_iinc (v := v2 + 1) (k := 2) C rfl rfl (Nat.le_of_ble_eq_true rfl) rfl dX3_least_78 ?_
      refine w_goto (tgt := 22) C dX3_least_81 (by decide) ?_
      refine w_lv [1, 2, 0] rfl ?_
      exact hrc22 _ _ h
    · have h := if_f hb6 h
      refine w_iconst (v := 0) C dX3_least_40 (by decide) ?_
      refine w_istore C (Nat.le_of_ble_eq_true rfl) rfl dX3_least_41 ?_
      refine w_lv [1, 2, 3, 4, 0] rfl ?_
      exact w_X3_least_43 C   hrc22 ih _ _ _ h
set_option maxRecDepth 20000 in
set_option maxHeartbeats 4000000 in
theorem w_X3_least_22 {fa : Nat → Nat} {N : Nat} {ra : Nat} {xa : Nat → Nat} {FA : Nat → Option Nat} {ak : Int64} {r1 : Int32} {r2 : Int32} {r3 : Int32} {r4 : Int32} {r5 : Int32} {fp : Int32} {t2 : Nat → Int32} {t4 : Nat → Int32} {t5 : Nat → Int32} {tL : Nat → Option Nat} {xq : Int32} {fq : Int32} {t0 : Nat → Int32} {t1 : Nat → Int32} {t3 : Nat → Int32} {v1 : Int32} {fu : Nat}  {r : Int32 × (Nat → Nat → Int32)} (C : Cx p s m args meth c G A RX3 cX3_least 5 ((some .int)))   : ∀ (fk : Nat) (RR : Nat → Nat → Int32) (v2 : Int32), X3_least_22 fu N  xq fq t0 t1 t3 v1 fk RR v2 = some r → Wd p l e rm_X3_least s m args below meth c G A 5 0 0 (QQ G A (fun o w => o = some (.int r.1) ∧ w = (xm G xa FA (fa 0) ra xq ak r.2 ++ ([rcw ra r1 r2 r3 r4 r5] ++ (fw G fa N fp fq t0 t1 t2 t3 t4 t5 tL)))) below args s 0 0) (xm G xa FA (fa 0) ra xq ak RR ++ ([rcw ra r1 r2 r3 r4 r5] ++ (fw G fa N fp fq t0 t1 t2 t3 t4 t5 tL))) [(0, .ref (xa 0)), (1, .int v1), (2, .int v2)] 22 [] := by
  intro fk
  induction fk with
  | zero =>
    intro RR v2 h
    have h : (none : Option (Int32 × (Nat → Nat → Int32))) = some r := h
    cases h
  | succ fk ih =>
    intro RR v2 h
    have h : X3_least_22_b fu N  xq fq t0 t1 t3 v1 (X3_least_22 fu N  xq fq t0 t1 t3 v1 fk) RR v2 = some r := h
    unfold X3_least_22_b at h
    refine w_iload_n C 2 rfl dX3_least_22 ?_
    refine w_aload_n C 0 rfl dX3_least_23 ?_
    refine gt_X3_42 C dX3_least_24 ?_
    refine w_icmp_ge (tgt := 84) C dX3_least_27 (by decide) (fun hb4 => ?_) (fun hb4 => ?_)
    · have h := if_t hb4 h
      refine w_aload_n C 0 rfl dX3_least_84 ?_
      refine w_iload_n C 1 rfl dX3_least_85 ?_
      obtain ⟨x5, hx5, h⟩ := bd_some h
      refine w_cVv (wr := []) (qc := (RX3, TX3, 8)) C (c_X3_putSpare fu  hx5) pk_X3_putSpare ml_X3_95 (As := [.int v1]) (rest := []) (k9 := 0) rfl rfl ⟨⟨rfl, rfl⟩, Nat.le_of_ble_eq_true rfl, Nat.le_of_ble_eq_true rfl⟩ rfl ⟨(Nat.le_of_ble_eq_true rfl), (Nat.le_of_ble_eq_true rfl)⟩ (Nat.le_of_ble_eq_true rfl) rfl rfl (List.nil_append _) dX3_least_86 ?_
      refine w_iconst (v := 1) C dX3_least_89 (by decide) ?_
      cases h
      exact w_iret C ⟨rfl, rfl⟩ dX3_least_90
    · have h := if_f hb4 h
      refine w_iconst (v := 1) C dX3_least_30 (by decide) ?_
      refine w_istore_n C (Nat.le_of_ble_eq_true rfl) rfl dX3_least_31 ?_
      refine w_lv [1, 2, 3, 0] rfl ?_
      exact w_X3_least_32 C   ih _ _ _ h
set_option maxRecDepth 20000 in
set_option maxHeartbeats 4000000 in
theorem w_X3_least {fa : Nat → Nat} {N : Nat} {ra : Nat} {xa : Nat → Nat} {FA : Nat → Option Nat} {ak : Int64} {r1 : Int32} {r2 : Int32} {r3 : Int32} {r4 : Int32} {r5 : Int32} {fp : Int32} {t2 : Nat → Int32} {t4 : Nat → Int32} {t5 : Nat → Int32} {tL : Nat → Option Nat} {fu : Nat}  {xq : Int32} {RR : Nat → Nat → Int32} {fq : Int32} {t0 : Nat → Int32} {t1 : Nat → Int32} {t3 : Nat → Int32} {v1 : Int32} {r : Int32 × (Nat → Nat → Int32)} (C : Cx p s m args meth c G A RX3 cX3_least 5 ((some .int)))   (h : X3_least fu N  xq RR fq t0 t1 t3 v1 = some r) : Wd p l e rm_X3_least s m args below meth c G A 5 0 0 (QQ G A (fun o w => o = some (.int r.1) ∧ w = (xm G xa FA (fa 0) ra xq ak r.2 ++ ([rcw ra r1 r2 r3 r4 r5] ++ (fw G fa N fp fq t0 t1 t2 t3 t4 t5 tL)))) below args s 0 0) (xm G xa FA (fa 0) ra xq ak RR ++ ([rcw ra r1 r2 r3 r4 r5] ++ (fw G fa N fp fq t0 t1 t2 t3 t4 t5 tL))) [(0, .ref (xa 0)), (1, .int v1)] 0 [] := by
  unfold X3_least at h
  refine w_iload_n C 1 rfl dX3_least_0 ?_
  obtain ⟨x1, hx1, h⟩ := bd_some h
  refine w_cSi C (c_X3_isMap fu  hx1) pk_X3_isMap ml_X3_64 (As := [.int v1]) (rest := []) ⟨⟨rfl, rfl⟩, Nat.le_of_ble_eq_true rfl, Nat.le_of_ble_eq_true rfl⟩ rfl ⟨(Nat.le_of_ble_eq_true rfl), (Nat.le_of_ble_eq_true rfl)⟩ (Nat.le_of_ble_eq_true rfl) rfl (List.append_nil _).symm (List.append_nil _) dX3_least_1 ?_
  refine w_if_ne (tgt := 9) C dX3_least_4 (by decide) (fun hb2 => ?_) (fun hb2 => ?_)
  · have h := if_f hb2 h
    refine w_aload_n C 0 rfl dX3_least_9 ?_
    refine gt_X3_20 C dX3_least_10 ?_
    refine w_aload_n C 0 rfl dX3_least_13 ?_
    refine gt_X3_42 C dX3_least_14 ?_
    obtain ⟨x3, hx3, h⟩ := bd_some h
    refine w_fill C (by decide) hx3 ml_X3_106 (rest := []) (Nat.le_of_ble_eq_true rfl) (Nat.le_of_ble_eq_true rfl) (Nat.le_of_ble_eq_true rfl) (Nat.le_of_ble_eq_true rfl) (Nat.le_of_ble_eq_true rfl) dX3_least_17 ?_
    refine w_iconst (v := 1) C dX3_least_20 (by decide) ?_
    refine w_istore_n C (Nat.le_of_ble_eq_true rfl) rfl dX3_least_21 ?_
    refine w_lv [1, 2, 0] rfl ?_
    exact w_X3_least_22 C    _ _ _ h
  · have h := if_t hb2 h
    refine w_iconst (v := (-1)) C dX3_least_7 (by decide) ?_
    cases h
    exact w_iret C ⟨rfl, rfl⟩ dX3_least_8
theorem c_X3_least {l : Launch} {G : GG} {fa : Nat → Nat} {N : Nat} {ra : Nat} {xa : Nat → Nat} {FA : Nat → Option Nat} {xq : Int32} {ak : Int64} {RR : Nat → Nat → Int32} {r1 : Int32} {r2 : Int32} {r3 : Int32} {r4 : Int32} {r5 : Int32} {fp : Int32} {fq : Int32} {t0 : Nat → Int32} {t1 : Nat → Int32} {t2 : Nat → Int32} {t3 : Nat → Int32} {t4 : Nat → Int32} {t5 : Nat → Int32} {tL : Nat → Option Nat} (fu : Nat) {v1 : Int32} {r : Int32 × (Nat → Nat → Int32)} (h : X3_least fu N xq RR fq t0 t1 t3 v1 = some r) : Ct l yX3_least cX3_least 5 ((some .int)) G rm_X3_least [.ref (xa 0), .int v1] (xm G xa FA (fa 0) ra xq ak RR ++ ([rcw ra r1 r2 r3 r4 r5] ++ (fw G fa N fp fq t0 t1 t2 t3 t4 t5 tL))) (fun o w => o = some (.int r.1) ∧ w = (xm G xa FA (fa 0) ra xq ak r.2 ++ ([rcw ra r1 r2 r3 r4 r5] ++ (fw G fa N fp fq t0 t1 t2 t3 t4 t5 tL)))) 0 0 := Ct.of (by decide) (Nat.le_of_ble_eq_true rfl) (fun p e s m args below meth c A C _ => w_X3_least C h)
abbrev rm_X3_shufflingMaps : Room := { frames := 3, cells := 0, slots := 0, locals := 64 }
theorem pk_X3_shufflingMaps : PkV RX3 yX3_shufflingMaps cX3_shufflingMaps 3 ((some .int)) 0 := ⟨rfl, co_X3_shufflingMaps, ini_RX3, im_X3_shufflingMaps, se_X3_shufflingMaps, by decide +kernel⟩
set_option maxRecDepth 20000 in
set_option maxHeartbeats 4000000 in
theorem w_X3_shufflingMaps_4 {fa : Nat → Nat} {N : Nat} {ra : Nat} {xa : Nat → Nat} {FA : Nat → Option Nat} {ak : Int64} {r1 : Int32} {r2 : Int32} {r3 : Int32} {r4 : Int32} {r5 : Int32} {fp : Int32} {fq : Int32} {t0 : Nat → Int32} {t1 : Nat → Int32} {t2 : Nat → Int32} {t3 : Nat → Int32} {t4 : Nat → Int32} {t5 : Nat → Int32} {tL : Nat → Option Nat} {xq : Int32} {RR : Nat → Nat → Int32} {fu : Nat}  {r : Int32} (C : Cx p s m args meth c G A RX3 cX3_shufflingMaps 3 ((some .int)))   : ∀ (fk : Nat) (v1 : Int32) (v2 : Int32), X3_shufflingMaps_4 fu N  xq RR fk v1 v2 = some r → Wd p l e rm_X3_shufflingMaps s m args below meth c G A 3 0 0 (QQ G A (fun o w => o = some (.int r) ∧ w = (xm G xa FA (fa 0) ra xq ak RR ++ ([rcw ra r1 r2 r3 r4 r5] ++ (fw G fa N fp fq t0 t1 t2 t3 t4 t5 tL)))) below args s 0 0) (xm G xa FA (fa 0) ra xq ak RR ++ ([rcw ra r1 r2 r3 r4 r5] ++ (fw G fa N fp fq t0 t1 t2 t3 t4 t5 tL))) [(0, .ref (xa 0)), (1, .int v1), (2, .int v2)] 4 [] := by
  intro fk
  induction fk with
  | zero =>
    intro v1 v2 h
    have h : (none : Option Int32) = some r := h
    cases h
  | succ fk ih =>
    intro v1 v2 h
    have h : X3_shufflingMaps_4_b fu N  xq RR (X3_shufflingMaps_4 fu N  xq RR fk) v1 v2 = some r := h
    unfold X3_shufflingMaps_4_b at h
    refine w_iload_n C 2 rfl dX3_shufflingMaps_4 ?_
    refine w_iconst (v := 4) C dX3_shufflingMaps_5 (by decide) ?_
    refine w_icmp_ge (tgt := 31) C dX3_shufflingMaps_6 (by decide) (fun hb1 => ?_) (fun hb1 => ?_)
    · have h := if_t hb1 h
      refine w_iload_n C 1 rfl dX3_shufflingMaps_31 ?_
      cases h
      exact w_iret C ⟨rfl, rfl⟩ dX3_shufflingMaps_32
    · have h := if_f hb1 h
      refine w_iload_n C 1 rfl dX3_shufflingMaps_9 ?_
      refine w_aload_n C 0 rfl dX3_shufflingMaps_10 ?_
      refine w_aload_n C 0 rfl dX3_shufflingMaps_11 ?_
      refine gt_X3_17 C dX3_shufflingMaps_12 ?_
      refine w_iload_n C 2 rfl dX3_shufflingMaps_15 ?_
      obtain ⟨hi2, h⟩ := ckI_some h
      refine ld_maps C hi2 dX3_shufflingMaps_16 ?_
      obtain ⟨x3, hx3, h⟩ := bd_some h
      refine w_cVi (wr := []) (qc := (RX3, TX3, 8)) C (c_X3_isShuffle fu (Nat.lt_trans (vp_lt hi2) (by decide)) hx3) pk_X3_isShuffle ml_X3_98 (As := [.ref (xa (3 + v2.toNatClampNeg))]) (rest := [.int v1]) (k9 := 0) rfl rfl ⟨⟨rfl, rfl⟩, Nat.le_of_ble_eq_true rfl, Nat.le_of_ble_eq_true rfl⟩ rfl ⟨(Nat.le_of_ble_eq_true rfl), (Nat.le_of_ble_eq_true rfl)⟩ (Nat.le_of_ble_eq_true rfl) rfl rfl (List.nil_append _) dX3_shufflingMaps_17 ?_
      obtain ⟨x4, hx4, h⟩ := bd_some h
      refine w_cSi C (c_X3_truth fu  hx4) pk_X3_truth ml_X3_102 (As := [.int x3]) (rest := [.int v1]) ⟨⟨rfl, rfl⟩, Nat.le_of_ble_eq_true rfl, Nat.le_of_ble_eq_true rfl⟩ rfl ⟨(Nat.le_of_ble_eq_true rfl), (Nat.le_of_ble_eq_true rfl)⟩ (Nat.le_of_ble_eq_true rfl) rfl (List.append_nil _).symm (List.append_nil _) dX3_shufflingMaps_20 ?_
      refine w_iadd C dX3_shufflingMaps_23 ?_
      refine w_istore_n C (Nat.le_of_ble_eq_true rfl) rfl dX3_shufflingMaps_24 ?_
      refine w_iinc (v := v2 + 1) (k := 2) C rfl rfl (Nat.le_of_ble_eq_true rfl) rfl dX3_shufflingMaps_25 ?_
      refine w_goto (tgt := 4) C dX3_shufflingMaps_28 (by decide) ?_
      refine w_lv [2, 1, 0] rfl ?_
      exact ih _ _ h
set_option maxRecDepth 20000 in
set_option maxHeartbeats 4000000 in
theorem w_X3_shufflingMaps {fa : Nat → Nat} {N : Nat} {ra : Nat} {xa : Nat → Nat} {FA : Nat → Option Nat} {ak : Int64} {r1 : Int32} {r2 : Int32} {r3 : Int32} {r4 : Int32} {r5 : Int32} {fp : Int32} {fq : Int32} {t0 : Nat → Int32} {t1 : Nat → Int32} {t2 : Nat → Int32} {t3 : Nat → Int32} {t4 : Nat → Int32} {t5 : Nat → Int32} {tL : Nat → Option Nat} {fu : Nat}  {xq : Int32} {RR : Nat → Nat → Int32} {r : Int32} (C : Cx p s m args meth c G A RX3 cX3_shufflingMaps 3 ((some .int)))   (h : X3_shufflingMaps fu N  xq RR = some r) : Wd p l e rm_X3_shufflingMaps s m args below meth c G A 3 0 0 (QQ G A (fun o w => o = some (.int r) ∧ w = (xm G xa FA (fa 0) ra xq ak RR ++ ([rcw ra r1 r2 r3 r4 r5] ++ (fw G fa N fp fq t0 t1 t2 t3 t4 t5 tL)))) below args s 0 0) (xm G xa FA (fa 0) ra xq ak RR ++ ([rcw ra r1 r2 r3 r4 r5] ++ (fw G fa N fp fq t0 t1 t2 t3 t4 t5 tL))) [(0, .ref (xa 0))] 0 [] := by
  unfold X3_shufflingMaps at h
  refine w_iconst (v := 0) C dX3_shufflingMaps_0 (by decide) ?_
  refine w_istore_n C (Nat.le_of_ble_eq_true rfl) rfl dX3_shufflingMaps_1 ?_
  refine w_iconst (v := 0) C dX3_shufflingMaps_2 (by decide) ?_
  refine w_istore_n C (Nat.le_of_ble_eq_true rfl) rfl dX3_shufflingMaps_3 ?_
  refine w_lv [2, 1, 0] rfl ?_
  exact w_X3_shufflingMaps_4 C    _ _ _ h
theorem c_X3_shufflingMaps {l : Launch} {G : GG} {fa : Nat → Nat} {N : Nat} {ra : Nat} {xa : Nat → Nat} {FA : Nat → Option Nat} {xq : Int32} {ak : Int64} {RR : Nat → Nat → Int32} {r1 : Int32} {r2 : Int32} {r3 : Int32} {r4 : Int32} {r5 : Int32} {fp : Int32} {fq : Int32} {t0 : Nat → Int32} {t1 : Nat → Int32} {t2 : Nat → Int32} {t3 : Nat → Int32} {t4 : Nat → Int32} {t5 : Nat → Int32} {tL : Nat → Option Nat} (fu : Nat)  {r : Int32} (h : X3_shufflingMaps fu N xq RR  = some r) : Ct l yX3_shufflingMaps cX3_shufflingMaps 3 ((some .int)) G rm_X3_shufflingMaps [.ref (xa 0)] (xm G xa FA (fa 0) ra xq ak RR ++ ([rcw ra r1 r2 r3 r4 r5] ++ (fw G fa N fp fq t0 t1 t2 t3 t4 t5 tL))) (fun o w => o = some (.int r) ∧ w = (xm G xa FA (fa 0) ra xq ak RR ++ ([rcw ra r1 r2 r3 r4 r5] ++ (fw G fa N fp fq t0 t1 t2 t3 t4 t5 tL)))) 0 0 := Ct.of (by decide) (Nat.le_of_ble_eq_true rfl) (fun p e s m args below meth c A C _ => w_X3_shufflingMaps C h)
abbrev rm_X3_count : Room := { frames := 4, cells := 0, slots := 0, locals := 86 }
theorem pk_X3_count : PkV RX3 yX3_count cX3_count 2 ((some .int)) 1 := ⟨rfl, co_X3_count, ini_RX3, im_X3_count, se_X3_count, by decide +kernel⟩
set_option maxRecDepth 20000 in
set_option maxHeartbeats 4000000 in
theorem w_X3_count {fa : Nat → Nat} {N : Nat} {ra : Nat} {xa : Nat → Nat} {FA : Nat → Option Nat} {ak : Int64} {r1 : Int32} {r2 : Int32} {r3 : Int32} {r4 : Int32} {r5 : Int32} {fq : Int32} {t0 : Nat → Int32} {t1 : Nat → Int32} {t2 : Nat → Int32} {t3 : Nat → Int32} {t4 : Nat → Int32} {t5 : Nat → Int32} {tL : Nat → Option Nat} {fu : Nat}  {xq : Int32} {RR : Nat → Nat → Int32} {fp : Int32} {v1 : Int32} {r : Int32} (C : Cx p s m args meth c G A RX3 cX3_count 2 ((some .int)))   (h : X3_count fu N  xq RR fp v1 = some r) : Wd p l e rm_X3_count s m args below meth c G A 2 0 0 (QQ G A (fun o w => o = some (.int r) ∧ w = (xm G xa FA (fa 0) ra xq ak RR ++ ([rcw ra r1 r2 r3 r4 r5] ++ (fw G fa N fp fq t0 t1 t2 t3 t4 t5 tL)))) below args s 0 0) (xm G xa FA (fa 0) ra xq ak RR ++ ([rcw ra r1 r2 r3 r4 r5] ++ (fw G fa N fp fq t0 t1 t2 t3 t4 t5 tL))) [(0, .ref (xa 0)), (1, .int v1)] 0 [] := by
  unfold X3_count at h
  refine w_iload_n C 1 rfl dX3_count_0 ?_
  by_cases hb2 : v1 = 0
  · have h := if_t hb2 h
    refine w_tableIn (off := 27) (tgt := 28) C dX3_count_1 (by rw [hb2]; decide) (by rw [hb2]; decide) (by rw [hb2]; decide) (by decide) ?_
    refine w_aload_n C 0 rfl dX3_count_28 ?_
    refine gt_X3_42 C dX3_count_29 ?_
    cases h
    exact w_iret C ⟨rfl, rfl⟩ dX3_count_32
  · have h := if_f hb2 h
    by_cases hb3 : v1 = 1
    · have h := if_t hb3 h
      refine w_tableIn (off := 32) (tgt := 33) C dX3_count_1 (by rw [hb3]; decide) (by rw [hb3]; decide) (by rw [hb3]; decide) (by decide) ?_
      refine w_aload_n C 0 rfl dX3_count_33 ?_
      refine gt_X3_49 C dX3_count_34 ?_
      refine gt_X3_181 C dX3_count_37 ?_
      cases h
      exact w_iret C ⟨rfl, rfl⟩ dX3_count_40
    · have h := if_f hb3 h
      by_cases hb4 : v1 = 2
      · have h := if_t hb4 h
        refine w_tableIn (off := 40) (tgt := 41) C dX3_count_1 (by rw [hb4]; decide) (by rw [hb4]; decide) (by rw [hb4]; decide) (by decide) ?_
        refine w_aload_n C 0 rfl dX3_count_41 ?_
        obtain ⟨x1, hx1, h⟩ := bd_some h
        refine w_cVi (wr := []) (qc := (RX3, TX3, 8)) C (c_X3_shufflingMaps fu  hx1) pk_X3_shufflingMaps ml_X3_184 (As := []) (rest := []) (k9 := 0) rfl rfl ⟨⟨rfl, rfl⟩, Nat.le_of_ble_eq_true rfl, Nat.le_of_ble_eq_true rfl⟩ rfl ⟨(Nat.le_of_ble_eq_true rfl), (Nat.le_of_ble_eq_true rfl)⟩ (Nat.le_of_ble_eq_true rfl) rfl rfl (List.nil_append _) dX3_count_42 ?_
        cases h
        exact w_iret C ⟨rfl, rfl⟩ dX3_count_45
      · have h := if_f hb4 h
        refine w_tableOut (tgt := 46) C dX3_count_1 (by have q0 := lv_neT (a := 0) hb2 (by decide); have q1 := lv_neT (a := 1) hb3 (by decide); have q2 := lv_neT (a := 2) hb4 (by decide); omega) (by decide) ?_
        refine w_iconst (v := (-1)) C dX3_count_46 (by decide) ?_
        cases h
        exact w_iret C ⟨rfl, rfl⟩ dX3_count_47
theorem c_X3_count {l : Launch} {G : GG} {fa : Nat → Nat} {N : Nat} {ra : Nat} {xa : Nat → Nat} {FA : Nat → Option Nat} {xq : Int32} {ak : Int64} {RR : Nat → Nat → Int32} {r1 : Int32} {r2 : Int32} {r3 : Int32} {r4 : Int32} {r5 : Int32} {fp : Int32} {fq : Int32} {t0 : Nat → Int32} {t1 : Nat → Int32} {t2 : Nat → Int32} {t3 : Nat → Int32} {t4 : Nat → Int32} {t5 : Nat → Int32} {tL : Nat → Option Nat} (fu : Nat) {v1 : Int32} {r : Int32} (h : X3_count fu N xq RR fp v1 = some r) : Ct l yX3_count cX3_count 2 ((some .int)) G rm_X3_count [.ref (xa 0), .int v1] (xm G xa FA (fa 0) ra xq ak RR ++ ([rcw ra r1 r2 r3 r4 r5] ++ (fw G fa N fp fq t0 t1 t2 t3 t4 t5 tL))) (fun o w => o = some (.int r) ∧ w = (xm G xa FA (fa 0) ra xq ak RR ++ ([rcw ra r1 r2 r3 r4 r5] ++ (fw G fa N fp fq t0 t1 t2 t3 t4 t5 tL)))) 0 0 := Ct.of (by decide) (Nat.le_of_ble_eq_true rfl) (fun p e s m args below meth c A C _ => w_X3_count C h)
abbrev rm_X3_trace : Room := { frames := 0, cells := 0, slots := 0, locals := 0 }
theorem pk_X3_trace : PkV RX3 yX3_trace cX3_trace 1 ((some .long)) 0 := ⟨rfl, co_X3_trace, ini_RX3, im_X3_trace, se_X3_trace, by decide +kernel⟩
set_option maxRecDepth 20000 in
set_option maxHeartbeats 4000000 in
theorem w_X3_trace {fa : Nat → Nat} {N : Nat} {ra : Nat} {xa : Nat → Nat} {FA : Nat → Option Nat} {xq : Int32} {RR : Nat → Nat → Int32} {r1 : Int32} {r2 : Int32} {r3 : Int32} {r4 : Int32} {r5 : Int32} {fp : Int32} {fq : Int32} {t0 : Nat → Int32} {t1 : Nat → Int32} {t2 : Nat → Int32} {t3 : Nat → Int32} {t4 : Nat → Int32} {t5 : Nat → Int32} {tL : Nat → Option Nat} {fu : Nat}  {ak : Int64} {r : Int64} (C : Cx p s m args meth c G A RX3 cX3_trace 1 ((some .long)))   (h : X3_trace fu N  ak = some r) : Wd p l e rm_X3_trace s m args below meth c G A 1 0 0 (QQ G A (fun o w => o = some (.long r) ∧ w = (xm G xa FA (fa 0) ra xq ak RR ++ ([rcw ra r1 r2 r3 r4 r5] ++ (fw G fa N fp fq t0 t1 t2 t3 t4 t5 tL)))) below args s 0 0) (xm G xa FA (fa 0) ra xq ak RR ++ ([rcw ra r1 r2 r3 r4 r5] ++ (fw G fa N fp fq t0 t1 t2 t3 t4 t5 tL))) [(0, .ref (xa 0))] 0 [] := by
  unfold X3_trace at h
  refine w_aload_n C 0 rfl dX3_trace_0 ?_
  refine gt_X3_89 C dX3_trace_1 ?_
  cases h
  exact w_lret C ⟨rfl, rfl⟩ dX3_trace_4
theorem c_X3_trace {l : Launch} {G : GG} {fa : Nat → Nat} {N : Nat} {ra : Nat} {xa : Nat → Nat} {FA : Nat → Option Nat} {xq : Int32} {ak : Int64} {RR : Nat → Nat → Int32} {r1 : Int32} {r2 : Int32} {r3 : Int32} {r4 : Int32} {r5 : Int32} {fp : Int32} {fq : Int32} {t0 : Nat → Int32} {t1 : Nat → Int32} {t2 : Nat → Int32} {t3 : Nat → Int32} {t4 : Nat → Int32} {t5 : Nat → Int32} {tL : Nat → Option Nat} (fu : Nat)  {r : Int64} (h : X3_trace fu N ak  = some r) : Ct l yX3_trace cX3_trace 1 ((some .long)) G rm_X3_trace [.ref (xa 0)] (xm G xa FA (fa 0) ra xq ak RR ++ ([rcw ra r1 r2 r3 r4 r5] ++ (fw G fa N fp fq t0 t1 t2 t3 t4 t5 tL))) (fun o w => o = some (.long r) ∧ w = (xm G xa FA (fa 0) ra xq ak RR ++ ([rcw ra r1 r2 r3 r4 r5] ++ (fw G fa N fp fq t0 t1 t2 t3 t4 t5 tL)))) 0 0 := Ct.of (by decide) (Nat.le_of_ble_eq_true rfl) (fun p e s m args below meth c A C _ => w_X3_trace C h)
abbrev rm_X3_isFieldSize : Room := { frames := 0, cells := 0, slots := 0, locals := 0 }
theorem pk_X3_isFieldSize : PkS yX3_isFieldSize cX3_isFieldSize 1 ((some .boolean)) 1 := ⟨co_X3_isFieldSize, ini_RX3, st_X3_isFieldSize, by decide +kernel⟩
set_option maxRecDepth 20000 in
set_option maxHeartbeats 4000000 in
theorem w_X3_isFieldSize  {fu : Nat}  {v0 : Int32} {r : Int32} (C : Cx p s m args meth c G A RX3 cX3_isFieldSize 1 ((some .boolean)))   (h : X3_isFieldSize fu  v0 = some r) : Wd p l e rm_X3_isFieldSize s m args below meth c G A 1 0 0 (QQ G A (fun o w => o = some (.int r) ∧ w = []) below args s 0 0) [] [(0, .int v0)] 0 [] := by
  unfold X3_isFieldSize at h
  refine w_iload_n C 0 rfl dX3_isFieldSize_0 ?_
  by_cases hb1 : v0 = 2
  · have h := if_t hb1 h
    refine w_tableIn (off := 75) (tgt := 76) C dX3_isFieldSize_1 (by rw [hb1]; decide) (by rw [hb1]; decide) (by rw [hb1]; decide) (by decide) ?_
    refine w_iconst (v := 1) C dX3_isFieldSize_76 (by decide) ?_
    cases h
    exact w_zret C rfl ⟨rfl, rfl⟩ dX3_isFieldSize_77
  · have h := if_f hb1 h
    by_cases hb2 : v0 = 3
    · have h := if_t hb2 h
      refine w_tableIn (off := 75) (tgt := 76) C dX3_isFieldSize_1 (by rw [hb2]; decide) (by rw [hb2]; decide) (by rw [hb2]; decide) (by decide) ?_
      refine w_iconst (v := 1) C dX3_isFieldSize_76 (by decide) ?_
      cases h
      exact w_zret C rfl ⟨rfl, rfl⟩ dX3_isFieldSize_77
    · have h := if_f hb2 h
      by_cases hb3 : v0 = 4
      · have h := if_t hb3 h
        refine w_tableIn (off := 75) (tgt := 76) C dX3_isFieldSize_1 (by rw [hb3]; decide) (by rw [hb3]; decide) (by rw [hb3]; decide) (by decide) ?_
        refine w_iconst (v := 1) C dX3_isFieldSize_76 (by decide) ?_
        cases h
        exact w_zret C rfl ⟨rfl, rfl⟩ dX3_isFieldSize_77
      · have h := if_f hb3 h
        by_cases hb4 : v0 = 5
        · have h := if_t hb4 h
          refine w_tableIn (off := 75) (tgt := 76) C dX3_isFieldSize_1 (by rw [hb4]; decide) (by rw [hb4]; decide) (by rw [hb4]; decide) (by decide) ?_
          refine w_iconst (v := 1) C dX3_isFieldSize_76 (by decide) ?_
          cases h
          exact w_zret C rfl ⟨rfl, rfl⟩ dX3_isFieldSize_77
        · have h := if_f hb4 h
          by_cases hb5 : v0 = 6
          · have h := if_t hb5 h
            refine w_tableIn (off := 77) (tgt := 78) C dX3_isFieldSize_1 (by rw [hb5]; decide) (by rw [hb5]; decide) (by rw [hb5]; decide) (by decide) ?_
            refine w_iconst (v := 0) C dX3_isFieldSize_78 (by decide) ?_
            cases h
            exact w_zret C rfl ⟨rfl, rfl⟩ dX3_isFieldSize_79
          · have h := if_f hb5 h
            by_cases hb6 : v0 = 7
            · have h := if_t hb6 h
              refine w_tableIn (off := 75) (tgt := 76) C dX3_isFieldSize_1 (by rw [hb6]; decide) (by rw [hb6]; decide) (by rw [hb6]; decide) (by decide) ?_
              refine w_iconst (v := 1) C dX3_isFieldSize_76 (by decide) ?_
              cases h
              exact w_zret C rfl ⟨rfl, rfl⟩ dX3_isFieldSize_77
            · have h := if_f hb6 h
              by_cases hb7 : v0 = 8
              · have h := if_t hb7 h
                refine w_tableIn (off := 75) (tgt := 76) C dX3_isFieldSize_1 (by rw [hb7]; decide) (by rw [hb7]; decide) (by rw [hb7]; decide) (by decide) ?_
                refine w_iconst (v := 1) C dX3_isFieldSize_76 (by decide) ?_
                cases h
                exact w_zret C rfl ⟨rfl, rfl⟩ dX3_isFieldSize_77
              · have h := if_f hb7 h
                by_cases hb8 : v0 = 9
                · have h := if_t hb8 h
                  refine w_tableIn (off := 75) (tgt := 76) C dX3_isFieldSize_1 (by rw [hb8]; decide) (by rw [hb8]; decide) (by rw [hb8]; decide) (by decide) ?_
                  refine w_iconst (v := 1) C dX3_isFieldSize_76 (by decide) ?_
                  cases h
                  exact w_zret C rfl ⟨rfl, rfl⟩ dX3_isFieldSize_77
                · have h := if_f hb8 h
                  by_cases hb9 : v0 = 10
                  · have h := if_t hb9 h
                    refine w_tableIn (off := 77) (tgt := 78) C dX3_isFieldSize_1 (by rw [hb9]; decide) (by rw [hb9]; decide) (by rw [hb9]; decide) (by decide) ?_
                    refine w_iconst (v := 0) C dX3_isFieldSize_78 (by decide) ?_
                    cases h
                    exact w_zret C rfl ⟨rfl, rfl⟩ dX3_isFieldSize_79
                  · have h := if_f hb9 h
                    by_cases hb10 : v0 = 11
                    · have h := if_t hb10 h
                      refine w_tableIn (off := 75) (tgt := 76) C dX3_isFieldSize_1 (by rw [hb10]; decide) (by rw [hb10]; decide) (by rw [hb10]; decide) (by decide) ?_
                      refine w_iconst (v := 1) C dX3_isFieldSize_76 (by decide) ?_
                      cases h
                      exact w_zret C rfl ⟨rfl, rfl⟩ dX3_isFieldSize_77
                    · have h := if_f hb10 h
                      by_cases hb11 : v0 = 12
                      · have h := if_t hb11 h
                        refine w_tableIn (off := 77) (tgt := 78) C dX3_isFieldSize_1 (by rw [hb11]; decide) (by rw [hb11]; decide) (by rw [hb11]; decide) (by decide) ?_
                        refine w_iconst (v := 0) C dX3_isFieldSize_78 (by decide) ?_
                        cases h
                        exact w_zret C rfl ⟨rfl, rfl⟩ dX3_isFieldSize_79
                      · have h := if_f hb11 h
                        by_cases hb12 : v0 = 13
                        · have h := if_t hb12 h
                          refine w_tableIn (off := 75) (tgt := 76) C dX3_isFieldSize_1 (by rw [hb12]; decide) (by rw [hb12]; decide) (by rw [hb12]; decide) (by decide) ?_
                          refine w_iconst (v := 1) C dX3_isFieldSize_76 (by decide) ?_
                          cases h
                          exact w_zret C rfl ⟨rfl, rfl⟩ dX3_isFieldSize_77
                        · have h := if_f hb12 h
                          by_cases hb13 : v0 = 14
                          · have h := if_t hb13 h
                            refine w_tableIn (off := 77) (tgt := 78) C dX3_isFieldSize_1 (by rw [hb13]; decide) (by rw [hb13]; decide) (by rw [hb13]; decide) (by decide) ?_
                            refine w_iconst (v := 0) C dX3_isFieldSize_78 (by decide) ?_
                            cases h
                            exact w_zret C rfl ⟨rfl, rfl⟩ dX3_isFieldSize_79
                          · have h := if_f hb13 h
                            by_cases hb14 : v0 = 15
                            · have h := if_t hb14 h
                              refine w_tableIn (off := 77) (tgt := 78) C dX3_isFieldSize_1 (by rw [hb14]; decide) (by rw [hb14]; decide) (by rw [hb14]; decide) (by decide) ?_
                              refine w_iconst (v := 0) C dX3_isFieldSize_78 (by decide) ?_
                              cases h
                              exact w_zret C rfl ⟨rfl, rfl⟩ dX3_isFieldSize_79
                            · have h := if_f hb14 h
                              by_cases hb15 : v0 = 16
                              · have h := if_t hb15 h
                                refine w_tableIn (off := 75) (tgt := 76) C dX3_isFieldSize_1 (by rw [hb15]; decide) (by rw [hb15]; decide) (by rw [hb15]; decide) (by decide) ?_
                                refine w_iconst (v := 1) C dX3_isFieldSize_76 (by decide) ?_
                                cases h
                                exact w_zret C rfl ⟨rfl, rfl⟩ dX3_isFieldSize_77
                              · have h := if_f hb15 h
                                refine w_tableOut (tgt := 78) C dX3_isFieldSize_1 (by have q0 := lv_neT (a := 2) hb1 (by decide); have q1 := lv_neT (a := 3) hb2 (by decide); have q2 := lv_neT (a := 4) hb3 (by decide); have q3 := lv_neT (a := 5) hb4 (by decide); have q4 := lv_neT (a := 6) hb5 (by decide); have q5 := lv_neT (a := 7) hb6 (by decide); have q6 := lv_neT (a := 8) hb7 (by decide); have q7 := lv_neT (a := 9) hb8 (by decide); have q8 := lv_neT (a := 10) hb9 (by decide); have q9 := lv_neT (a := 11) hb10 (by decide); have q10 := lv_neT (a := 12) hb11 (by decide); have q11 := lv_neT (a := 13) hb12 (by decide); have q12 := lv_neT (a := 14) hb13 (by decide); have q13 := lv_neT (a := 15) hb14 (by decide); have q14 := lv_neT (a := 16) hb15 (by decide); omega) (by decide) ?_
                                refine w_iconst (v := 0) C dX3_isFieldSize_78 (by decide) ?_
                                cases h
                                exact w_zret C rfl ⟨rfl, rfl⟩ dX3_isFieldSize_79
theorem c_X3_isFieldSize {l : Launch} {G : GG}  (fu : Nat) {v0 : Int32} {r : Int32} (h : X3_isFieldSize fu  v0 = some r) : Ct l yX3_isFieldSize cX3_isFieldSize 1 ((some .boolean)) G rm_X3_isFieldSize [.int v0] [] (fun o w => o = some (.int r) ∧ w = []) 0 0 := Ct.of (by decide) (Nat.le_of_ble_eq_true rfl) (fun p e s m args below meth c A C _ => w_X3_isFieldSize C h)
end
