section
variable {p : Program} {l : Launch} {e : Env} {s : State} {m : MethodId} {args : Array Value} {below : List Frame} {meth : Method} {c : Code} {G : GG} {A : Nat → Prop}
abbrev rm_X3_order : Room := { frames := 3, cells := 0, slots := 0, locals := 64 }
theorem pk_X3_order : PkV RX3 yX3_order cX3_order 4 ((some .int)) 1 := ⟨rfl, co_X3_order, ini_RX3, im_X3_order, se_X3_order, by decide +kernel⟩
set_option maxRecDepth 20000 in
set_option maxHeartbeats 4000000 in
theorem w_X3_order_29 {fa : Nat → Nat} {N : Nat} {ra : Nat} {xa : Nat → Nat} {FA : Nat → Option Nat} {ak : Int64} {r1 : Int32} {r2 : Int32} {r3 : Int32} {r4 : Int32} {r5 : Int32} {fp : Int32} {fq : Int32} {t0 : Nat → Int32} {t1 : Nat → Int32} {t2 : Nat → Int32} {t3 : Nat → Int32} {t4 : Nat → Int32} {t5 : Nat → Int32} {tL : Nat → Option Nat} {xq : Int32} {RR : Nat → Nat → Int32} {v1 : Int32} {fu : Nat}  {r : Int32} (C : Cx p s m args meth c G A RX3 cX3_order 4 ((some .int)))   : ∀ (fk : Nat) (v2 : Int32) (v3 : Int32), X3_order_29 fu N  xq RR v1 fk v2 v3 = some r → Wd p l e rm_X3_order s m args below meth c G A 4 0 0 (QQ G A (fun o w => o = some (.int r) ∧ w = (xm G xa FA (fa 0) ra xq ak RR ++ ([rcw ra r1 r2 r3 r4 r5] ++ (fw G fa N fp fq t0 t1 t2 t3 t4 t5 tL)))) below args s 0 0) (xm G xa FA (fa 0) ra xq ak RR ++ ([rcw ra r1 r2 r3 r4 r5] ++ (fw G fa N fp fq t0 t1 t2 t3 t4 t5 tL))) [(0, .ref (xa 0)), (1, .int v1), (2, .int v2), (3, .int v3)] 29 [] := by
  intro fk
  induction fk with
  | zero =>
    intro v2 v3 h
    have h : (none : Option Int32) = some r := h
    cases h
  | succ fk ih =>
    intro v2 v3 h
    have h : X3_order_29_b fu N  xq RR v1 (X3_order_29 fu N  xq RR v1 fk) v2 v3 = some r := h
    unfold X3_order_29_b at h
    refine w_iload_n C 3 rfl dX3_order_29 ?_
    refine w_aload_n C 0 rfl dX3_order_30 ?_
    refine gt_X3_42 C dX3_order_31 ?_
    refine w_icmp_ge (tgt := 59) C dX3_order_34 (by decide) (fun hb6 => ?_) (fun hb6 => ?_)
    · have h := if_t hb6 h
      refine w_iload_n C 2 rfl dX3_order_59 ?_
      cases h
      exact w_iret C ⟨rfl, rfl⟩ dX3_order_60
    · have h := if_f hb6 h
      refine w_iload_n C 2 rfl dX3_order_37 ?_
      refine w_aload_n C 0 rfl dX3_order_38 ?_
      refine w_aload_n C 0 rfl dX3_order_39 ?_
      refine gt_X3_17 C dX3_order_40 ?_
      refine w_iload_n C 1 rfl dX3_order_43 ?_
      obtain ⟨hi7, h⟩ := ckI_some h
      refine ld_maps C hi7 dX3_order_44 ?_
      refine w_iload_n C 3 rfl dX3_order_45 ?_
      obtain ⟨x8, hx8, h⟩ := bd_some h
      refine w_cVi (wr := []) (qc := (RX3, TX3, 8)) C (c_X3_roundOf fu (Nat.lt_trans (vp_lt hi7) (by decide)) hx8) pk_X3_roundOf ml_X3_119 (As := [.ref (xa (3 + v1.toNatClampNeg)), .int v3]) (rest := [.int v2]) (k9 := 0) rfl rfl ⟨⟨rfl, rfl⟩, Nat.le_of_ble_eq_true rfl, Nat.le_of_ble_eq_true rfl⟩ rfl ⟨(Nat.le_of_ble_eq_true rfl), (Nat.le_of_ble_eq_true rfl)⟩ (Nat.le_of_ble_eq_true rfl) rfl rfl (List.nil_append _) dX3_order_46 ?_
      obtain ⟨x9, hx9, h⟩ := bd_some h
      refine w_cSi C (c_X3_leastCommonMultiple fu  hx9) pk_X3_leastCommonMultiple ml_X3_122 (As := [.int v2, .int x8]) (rest := []) ⟨⟨rfl, rfl⟩, Nat.le_of_ble_eq_true rfl, Nat.le_of_ble_eq_true rfl⟩ rfl ⟨(Nat.le_of_ble_eq_true rfl), (Nat.le_of_ble_eq_true rfl)⟩ (Nat.le_of_ble_eq_true rfl) rfl (List.append_nil _).symm (List.append_nil _) dX3_order_49 ?_
      refine w_istore_n C (Nat.le_of_ble_eq_true rfl) rfl dX3_order_52 ?_
      refine w_iinc (v := v3 + 1) (k := 3) C rfl rfl (Nat.le_of_ble_eq_true rfl) rfl dX3_order_53 ?_
      refine w_goto (tgt := 29) C dX3_order_56 (by decide) ?_
      refine w_lv [2, 3, 1, 0] rfl ?_
      exact ih _ _ h
set_option maxRecDepth 20000 in
set_option maxHeartbeats 4000000 in
theorem w_X3_order {fa : Nat → Nat} {N : Nat} {ra : Nat} {xa : Nat → Nat} {FA : Nat → Option Nat} {ak : Int64} {r1 : Int32} {r2 : Int32} {r3 : Int32} {r4 : Int32} {r5 : Int32} {fp : Int32} {fq : Int32} {t0 : Nat → Int32} {t1 : Nat → Int32} {t2 : Nat → Int32} {t3 : Nat → Int32} {t4 : Nat → Int32} {t5 : Nat → Int32} {tL : Nat → Option Nat} {fu : Nat}  {xq : Int32} {RR : Nat → Nat → Int32} {v1 : Int32} {r : Int32} (C : Cx p s m args meth c G A RX3 cX3_order 4 ((some .int)))   (h : X3_order fu N  xq RR v1 = some r) : Wd p l e rm_X3_order s m args below meth c G A 4 0 0 (QQ G A (fun o w => o = some (.int r) ∧ w = (xm G xa FA (fa 0) ra xq ak RR ++ ([rcw ra r1 r2 r3 r4 r5] ++ (fw G fa N fp fq t0 t1 t2 t3 t4 t5 tL)))) below args s 0 0) (xm G xa FA (fa 0) ra xq ak RR ++ ([rcw ra r1 r2 r3 r4 r5] ++ (fw G fa N fp fq t0 t1 t2 t3 t4 t5 tL))) [(0, .ref (xa 0)), (1, .int v1)] 0 [] := by
  unfold X3_order at h
  refine w_iload_n C 1 rfl dX3_order_0 ?_
  obtain ⟨x1, hx1, h⟩ := bd_some h
  refine w_cSi C (c_X3_isMap fu  hx1) pk_X3_isMap ml_X3_64 (As := [.int v1]) (rest := []) ⟨⟨rfl, rfl⟩, Nat.le_of_ble_eq_true rfl, Nat.le_of_ble_eq_true rfl⟩ rfl ⟨(Nat.le_of_ble_eq_true rfl), (Nat.le_of_ble_eq_true rfl)⟩ (Nat.le_of_ble_eq_true rfl) rfl (List.append_nil _).symm (List.append_nil _) dX3_order_1 ?_
  refine w_if_ne (tgt := 9) C dX3_order_4 (by decide) (fun hb2 => ?_) (fun hb2 => ?_)
  · have h := if_f hb2 h
    refine w_aload_n C 0 rfl dX3_order_9 ?_
    refine w_aload_n C 0 rfl dX3_order_10 ?_
    refine gt_X3_17 C dX3_order_11 ?_
    refine w_iload_n C 1 rfl dX3_order_14 ?_
    obtain ⟨hi3, h⟩ := ckI_some h
    refine ld_maps C hi3 dX3_order_15 ?_
    obtain ⟨x4, hx4, h⟩ := bd_some h
    refine w_cVi (wr := []) (qc := (RX3, TX3, 8)) C (c_X3_isShuffle fu (Nat.lt_trans (vp_lt hi3) (by decide)) hx4) pk_X3_isShuffle ml_X3_98 (As := [.ref (xa (3 + v1.toNatClampNeg))]) (rest := []) (k9 := 0) rfl rfl ⟨⟨rfl, rfl⟩, Nat.le_of_ble_eq_true rfl, Nat.le_of_ble_eq_true rfl⟩ rfl ⟨(Nat.le_of_ble_eq_true rfl), (Nat.le_of_ble_eq_true rfl)⟩ (Nat.le_of_ble_eq_true rfl) rfl rfl (List.nil_append _) dX3_order_16 ?_
    refine w_if_ne (tgt := 25) C dX3_order_19 (by decide) (fun hb5 => ?_) (fun hb5 => ?_)
    · have h := if_f hb5 h
      refine w_iconst (v := 1) C dX3_order_25 (by decide) ?_
      refine w_istore_n C (Nat.le_of_ble_eq_true rfl) rfl dX3_order_26 ?_
      refine w_iconst (v := 0) C dX3_order_27 (by decide) ?_
      refine w_istore_n C (Nat.le_of_ble_eq_true rfl) rfl dX3_order_28 ?_
      refine w_lv [2, 3, 1, 0] rfl ?_
      exact w_X3_order_29 C    _ _ _ h
    · have h := if_t hb5 h
      refine w_bipush (v := (-2)) C dX3_order_22 (by decide) ?_
      cases h
      exact w_iret C ⟨rfl, rfl⟩ dX3_order_24
  · have h := if_t hb2 h
    refine w_iconst (v := (-1)) C dX3_order_7 (by decide) ?_
    cases h
    exact w_iret C ⟨rfl, rfl⟩ dX3_order_8
theorem c_X3_order {l : Launch} {G : GG} {fa : Nat → Nat} {N : Nat} {ra : Nat} {xa : Nat → Nat} {FA : Nat → Option Nat} {xq : Int32} {ak : Int64} {RR : Nat → Nat → Int32} {r1 : Int32} {r2 : Int32} {r3 : Int32} {r4 : Int32} {r5 : Int32} {fp : Int32} {fq : Int32} {t0 : Nat → Int32} {t1 : Nat → Int32} {t2 : Nat → Int32} {t3 : Nat → Int32} {t4 : Nat → Int32} {t5 : Nat → Int32} {tL : Nat → Option Nat} (fu : Nat) {v1 : Int32} {r : Int32} (h : X3_order fu N xq RR v1 = some r) : Ct l yX3_order cX3_order 4 ((some .int)) G rm_X3_order [.ref (xa 0), .int v1] (xm G xa FA (fa 0) ra xq ak RR ++ ([rcw ra r1 r2 r3 r4 r5] ++ (fw G fa N fp fq t0 t1 t2 t3 t4 t5 tL))) (fun o w => o = some (.int r) ∧ w = (xm G xa FA (fa 0) ra xq ak RR ++ ([rcw ra r1 r2 r3 r4 r5] ++ (fw G fa N fp fq t0 t1 t2 t3 t4 t5 tL)))) 0 0 := Ct.of (by decide) (Nat.le_of_ble_eq_true rfl) (fun p e s m args below meth c A C _ => w_X3_order C h)
abbrev rm_X3_fixed : Room := { frames := 1, cells := 0, slots := 0, locals := 20 }
theorem pk_X3_fixed : PkV RX3 yX3_fixed cX3_fixed 4 ((some .int)) 1 := ⟨rfl, co_X3_fixed, ini_RX3, im_X3_fixed, se_X3_fixed, by decide +kernel⟩
set_option maxRecDepth 20000 in
set_option maxHeartbeats 4000000 in
theorem w_X3_fixed_39 {fa : Nat → Nat} {N : Nat} {ra : Nat} {xa : Nat → Nat} {FA : Nat → Option Nat} {ak : Int64} {r1 : Int32} {r2 : Int32} {r3 : Int32} {r4 : Int32} {r5 : Int32} {fp : Int32} {fq : Int32} {t0 : Nat → Int32} {t1 : Nat → Int32} {t2 : Nat → Int32} {t3 : Nat → Int32} {t4 : Nat → Int32} {t5 : Nat → Int32} {tL : Nat → Option Nat} {fu : Nat} {rc13 : Int32 → Int32 → Option Int32} {xq : Int32} {RR : Nat → Nat → Int32} {s0 : Int32} {s1 : Int32} {v1 : Int32} {v3 : Int32} {r : Int32} (C : Cx p s m args meth c G A RX3 cX3_fixed 4 ((some .int)))  (hrc13 : ∀ (v2 : Int32) (v3 : Int32), rc13 v2 v3 = some r → Wd p l e rm_X3_fixed s m args below meth c G A 4 0 0 (QQ G A (fun o w => o = some (.int r) ∧ w = (xm G xa FA (fa 0) ra xq ak RR ++ ([rcw ra r1 r2 r3 r4 r5] ++ (fw G fa N fp fq t0 t1 t2 t3 t4 t5 tL)))) below args s 0 0) (xm G xa FA (fa 0) ra xq ak RR ++ ([rcw ra r1 r2 r3 r4 r5] ++ (fw G fa N fp fq t0 t1 t2 t3 t4 t5 tL))) [(0, .ref (xa 0)), (1, .int v1), (2, .int v2), (3, .int v3)] 13 []) (h : X3_fixed_39 fu N rc13 xq RR s0 s1 v1 v3 = some r) : Wd p l e rm_X3_fixed s m args below meth c G A 4 0 0 (QQ G A (fun o w => o = some (.int r) ∧ w = (xm G xa FA (fa 0) ra xq ak RR ++ ([rcw ra r1 r2 r3 r4 r5] ++ (fw G fa N fp fq t0 t1 t2 t3 t4 t5 tL)))) below args s 0 0) (xm G xa FA (fa 0) ra xq ak RR ++ ([rcw ra r1 r2 r3 r4 r5] ++ (fw G fa N fp fq t0 t1 t2 t3 t4 t5 tL))) [(0, .ref (xa 0)), (1, .int v1), (3, .int v3)] 39 [.int s0, .int s1] := by
  unfold X3_fixed_39 at h
  obtain ⟨x7, hx7, h⟩ := bd_some h
  refine w_cSi C (c_X3_truth fu  hx7) pk_X3_truth ml_X3_102 (As := [.int s0]) (rest := [.int s1]) ⟨⟨rfl, rfl⟩, Nat.le_of_ble_eq_true rfl, Nat.le_of_ble_eq_true rfl⟩ rfl ⟨(Nat.le_of_ble_eq_true rfl), (Nat.le_of_ble_eq_true rfl)⟩ (Nat.le_of_ble_eq_true rfl) rfl (List.append_nil _).symm (List.append_nil _) dX3_fixed_39 ?_
  refine w_iadd C dX3_fixed_42 ?_
  refine w_istore_n C (Nat.le_of_ble_eq_true rfl) rfl dX3_fixed_43 ?_
  refine w_iinc (v := v3 + 1) (k := 3) C rfl rfl (Nat.le_of_ble_eq_true rfl) rfl dX3_fixed_44 ?_
  refine w_goto (tgt := 13) C dX3_fixed_47 (by decide) ?_
  refine w_lv [2, 3, 1, 0] rfl ?_
  exact hrc13 _ _ h
set_option maxRecDepth 20000 in
set_option maxHeartbeats 4000000 in
theorem w_X3_fixed_13 {fa : Nat → Nat} {N : Nat} {ra : Nat} {xa : Nat → Nat} {FA : Nat → Option Nat} {ak : Int64} {r1 : Int32} {r2 : Int32} {r3 : Int32} {r4 : Int32} {r5 : Int32} {fp : Int32} {fq : Int32} {t0 : Nat → Int32} {t1 : Nat → Int32} {t2 : Nat → Int32} {t3 : Nat → Int32} {t4 : Nat → Int32} {t5 : Nat → Int32} {tL : Nat → Option Nat} {xq : Int32} {RR : Nat → Nat → Int32} {v1 : Int32} {fu : Nat}  {r : Int32} (C : Cx p s m args meth c G A RX3 cX3_fixed 4 ((some .int)))   : ∀ (fk : Nat) (v2 : Int32) (v3 : Int32), X3_fixed_13 fu N  xq RR v1 fk v2 v3 = some r → Wd p l e rm_X3_fixed s m args below meth c G A 4 0 0 (QQ G A (fun o w => o = some (.int r) ∧ w = (xm G xa FA (fa 0) ra xq ak RR ++ ([rcw ra r1 r2 r3 r4 r5] ++ (fw G fa N fp fq t0 t1 t2 t3 t4 t5 tL)))) below args s 0 0) (xm G xa FA (fa 0) ra xq ak RR ++ ([rcw ra r1 r2 r3 r4 r5] ++ (fw G fa N fp fq t0 t1 t2 t3 t4 t5 tL))) [(0, .ref (xa 0)), (1, .int v1), (2, .int v2), (3, .int v3)] 13 [] := by
  intro fk
  induction fk with
  | zero =>
    intro v2 v3 h
    have h : (none : Option Int32) = some r := h
    cases h
  | succ fk ih =>
    intro v2 v3 h
    have h : X3_fixed_13_b fu N  xq RR v1 (X3_fixed_13 fu N  xq RR v1 fk) v2 v3 = some r := h
    unfold X3_fixed_13_b at h
    refine w_iload_n C 3 rfl dX3_fixed_13 ?_
    refine w_aload_n C 0 rfl dX3_fixed_14 ?_
    refine gt_X3_42 C dX3_fixed_15 ?_
    refine w_icmp_ge (tgt := 50) C dX3_fixed_18 (by decide) (fun hb3 => ?_) (fun hb3 => ?_)
    · have h := if_t hb3 h
      refine w_iload_n C 2 rfl dX3_fixed_50 ?_
      cases h
      exact w_iret C ⟨rfl, rfl⟩ dX3_fixed_51
    · have h := if_f hb3 h
      refine w_iload_n C 2 rfl dX3_fixed_21 ?_
      refine w_aload_n C 0 rfl dX3_fixed_22 ?_
      refine gt_X3_17 C dX3_fixed_23 ?_
      refine w_iload_n C 1 rfl dX3_fixed_26 ?_
      obtain ⟨hi4, h⟩ := ckI_some h
      refine ld_maps C hi4 dX3_fixed_27 ?_
      refine w_iload_n C 3 rfl dX3_fixed_28 ?_
      obtain ⟨hi5, h⟩ := ckI_some h
      refine ld_row C (Nat.lt_trans (vp_lt hi4) (by decide)) hi5 dX3_fixed_29 ?_
      refine w_iload_n C 3 rfl dX3_fixed_30 ?_
      refine w_icmp_ne (tgt := 38) C dX3_fixed_31 (by decide) (fun hb6 => ?_) (fun hb6 => ?_)
      · have h := if_f hb6 h
        refine w_iconst (v := 0) C dX3_fixed_38 (by decide) ?_
        refine w_lv [0, 1, 3] rfl ?_
        exact w_X3_fixed_39 C   ih h
      · have h := if_t hb6 h
        refine w_iconst (v := 1) C dX3_fixed_34 (by decide) ?_
        refine w_goto (tgt := 39) C dX3_fixed_35 (by decide) ?_
        refine w_lv [0, 1, 3] rfl ?_
        exact w_X3_fixed_39 C   ih h
set_option maxRecDepth 20000 in
set_option maxHeartbeats 4000000 in
theorem w_X3_fixed {fa : Nat → Nat} {N : Nat} {ra : Nat} {xa : Nat → Nat} {FA : Nat → Option Nat} {ak : Int64} {r1 : Int32} {r2 : Int32} {r3 : Int32} {r4 : Int32} {r5 : Int32} {fp : Int32} {fq : Int32} {t0 : Nat → Int32} {t1 : Nat → Int32} {t2 : Nat → Int32} {t3 : Nat → Int32} {t4 : Nat → Int32} {t5 : Nat → Int32} {tL : Nat → Option Nat} {fu : Nat}  {xq : Int32} {RR : Nat → Nat → Int32} {v1 : Int32} {r : Int32} (C : Cx p s m args meth c G A RX3 cX3_fixed 4 ((some .int)))   (h : X3_fixed fu N  xq RR v1 = some r) : Wd p l e rm_X3_fixed s m args below meth c G A 4 0 0 (QQ G A (fun o w => o = some (.int r) ∧ w = (xm G xa FA (fa 0) ra xq ak RR ++ ([rcw ra r1 r2 r3 r4 r5] ++ (fw G fa N fp fq t0 t1 t2 t3 t4 t5 tL)))) below args s 0 0) (xm G xa FA (fa 0) ra xq ak RR ++ ([rcw ra r1 r2 r3 r4 r5] ++ (fw G fa N fp fq t0 t1 t2 t3 t4 t5 tL))) [(0, .ref (xa 0)), (1, .int v1)] 0 [] := by
  unfold X3_fixed at h
  refine w_iload_n C 1 rfl dX3_fixed_0 ?_
  obtain ⟨x1, hx1, h⟩ := bd_some h
  refine w_cSi C (c_X3_isMap fu  hx1) pk_X3_isMap ml_X3_64 (As := [.int v1]) (rest := []) ⟨⟨rfl, rfl⟩, Nat.le_of_ble_eq_true rfl, Nat.le_of_ble_eq_true rfl⟩ rfl ⟨(Nat.le_of_ble_eq_true rfl), (Nat.le_of_ble_eq_true rfl)⟩ (Nat.le_of_ble_eq_true rfl) rfl (List.append_nil _).symm (List.append_nil _) dX3_fixed_1 ?_
  refine w_if_ne (tgt := 9) C dX3_fixed_4 (by decide) (fun hb2 => ?_) (fun hb2 => ?_)
  · have h := if_f hb2 h
    refine w_iconst (v := 0) C dX3_fixed_9 (by decide) ?_
    refine w_istore_n C (Nat.le_of_ble_eq_true rfl) rfl dX3_fixed_10 ?_
    refine w_iconst (v := 0) C dX3_fixed_11 (by decide) ?_
    refine w_istore_n C (Nat.le_of_ble_eq_true rfl) rfl dX3_fixed_12 ?_
    refine w_lv [2, 3, 1, 0] rfl ?_
    exact w_X3_fixed_13 C    _ _ _ h
  · have h := if_t hb2 h
    refine w_iconst (v := (-1)) C dX3_fixed_7 (by decide) ?_
    cases h
    exact w_iret C ⟨rfl, rfl⟩ dX3_fixed_8
theorem c_X3_fixed {l : Launch} {G : GG} {fa : Nat → Nat} {N : Nat} {ra : Nat} {xa : Nat → Nat} {FA : Nat → Option Nat} {xq : Int32} {ak : Int64} {RR : Nat → Nat → Int32} {r1 : Int32} {r2 : Int32} {r3 : Int32} {r4 : Int32} {r5 : Int32} {fp : Int32} {fq : Int32} {t0 : Nat → Int32} {t1 : Nat → Int32} {t2 : Nat → Int32} {t3 : Nat → Int32} {t4 : Nat → Int32} {t5 : Nat → Int32} {tL : Nat → Option Nat} (fu : Nat) {v1 : Int32} {r : Int32} (h : X3_fixed fu N xq RR v1 = some r) : Ct l yX3_fixed cX3_fixed 4 ((some .int)) G rm_X3_fixed [.ref (xa 0), .int v1] (xm G xa FA (fa 0) ra xq ak RR ++ ([rcw ra r1 r2 r3 r4 r5] ++ (fw G fa N fp fq t0 t1 t2 t3 t4 t5 tL))) (fun o w => o = some (.int r) ∧ w = (xm G xa FA (fa 0) ra xq ak RR ++ ([rcw ra r1 r2 r3 r4 r5] ++ (fw G fa N fp fq t0 t1 t2 t3 t4 t5 tL)))) 0 0 := Ct.of (by decide) (Nat.le_of_ble_eq_true rfl) (fun p e s m args below meth c A C _ => w_X3_fixed C h)
abbrev rm_X3_differenceAt : Room := { frames := 1, cells := 0, slots := 0, locals := 22 }
theorem pk_X3_differenceAt : PkV RX3 yX3_differenceAt cX3_differenceAt 4 ((some .int)) 3 := ⟨rfl, co_X3_differenceAt, ini_RX3, im_X3_differenceAt, se_X3_differenceAt, by decide +kernel⟩
set_option maxRecDepth 20000 in
set_option maxHeartbeats 4000000 in
theorem w_X3_differenceAt {fa : Nat → Nat} {N : Nat} {ra : Nat} {xa : Nat → Nat} {FA : Nat → Option Nat} {xq : Int32} {ak : Int64} {r1 : Int32} {r2 : Int32} {r3 : Int32} {r4 : Int32} {r5 : Int32} {fp : Int32} {t1 : Nat → Int32} {t2 : Nat → Int32} {t4 : Nat → Int32} {t5 : Nat → Int32} {tL : Nat → Option Nat} {fu : Nat}  {RR : Nat → Nat → Int32} {fq : Int32} {t0 : Nat → Int32} {t3 : Nat → Int32} {j1 : Nat} {v2 : Int32} {v3 : Int32} {r : Int32} (C : Cx p s m args meth c G A RX3 cX3_differenceAt 4 ((some .int))) (hj1 : j1 < 6)  (h : X3_differenceAt fu N  RR fq t0 t3 j1 v2 v3 = some r) : Wd p l e rm_X3_differenceAt s m args below meth c G A 4 0 0 (QQ G A (fun o w => o = some (.int r) ∧ w = (xm G xa FA (fa 0) ra xq ak RR ++ ([rcw ra r1 r2 r3 r4 r5] ++ (fw G fa N fp fq t0 t1 t2 t3 t4 t5 tL)))) below args s 0 0) (xm G xa FA (fa 0) ra xq ak RR ++ ([rcw ra r1 r2 r3 r4 r5] ++ (fw G fa N fp fq t0 t1 t2 t3 t4 t5 tL))) [(0, .ref (xa 0)), (1, .ref (xa (3 + j1))), (2, .int v2), (3, .int v3)] 0 [] := by
  unfold X3_differenceAt at h
  refine w_aload_n C 0 rfl dX3_differenceAt_0 ?_
  refine gt_X3_49 C dX3_differenceAt_1 ?_
  refine w_aload_n C 1 rfl dX3_differenceAt_4 ?_
  refine w_aload_n C 0 rfl dX3_differenceAt_5 ?_
  refine gt_X3_49 C dX3_differenceAt_6 ?_
  refine w_iload_n C 3 rfl dX3_differenceAt_9 ?_
  refine w_iload_n C 2 rfl dX3_differenceAt_10 ?_
  obtain ⟨x1, hx1, h⟩ := bd_some h
  refine w_cVi (qc := (RX0, TX0, 9)) C (c_X0_sum fu  hx1) pk_X0_sum ml_X3_53 (As := [.int v3, .int v2]) (rest := [.ref (xa (3 + j1)), .ref (fa 0)]) (k9 := 0) rfl rfl ⟨⟨rfl, rfl⟩, Nat.le_of_ble_eq_true rfl, Nat.le_of_ble_eq_true rfl⟩ rfl ⟨(Nat.le_of_ble_eq_true rfl), (Nat.le_of_ble_eq_true rfl)⟩ (Nat.le_of_ble_eq_true rfl) rfl (List.append_assoc _ _ _).symm (List.append_assoc _ _ _) dX3_differenceAt_11 ?_
  obtain ⟨hi2, h⟩ := ckI_some h
  refine ld_row C hj1 hi2 dX3_differenceAt_14 ?_
  refine w_aload_n C 1 rfl dX3_differenceAt_15 ?_
  refine w_iload_n C 3 rfl dX3_differenceAt_16 ?_
  obtain ⟨hi3, h⟩ := ckI_some h
  refine ld_row C hj1 hi3 dX3_differenceAt_17 ?_
  obtain ⟨x4, hx4, h⟩ := bd_some h
  refine w_cVi (qc := (RX0, TX0, 9)) C (c_X0_less fu  hx4) pk_X0_less ml_X3_71 (As := [.int (RR j1 x1.toNatClampNeg), .int (RR j1 v3.toNatClampNeg)]) (rest := []) (k9 := 0) rfl rfl ⟨⟨rfl, rfl⟩, Nat.le_of_ble_eq_true rfl, Nat.le_of_ble_eq_true rfl⟩ rfl ⟨(Nat.le_of_ble_eq_true rfl), (Nat.le_of_ble_eq_true rfl)⟩ (Nat.le_of_ble_eq_true rfl) rfl (List.append_assoc _ _ _).symm (List.append_assoc _ _ _) dX3_differenceAt_18 ?_
  cases h
  exact w_iret C ⟨rfl, rfl⟩ dX3_differenceAt_21
theorem c_X3_differenceAt {l : Launch} {G : GG} {fa : Nat → Nat} {N : Nat} {ra : Nat} {xa : Nat → Nat} {FA : Nat → Option Nat} {xq : Int32} {ak : Int64} {RR : Nat → Nat → Int32} {r1 : Int32} {r2 : Int32} {r3 : Int32} {r4 : Int32} {r5 : Int32} {fp : Int32} {fq : Int32} {t0 : Nat → Int32} {t1 : Nat → Int32} {t2 : Nat → Int32} {t3 : Nat → Int32} {t4 : Nat → Int32} {t5 : Nat → Int32} {tL : Nat → Option Nat} (fu : Nat) {j1 : Nat} {v2 : Int32} {v3 : Int32} (hj1 : j1 < 6) {r : Int32} (h : X3_differenceAt fu N RR fq t0 t3 j1 v2 v3 = some r) : Ct l yX3_differenceAt cX3_differenceAt 4 ((some .int)) G rm_X3_differenceAt [.ref (xa 0), .ref (xa (3 + j1)), .int v2, .int v3] (xm G xa FA (fa 0) ra xq ak RR ++ ([rcw ra r1 r2 r3 r4 r5] ++ (fw G fa N fp fq t0 t1 t2 t3 t4 t5 tL))) (fun o w => o = some (.int r) ∧ w = (xm G xa FA (fa 0) ra xq ak RR ++ ([rcw ra r1 r2 r3 r4 r5] ++ (fw G fa N fp fq t0 t1 t2 t3 t4 t5 tL)))) 0 0 := Ct.of (by decide) (Nat.le_of_ble_eq_true rfl) (fun p e s m args below meth c A C _ => w_X3_differenceAt C hj1 h)
abbrev rm_X3_difference : Room := { frames := 2, cells := 0, slots := 0, locals := 45 }
theorem pk_X3_difference : PkV RX3 yX3_difference cX3_difference 6 ((some .int)) 3 := ⟨rfl, co_X3_difference, ini_RX3, im_X3_difference, se_X3_difference, by decide +kernel⟩
set_option maxRecDepth 20000 in
set_option maxHeartbeats 4000000 in
theorem w_X3_difference_68 {fa : Nat → Nat} {N : Nat} {ra : Nat} {xa : Nat → Nat} {FA : Nat → Option Nat} {ak : Int64} {r1 : Int32} {r2 : Int32} {r3 : Int32} {r4 : Int32} {r5 : Int32} {fp : Int32} {t1 : Nat → Int32} {t2 : Nat → Int32} {t4 : Nat → Int32} {t5 : Nat → Int32} {tL : Nat → Option Nat} {fu : Nat} {rc35 : Int32 → Int32 → Option Int32} {xq : Int32} {RR : Nat → Nat → Int32} {fq : Int32} {t0 : Nat → Int32} {t3 : Nat → Int32} {s0 : Int32} {s1 : Int32} {v1 : Int32} {v2 : Int32} {v3 : Int32} {v5 : Int32} {r : Int32} (C : Cx p s m args meth c G A RX3 cX3_difference 6 ((some .int)))  (hrc35 : ∀ (v4 : Int32) (v5 : Int32), rc35 v4 v5 = some r → Wd p l e rm_X3_difference s m args below meth c G A 6 0 0 (QQ G A (fun o w => o = some (.int r) ∧ w = (xm G xa FA (fa 0) ra xq ak RR ++ ([rcw ra r1 r2 r3 r4 r5] ++ (fw G fa N fp fq t0 t1 t2 t3 t4 t5 tL)))) below args s 0 0) (xm G xa FA (fa 0) ra xq ak RR ++ ([rcw ra r1 r2 r3 r4 r5] ++ (fw G fa N fp fq t0 t1 t2 t3 t4 t5 tL))) [(0, .ref (xa 0)), (1, .int v1), (2, .int v2), (3, .int v3), (4, .int v4), (5, .int v5)] 35 []) (h : X3_difference_68 fu N rc35 xq RR fq t0 t3 s0 s1 v1 v2 v3 v5 = some r) : Wd p l e rm_X3_difference s m args below meth c G A 6 0 0 (QQ G A (fun o w => o = some (.int r) ∧ w = (xm G xa FA (fa 0) ra xq ak RR ++ ([rcw ra r1 r2 r3 r4 r5] ++ (fw G fa N fp fq t0 t1 t2 t3 t4 t5 tL)))) below args s 0 0) (xm G xa FA (fa 0) ra xq ak RR ++ ([rcw ra r1 r2 r3 r4 r5] ++ (fw G fa N fp fq t0 t1 t2 t3 t4 t5 tL))) [(0, .ref (xa 0)), (1, .int v1), (2, .int v2), (3, .int v3), (5, .int v5)] 68 [.int s0, .int s1] := by
  unfold X3_difference_68 at h
  obtain ⟨x12, hx12, h⟩ := bd_some h
  refine w_cSi C (c_X3_truth fu  hx12) pk_X3_truth ml_X3_102 (As := [.int s0]) (rest := [.int s1]) ⟨⟨rfl, rfl⟩, Nat.le_of_ble_eq_true rfl, Nat.le_of_ble_eq_true rfl⟩ rfl ⟨(Nat.le_of_ble_eq_true rfl), (Nat.le_of_ble_eq_true rfl)⟩ (Nat.le_of_ble_eq_true rfl) rfl (List.append_nil _).symm (List.append_nil _) dX3_difference_68 ?_
  refine w_iadd C dX3_difference_71 ?_
  refine w_istore C (Nat.le_of_ble_eq_true rfl) rfl dX3_difference_72 ?_
  refine w_iinc (v := v5 + 1) (k := 5) C rfl rfl (Nat.le_of_ble_eq_true rfl) rfl dX3_difference_74 ?_
  refine w_goto (tgt := 35) C dX3_difference_77 (by decide) ?_
  refine w_lv [2, 3, 4, 5, 1, 0] rfl ?_
  exact hrc35 _ _ h
set_option maxRecDepth 20000 in
set_option maxHeartbeats 4000000 in
theorem w_X3_difference_35 {fa : Nat → Nat} {N : Nat} {ra : Nat} {xa : Nat → Nat} {FA : Nat → Option Nat} {ak : Int64} {r1 : Int32} {r2 : Int32} {r3 : Int32} {r4 : Int32} {r5 : Int32} {fp : Int32} {t1 : Nat → Int32} {t2 : Nat → Int32} {t4 : Nat → Int32} {t5 : Nat → Int32} {tL : Nat → Option Nat} {xq : Int32} {RR : Nat → Nat → Int32} {fq : Int32} {t0 : Nat → Int32} {t3 : Nat → Int32} {v1 : Int32} {v2 : Int32} {v3 : Int32} {fu : Nat}  {r : Int32} (C : Cx p s m args meth c G A RX3 cX3_difference 6 ((some .int)))   : ∀ (fk : Nat) (v4 : Int32) (v5 : Int32), X3_difference_35 fu N  xq RR fq t0 t3 v1 v2 v3 fk v4 v5 = some r → Wd p l e rm_X3_difference s m args below meth c G A 6 0 0 (QQ G A (fun o w => o = some (.int r) ∧ w = (xm G xa FA (fa 0) ra xq ak RR ++ ([rcw ra r1 r2 r3 r4 r5] ++ (fw G fa N fp fq t0 t1 t2 t3 t4 t5 tL)))) below args s 0 0) (xm G xa FA (fa 0) ra xq ak RR ++ ([rcw ra r1 r2 r3 r4 r5] ++ (fw G fa N fp fq t0 t1 t2 t3 t4 t5 tL))) [(0, .ref (xa 0)), (1, .int v1), (2, .int v2), (3, .int v3), (4, .int v4), (5, .int v5)] 35 [] := by
  intro fk
  induction fk with
  | zero =>
    intro v4 v5 h
    have h : (none : Option Int32) = some r := h
    cases h
  | succ fk ih =>
    intro v4 v5 h
    have h : X3_difference_35_b fu N  xq RR fq t0 t3 v1 v2 v3 (X3_difference_35 fu N  xq RR fq t0 t3 v1 v2 v3 fk) v4 v5 = some r := h
    unfold X3_difference_35_b at h
    refine w_iload C 5 rfl dX3_difference_35 ?_
    refine w_aload_n C 0 rfl dX3_difference_37 ?_
    refine gt_X3_42 C dX3_difference_38 ?_
    refine w_icmp_ge (tgt := 80) C dX3_difference_41 (by decide) (fun hb8 => ?_) (fun hb8 => ?_)
    · have h := if_t hb8 h
      refine w_iload C 4 rfl dX3_difference_80 ?_
      cases h
      exact w_iret C ⟨rfl, rfl⟩ dX3_difference_82
    · have h := if_f hb8 h
      refine w_iload C 4 rfl dX3_difference_44 ?_
      refine w_aload_n C 0 rfl dX3_difference_46 ?_
      refine w_aload_n C 0 rfl dX3_difference_47 ?_
      refine gt_X3_17 C dX3_difference_48 ?_
      refine w_iload_n C 1 rfl dX3_difference_51 ?_
      obtain ⟨hi9, h⟩ := ckI_some h
      refine ld_maps C hi9 dX3_difference_52 ?_
      refine w_iload_n C 2 rfl dX3_difference_53 ?_
      refine w_iload C 5 rfl dX3_difference_54 ?_
      obtain ⟨x10, hx10, h⟩ := bd_some h
      refine w_cVi (wr := []) (qc := (RX3, TX3, 8)) C (c_X3_differenceAt fu (Nat.lt_trans (vp_lt hi9) (by decide)) hx10) pk_X3_differenceAt ml_X3_125 (As := [.ref (xa (3 + v1.toNatClampNeg)), .int v2, .int v5]) (rest := [.int v4]) (k9 := 0) rfl rfl ⟨⟨rfl, rfl⟩, Nat.le_of_ble_eq_true rfl, Nat.le_of_ble_eq_true rfl⟩ rfl ⟨(Nat.le_of_ble_eq_true rfl), (Nat.le_of_ble_eq_true rfl)⟩ (Nat.le_of_ble_eq_true rfl) rfl rfl (List.nil_append _) dX3_difference_56 ?_
      refine w_iload_n C 3 rfl dX3_difference_59 ?_
      refine w_icmp_ne (tgt := 67) C dX3_difference_60 (by decide) (fun hb11 => ?_) (fun hb11 => ?_)
      · have h := if_f hb11 h
        refine w_iconst (v := 0) C dX3_difference_67 (by decide) ?_
        refine w_lv [0, 1, 2, 3, 5] rfl ?_
        exact w_X3_difference_68 C   ih h
      · have h := if_t hb11 h
        refine w_iconst (v := 1) C dX3_difference_63 (by decide) ?_
        refine w_goto (tgt := 68) C dX3_difference_64 (by decide) ?_
        refine w_lv [0, 1, 2, 3, 5] rfl ?_
        exact w_X3_difference_68 C   ih h
set_option maxRecDepth 20000 in
set_option maxHeartbeats 4000000 in
theorem w_X3_difference {fa : Nat → Nat} {N : Nat} {ra : Nat} {xa : Nat → Nat} {FA : Nat → Option Nat} {ak : Int64} {r1 : Int32} {r2 : Int32} {r3 : Int32} {r4 : Int32} {r5 : Int32} {fp : Int32} {t1 : Nat → Int32} {t2 : Nat → Int32} {t4 : Nat → Int32} {t5 : Nat → Int32} {tL : Nat → Option Nat} {fu : Nat}  {xq : Int32} {RR : Nat → Nat → Int32} {fq : Int32} {t0 : Nat → Int32} {t3 : Nat → Int32} {v1 : Int32} {v2 : Int32} {v3 : Int32} {r : Int32} (C : Cx p s m args meth c G A RX3 cX3_difference 6 ((some .int)))   (h : X3_difference fu N  xq RR fq t0 t3 v1 v2 v3 = some r) : Wd p l e rm_X3_difference s m args below meth c G A 6 0 0 (QQ G A (fun o w => o = some (.int r) ∧ w = (xm G xa FA (fa 0) ra xq ak RR ++ ([rcw ra r1 r2 r3 r4 r5] ++ (fw G fa N fp fq t0 t1 t2 t3 t4 t5 tL)))) below args s 0 0) (xm G xa FA (fa 0) ra xq ak RR ++ ([rcw ra r1 r2 r3 r4 r5] ++ (fw G fa N fp fq t0 t1 t2 t3 t4 t5 tL))) [(0, .ref (xa 0)), (1, .int v1), (2, .int v2), (3, .int v3)] 0 [] := by
  unfold X3_difference at h
  refine w_iload_n C 1 rfl dX3_difference_0 ?_
  obtain ⟨x1, hx1, h⟩ := bd_some h
  refine w_cSi C (c_X3_isMap fu  hx1) pk_X3_isMap ml_X3_64 (As := [.int v1]) (rest := []) ⟨⟨rfl, rfl⟩, Nat.le_of_ble_eq_true rfl, Nat.le_of_ble_eq_true rfl⟩ rfl ⟨(Nat.le_of_ble_eq_true rfl), (Nat.le_of_ble_eq_true rfl)⟩ (Nat.le_of_ble_eq_true rfl) rfl (List.append_nil _).symm (List.append_nil _) dX3_difference_1 ?_
  refine w_if_eq (tgt := 27) C dX3_difference_4 (by decide) (fun hb2 => ?_) (fun hb2 => ?_)
  · have h := if_t hb2 h
    refine w_iconst (v := (-1)) C dX3_difference_27 (by decide) ?_
    cases h
    exact w_iret C ⟨rfl, rfl⟩ dX3_difference_28
  · have h := if_f hb2 h
    refine w_aload_n C 0 rfl dX3_difference_7 ?_
    refine w_iload_n C 2 rfl dX3_difference_8 ?_
    obtain ⟨x3, hx3, h⟩ := bd_some h
    refine w_cVi (wr := []) (qc := (RX3, TX3, 8)) C (c_X3_isNumber fu  hx3) pk_X3_isNumber ml_X3_46 (As := [.int v2]) (rest := []) (k9 := 0) rfl rfl ⟨⟨rfl, rfl⟩, Nat.le_of_ble_eq_true rfl, Nat.le_of_ble_eq_true rfl⟩ rfl ⟨(Nat.le_of_ble_eq_true rfl), (Nat.le_of_ble_eq_true rfl)⟩ (Nat.le_of_ble_eq_true rfl) rfl rfl (List.nil_append _) dX3_difference_9 ?_
    refine w_if_eq (tgt := 27) C dX3_difference_12 (by decide) (fun hb4 => ?_) (fun hb4 => ?_)
    · have h := if_t hb4 h
      refine w_iconst (v := (-1)) C dX3_difference_27 (by decide) ?_
      cases h
      exact w_iret C ⟨rfl, rfl⟩ dX3_difference_28
    · have h := if_f hb4 h
      refine w_iload_n C 2 rfl dX3_difference_15 ?_
      refine w_if_eq (tgt := 27) C dX3_difference_16 (by decide) (fun hb5 => ?_) (fun hb5 => ?_)
      · have h := if_t hb5 h
        refine w_iconst (v := (-1)) C dX3_difference_27 (by decide) ?_
        cases h
        exact w_iret C ⟨rfl, rfl⟩ dX3_difference_28
      · have h := if_f hb5 h
        refine w_aload_n C 0 rfl dX3_difference_19 ?_
        refine w_iload_n C 3 rfl dX3_difference_20 ?_
        obtain ⟨x6, hx6, h⟩ := bd_some h
        refine w_cVi (wr := []) (qc := (RX3, TX3, 8)) C (c_X3_isNumber fu  hx6) pk_X3_isNumber ml_X3_46 (As := [.int v3]) (rest := []) (k9 := 0) rfl rfl ⟨⟨rfl, rfl⟩, Nat.le_of_ble_eq_true rfl, Nat.le_of_ble_eq_true rfl⟩ rfl ⟨(Nat.le_of_ble_eq_true rfl), (Nat.le_of_ble_eq_true rfl)⟩ (Nat.le_of_ble_eq_true rfl) rfl rfl (List.nil_append _) dX3_difference_21 ?_
        refine w_if_ne (tgt := 29) C dX3_difference_24 (by decide) (fun hb7 => ?_) (fun hb7 => ?_)
        · have h := if_f hb7 h
          refine w_iconst (v := 0) C dX3_difference_29 (by decide) ?_
          refine w_istore C (Nat.le_of_ble_eq_true rfl) rfl dX3_difference_30 ?_
          refine w_iconst (v := 0) C dX3_difference_32 (by decide) ?_
          refine w_istore C (Nat.le_of_ble_eq_true rfl) rfl dX3_difference_33 ?_
          refine w_lv [2, 3, 4, 5, 1, 0] rfl ?_
          exact w_X3_difference_35 C    _ _ _ h
        · have h := if_t hb7 h
          refine w_iconst (v := (-1)) C dX3_difference_27 (by decide) ?_
          cases h
          exact w_iret C ⟨rfl, rfl⟩ dX3_difference_28
theorem c_X3_difference {l : Launch} {G : GG} {fa : Nat → Nat} {N : Nat} {ra : Nat} {xa : Nat → Nat} {FA : Nat → Option Nat} {xq : Int32} {ak : Int64} {RR : Nat → Nat → Int32} {r1 : Int32} {r2 : Int32} {r3 : Int32} {r4 : Int32} {r5 : Int32} {fp : Int32} {fq : Int32} {t0 : Nat → Int32} {t1 : Nat → Int32} {t2 : Nat → Int32} {t3 : Nat → Int32} {t4 : Nat → Int32} {t5 : Nat → Int32} {tL : Nat → Option Nat} (fu : Nat) {v1 : Int32} {v2 : Int32} {v3 : Int32} {r : Int32} (h : X3_difference fu N xq RR fq t0 t3 v1 v2 v3 = some r) : Ct l yX3_difference cX3_difference 6 ((some .int)) G rm_X3_difference [.ref (xa 0), .int v1, .int v2, .int v3] (xm G xa FA (fa 0) ra xq ak RR ++ ([rcw ra r1 r2 r3 r4 r5] ++ (fw G fa N fp fq t0 t1 t2 t3 t4 t5 tL))) (fun o w => o = some (.int r) ∧ w = (xm G xa FA (fa 0) ra xq ak RR ++ ([rcw ra r1 r2 r3 r4 r5] ++ (fw G fa N fp fq t0 t1 t2 t3 t4 t5 tL)))) 0 0 := Ct.of (by decide) (Nat.le_of_ble_eq_true rfl) (fun p e s m args below meth c A C _ => w_X3_difference C h)
abbrev rm_X3_greatestSpread : Room := { frames := 2, cells := 0, slots := 0, locals := 45 }
theorem pk_X3_greatestSpread : PkV RX3 yX3_greatestSpread cX3_greatestSpread 6 ((some .int)) 1 := ⟨rfl, co_X3_greatestSpread, ini_RX3, im_X3_greatestSpread, se_X3_greatestSpread, by decide +kernel⟩
set_option maxRecDepth 20000 in
set_option maxHeartbeats 4000000 in
theorem w_X3_greatestSpread_23 {fa : Nat → Nat} {N : Nat} {ra : Nat} {xa : Nat → Nat} {FA : Nat → Option Nat} {ak : Int64} {r1 : Int32} {r2 : Int32} {r3 : Int32} {r4 : Int32} {r5 : Int32} {fp : Int32} {t1 : Nat → Int32} {t2 : Nat → Int32} {t4 : Nat → Int32} {t5 : Nat → Int32} {tL : Nat → Option Nat} {xq : Int32} {fq : Int32} {t0 : Nat → Int32} {t3 : Nat → Int32} {j1 : Nat} {v3 : Int32} {fu : Nat} {rc4 : (Nat → Nat → Int32) → Int32 → Int32 → Option (Int32 × (Nat → Nat → Int32))} {r : Int32 × (Nat → Nat → Int32)} (C : Cx p s m args meth c G A RX3 cX3_greatestSpread 6 ((some .int))) (hj1 : j1 < 6) (hrc4 : ∀ (RR : Nat → Nat → Int32) (v2 : Int32) (v3 : Int32), rc4 RR v2 v3 = some r → Wd p l e rm_X3_greatestSpread s m args below meth c G A 6 0 0 (QQ G A (fun o w => o = some (.int r.1) ∧ w = (xm G xa FA (fa 0) ra xq ak r.2 ++ ([rcw ra r1 r2 r3 r4 r5] ++ (fw G fa N fp fq t0 t1 t2 t3 t4 t5 tL)))) below args s 0 0) (xm G xa FA (fa 0) ra xq ak RR ++ ([rcw ra r1 r2 r3 r4 r5] ++ (fw G fa N fp fq t0 t1 t2 t3 t4 t5 tL))) [(0, .ref (xa 0)), (1, .ref (xa (3 + j1))), (2, .int v2), (3, .int v3)] 4 []) : ∀ (fk : Nat) (RR : Nat → Nat → Int32) (v2 : Int32) (v4 : Int32), X3_greatestSpread_23 fu N rc4 xq fq t0 t3 j1 v3 fk RR v2 v4 = some r → Wd p l e rm_X3_greatestSpread s m args below meth c G A 6 0 0 (QQ G A (fun o w => o = some (.int r.1) ∧ w = (xm G xa FA (fa 0) ra xq ak r.2 ++ ([rcw ra r1 r2 r3 r4 r5] ++ (fw G fa N fp fq t0 t1 t2 t3 t4 t5 tL)))) below args s 0 0) (xm G xa FA (fa 0) ra xq ak RR ++ ([rcw ra r1 r2 r3 r4 r5] ++ (fw G fa N fp fq t0 t1 t2 t3 t4 t5 tL))) [(0, .ref (xa 0)), (1, .ref (xa (3 + j1))), (2, .int v2), (3, .int v3), (4, .int v4)] 23 [] := by
  intro fk
  induction fk with
  | zero =>
    intro RR v2 v4 h
    have h : (none : Option (Int32 × (Nat → Nat → Int32))) = some r := h
    cases h
  | succ fk ih =>
    intro RR v2 v4 h
    have h : X3_greatestSpread_23_b fu N rc4 xq fq t0 t3 j1 v3 (X3_greatestSpread_23 fu N rc4 xq fq t0 t3 j1 v3 fk) RR v2 v4 = some r := h
    unfold X3_greatestSpread_23_b at h
    refine w_iload C 4 rfl dX3_greatestSpread_23 ?_
    refine w_aload_n C 0 rfl dX3_greatestSpread_25 ?_
    refine gt_X3_42 C dX3_greatestSpread_26 ?_
    refine w_icmp_ge (tgt := 71) C dX3_greatestSpread_29 (by decide) (fun hb3 => ?_) (fun hb3 => ?_)
    · have h := if_t hb3 h
      refine w_iinc (v := v3 + 1) (k := 3) C rfl rfl (Nat.le_of_ble_eq_true rfl) rfl dX3_greatestSpread_71 ?_
      refine w_goto (tgt := 4) C dX3_greatestSpread_74 (by decide) ?_
      refine w_lv [1, 2, 3, 0] rfl ?_
      exact hrc4 _ _ _ h
    · have h := if_f hb3 h
      refine w_aload_n C 0 rfl dX3_greatestSpread_32 ?_
      refine w_aload_n C 1 rfl dX3_greatestSpread_33 ?_
      refine w_iload_n C 3 rfl dX3_greatestSpread_34 ?_
      refine w_iload C 4 rfl dX3_greatestSpread_35 ?_
      obtain ⟨x4, hx4, h⟩ := bd_some h
      refine w_cVi (wr := []) (qc := (RX3, TX3, 8)) C (c_X3_differenceAt fu hj1 hx4) pk_X3_differenceAt ml_X3_125 (As := [.ref (xa (3 + j1)), .int v3, .int v4]) (rest := []) (k9 := 0) rfl rfl ⟨⟨rfl, rfl⟩, Nat.le_of_ble_eq_true rfl, Nat.le_of_ble_eq_true rfl⟩ rfl ⟨(Nat.le_of_ble_eq_true rfl), (Nat.le_of_ble_eq_true rfl)⟩ (Nat.le_of_ble_eq_true rfl) rfl rfl (List.nil_append _) dX3_greatestSpread_37 ?_
      refine w_istore C (Nat.le_of_ble_eq_true rfl) rfl dX3_greatestSpread_40 ?_
      refine w_aload_n C 1 rfl dX3_greatestSpread_42 ?_
      refine gt_X3_24 C dX3_greatestSpread_43 ?_
      refine w_iload C 0 rfl dX3_greatestSpread_46 ?_
      refine w_dup2 C dX3_greatestSpread_48 rfl rfl ?_
      obtain ⟨hi5, h⟩ := ckI_some h
      refine ld_row C (by decide) hi5 dX3_greatestSpread_49 ?_
      refine w_iconst (v := 1) C dX3_greatestSpread_50 (by decide) ?_
      refine w_iadd C dX3_greatestSpread_51 ?_
      obtain ⟨hi6, h⟩ := ckI_some h
      refine sr_row C (by decide) hi6 dX3_greatestSpread_52 ?_
      refine w_iload_n C 3 rfl dX3_greatestSpread_53 ?_
      refine w_aload_n C 1 rfl dX3_greatestSpread_54 ?_
      refine gt_X3_24 C dX3_greatestSpread_55 ?_
      refine w_iload C 0 rfl dX3_greatestSpread_58 ?_
      obtain ⟨hi7, h⟩ := ckI_some h
      refine ld_row C (by decide) hi7 dX3_greatestSpread_60 ?_
      refine w_mmax C ml_X3_145 (Nat.le_of_ble_eq_true rfl) (Nat.le_of_ble_eq_true rfl) (Nat.le_of_ble_eq_true rfl) (Nat.le_of_ble_eq_true rfl) dX3_greatestSpread_61 ?_
      refine w_istore_n C (Nat.le_of_ble_eq_true rfl) rfl dX3_greatestSpread_64 ?_
      refine w_iinc (v := v4 + 1) (k := 5) C rfl rfl (Nat.le_of_ble_eq_true rfl) rfl dX3_greatestSpread_65 ?_
      refine w_goto (tgt := 23) C dX3_greatestSpread_68 (by decide) ?_
      refine w_lv [3, 4, 1, 5, 0] rfl ?_
      exact ih _ _ _ h
set_option maxRecDepth 20000 in
set_option maxHeartbeats 4000000 in
theorem w_X3_greatestSpread_4 {fa : Nat → Nat} {N : Nat} {ra : Nat} {xa : Nat → Nat} {FA : Nat → Option Nat} {ak : Int64} {r1 : Int32} {r2 : Int32} {r3 : Int32} {r4 : Int32} {r5 : Int32} {fp : Int32} {t1 : Nat → Int32} {t2 : Nat → Int32} {t4 : Nat → Int32} {t5 : Nat → Int32} {tL : Nat → Option Nat} {xq : Int32} {fq : Int32} {t0 : Nat → Int32} {t3 : Nat → Int32} {j1 : Nat} {fu : Nat}  {r : Int32 × (Nat → Nat → Int32)} (C : Cx p s m args meth c G A RX3 cX3_greatestSpread 6 ((some .int))) (hj1 : j1 < 6)  : ∀ (fk : Nat) (RR : Nat → Nat → Int32) (v2 : Int32) (v3 : Int32), X3_greatestSpread_4 fu N  xq fq t0 t3 j1 fk RR v2 v3 = some r → Wd p l e rm_X3_greatestSpread s m args below meth c G A 6 0 0 (QQ G A (fun o w => o = some (.int r.1) ∧ w = (xm G xa FA (fa 0) ra xq ak r.2 ++ ([rcw ra r1 r2 r3 r4 r5] ++ (fw G fa N fp fq t0 t1 t2 t3 t4 t5 tL)))) below args s 0 0) (xm G xa FA (fa 0) ra xq ak RR ++ ([rcw ra r1 r2 r3 r4 r5] ++ (fw G fa N fp fq t0 t1 t2 t3 t4 t5 tL))) [(0, .ref (xa 0)), (1, .ref (xa (3 + j1))), (2, .int v2), (3, .int v3)] 4 [] := by
  intro fk
  induction fk with
  | zero =>
    intro RR v2 v3 h
    have h : (none : Option (Int32 × (Nat → Nat → Int32))) = some r := h
    cases h
  | succ fk ih =>
    intro RR v2 v3 h
    have h : X3_greatestSpread_4_b fu N  xq fq t0 t3 j1 (X3_greatestSpread_4 fu N  xq fq t0 t3 j1 fk) RR v2 v3 = some r := h
    unfold X3_greatestSpread_4_b at h
    refine w_iload_n C 3 rfl dX3_greatestSpread_4 ?_
    refine w_aload_n C 0 rfl dX3_greatestSpread_5 ?_
    refine gt_X3_42 C dX3_greatestSpread_6 ?_
    refine w_icmp_ge (tgt := 77) C dX3_greatestSpread_9 (by decide) (fun hb1 => ?_) (fun hb1 => ?_)
    · have h := if_t hb1 h
      refine w_iload_n C 2 rfl dX3_greatestSpread_77 ?_
      cases h
      exact w_iret C ⟨rfl, rfl⟩ dX3_greatestSpread_78
    · have h := if_f hb1 h
      refine w_aload_n C 0 rfl dX3_greatestSpread_12 ?_
      refine gt_X3_24 C dX3_greatestSpread_13 ?_
      refine w_iconst (v := 0) C dX3_greatestSpread_16 (by decide) ?_
      obtain ⟨x2, hx2, h⟩ := bd_some h
      refine w_fill C (by decide) hx2 ml_X3_106 (rest := []) (Nat.le_of_ble_eq_true rfl) (Nat.le_of_ble_eq_true rfl) (Nat.le_of_ble_eq_true rfl) (Nat.le_of_ble_eq_true rfl) (Nat.le_of_ble_eq_true rfl) dX3_greatestSpread_17 ?_
      refine w_iconst (v := 0) C dX3_greatestSpread_20 (by decide) ?_
      refine w_istore C (Nat.le_of_ble_eq_true rfl) rfl dX3_greatestSpread_21 ?_
      refine w_lv [1, 2, 3, 4, 0] rfl ?_
      exact w_X3_greatestSpread_23 C  hj1 ih _ _ _ _ h
set_option maxRecDepth 20000 in
set_option maxHeartbeats 4000000 in
theorem w_X3_greatestSpread {fa : Nat → Nat} {N : Nat} {ra : Nat} {xa : Nat → Nat} {FA : Nat → Option Nat} {ak : Int64} {r1 : Int32} {r2 : Int32} {r3 : Int32} {r4 : Int32} {r5 : Int32} {fp : Int32} {t1 : Nat → Int32} {t2 : Nat → Int32} {t4 : Nat → Int32} {t5 : Nat → Int32} {tL : Nat → Option Nat} {fu : Nat}  {xq : Int32} {RR : Nat → Nat → Int32} {fq : Int32} {t0 : Nat → Int32} {t3 : Nat → Int32} {j1 : Nat} {r : Int32 × (Nat → Nat → Int32)} (C : Cx p s m args meth c G A RX3 cX3_greatestSpread 6 ((some .int))) (hj1 : j1 < 6)  (h : X3_greatestSpread fu N  xq RR fq t0 t3 j1 = some r) : Wd p l e rm_X3_greatestSpread s m args below meth c G A 6 0 0 (QQ G A (fun o w => o = some (.int r.1) ∧ w = (xm G xa FA (fa 0) ra xq ak r.2 ++ ([rcw ra r1 r2 r3 r4 r5] ++ (fw G fa N fp fq t0 t1 t2 t3 t4 t5 tL)))) below args s 0 0) (xm G xa FA (fa 0) ra xq ak RR ++ ([rcw ra r1 r2 r3 r4 r5] ++ (fw G fa N fp fq t0 t1 t2 t3 t4 t5 tL))) [(0, .ref (xa 0)), (1, .ref (xa (3 + j1)))] 0 [] := by
  unfold X3_greatestSpread at h
  refine w_iconst (v := 0) C dX3_greatestSpread_0 (by decide) ?_
  refine w_istore_n C (Nat.le_of_ble_eq_true rfl) rfl dX3_greatestSpread_1 ?_
  refine w_iconst (v := 1) C dX3_greatestSpread_2 (by decide) ?_
  refine w_istore_n C (Nat.le_of_ble_eq_true rfl) rfl dX3_greatestSpread_3 ?_
  refine w_lv [2, 3, 1, 0] rfl ?_
  exact w_X3_greatestSpread_4 C  hj1  _ _ _ _ h
theorem c_X3_greatestSpread {l : Launch} {G : GG} {fa : Nat → Nat} {N : Nat} {ra : Nat} {xa : Nat → Nat} {FA : Nat → Option Nat} {xq : Int32} {ak : Int64} {RR : Nat → Nat → Int32} {r1 : Int32} {r2 : Int32} {r3 : Int32} {r4 : Int32} {r5 : Int32} {fp : Int32} {fq : Int32} {t0 : Nat → Int32} {t1 : Nat → Int32} {t2 : Nat → Int32} {t3 : Nat → Int32} {t4 : Nat → Int32} {t5 : Nat → Int32} {tL : Nat → Option Nat} (fu : Nat) {j1 : Nat} (hj1 : j1 < 6) {r : Int32 × (Nat → Nat → Int32)} (h : X3_greatestSpread fu N xq RR fq t0 t3 j1 = some r) : Ct l yX3_greatestSpread cX3_greatestSpread 6 ((some .int)) G rm_X3_greatestSpread [.ref (xa 0), .ref (xa (3 + j1))] (xm G xa FA (fa 0) ra xq ak RR ++ ([rcw ra r1 r2 r3 r4 r5] ++ (fw G fa N fp fq t0 t1 t2 t3 t4 t5 tL))) (fun o w => o = some (.int r.1) ∧ w = (xm G xa FA (fa 0) ra xq ak r.2 ++ ([rcw ra r1 r2 r3 r4 r5] ++ (fw G fa N fp fq t0 t1 t2 t3 t4 t5 tL)))) 0 0 := Ct.of (by decide) (Nat.le_of_ble_eq_true rfl) (fun p e s m args below meth c A C _ => w_X3_greatestSpread C hj1 h)
abbrev rm_X3_spread : Room := { frames := 3, cells := 0, slots := 0, locals := 70 }
theorem pk_X3_spread : PkV RX3 yX3_spread cX3_spread 2 ((some .int)) 1 := ⟨rfl, co_X3_spread, ini_RX3, im_X3_spread, se_X3_spread, by decide +kernel⟩
set_option maxRecDepth 20000 in
set_option maxHeartbeats 4000000 in
theorem w_X3_spread {fa : Nat → Nat} {N : Nat} {ra : Nat} {xa : Nat → Nat} {FA : Nat → Option Nat} {ak : Int64} {r1 : Int32} {r2 : Int32} {r3 : Int32} {r4 : Int32} {r5 : Int32} {fp : Int32} {t1 : Nat → Int32} {t2 : Nat → Int32} {t4 : Nat → Int32} {t5 : Nat → Int32} {tL : Nat → Option Nat} {fu : Nat}  {xq : Int32} {RR : Nat → Nat → Int32} {fq : Int32} {t0 : Nat → Int32} {t3 : Nat → Int32} {v1 : Int32} {r : Int32 × (Nat → Nat → Int32)} (C : Cx p s m args meth c G A RX3 cX3_spread 2 ((some .int)))   (h : X3_spread fu N  xq RR fq t0 t3 v1 = some r) : Wd p l e rm_X3_spread s m args below meth c G A 2 0 0 (QQ G A (fun o w => o = some (.int r.1) ∧ w = (xm G xa FA (fa 0) ra xq ak r.2 ++ ([rcw ra r1 r2 r3 r4 r5] ++ (fw G fa N fp fq t0 t1 t2 t3 t4 t5 tL)))) below args s 0 0) (xm G xa FA (fa 0) ra xq ak RR ++ ([rcw ra r1 r2 r3 r4 r5] ++ (fw G fa N fp fq t0 t1 t2 t3 t4 t5 tL))) [(0, .ref (xa 0)), (1, .int v1)] 0 [] := by
  unfold X3_spread at h
  refine w_iload_n C 1 rfl dX3_spread_0 ?_
  obtain ⟨x1, hx1, h⟩ := bd_some h
  refine w_cSi C (c_X3_isMap fu  hx1) pk_X3_isMap ml_X3_64 (As := [.int v1]) (rest := []) ⟨⟨rfl, rfl⟩, Nat.le_of_ble_eq_true rfl, Nat.le_of_ble_eq_true rfl⟩ rfl ⟨(Nat.le_of_ble_eq_true rfl), (Nat.le_of_ble_eq_true rfl)⟩ (Nat.le_of_ble_eq_true rfl) rfl (List.append_nil _).symm (List.append_nil _) dX3_spread_1 ?_
  refine w_if_ne (tgt := 9) C dX3_spread_4 (by decide) (fun hb2 => ?_) (fun hb2 => ?_)
  · have h := if_f hb2 h
    refine w_aload_n C 0 rfl dX3_spread_9 ?_
    refine w_aload_n C 0 rfl dX3_spread_10 ?_
    refine gt_X3_17 C dX3_spread_11 ?_
    refine w_iload_n C 1 rfl dX3_spread_14 ?_
    obtain ⟨hi3, h⟩ := ckI_some h
    refine ld_maps C hi3 dX3_spread_15 ?_
    obtain ⟨x4, hx4, h⟩ := bd_some h
    refine w_cVi (wr := []) (qc := (RX3, TX3, 8)) C (c_X3_greatestSpread fu (Nat.lt_trans (vp_lt hi3) (by decide)) hx4) pk_X3_greatestSpread ml_X3_129 (As := [.ref (xa (3 + v1.toNatClampNeg))]) (rest := []) (k9 := 0) rfl rfl ⟨⟨rfl, rfl⟩, Nat.le_of_ble_eq_true rfl, Nat.le_of_ble_eq_true rfl⟩ rfl ⟨(Nat.le_of_ble_eq_true rfl), (Nat.le_of_ble_eq_true rfl)⟩ (Nat.le_of_ble_eq_true rfl) rfl rfl (List.nil_append _) dX3_spread_16 ?_
    cases h
    exact w_iret C ⟨rfl, rfl⟩ dX3_spread_19
  · have h := if_t hb2 h
    refine w_iconst (v := (-1)) C dX3_spread_7 (by decide) ?_
    cases h
    exact w_iret C ⟨rfl, rfl⟩ dX3_spread_8
theorem c_X3_spread {l : Launch} {G : GG} {fa : Nat → Nat} {N : Nat} {ra : Nat} {xa : Nat → Nat} {FA : Nat → Option Nat} {xq : Int32} {ak : Int64} {RR : Nat → Nat → Int32} {r1 : Int32} {r2 : Int32} {r3 : Int32} {r4 : Int32} {r5 : Int32} {fp : Int32} {fq : Int32} {t0 : Nat → Int32} {t1 : Nat → Int32} {t2 : Nat → Int32} {t3 : Nat → Int32} {t4 : Nat → Int32} {t5 : Nat → Int32} {tL : Nat → Option Nat} (fu : Nat) {v1 : Int32} {r : Int32 × (Nat → Nat → Int32)} (h : X3_spread fu N xq RR fq t0 t3 v1 = some r) : Ct l yX3_spread cX3_spread 2 ((some .int)) G rm_X3_spread [.ref (xa 0), .int v1] (xm G xa FA (fa 0) ra xq ak RR ++ ([rcw ra r1 r2 r3 r4 r5] ++ (fw G fa N fp fq t0 t1 t2 t3 t4 t5 tL))) (fun o w => o = some (.int r.1) ∧ w = (xm G xa FA (fa 0) ra xq ak r.2 ++ ([rcw ra r1 r2 r3 r4 r5] ++ (fw G fa N fp fq t0 t1 t2 t3 t4 t5 tL)))) 0 0 := Ct.of (by decide) (Nat.le_of_ble_eq_true rfl) (fun p e s m args below meth c A C _ => w_X3_spread C h)
abbrev rm_X3_planar : Room := { frames := 3, cells := 0, slots := 0, locals := 70 }
theorem pk_X3_planar : PkV RX3 yX3_planar cX3_planar 2 ((some .int)) 1 := ⟨rfl, co_X3_planar, ini_RX3, im_X3_planar, se_X3_planar, by decide +kernel⟩
set_option maxRecDepth 20000 in
set_option maxHeartbeats 4000000 in
theorem w_X3_planar_28 {fa : Nat → Nat} {N : Nat} {ra : Nat} {xa : Nat → Nat} {FA : Nat → Option Nat} {ak : Int64} {r1 : Int32} {r2 : Int32} {r3 : Int32} {r4 : Int32} {r5 : Int32} {fp : Int32} {t1 : Nat → Int32} {t2 : Nat → Int32} {t4 : Nat → Int32} {t5 : Nat → Int32} {tL : Nat → Option Nat} {fu : Nat}  {xq : Int32} {RR : Nat → Nat → Int32} {fq : Int32} {t0 : Nat → Int32} {t3 : Nat → Int32} {s0 : Int32} {r : Int32 × (Nat → Nat → Int32)} (C : Cx p s m args meth c G A RX3 cX3_planar 2 ((some .int)))   (h : X3_planar_28 fu N  xq RR fq t0 t3 s0 = some r) : Wd p l e rm_X3_planar s m args below meth c G A 2 0 0 (QQ G A (fun o w => o = some (.int r.1) ∧ w = (xm G xa FA (fa 0) ra xq ak r.2 ++ ([rcw ra r1 r2 r3 r4 r5] ++ (fw G fa N fp fq t0 t1 t2 t3 t4 t5 tL)))) below args s 0 0) (xm G xa FA (fa 0) ra xq ak RR ++ ([rcw ra r1 r2 r3 r4 r5] ++ (fw G fa N fp fq t0 t1 t2 t3 t4 t5 tL))) [] 28 [.int s0] := by
  unfold X3_planar_28 at h
  obtain ⟨x6, hx6, h⟩ := bd_some h
  refine w_cSi C (c_X3_truth fu  hx6) pk_X3_truth ml_X3_102 (As := [.int s0]) (rest := []) ⟨⟨rfl, rfl⟩, Nat.le_of_ble_eq_true rfl, Nat.le_of_ble_eq_true rfl⟩ rfl ⟨(Nat.le_of_ble_eq_true rfl), (Nat.le_of_ble_eq_true rfl)⟩ (Nat.le_of_ble_eq_true rfl) rfl (List.append_nil _).symm (List.append_nil _) dX3_planar_28 ?_
  cases h
  exact w_iret C ⟨rfl, rfl⟩ dX3_planar_31
set_option maxRecDepth 20000 in
set_option maxHeartbeats 4000000 in
theorem w_X3_planar {fa : Nat → Nat} {N : Nat} {ra : Nat} {xa : Nat → Nat} {FA : Nat → Option Nat} {ak : Int64} {r1 : Int32} {r2 : Int32} {r3 : Int32} {r4 : Int32} {r5 : Int32} {fp : Int32} {t1 : Nat → Int32} {t2 : Nat → Int32} {t4 : Nat → Int32} {t5 : Nat → Int32} {tL : Nat → Option Nat} {fu : Nat}  {xq : Int32} {RR : Nat → Nat → Int32} {fq : Int32} {t0 : Nat → Int32} {t3 : Nat → Int32} {v1 : Int32} {r : Int32 × (Nat → Nat → Int32)} (C : Cx p s m args meth c G A RX3 cX3_planar 2 ((some .int)))   (h : X3_planar fu N  xq RR fq t0 t3 v1 = some r) : Wd p l e rm_X3_planar s m args below meth c G A 2 0 0 (QQ G A (fun o w => o = some (.int r.1) ∧ w = (xm G xa FA (fa 0) ra xq ak r.2 ++ ([rcw ra r1 r2 r3 r4 r5] ++ (fw G fa N fp fq t0 t1 t2 t3 t4 t5 tL)))) below args s 0 0) (xm G xa FA (fa 0) ra xq ak RR ++ ([rcw ra r1 r2 r3 r4 r5] ++ (fw G fa N fp fq t0 t1 t2 t3 t4 t5 tL))) [(0, .ref (xa 0)), (1, .int v1)] 0 [] := by
  unfold X3_planar at h
  refine w_iload_n C 1 rfl dX3_planar_0 ?_
  obtain ⟨x1, hx1, h⟩ := bd_some h
  refine w_cSi C (c_X3_isMap fu  hx1) pk_X3_isMap ml_X3_64 (As := [.int v1]) (rest := []) ⟨⟨rfl, rfl⟩, Nat.le_of_ble_eq_true rfl, Nat.le_of_ble_eq_true rfl⟩ rfl ⟨(Nat.le_of_ble_eq_true rfl), (Nat.le_of_ble_eq_true rfl)⟩ (Nat.le_of_ble_eq_true rfl) rfl (List.append_nil _).symm (List.append_nil _) dX3_planar_1 ?_
  refine w_if_ne (tgt := 9) C dX3_planar_4 (by decide) (fun hb2 => ?_) (fun hb2 => ?_)
  · have h := if_f hb2 h
    refine w_aload_n C 0 rfl dX3_planar_9 ?_
    refine w_aload_n C 0 rfl dX3_planar_10 ?_
    refine gt_X3_17 C dX3_planar_11 ?_
    refine w_iload_n C 1 rfl dX3_planar_14 ?_
    obtain ⟨hi3, h⟩ := ckI_some h
    refine ld_maps C hi3 dX3_planar_15 ?_
    obtain ⟨x4, hx4, h⟩ := bd_some h
    refine w_cVi (wr := []) (qc := (RX3, TX3, 8)) C (c_X3_greatestSpread fu (Nat.lt_trans (vp_lt hi3) (by decide)) hx4) pk_X3_greatestSpread ml_X3_129 (As := [.ref (xa (3 + v1.toNatClampNeg))]) (rest := []) (k9 := 0) rfl rfl ⟨⟨rfl, rfl⟩, Nat.le_of_ble_eq_true rfl, Nat.le_of_ble_eq_true rfl⟩ rfl ⟨(Nat.le_of_ble_eq_true rfl), (Nat.le_of_ble_eq_true rfl)⟩ (Nat.le_of_ble_eq_true rfl) rfl rfl (List.nil_append _) dX3_planar_16 ?_
    refine w_iconst (v := 1) C dX3_planar_19 (by decide) ?_
    refine w_icmp_ne (tgt := 27) C dX3_planar_20 (by decide) (fun hb5 => ?_) (fun hb5 => ?_)
    · have h := if_f hb5 h
      refine w_iconst (v := 0) C dX3_planar_27 (by decide) ?_
      refine w_lv [] rfl ?_
      exact w_X3_planar_28 C    h
    · have h := if_t hb5 h
      refine w_iconst (v := 1) C dX3_planar_23 (by decide) ?_
      refine w_goto (tgt := 28) C dX3_planar_24 (by decide) ?_
      refine w_lv [] rfl ?_
      exact w_X3_planar_28 C    h
  · have h := if_t hb2 h
    refine w_iconst (v := (-1)) C dX3_planar_7 (by decide) ?_
    cases h
    exact w_iret C ⟨rfl, rfl⟩ dX3_planar_8
theorem c_X3_planar {l : Launch} {G : GG} {fa : Nat → Nat} {N : Nat} {ra : Nat} {xa : Nat → Nat} {FA : Nat → Option Nat} {xq : Int32} {ak : Int64} {RR : Nat → Nat → Int32} {r1 : Int32} {r2 : Int32} {r3 : Int32} {r4 : Int32} {r5 : Int32} {fp : Int32} {fq : Int32} {t0 : Nat → Int32} {t1 : Nat → Int32} {t2 : Nat → Int32} {t3 : Nat → Int32} {t4 : Nat → Int32} {t5 : Nat → Int32} {tL : Nat → Option Nat} (fu : Nat) {v1 : Int32} {r : Int32 × (Nat → Nat → Int32)} (h : X3_planar fu N xq RR fq t0 t3 v1 = some r) : Ct l yX3_planar cX3_planar 2 ((some .int)) G rm_X3_planar [.ref (xa 0), .int v1] (xm G xa FA (fa 0) ra xq ak RR ++ ([rcw ra r1 r2 r3 r4 r5] ++ (fw G fa N fp fq t0 t1 t2 t3 t4 t5 tL))) (fun o w => o = some (.int r.1) ∧ w = (xm G xa FA (fa 0) ra xq ak r.2 ++ ([rcw ra r1 r2 r3 r4 r5] ++ (fw G fa N fp fq t0 t1 t2 t3 t4 t5 tL)))) 0 0 := Ct.of (by decide) (Nat.le_of_ble_eq_true rfl) (fun p e s m args below meth c A C _ => w_X3_planar C h)
abbrev rm_X3_hasBits : Room := { frames := 0, cells := 0, slots := 0, locals := 0 }
theorem pk_X3_hasBits : PkV RX3 yX3_hasBits cX3_hasBits 1 ((some .boolean)) 0 := ⟨rfl, co_X3_hasBits, ini_RX3, im_X3_hasBits, se_X3_hasBits, by decide +kernel⟩
set_option maxRecDepth 20000 in
set_option maxHeartbeats 4000000 in
theorem w_X3_hasBits {fa : Nat → Nat} {N : Nat} {ra : Nat} {xa : Nat → Nat} {FA : Nat → Option Nat} {xq : Int32} {ak : Int64} {RR : Nat → Nat → Int32} {r1 : Int32} {r2 : Int32} {r3 : Int32} {r4 : Int32} {r5 : Int32} {fq : Int32} {t0 : Nat → Int32} {t1 : Nat → Int32} {t2 : Nat → Int32} {t3 : Nat → Int32} {t4 : Nat → Int32} {t5 : Nat → Int32} {tL : Nat → Option Nat} {fu : Nat}  {fp : Int32} {r : Int32} (C : Cx p s m args meth c G A RX3 cX3_hasBits 1 ((some .boolean)))   (h : X3_hasBits fu N  fp = some r) : Wd p l e rm_X3_hasBits s m args below meth c G A 1 0 0 (QQ G A (fun o w => o = some (.int r) ∧ w = (xm G xa FA (fa 0) ra xq ak RR ++ ([rcw ra r1 r2 r3 r4 r5] ++ (fw G fa N fp fq t0 t1 t2 t3 t4 t5 tL)))) below args s 0 0) (xm G xa FA (fa 0) ra xq ak RR ++ ([rcw ra r1 r2 r3 r4 r5] ++ (fw G fa N fp fq t0 t1 t2 t3 t4 t5 tL))) [(0, .ref (xa 0))] 0 [] := by
  unfold X3_hasBits at h
  refine w_aload_n C 0 rfl dX3_hasBits_0 ?_
  refine gt_X3_49 C dX3_hasBits_1 ?_
  refine gt_X3_181 C dX3_hasBits_4 ?_
  refine w_iconst (v := 2) C dX3_hasBits_7 (by decide) ?_
  refine w_icmp_ne (tgt := 15) C dX3_hasBits_8 (by decide) (fun hb1 => ?_) (fun hb1 => ?_)
  · have h := if_f hb1 h
    refine w_iconst (v := 0) C dX3_hasBits_15 (by decide) ?_
    cases h
    exact w_zret C rfl ⟨rfl, rfl⟩ dX3_hasBits_16
  · have h := if_t hb1 h
    refine w_iconst (v := 1) C dX3_hasBits_11 (by decide) ?_
    refine w_goto (tgt := 16) C dX3_hasBits_12 (by decide) ?_
    cases h
    exact w_zret C rfl ⟨rfl, rfl⟩ dX3_hasBits_16
theorem c_X3_hasBits {l : Launch} {G : GG} {fa : Nat → Nat} {N : Nat} {ra : Nat} {xa : Nat → Nat} {FA : Nat → Option Nat} {xq : Int32} {ak : Int64} {RR : Nat → Nat → Int32} {r1 : Int32} {r2 : Int32} {r3 : Int32} {r4 : Int32} {r5 : Int32} {fp : Int32} {fq : Int32} {t0 : Nat → Int32} {t1 : Nat → Int32} {t2 : Nat → Int32} {t3 : Nat → Int32} {t4 : Nat → Int32} {t5 : Nat → Int32} {tL : Nat → Option Nat} (fu : Nat)  {r : Int32} (h : X3_hasBits fu N fp  = some r) : Ct l yX3_hasBits cX3_hasBits 1 ((some .boolean)) G rm_X3_hasBits [.ref (xa 0)] (xm G xa FA (fa 0) ra xq ak RR ++ ([rcw ra r1 r2 r3 r4 r5] ++ (fw G fa N fp fq t0 t1 t2 t3 t4 t5 tL))) (fun o w => o = some (.int r) ∧ w = (xm G xa FA (fa 0) ra xq ak RR ++ ([rcw ra r1 r2 r3 r4 r5] ++ (fw G fa N fp fq t0 t1 t2 t3 t4 t5 tL)))) 0 0 := Ct.of (by decide) (Nat.le_of_ble_eq_true rfl) (fun p e s m args below meth c A C _ => w_X3_hasBits C h)
abbrev rm_X3_walkOf : Room := { frames := 1, cells := 0, slots := 0, locals := 20 }
theorem pk_X3_walkOf : PkV RX3 yX3_walkOf cX3_walkOf 7 ((some .int)) 3 := ⟨rfl, co_X3_walkOf, ini_RX3, im_X3_walkOf, se_X3_walkOf, by decide +kernel⟩
set_option maxRecDepth 20000 in
set_option maxHeartbeats 4000000 in
theorem w_X3_walkOf_45 {fa : Nat → Nat} {N : Nat} {ra : Nat} {xa : Nat → Nat} {FA : Nat → Option Nat} {ak : Int64} {r1 : Int32} {r2 : Int32} {r3 : Int32} {r4 : Int32} {r5 : Int32} {fp : Int32} {fq : Int32} {t0 : Nat → Int32} {t1 : Nat → Int32} {t2 : Nat → Int32} {t3 : Nat → Int32} {t4 : Nat → Int32} {t5 : Nat → Int32} {tL : Nat → Option Nat} {fu : Nat} {rc6 : Int32 → Int32 → Option Int32} {xq : Int32} {RR : Nat → Nat → Int32} {s0 : Int32} {s1 : Int32} {j1 : Nat} {v2 : Int32} {v3 : Int32} {v5 : Int32} {r : Int32} (C : Cx p s m args meth c G A RX3 cX3_walkOf 7 ((some .int))) (hj1 : j1 < 6) (hrc6 : ∀ (v4 : Int32) (v5 : Int32), rc6 v4 v5 = some r → Wd p l e rm_X3_walkOf s m args below meth c G A 7 0 0 (QQ G A (fun o w => o = some (.int r) ∧ w = (xm G xa FA (fa 0) ra xq ak RR ++ ([rcw ra r1 r2 r3 r4 r5] ++ (fw G fa N fp fq t0 t1 t2 t3 t4 t5 tL)))) below args s 0 0) (xm G xa FA (fa 0) ra xq ak RR ++ ([rcw ra r1 r2 r3 r4 r5] ++ (fw G fa N fp fq t0 t1 t2 t3 t4 t5 tL))) [(0, .ref (xa 0)), (1, .ref (xa (3 + j1))), (2, .int v2), (3, .int v3), (4, .int v4), (5, .int v5)] 6 []) (h : X3_walkOf_45 fu N rc6 xq RR s0 s1 j1 v2 v3 v5 = some r) : Wd p l e rm_X3_walkOf s m args below meth c G A 7 0 0 (QQ G A (fun o w => o = some (.int r) ∧ w = (xm G xa FA (fa 0) ra xq ak RR ++ ([rcw ra r1 r2 r3 r4 r5] ++ (fw G fa N fp fq t0 t1 t2 t3 t4 t5 tL)))) below args s 0 0) (xm G xa FA (fa 0) ra xq ak RR ++ ([rcw ra r1 r2 r3 r4 r5] ++ (fw G fa N fp fq t0 t1 t2 t3 t4 t5 tL))) [(0, .ref (xa 0)), (1, .ref (xa (3 + j1))), (2, .int v2), (3, .int v3), (5, .int v5)] 45 [.int s0, .int s1] := by
  unfold X3_walkOf_45 at h
  refine w_iadd C dX3_walkOf_45 ?_
  refine w_istore C (Nat.le_of_ble_eq_true rfl) rfl dX3_walkOf_46 ?_
  refine w_iinc (v := v5 + 1) (k := 5) C rfl rfl (Nat.le_of_ble_eq_true rfl) rfl dX3_walkOf_48 ?_
  refine w_goto (tgt := 6) C dX3_walkOf_51 (by decide) ?_
  refine w_lv [2, 3, 4, 5, 1, 0] rfl ?_
  exact hrc6 _ _ h
set_option maxRecDepth 20000 in
set_option maxHeartbeats 4000000 in
theorem w_X3_walkOf_6 {fa : Nat → Nat} {N : Nat} {ra : Nat} {xa : Nat → Nat} {FA : Nat → Option Nat} {ak : Int64} {r1 : Int32} {r2 : Int32} {r3 : Int32} {r4 : Int32} {r5 : Int32} {fp : Int32} {fq : Int32} {t0 : Nat → Int32} {t1 : Nat → Int32} {t2 : Nat → Int32} {t3 : Nat → Int32} {t4 : Nat → Int32} {t5 : Nat → Int32} {tL : Nat → Option Nat} {xq : Int32} {RR : Nat → Nat → Int32} {j1 : Nat} {v2 : Int32} {v3 : Int32} {fu : Nat}  {r : Int32} (C : Cx p s m args meth c G A RX3 cX3_walkOf 7 ((some .int))) (hj1 : j1 < 6)  : ∀ (fk : Nat) (v4 : Int32) (v5 : Int32), X3_walkOf_6 fu N  xq RR j1 v2 v3 fk v4 v5 = some r → Wd p l e rm_X3_walkOf s m args below meth c G A 7 0 0 (QQ G A (fun o w => o = some (.int r) ∧ w = (xm G xa FA (fa 0) ra xq ak RR ++ ([rcw ra r1 r2 r3 r4 r5] ++ (fw G fa N fp fq t0 t1 t2 t3 t4 t5 tL)))) below args s 0 0) (xm G xa FA (fa 0) ra xq ak RR ++ ([rcw ra r1 r2 r3 r4 r5] ++ (fw G fa N fp fq t0 t1 t2 t3 t4 t5 tL))) [(0, .ref (xa 0)), (1, .ref (xa (3 + j1))), (2, .int v2), (3, .int v3), (4, .int v4), (5, .int v5)] 6 [] := by
  intro fk
  induction fk with
  | zero =>
    intro v4 v5 h
    have h : (none : Option Int32) = some r := h
    cases h
  | succ fk ih =>
    intro v4 v5 h
    have h : X3_walkOf_6_b fu N  xq RR j1 v2 v3 (X3_walkOf_6 fu N  xq RR j1 v2 v3 fk) v4 v5 = some r := h
    unfold X3_walkOf_6_b at h
    refine w_iload C 5 rfl dX3_walkOf_6 ?_
    refine w_aload_n C 0 rfl dX3_walkOf_8 ?_
    refine gt_X3_42 C dX3_walkOf_9 ?_
    refine w_icmp_ge (tgt := 54) C dX3_walkOf_12 (by decide) (fun hb1 => ?_) (fun hb1 => ?_)
    · have h := if_t hb1 h
      refine w_iload C 4 rfl dX3_walkOf_54 ?_
      cases h
      exact w_iret C ⟨rfl, rfl⟩ dX3_walkOf_56
    · have h := if_f hb1 h
      refine w_iload_n C 2 rfl dX3_walkOf_15 ?_
      refine w_iload C 5 rfl dX3_walkOf_16 ?_
      refine w_iand C dX3_walkOf_18 ?_
      refine w_iload_n C 3 rfl dX3_walkOf_19 ?_
      refine w_aload_n C 1 rfl dX3_walkOf_20 ?_
      refine w_iload C 5 rfl dX3_walkOf_21 ?_
      obtain ⟨hi2, h⟩ := ckI_some h
      refine ld_row C hj1 hi2 dX3_walkOf_23 ?_
      refine w_iand C dX3_walkOf_24 ?_
      refine w_ixor C dX3_walkOf_25 ?_
      obtain ⟨x3, hx3, h⟩ := bd_some h
      refine w_cSi C (c_J6_bitCount_0f7a4 fu  hx3) pk_J6_bitCount_0f7a4 ml_X3_196 (As := [.int ((v2 &&& v5) ^^^ (v3 &&& (RR j1 v5.toNatClampNeg)))]) (rest := []) ⟨⟨rfl, rfl⟩, Nat.le_of_ble_eq_true rfl, Nat.le_of_ble_eq_true rfl⟩ rfl ⟨(Nat.le_of_ble_eq_true rfl), (Nat.le_of_ble_eq_true rfl)⟩ (Nat.le_of_ble_eq_true rfl) rfl (List.append_nil _).symm (List.append_nil _) dX3_walkOf_26 ?_
      refine w_istore C (Nat.le_of_ble_eq_true rfl) rfl dX3_walkOf_29 ?_
      refine w_iload C 5 rfl dX3_walkOf_31 ?_
      refine w_iload C 0 rfl dX3_walkOf_33 ?_
      refine w_iconst (v := 1) C dX3_walkOf_35 (by decide) ?_
      refine w_iand C dX3_walkOf_36 ?_
      refine w_if_ne (tgt := 44) C dX3_walkOf_37 (by decide) (fun hb4 => ?_) (fun hb4 => ?_)
      · have h := if_f hb4 h
        refine w_iconst (v := (-1)) C dX3_walkOf_44 (by decide) ?_
        refine w_lv [1, 2, 3, 4, 6] rfl ?_
        exact w_X3_walkOf_45 C  hj1 ih h
      · have h := if_t hb4 h
        refine w_iconst (v := 1) C dX3_walkOf_40 (by decide) ?_
        refine w_goto (tgt := 45) C dX3_walkOf_41 (by decide) ?_
        refine w_lv [1, 2, 3, 4, 6] rfl ?_
        exact w_X3_walkOf_45 C  hj1 ih h
set_option maxRecDepth 20000 in
set_option maxHeartbeats 4000000 in
theorem w_X3_walkOf {fa : Nat → Nat} {N : Nat} {ra : Nat} {xa : Nat → Nat} {FA : Nat → Option Nat} {ak : Int64} {r1 : Int32} {r2 : Int32} {r3 : Int32} {r4 : Int32} {r5 : Int32} {fp : Int32} {fq : Int32} {t0 : Nat → Int32} {t1 : Nat → Int32} {t2 : Nat → Int32} {t3 : Nat → Int32} {t4 : Nat → Int32} {t5 : Nat → Int32} {tL : Nat → Option Nat} {fu : Nat}  {xq : Int32} {RR : Nat → Nat → Int32} {j1 : Nat} {v2 : Int32} {v3 : Int32} {r : Int32} (C : Cx p s m args meth c G A RX3 cX3_walkOf 7 ((some .int))) (hj1 : j1 < 6)  (h : X3_walkOf fu N  xq RR j1 v2 v3 = some r) : Wd p l e rm_X3_walkOf s m args below meth c G A 7 0 0 (QQ G A (fun o w => o = some (.int r) ∧ w = (xm G xa FA (fa 0) ra xq ak RR ++ ([rcw ra r1 r2 r3 r4 r5] ++ (fw G fa N fp fq t0 t1 t2 t3 t4 t5 tL)))) below args s 0 0) (xm G xa FA (fa 0) ra xq ak RR ++ ([rcw ra r1 r2 r3 r4 r5] ++ (fw G fa N fp fq t0 t1 t2 t3 t4 t5 tL))) [(0, .ref (xa 0)), (1, .ref (xa (3 + j1))), (2, .int v2), (3, .int v3)] 0 [] := by
  unfold X3_walkOf at h
  refine w_iconst (v := 0) C dX3_walkOf_0 (by decide) ?_
  refine w_istore C (Nat.le_of_ble_eq_true rfl) rfl dX3_walkOf_1 ?_
  refine w_iconst (v := 0) C dX3_walkOf_3 (by decide) ?_
  refine w_istore C (Nat.le_of_ble_eq_true rfl) rfl dX3_walkOf_4 ?_
  refine w_lv [2, 3, 4, 5, 1, 0] rfl ?_
  exact w_X3_walkOf_6 C  hj1  _ _ _ h
theorem c_X3_walkOf {l : Launch} {G : GG} {fa : Nat → Nat} {N : Nat} {ra : Nat} {xa : Nat → Nat} {FA : Nat → Option Nat} {xq : Int32} {ak : Int64} {RR : Nat → Nat → Int32} {r1 : Int32} {r2 : Int32} {r3 : Int32} {r4 : Int32} {r5 : Int32} {fp : Int32} {fq : Int32} {t0 : Nat → Int32} {t1 : Nat → Int32} {t2 : Nat → Int32} {t3 : Nat → Int32} {t4 : Nat → Int32} {t5 : Nat → Int32} {tL : Nat → Option Nat} (fu : Nat) {j1 : Nat} {v2 : Int32} {v3 : Int32} (hj1 : j1 < 6) {r : Int32} (h : X3_walkOf fu N xq RR j1 v2 v3 = some r) : Ct l yX3_walkOf cX3_walkOf 7 ((some .int)) G rm_X3_walkOf [.ref (xa 0), .ref (xa (3 + j1)), .int v2, .int v3] (xm G xa FA (fa 0) ra xq ak RR ++ ([rcw ra r1 r2 r3 r4 r5] ++ (fw G fa N fp fq t0 t1 t2 t3 t4 t5 tL))) (fun o w => o = some (.int r) ∧ w = (xm G xa FA (fa 0) ra xq ak RR ++ ([rcw ra r1 r2 r3 r4 r5] ++ (fw G fa N fp fq t0 t1 t2 t3 t4 t5 tL)))) 0 0 := Ct.of (by decide) (Nat.le_of_ble_eq_true rfl) (fun p e s m args below meth c A C _ => w_X3_walkOf C hj1 h)
abbrev rm_X3_walk : Room := { frames := 2, cells := 0, slots := 0, locals := 46 }
theorem pk_X3_walk : PkV RX3 yX3_walk cX3_walk 4 ((some .int)) 3 := ⟨rfl, co_X3_walk, ini_RX3, im_X3_walk, se_X3_walk, by decide +kernel⟩
set_option maxRecDepth 20000 in
set_option maxHeartbeats 4000000 in
theorem w_X3_walk {fa : Nat → Nat} {N : Nat} {ra : Nat} {xa : Nat → Nat} {FA : Nat → Option Nat} {ak : Int64} {r1 : Int32} {r2 : Int32} {r3 : Int32} {r4 : Int32} {r5 : Int32} {fq : Int32} {t0 : Nat → Int32} {t1 : Nat → Int32} {t2 : Nat → Int32} {t3 : Nat → Int32} {t4 : Nat → Int32} {t5 : Nat → Int32} {tL : Nat → Option Nat} {fu : Nat}  {xq : Int32} {RR : Nat → Nat → Int32} {fp : Int32} {v1 : Int32} {v2 : Int32} {v3 : Int32} {r : Int32} (C : Cx p s m args meth c G A RX3 cX3_walk 4 ((some .int)))   (h : X3_walk fu N  xq RR fp v1 v2 v3 = some r) : Wd p l e rm_X3_walk s m args below meth c G A 4 0 0 (QQ G A (fun o w => o = some (.int r) ∧ w = (xm G xa FA (fa 0) ra xq ak RR ++ ([rcw ra r1 r2 r3 r4 r5] ++ (fw G fa N fp fq t0 t1 t2 t3 t4 t5 tL)))) below args s 0 0) (xm G xa FA (fa 0) ra xq ak RR ++ ([rcw ra r1 r2 r3 r4 r5] ++ (fw G fa N fp fq t0 t1 t2 t3 t4 t5 tL))) [(0, .ref (xa 0)), (1, .int v1), (2, .int v2), (3, .int v3)] 0 [] := by
  unfold X3_walk at h
  refine w_iload_n C 1 rfl dX3_walk_0 ?_
  obtain ⟨x1, hx1, h⟩ := bd_some h
  refine w_cSi C (c_X3_isMap fu  hx1) pk_X3_isMap ml_X3_64 (As := [.int v1]) (rest := []) ⟨⟨rfl, rfl⟩, Nat.le_of_ble_eq_true rfl, Nat.le_of_ble_eq_true rfl⟩ rfl ⟨(Nat.le_of_ble_eq_true rfl), (Nat.le_of_ble_eq_true rfl)⟩ (Nat.le_of_ble_eq_true rfl) rfl (List.append_nil _).symm (List.append_nil _) dX3_walk_1 ?_
  refine w_if_eq (tgt := 30) C dX3_walk_4 (by decide) (fun hb2 => ?_) (fun hb2 => ?_)
  · have h := if_t hb2 h
    refine w_ldc C cs_X3_136 dX3_walk_30 ?_
    cases h
    exact w_iret C ⟨rfl, rfl⟩ dX3_walk_32
  · have h := if_f hb2 h
    refine w_aload_n C 0 rfl dX3_walk_7 ?_
    refine w_iload_n C 2 rfl dX3_walk_8 ?_
    obtain ⟨x3, hx3, h⟩ := bd_some h
    refine w_cVi (wr := []) (qc := (RX3, TX3, 8)) C (c_X3_isNumber fu  hx3) pk_X3_isNumber ml_X3_46 (As := [.int v2]) (rest := []) (k9 := 0) rfl rfl ⟨⟨rfl, rfl⟩, Nat.le_of_ble_eq_true rfl, Nat.le_of_ble_eq_true rfl⟩ rfl ⟨(Nat.le_of_ble_eq_true rfl), (Nat.le_of_ble_eq_true rfl)⟩ (Nat.le_of_ble_eq_true rfl) rfl rfl (List.nil_append _) dX3_walk_9 ?_
    refine w_if_eq (tgt := 30) C dX3_walk_12 (by decide) (fun hb4 => ?_) (fun hb4 => ?_)
    · have h := if_t hb4 h
      refine w_ldc C cs_X3_136 dX3_walk_30 ?_
      cases h
      exact w_iret C ⟨rfl, rfl⟩ dX3_walk_32
    · have h := if_f hb4 h
      refine w_aload_n C 0 rfl dX3_walk_15 ?_
      refine w_iload_n C 3 rfl dX3_walk_16 ?_
      obtain ⟨x5, hx5, h⟩ := bd_some h
      refine w_cVi (wr := []) (qc := (RX3, TX3, 8)) C (c_X3_isNumber fu  hx5) pk_X3_isNumber ml_X3_46 (As := [.int v3]) (rest := []) (k9 := 0) rfl rfl ⟨⟨rfl, rfl⟩, Nat.le_of_ble_eq_true rfl, Nat.le_of_ble_eq_true rfl⟩ rfl ⟨(Nat.le_of_ble_eq_true rfl), (Nat.le_of_ble_eq_true rfl)⟩ (Nat.le_of_ble_eq_true rfl) rfl rfl (List.nil_append _) dX3_walk_17 ?_
      refine w_if_eq (tgt := 30) C dX3_walk_20 (by decide) (fun hb6 => ?_) (fun hb6 => ?_)
      · have h := if_t hb6 h
        refine w_ldc C cs_X3_136 dX3_walk_30 ?_
        cases h
        exact w_iret C ⟨rfl, rfl⟩ dX3_walk_32
      · have h := if_f hb6 h
        refine w_aload_n C 0 rfl dX3_walk_23 ?_
        obtain ⟨x7, hx7, h⟩ := bd_some h
        refine w_cVi (wr := []) (qc := (RX3, TX3, 8)) C (c_X3_hasBits fu  hx7) pk_X3_hasBits ml_X3_132 (As := []) (rest := []) (k9 := 0) rfl rfl ⟨⟨rfl, rfl⟩, Nat.le_of_ble_eq_true rfl, Nat.le_of_ble_eq_true rfl⟩ rfl ⟨(Nat.le_of_ble_eq_true rfl), (Nat.le_of_ble_eq_true rfl)⟩ (Nat.le_of_ble_eq_true rfl) rfl rfl (List.nil_append _) dX3_walk_24 ?_
        refine w_if_ne (tgt := 33) C dX3_walk_27 (by decide) (fun hb8 => ?_) (fun hb8 => ?_)
        · have h := if_f hb8 h
          refine w_aload_n C 0 rfl dX3_walk_33 ?_
          refine w_aload_n C 0 rfl dX3_walk_34 ?_
          refine gt_X3_17 C dX3_walk_35 ?_
          refine w_iload_n C 1 rfl dX3_walk_38 ?_
          obtain ⟨hi9, h⟩ := ckI_some h
          refine ld_maps C hi9 dX3_walk_39 ?_
          refine w_iload_n C 2 rfl dX3_walk_40 ?_
          refine w_iload_n C 3 rfl dX3_walk_41 ?_
          obtain ⟨x10, hx10, h⟩ := bd_some h
          refine w_cVi (wr := []) (qc := (RX3, TX3, 8)) C (c_X3_walkOf fu (Nat.lt_trans (vp_lt hi9) (by decide)) hx10) pk_X3_walkOf ml_X3_137 (As := [.ref (xa (3 + v1.toNatClampNeg)), .int v2, .int v3]) (rest := []) (k9 := 0) rfl rfl ⟨⟨rfl, rfl⟩, Nat.le_of_ble_eq_true rfl, Nat.le_of_ble_eq_true rfl⟩ rfl ⟨(Nat.le_of_ble_eq_true rfl), (Nat.le_of_ble_eq_true rfl)⟩ (Nat.le_of_ble_eq_true rfl) rfl rfl (List.nil_append _) dX3_walk_42 ?_
          cases h
          exact w_iret C ⟨rfl, rfl⟩ dX3_walk_45
        · have h := if_t hb8 h
          refine w_ldc C cs_X3_136 dX3_walk_30 ?_
          cases h
          exact w_iret C ⟨rfl, rfl⟩ dX3_walk_32
theorem c_X3_walk {l : Launch} {G : GG} {fa : Nat → Nat} {N : Nat} {ra : Nat} {xa : Nat → Nat} {FA : Nat → Option Nat} {xq : Int32} {ak : Int64} {RR : Nat → Nat → Int32} {r1 : Int32} {r2 : Int32} {r3 : Int32} {r4 : Int32} {r5 : Int32} {fp : Int32} {fq : Int32} {t0 : Nat → Int32} {t1 : Nat → Int32} {t2 : Nat → Int32} {t3 : Nat → Int32} {t4 : Nat → Int32} {t5 : Nat → Int32} {tL : Nat → Option Nat} (fu : Nat) {v1 : Int32} {v2 : Int32} {v3 : Int32} {r : Int32} (h : X3_walk fu N xq RR fp v1 v2 v3 = some r) : Ct l yX3_walk cX3_walk 4 ((some .int)) G rm_X3_walk [.ref (xa 0), .int v1, .int v2, .int v3] (xm G xa FA (fa 0) ra xq ak RR ++ ([rcw ra r1 r2 r3 r4 r5] ++ (fw G fa N fp fq t0 t1 t2 t3 t4 t5 tL))) (fun o w => o = some (.int r) ∧ w = (xm G xa FA (fa 0) ra xq ak RR ++ ([rcw ra r1 r2 r3 r4 r5] ++ (fw G fa N fp fq t0 t1 t2 t3 t4 t5 tL)))) 0 0 := Ct.of (by decide) (Nat.le_of_ble_eq_true rfl) (fun p e s m args below meth c A C _ => w_X3_walk C h)
abbrev rm_X3_linear : Room := { frames := 2, cells := 0, slots := 0, locals := 46 }
theorem pk_X3_linear : PkV RX3 yX3_linear cX3_linear 5 ((some .int)) 1 := ⟨rfl, co_X3_linear, ini_RX3, im_X3_linear, se_X3_linear, by decide +kernel⟩
set_option maxRecDepth 20000 in
set_option maxHeartbeats 4000000 in
theorem w_X3_linear_34 {fa : Nat → Nat} {N : Nat} {ra : Nat} {xa : Nat → Nat} {FA : Nat → Option Nat} {ak : Int64} {r1 : Int32} {r2 : Int32} {r3 : Int32} {r4 : Int32} {r5 : Int32} {fq : Int32} {t0 : Nat → Int32} {t1 : Nat → Int32} {t2 : Nat → Int32} {t3 : Nat → Int32} {t4 : Nat → Int32} {t5 : Nat → Int32} {tL : Nat → Option Nat} {xq : Int32} {RR : Nat → Nat → Int32} {fp : Int32} {v1 : Int32} {v3 : Int32} {fu : Nat} {rc23 : Int32 → Int32 → Option Int32} {r : Int32} (C : Cx p s m args meth c G A RX3 cX3_linear 5 ((some .int)))  (hrc23 : ∀ (v2 : Int32) (v3 : Int32), rc23 v2 v3 = some r → Wd p l e rm_X3_linear s m args below meth c G A 5 0 0 (QQ G A (fun o w => o = some (.int r) ∧ w = (xm G xa FA (fa 0) ra xq ak RR ++ ([rcw ra r1 r2 r3 r4 r5] ++ (fw G fa N fp fq t0 t1 t2 t3 t4 t5 tL)))) below args s 0 0) (xm G xa FA (fa 0) ra xq ak RR ++ ([rcw ra r1 r2 r3 r4 r5] ++ (fw G fa N fp fq t0 t1 t2 t3 t4 t5 tL))) [(0, .ref (xa 0)), (1, .int v1), (2, .int v2), (3, .int v3)] 23 []) : ∀ (fk : Nat) (v2 : Int32) (v4 : Int32), X3_linear_34 fu N rc23 xq RR fp v1 v3 fk v2 v4 = some r → Wd p l e rm_X3_linear s m args below meth c G A 5 0 0 (QQ G A (fun o w => o = some (.int r) ∧ w = (xm G xa FA (fa 0) ra xq ak RR ++ ([rcw ra r1 r2 r3 r4 r5] ++ (fw G fa N fp fq t0 t1 t2 t3 t4 t5 tL)))) below args s 0 0) (xm G xa FA (fa 0) ra xq ak RR ++ ([rcw ra r1 r2 r3 r4 r5] ++ (fw G fa N fp fq t0 t1 t2 t3 t4 t5 tL))) [(0, .ref (xa 0)), (1, .int v1), (2, .int v2), (3, .int v3), (4, .int v4)] 34 [] := by
  intro fk
  induction fk with
  | zero =>
    intro v2 v4 h
    have h : (none : Option Int32) = some r := h
    cases h
  | succ fk ih =>
    intro v2 v4 h
    have h : X3_linear_34_b fu N rc23 xq RR fp v1 v3 (X3_linear_34 fu N rc23 xq RR fp v1 v3 fk) v2 v4 = some r := h
    unfold X3_linear_34_b at h
    refine w_iload C 4 rfl dX3_linear_34 ?_
    refine w_aload_n C 0 rfl dX3_linear_36 ?_
    refine gt_X3_42 C dX3_linear_37 ?_
    refine w_icmp_ge (tgt := 70) C dX3_linear_40 (by decide) (fun hb6 => ?_) (fun hb6 => ?_)
    · have h := if_t hb6 h
      refine w_iinc (v := v3 + 1) (k := 3) C rfl rfl (Nat.le_of_ble_eq_true rfl) rfl dX3_linear_70 ?_
      refine w_goto (tgt := 23) C dX3_linear_73 (by decide) ?_
      refine w_lv [1, 2, 3, 0] rfl ?_
      exact hrc23 _ _ h
    · have h := if_f hb6 h
      refine w_iload_n C 2 rfl dX3_linear_43 ?_
      refine w_aload_n C 0 rfl dX3_linear_44 ?_
      refine w_aload_n C 0 rfl dX3_linear_45 ?_
      refine gt_X3_17 C dX3_linear_46 ?_
      refine w_iload_n C 1 rfl dX3_linear_49 ?_
      obtain ⟨hi7, h⟩ := ckI_some h
      refine ld_maps C hi7 dX3_linear_50 ?_
      refine w_iload C 4 rfl dX3_linear_51 ?_
      refine w_iload_n C 3 rfl dX3_linear_53 ?_
      obtain ⟨x8, hx8, h⟩ := bd_some h
      refine w_cVi (wr := []) (qc := (RX3, TX3, 8)) C (c_X3_walkOf fu (Nat.lt_trans (vp_lt hi7) (by decide)) hx8) pk_X3_walkOf ml_X3_137 (As := [.ref (xa (3 + v1.toNatClampNeg)), .int v4, .int v3]) (rest := [.int v2]) (k9 := 0) rfl rfl ⟨⟨rfl, rfl⟩, Nat.le_of_ble_eq_true rfl, Nat.le_of_ble_eq_true rfl⟩ rfl ⟨(Nat.le_of_ble_eq_true rfl), (Nat.le_of_ble_eq_true rfl)⟩ (Nat.le_of_ble_eq_true rfl) rfl rfl (List.nil_append _) dX3_linear_54 ?_
      refine w_mabs C ml_X3_140 (Nat.le_of_ble_eq_true rfl) (Nat.le_of_ble_eq_true rfl) (Nat.le_of_ble_eq_true rfl) (Nat.le_of_ble_eq_true rfl) dX3_linear_57 ?_
      refine w_mmax C ml_X3_145 (Nat.le_of_ble_eq_true rfl) (Nat.le_of_ble_eq_true rfl) (Nat.le_of_ble_eq_true rfl) (Nat.le_of_ble_eq_true rfl) dX3_linear_60 ?_
      refine w_istore_n C (Nat.le_of_ble_eq_true rfl) rfl dX3_linear_63 ?_
      refine w_iinc (v := v4 + 1) (k := 4) C rfl rfl (Nat.le_of_ble_eq_true rfl) rfl dX3_linear_64 ?_
      refine w_goto (tgt := 34) C dX3_linear_67 (by decide) ?_
      refine w_lv [2, 3, 1, 4, 0] rfl ?_
      exact ih _ _ h
set_option maxRecDepth 20000 in
set_option maxHeartbeats 4000000 in
theorem w_X3_linear_23 {fa : Nat → Nat} {N : Nat} {ra : Nat} {xa : Nat → Nat} {FA : Nat → Option Nat} {ak : Int64} {r1 : Int32} {r2 : Int32} {r3 : Int32} {r4 : Int32} {r5 : Int32} {fq : Int32} {t0 : Nat → Int32} {t1 : Nat → Int32} {t2 : Nat → Int32} {t3 : Nat → Int32} {t4 : Nat → Int32} {t5 : Nat → Int32} {tL : Nat → Option Nat} {xq : Int32} {RR : Nat → Nat → Int32} {fp : Int32} {v1 : Int32} {fu : Nat}  {r : Int32} (C : Cx p s m args meth c G A RX3 cX3_linear 5 ((some .int)))   : ∀ (fk : Nat) (v2 : Int32) (v3 : Int32), X3_linear_23 fu N  xq RR fp v1 fk v2 v3 = some r → Wd p l e rm_X3_linear s m args below meth c G A 5 0 0 (QQ G A (fun o w => o = some (.int r) ∧ w = (xm G xa FA (fa 0) ra xq ak RR ++ ([rcw ra r1 r2 r3 r4 r5] ++ (fw G fa N fp fq t0 t1 t2 t3 t4 t5 tL)))) below args s 0 0) (xm G xa FA (fa 0) ra xq ak RR ++ ([rcw ra r1 r2 r3 r4 r5] ++ (fw G fa N fp fq t0 t1 t2 t3 t4 t5 tL))) [(0, .ref (xa 0)), (1, .int v1), (2, .int v2), (3, .int v3)] 23 [] := by
  intro fk
  induction fk with
  | zero =>
    intro v2 v3 h
    have h : (none : Option Int32) = some r := h
    cases h
  | succ fk ih =>
    intro v2 v3 h
    have h : X3_linear_23_b fu N  xq RR fp v1 (X3_linear_23 fu N  xq RR fp v1 fk) v2 v3 = some r := h
    unfold X3_linear_23_b at h
    refine w_iload_n C 3 rfl dX3_linear_23 ?_
    refine w_aload_n C 0 rfl dX3_linear_24 ?_
    refine gt_X3_42 C dX3_linear_25 ?_
    refine w_icmp_ge (tgt := 76) C dX3_linear_28 (by decide) (fun hb5 => ?_) (fun hb5 => ?_)
    · have h := if_t hb5 h
      refine w_iload_n C 2 rfl dX3_linear_76 ?_
      cases h
      exact w_iret C ⟨rfl, rfl⟩ dX3_linear_77
    · have h := if_f hb5 h
      refine w_iconst (v := 0) C dX3_linear_31 (by decide) ?_
      refine w_istore C (Nat.le_of_ble_eq_true rfl) rfl dX3_linear_32 ?_
      refine w_lv [1, 2, 3, 4, 0] rfl ?_
      exact w_X3_linear_34 C   ih _ _ _ h
set_option maxRecDepth 20000 in
set_option maxHeartbeats 4000000 in
theorem w_X3_linear {fa : Nat → Nat} {N : Nat} {ra : Nat} {xa : Nat → Nat} {FA : Nat → Option Nat} {ak : Int64} {r1 : Int32} {r2 : Int32} {r3 : Int32} {r4 : Int32} {r5 : Int32} {fq : Int32} {t0 : Nat → Int32} {t1 : Nat → Int32} {t2 : Nat → Int32} {t3 : Nat → Int32} {t4 : Nat → Int32} {t5 : Nat → Int32} {tL : Nat → Option Nat} {fu : Nat}  {xq : Int32} {RR : Nat → Nat → Int32} {fp : Int32} {v1 : Int32} {r : Int32} (C : Cx p s m args meth c G A RX3 cX3_linear 5 ((some .int)))   (h : X3_linear fu N  xq RR fp v1 = some r) : Wd p l e rm_X3_linear s m args below meth c G A 5 0 0 (QQ G A (fun o w => o = some (.int r) ∧ w = (xm G xa FA (fa 0) ra xq ak RR ++ ([rcw ra r1 r2 r3 r4 r5] ++ (fw G fa N fp fq t0 t1 t2 t3 t4 t5 tL)))) below args s 0 0) (xm G xa FA (fa 0) ra xq ak RR ++ ([rcw ra r1 r2 r3 r4 r5] ++ (fw G fa N fp fq t0 t1 t2 t3 t4 t5 tL))) [(0, .ref (xa 0)), (1, .int v1)] 0 [] := by
  unfold X3_linear at h
  refine w_iload_n C 1 rfl dX3_linear_0 ?_
  obtain ⟨x1, hx1, h⟩ := bd_some h
  refine w_cSi C (c_X3_isMap fu  hx1) pk_X3_isMap ml_X3_64 (As := [.int v1]) (rest := []) ⟨⟨rfl, rfl⟩, Nat.le_of_ble_eq_true rfl, Nat.le_of_ble_eq_true rfl⟩ rfl ⟨(Nat.le_of_ble_eq_true rfl), (Nat.le_of_ble_eq_true rfl)⟩ (Nat.le_of_ble_eq_true rfl) rfl (List.append_nil _).symm (List.append_nil _) dX3_linear_1 ?_
  refine w_if_ne (tgt := 9) C dX3_linear_4 (by decide) (fun hb2 => ?_) (fun hb2 => ?_)
  · have h := if_f hb2 h
    refine w_aload_n C 0 rfl dX3_linear_9 ?_
    obtain ⟨x3, hx3, h⟩ := bd_some h
    refine w_cVi (wr := []) (qc := (RX3, TX3, 8)) C (c_X3_hasBits fu  hx3) pk_X3_hasBits ml_X3_132 (As := []) (rest := []) (k9 := 0) rfl rfl ⟨⟨rfl, rfl⟩, Nat.le_of_ble_eq_true rfl, Nat.le_of_ble_eq_true rfl⟩ rfl ⟨(Nat.le_of_ble_eq_true rfl), (Nat.le_of_ble_eq_true rfl)⟩ (Nat.le_of_ble_eq_true rfl) rfl rfl (List.nil_append _) dX3_linear_10 ?_
    refine w_if_ne (tgt := 19) C dX3_linear_13 (by decide) (fun hb4 => ?_) (fun hb4 => ?_)
    · have h := if_f hb4 h
      refine w_iconst (v := 0) C dX3_linear_19 (by decide) ?_
      refine w_istore_n C (Nat.le_of_ble_eq_true rfl) rfl dX3_linear_20 ?_
      refine w_iconst (v := 1) C dX3_linear_21 (by decide) ?_
      refine w_istore_n C (Nat.le_of_ble_eq_true rfl) rfl dX3_linear_22 ?_
      refine w_lv [2, 3, 1, 0] rfl ?_
      exact w_X3_linear_23 C    _ _ _ h
    · have h := if_t hb4 h
      refine w_bipush (v := (-2)) C dX3_linear_16 (by decide) ?_
      cases h
      exact w_iret C ⟨rfl, rfl⟩ dX3_linear_18
  · have h := if_t hb2 h
    refine w_iconst (v := (-1)) C dX3_linear_7 (by decide) ?_
    cases h
    exact w_iret C ⟨rfl, rfl⟩ dX3_linear_8
theorem c_X3_linear {l : Launch} {G : GG} {fa : Nat → Nat} {N : Nat} {ra : Nat} {xa : Nat → Nat} {FA : Nat → Option Nat} {xq : Int32} {ak : Int64} {RR : Nat → Nat → Int32} {r1 : Int32} {r2 : Int32} {r3 : Int32} {r4 : Int32} {r5 : Int32} {fp : Int32} {fq : Int32} {t0 : Nat → Int32} {t1 : Nat → Int32} {t2 : Nat → Int32} {t3 : Nat → Int32} {t4 : Nat → Int32} {t5 : Nat → Int32} {tL : Nat → Option Nat} (fu : Nat) {v1 : Int32} {r : Int32} (h : X3_linear fu N xq RR fp v1 = some r) : Ct l yX3_linear cX3_linear 5 ((some .int)) G rm_X3_linear [.ref (xa 0), .int v1] (xm G xa FA (fa 0) ra xq ak RR ++ ([rcw ra r1 r2 r3 r4 r5] ++ (fw G fa N fp fq t0 t1 t2 t3 t4 t5 tL))) (fun o w => o = some (.int r) ∧ w = (xm G xa FA (fa 0) ra xq ak RR ++ ([rcw ra r1 r2 r3 r4 r5] ++ (fw G fa N fp fq t0 t1 t2 t3 t4 t5 tL)))) 0 0 := Ct.of (by decide) (Nat.le_of_ble_eq_true rfl) (fun p e s m args below meth c A C _ => w_X3_linear C h)
end
