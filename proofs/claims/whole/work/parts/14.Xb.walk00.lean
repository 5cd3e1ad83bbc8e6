section
variable {p : Program} {l : Launch} {e : Env} {s : State} {m : MethodId} {args : Array Value} {below : List Frame} {meth : Method} {c : Code} {G : GG} {A : Nat → Prop}
abbrev rm_X3_isNumber : Room := { frames := 0, cells := 0, slots := 0, locals := 0 }
theorem pk_X3_isNumber : PkV RX3 yX3_isNumber cX3_isNumber 2 ((some .boolean)) 1 := ⟨rfl, co_X3_isNumber, ini_RX3, im_X3_isNumber, se_X3_isNumber, by decide +kernel⟩
set_option maxRecDepth 20000 in
set_option maxHeartbeats 4000000 in
theorem w_X3_isNumber {fa : Nat → Nat} {N : Nat} {ra : Nat} {xa : Nat → Nat} {FA : Nat → Option Nat} {ak : Int64} {RR : Nat → Nat → Int32} {r1 : Int32} {r2 : Int32} {r3 : Int32} {r4 : Int32} {r5 : Int32} {fp : Int32} {fq : Int32} {t0 : Nat → Int32} {t1 : Nat → Int32} {t2 : Nat → Int32} {t3 : Nat → Int32} {t4 : Nat → Int32} {t5 : Nat → Int32} {tL : Nat → Option Nat} {fu : Nat}  {xq : Int32} {v1 : Int32} {r : Int32} (C : Cx p s m args meth c G A RX3 cX3_isNumber 2 ((some .boolean)))   (h : X3_isNumber fu N  xq v1 = some r) : Wd p l e rm_X3_isNumber s m args below meth c G A 2 0 0 (QQ G A (fun o w => o = some (.int r) ∧ w = (xm G xa FA (fa 0) ra xq ak RR ++ ([rcw ra r1 r2 r3 r4 r5] ++ (fw G fa N fp fq t0 t1 t2 t3 t4 t5 tL)))) below args s 0 0) (xm G xa FA (fa 0) ra xq ak RR ++ ([rcw ra r1 r2 r3 r4 r5] ++ (fw G fa N fp fq t0 t1 t2 t3 t4 t5 tL))) [(0, .ref (xa 0)), (1, .int v1)] 0 [] := by
  unfold X3_isNumber at h
  refine w_iload_n C 1 rfl dX3_isNumber_0 ?_
  refine w_if_lt (tgt := 16) C dX3_isNumber_1 (by decide) (fun hb1 => ?_) (fun hb1 => ?_)
  · have h := if_t hb1 h
    refine w_iconst (v := 0) C dX3_isNumber_16 (by decide) ?_
    cases h
    exact w_zret C rfl ⟨rfl, rfl⟩ dX3_isNumber_17
  · have h := if_f hb1 h
    refine w_iload_n C 1 rfl dX3_isNumber_4 ?_
    refine w_aload_n C 0 rfl dX3_isNumber_5 ?_
    refine gt_X3_42 C dX3_isNumber_6 ?_
    refine w_icmp_ge (tgt := 16) C dX3_isNumber_9 (by decide) (fun hb2 => ?_) (fun hb2 => ?_)
    · have h := if_t hb2 h
      refine w_iconst (v := 0) C dX3_isNumber_16 (by decide) ?_
      cases h
      exact w_zret C rfl ⟨rfl, rfl⟩ dX3_isNumber_17
    · have h := if_f hb2 h
      refine w_iconst (v := 1) C dX3_isNumber_12 (by decide) ?_
      refine w_goto (tgt := 17) C dX3_isNumber_13 (by decide) ?_
      cases h
      exact w_zret C rfl ⟨rfl, rfl⟩ dX3_isNumber_17
theorem c_X3_isNumber {l : Launch} {G : GG} {fa : Nat → Nat} {N : Nat} {ra : Nat} {xa : Nat → Nat} {FA : Nat → Option Nat} {xq : Int32} {ak : Int64} {RR : Nat → Nat → Int32} {r1 : Int32} {r2 : Int32} {r3 : Int32} {r4 : Int32} {r5 : Int32} {fp : Int32} {fq : Int32} {t0 : Nat → Int32} {t1 : Nat → Int32} {t2 : Nat → Int32} {t3 : Nat → Int32} {t4 : Nat → Int32} {t5 : Nat → Int32} {tL : Nat → Option Nat} (fu : Nat) {v1 : Int32} {r : Int32} (h : X3_isNumber fu N xq v1 = some r) : Ct l yX3_isNumber cX3_isNumber 2 ((some .boolean)) G rm_X3_isNumber [.ref (xa 0), .int v1] (xm G xa FA (fa 0) ra xq ak RR ++ ([rcw ra r1 r2 r3 r4 r5] ++ (fw G fa N fp fq t0 t1 t2 t3 t4 t5 tL))) (fun o w => o = some (.int r) ∧ w = (xm G xa FA (fa 0) ra xq ak RR ++ ([rcw ra r1 r2 r3 r4 r5] ++ (fw G fa N fp fq t0 t1 t2 t3 t4 t5 tL)))) 0 0 := Ct.of (by decide) (Nat.le_of_ble_eq_true rfl) (fun p e s m args below meth c A C _ => w_X3_isNumber C h)
abbrev rm_X3_plus : Room := { frames := 1, cells := 0, slots := 0, locals := 22 }
theorem pk_X3_plus : PkV RX3 yX3_plus cX3_plus 3 ((some .int)) 2 := ⟨rfl, co_X3_plus, ini_RX3, im_X3_plus, se_X3_plus, by decide +kernel⟩
set_option maxRecDepth 20000 in
set_option maxHeartbeats 4000000 in
theorem w_X3_plus {fa : Nat → Nat} {N : Nat} {ra : Nat} {xa : Nat → Nat} {FA : Nat → Option Nat} {ak : Int64} {RR : Nat → Nat → Int32} {r1 : Int32} {r2 : Int32} {r3 : Int32} {r4 : Int32} {r5 : Int32} {fp : Int32} {t1 : Nat → Int32} {t2 : Nat → Int32} {t3 : Nat → Int32} {t4 : Nat → Int32} {t5 : Nat → Int32} {tL : Nat → Option Nat} {fu : Nat}  {xq : Int32} {fq : Int32} {t0 : Nat → Int32} {v1 : Int32} {v2 : Int32} {r : Int32} (C : Cx p s m args meth c G A RX3 cX3_plus 3 ((some .int)))   (h : X3_plus fu N  xq fq t0 v1 v2 = some r) : Wd p l e rm_X3_plus s m args below meth c G A 3 0 0 (QQ G A (fun o w => o = some (.int r) ∧ w = (xm G xa FA (fa 0) ra xq ak RR ++ ([rcw ra r1 r2 r3 r4 r5] ++ (fw G fa N fp fq t0 t1 t2 t3 t4 t5 tL)))) below args s 0 0) (xm G xa FA (fa 0) ra xq ak RR ++ ([rcw ra r1 r2 r3 r4 r5] ++ (fw G fa N fp fq t0 t1 t2 t3 t4 t5 tL))) [(0, .ref (xa 0)), (1, .int v1), (2, .int v2)] 0 [] := by
  unfold X3_plus at h
  refine w_aload_n C 0 rfl dX3_plus_0 ?_
  refine w_iload_n C 1 rfl dX3_plus_1 ?_
  obtain ⟨x1, hx1, h⟩ := bd_some h
  refine w_cVi (wr := []) (qc := (RX3, TX3, 8)) C (c_X3_isNumber fu  hx1) pk_X3_isNumber ml_X3_46 (As := [.int v1]) (rest := []) (k9 := 0) rfl rfl ⟨⟨rfl, rfl⟩, Nat.le_of_ble_eq_true rfl, Nat.le_of_ble_eq_true rfl⟩ rfl ⟨(Nat.le_of_ble_eq_true rfl), (Nat.le_of_ble_eq_true rfl)⟩ (Nat.le_of_ble_eq_true rfl) rfl rfl (List.nil_append _) dX3_plus_2 ?_
  refine w_if_eq (tgt := 16) C dX3_plus_5 (by decide) (fun hb2 => ?_) (fun hb2 => ?_)
  · have h := if_t hb2 h
    refine w_iconst (v := (-1)) C dX3_plus_16 (by decide) ?_
    cases h
    exact w_iret C ⟨rfl, rfl⟩ dX3_plus_17
  · have h := if_f hb2 h
    refine w_aload_n C 0 rfl dX3_plus_8 ?_
    refine w_iload_n C 2 rfl dX3_plus_9 ?_
    obtain ⟨x3, hx3, h⟩ := bd_some h
    refine w_cVi (wr := []) (qc := (RX3, TX3, 8)) C (c_X3_isNumber fu  hx3) pk_X3_isNumber ml_X3_46 (As := [.int v2]) (rest := []) (k9 := 0) rfl rfl ⟨⟨rfl, rfl⟩, Nat.le_of_ble_eq_true rfl, Nat.le_of_ble_eq_true rfl⟩ rfl ⟨(Nat.le_of_ble_eq_true rfl), (Nat.le_of_ble_eq_true rfl)⟩ (Nat.le_of_ble_eq_true rfl) rfl rfl (List.nil_append _) dX3_plus_10 ?_
    refine w_if_ne (tgt := 18) C dX3_plus_13 (by decide) (fun hb4 => ?_) (fun hb4 => ?_)
    · have h := if_f hb4 h
      refine w_aload_n C 0 rfl dX3_plus_18 ?_
      refine gt_X3_49 C dX3_plus_19 ?_
      refine w_iload_n C 1 rfl dX3_plus_22 ?_
      refine w_iload_n C 2 rfl dX3_plus_23 ?_
      obtain ⟨x5, hx5, h⟩ := bd_some h
      refine w_cVi (qc := (RX0, TX0, 9)) C (c_X0_sum fu  hx5) pk_X0_sum ml_X3_53 (As := [.int v1, .int v2]) (rest := []) (k9 := 0) rfl rfl ⟨⟨rfl, rfl⟩, Nat.le_of_ble_eq_true rfl, Nat.le_of_ble_eq_true rfl⟩ rfl ⟨(Nat.le_of_ble_eq_true rfl), (Nat.le_of_ble_eq_true rfl)⟩ (Nat.le_of_ble_eq_true rfl) rfl (List.append_assoc _ _ _).symm (List.append_assoc _ _ _) dX3_plus_24 ?_
      cases h
      exact w_iret C ⟨rfl, rfl⟩ dX3_plus_27
    · have h := if_t hb4 h
      refine w_iconst (v := (-1)) C dX3_plus_16 (by decide) ?_
      cases h
      exact w_iret C ⟨rfl, rfl⟩ dX3_plus_17
theorem c_X3_plus {l : Launch} {G : GG} {fa : Nat → Nat} {N : Nat} {ra : Nat} {xa : Nat → Nat} {FA : Nat → Option Nat} {xq : Int32} {ak : Int64} {RR : Nat → Nat → Int32} {r1 : Int32} {r2 : Int32} {r3 : Int32} {r4 : Int32} {r5 : Int32} {fp : Int32} {fq : Int32} {t0 : Nat → Int32} {t1 : Nat → Int32} {t2 : Nat → Int32} {t3 : Nat → Int32} {t4 : Nat → Int32} {t5 : Nat → Int32} {tL : Nat → Option Nat} (fu : Nat) {v1 : Int32} {v2 : Int32} {r : Int32} (h : X3_plus fu N xq fq t0 v1 v2 = some r) : Ct l yX3_plus cX3_plus 3 ((some .int)) G rm_X3_plus [.ref (xa 0), .int v1, .int v2] (xm G xa FA (fa 0) ra xq ak RR ++ ([rcw ra r1 r2 r3 r4 r5] ++ (fw G fa N fp fq t0 t1 t2 t3 t4 t5 tL))) (fun o w => o = some (.int r) ∧ w = (xm G xa FA (fa 0) ra xq ak RR ++ ([rcw ra r1 r2 r3 r4 r5] ++ (fw G fa N fp fq t0 t1 t2 t3 t4 t5 tL)))) 0 0 := Ct.of (by decide) (Nat.le_of_ble_eq_true rfl) (fun p e s m args below meth c A C _ => w_X3_plus C h)
abbrev rm_X3_times : Room := { frames := 1, cells := 0, slots := 0, locals := 22 }
theorem pk_X3_times : PkV RX3 yX3_times cX3_times 3 ((some .int)) 2 := ⟨rfl, co_X3_times, ini_RX3, im_X3_times, se_X3_times, by decide +kernel⟩
set_option maxRecDepth 20000 in
set_option maxHeartbeats 4000000 in
theorem w_X3_times {fa : Nat → Nat} {N : Nat} {ra : Nat} {xa : Nat → Nat} {FA : Nat → Option Nat} {ak : Int64} {RR : Nat → Nat → Int32} {r1 : Int32} {r2 : Int32} {r3 : Int32} {r4 : Int32} {r5 : Int32} {fp : Int32} {t0 : Nat → Int32} {t2 : Nat → Int32} {t3 : Nat → Int32} {t4 : Nat → Int32} {t5 : Nat → Int32} {tL : Nat → Option Nat} {fu : Nat}  {xq : Int32} {fq : Int32} {t1 : Nat → Int32} {v1 : Int32} {v2 : Int32} {r : Int32} (C : Cx p s m args meth c G A RX3 cX3_times 3 ((some .int)))   (h : X3_times fu N  xq fq t1 v1 v2 = some r) : Wd p l e rm_X3_times s m args below meth c G A 3 0 0 (QQ G A (fun o w => o = some (.int r) ∧ w = (xm G xa FA (fa 0) ra xq ak RR ++ ([rcw ra r1 r2 r3 r4 r5] ++ (fw G fa N fp fq t0 t1 t2 t3 t4 t5 tL)))) below args s 0 0) (xm G xa FA (fa 0) ra xq ak RR ++ ([rcw ra r1 r2 r3 r4 r5] ++ (fw G fa N fp fq t0 t1 t2 t3 t4 t5 tL))) [(0, .ref (xa 0)), (1, .int v1), (2, .int v2)] 0 [] := by
  unfold X3_times at h
  refine w_aload_n C 0 rfl dX3_times_0 ?_
  refine w_iload_n C 1 rfl dX3_times_1 ?_
  obtain ⟨x1, hx1, h⟩ := bd_some h
  refine w_cVi (wr := []) (qc := (RX3, TX3, 8)) C (c_X3_isNumber fu  hx1) pk_X3_isNumber ml_X3_46 (As := [.int v1]) (rest := []) (k9 := 0) rfl rfl ⟨⟨rfl, rfl⟩, Nat.le_of_ble_eq_true rfl, Nat.le_of_ble_eq_true rfl⟩ rfl ⟨(Nat.le_of_ble_eq_true rfl), (Nat.le_of_ble_eq_true rfl)⟩ (Nat.le_of_ble_eq_true rfl) rfl rfl (List.nil_append _) dX3_times_2 ?_
  refine w_if_eq (tgt := 16) C dX3_times_5 (by decide) (fun hb2 => ?_) (fun hb2 => ?_)
  · have h := if_t hb2 h
    refine w_iconst (v := (-1)) C dX3_times_16 (by decide) ?_
    cases h
    exact w_iret C ⟨rfl, rfl⟩ dX3_times_17
  · have h := if_f hb2 h
    refine w_aload_n C 0 rfl dX3_times_8 ?_
    refine w_iload_n C 2 rfl dX3_times_9 ?_
    obtain ⟨x3, hx3, h⟩ := bd_some h
    refine w_cVi (wr := []) (qc := (RX3, TX3, 8)) C (c_X3_isNumber fu  hx3) pk_X3_isNumber ml_X3_46 (As := [.int v2]) (rest := []) (k9 := 0) rfl rfl ⟨⟨rfl, rfl⟩, Nat.le_of_ble_eq_true rfl, Nat.le_of_ble_eq_true rfl⟩ rfl ⟨(Nat.le_of_ble_eq_true rfl), (Nat.le_of_ble_eq_true rfl)⟩ (Nat.le_of_ble_eq_true rfl) rfl rfl (List.nil_append _) dX3_times_10 ?_
    refine w_if_ne (tgt := 18) C dX3_times_13 (by decide) (fun hb4 => ?_) (fun hb4 => ?_)
    · have h := if_f hb4 h
      refine w_aload_n C 0 rfl dX3_times_18 ?_
      refine gt_X3_49 C dX3_times_19 ?_
      refine w_iload_n C 1 rfl dX3_times_22 ?_
      refine w_iload_n C 2 rfl dX3_times_23 ?_
      obtain ⟨x5, hx5, h⟩ := bd_some h
      refine w_cVi (qc := (RX0, TX0, 9)) C (c_X0_product fu  hx5) pk_X0_product ml_X3_57 (As := [.int v1, .int v2]) (rest := []) (k9 := 0) rfl rfl ⟨⟨rfl, rfl⟩, Nat.le_of_ble_eq_true rfl, Nat.le_of_ble_eq_true rfl⟩ rfl ⟨(Nat.le_of_ble_eq_true rfl), (Nat.le_of_ble_eq_true rfl)⟩ (Nat.le_of_ble_eq_true rfl) rfl (List.append_assoc _ _ _).symm (List.append_assoc _ _ _) dX3_times_24 ?_
      cases h
      exact w_iret C ⟨rfl, rfl⟩ dX3_times_27
    · have h := if_t hb4 h
      refine w_iconst (v := (-1)) C dX3_times_16 (by decide) ?_
      cases h
      exact w_iret C ⟨rfl, rfl⟩ dX3_times_17
theorem c_X3_times {l : Launch} {G : GG} {fa : Nat → Nat} {N : Nat} {ra : Nat} {xa : Nat → Nat} {FA : Nat → Option Nat} {xq : Int32} {ak : Int64} {RR : Nat → Nat → Int32} {r1 : Int32} {r2 : Int32} {r3 : Int32} {r4 : Int32} {r5 : Int32} {fp : Int32} {fq : Int32} {t0 : Nat → Int32} {t1 : Nat → Int32} {t2 : Nat → Int32} {t3 : Nat → Int32} {t4 : Nat → Int32} {t5 : Nat → Int32} {tL : Nat → Option Nat} (fu : Nat) {v1 : Int32} {v2 : Int32} {r : Int32} (h : X3_times fu N xq fq t1 v1 v2 = some r) : Ct l yX3_times cX3_times 3 ((some .int)) G rm_X3_times [.ref (xa 0), .int v1, .int v2] (xm G xa FA (fa 0) ra xq ak RR ++ ([rcw ra r1 r2 r3 r4 r5] ++ (fw G fa N fp fq t0 t1 t2 t3 t4 t5 tL))) (fun o w => o = some (.int r) ∧ w = (xm G xa FA (fa 0) ra xq ak RR ++ ([rcw ra r1 r2 r3 r4 r5] ++ (fw G fa N fp fq t0 t1 t2 t3 t4 t5 tL)))) 0 0 := Ct.of (by decide) (Nat.le_of_ble_eq_true rfl) (fun p e s m args below meth c A C _ => w_X3_times C h)
abbrev rm_X3_over : Room := { frames := 1, cells := 0, slots := 0, locals := 21 }
theorem pk_X3_over : PkV RX3 yX3_over cX3_over 2 ((some .int)) 1 := ⟨rfl, co_X3_over, ini_RX3, im_X3_over, se_X3_over, by decide +kernel⟩
set_option maxRecDepth 20000 in
set_option maxHeartbeats 4000000 in
theorem w_X3_over {fa : Nat → Nat} {N : Nat} {ra : Nat} {xa : Nat → Nat} {FA : Nat → Option Nat} {ak : Int64} {RR : Nat → Nat → Int32} {r1 : Int32} {r2 : Int32} {r3 : Int32} {r4 : Int32} {r5 : Int32} {fp : Int32} {fq : Int32} {t0 : Nat → Int32} {t1 : Nat → Int32} {t2 : Nat → Int32} {t3 : Nat → Int32} {t5 : Nat → Int32} {tL : Nat → Option Nat} {fu : Nat}  {xq : Int32} {t4 : Nat → Int32} {v1 : Int32} {r : Int32} (C : Cx p s m args meth c G A RX3 cX3_over 2 ((some .int)))   (h : X3_over fu N  xq t4 v1 = some r) : Wd p l e rm_X3_over s m args below meth c G A 2 0 0 (QQ G A (fun o w => o = some (.int r) ∧ w = (xm G xa FA (fa 0) ra xq ak RR ++ ([rcw ra r1 r2 r3 r4 r5] ++ (fw G fa N fp fq t0 t1 t2 t3 t4 t5 tL)))) below args s 0 0) (xm G xa FA (fa 0) ra xq ak RR ++ ([rcw ra r1 r2 r3 r4 r5] ++ (fw G fa N fp fq t0 t1 t2 t3 t4 t5 tL))) [(0, .ref (xa 0)), (1, .int v1)] 0 [] := by
  unfold X3_over at h
  refine w_aload_n C 0 rfl dX3_over_0 ?_
  refine w_iload_n C 1 rfl dX3_over_1 ?_
  obtain ⟨x1, hx1, h⟩ := bd_some h
  refine w_cVi (wr := []) (qc := (RX3, TX3, 8)) C (c_X3_isNumber fu  hx1) pk_X3_isNumber ml_X3_46 (As := [.int v1]) (rest := []) (k9 := 0) rfl rfl ⟨⟨rfl, rfl⟩, Nat.le_of_ble_eq_true rfl, Nat.le_of_ble_eq_true rfl⟩ rfl ⟨(Nat.le_of_ble_eq_true rfl), (Nat.le_of_ble_eq_true rfl)⟩ (Nat.le_of_ble_eq_true rfl) rfl rfl (List.nil_append _) dX3_over_2 ?_
  refine w_if_ne (tgt := 10) C dX3_over_5 (by decide) (fun hb2 => ?_) (fun hb2 => ?_)
  · have h := if_f hb2 h
    refine w_iload_n C 1 rfl dX3_over_10 ?_
    refine w_if_ne (tgt := 17) C dX3_over_11 (by decide) (fun hb3 => ?_) (fun hb3 => ?_)
    · have h := if_f hb3 h
      refine w_aload_n C 0 rfl dX3_over_17 ?_
      refine gt_X3_49 C dX3_over_18 ?_
      refine w_iload_n C 1 rfl dX3_over_21 ?_
      obtain ⟨x4, hx4, h⟩ := bd_some h
      refine w_cVi (qc := (RX0, TX0, 9)) C (c_X0_inverse fu  hx4) pk_X0_inverse ml_X3_60 (As := [.int v1]) (rest := []) (k9 := 0) rfl rfl ⟨⟨rfl, rfl⟩, Nat.le_of_ble_eq_true rfl, Nat.le_of_ble_eq_true rfl⟩ rfl ⟨(Nat.le_of_ble_eq_true rfl), (Nat.le_of_ble_eq_true rfl)⟩ (Nat.le_of_ble_eq_true rfl) rfl (List.append_assoc _ _ _).symm (List.append_assoc _ _ _) dX3_over_22 ?_
      cases h
      exact w_iret C ⟨rfl, rfl⟩ dX3_over_25
    · have h := if_t hb3 h
      refine w_bipush (v := (-2)) C dX3_over_14 (by decide) ?_
      cases h
      exact w_iret C ⟨rfl, rfl⟩ dX3_over_16
  · have h := if_t hb2 h
    refine w_iconst (v := (-1)) C dX3_over_8 (by decide) ?_
    cases h
    exact w_iret C ⟨rfl, rfl⟩ dX3_over_9
theorem c_X3_over {l : Launch} {G : GG} {fa : Nat → Nat} {N : Nat} {ra : Nat} {xa : Nat → Nat} {FA : Nat → Option Nat} {xq : Int32} {ak : Int64} {RR : Nat → Nat → Int32} {r1 : Int32} {r2 : Int32} {r3 : Int32} {r4 : Int32} {r5 : Int32} {fp : Int32} {fq : Int32} {t0 : Nat → Int32} {t1 : Nat → Int32} {t2 : Nat → Int32} {t3 : Nat → Int32} {t4 : Nat → Int32} {t5 : Nat → Int32} {tL : Nat → Option Nat} (fu : Nat) {v1 : Int32} {r : Int32} (h : X3_over fu N xq t4 v1 = some r) : Ct l yX3_over cX3_over 2 ((some .int)) G rm_X3_over [.ref (xa 0), .int v1] (xm G xa FA (fa 0) ra xq ak RR ++ ([rcw ra r1 r2 r3 r4 r5] ++ (fw G fa N fp fq t0 t1 t2 t3 t4 t5 tL))) (fun o w => o = some (.int r) ∧ w = (xm G xa FA (fa 0) ra xq ak RR ++ ([rcw ra r1 r2 r3 r4 r5] ++ (fw G fa N fp fq t0 t1 t2 t3 t4 t5 tL)))) 0 0 := Ct.of (by decide) (Nat.le_of_ble_eq_true rfl) (fun p e s m args below meth c A C _ => w_X3_over C h)
abbrev rm_X3_isMap : Room := { frames := 0, cells := 0, slots := 0, locals := 0 }
theorem pk_X3_isMap : PkS yX3_isMap cX3_isMap 1 ((some .boolean)) 1 := ⟨co_X3_isMap, ini_RX3, st_X3_isMap, by decide +kernel⟩
set_option maxRecDepth 20000 in
set_option maxHeartbeats 4000000 in
theorem w_X3_isMap  {fu : Nat}  {v0 : Int32} {r : Int32} (C : Cx p s m args meth c G A RX3 cX3_isMap 1 ((some .boolean)))   (h : X3_isMap fu  v0 = some r) : Wd p l e rm_X3_isMap s m args below meth c G A 1 0 0 (QQ G A (fun o w => o = some (.int r) ∧ w = []) below args s 0 0) [] [(0, .int v0)] 0 [] := by
  unfold X3_isMap at h
  refine w_iload_n C 0 rfl dX3_isMap_0 ?_
  refine w_if_lt (tgt := 13) C dX3_isMap_1 (by decide) (fun hb1 => ?_) (fun hb1 => ?_)
  · have h := if_t hb1 h
    refine w_iconst (v := 0) C dX3_isMap_13 (by decide) ?_
    cases h
    exact w_zret C rfl ⟨rfl, rfl⟩ dX3_isMap_14
  · have h := if_f hb1 h
    refine w_iload_n C 0 rfl dX3_isMap_4 ?_
    refine w_iconst (v := 4) C dX3_isMap_5 (by decide) ?_
    refine w_icmp_ge (tgt := 13) C dX3_isMap_6 (by decide) (fun hb2 => ?_) (fun hb2 => ?_)
    · have h := if_t hb2 h
      refine w_iconst (v := 0) C dX3_isMap_13 (by decide) ?_
      cases h
      exact w_zret C rfl ⟨rfl, rfl⟩ dX3_isMap_14
    · have h := if_f hb2 h
      refine w_iconst (v := 1) C dX3_isMap_9 (by decide) ?_
      refine w_goto (tgt := 14) C dX3_isMap_10 (by decide) ?_
      cases h
      exact w_zret C rfl ⟨rfl, rfl⟩ dX3_isMap_14
theorem c_X3_isMap {l : Launch} {G : GG}  (fu : Nat) {v0 : Int32} {r : Int32} (h : X3_isMap fu  v0 = some r) : Ct l yX3_isMap cX3_isMap 1 ((some .boolean)) G rm_X3_isMap [.int v0] [] (fun o w => o = some (.int r) ∧ w = []) 0 0 := Ct.of (by decide) (Nat.le_of_ble_eq_true rfl) (fun p e s m args below meth c A C _ => w_X3_isMap C h)
abbrev rm_X3_set : Room := { frames := 1, cells := 0, slots := 0, locals := 21 }
theorem pk_X3_set : PkV RX3 yX3_set cX3_set 5 ((some .int)) 3 := ⟨rfl, co_X3_set, ini_RX3, im_X3_set, se_X3_set, by decide +kernel⟩
set_option maxRecDepth 20000 in
set_option maxHeartbeats 4000000 in
theorem w_X3_set {fa : Nat → Nat} {N : Nat} {ra : Nat} {xa : Nat → Nat} {FA : Nat → Option Nat} {ak : Int64} {r1 : Int32} {r2 : Int32} {r3 : Int32} {r4 : Int32} {r5 : Int32} {fp : Int32} {fq : Int32} {t0 : Nat → Int32} {t1 : Nat → Int32} {t2 : Nat → Int32} {t3 : Nat → Int32} {t4 : Nat → Int32} {t5 : Nat → Int32} {tL : Nat → Option Nat} {fu : Nat}  {xq : Int32} {RR : Nat → Nat → Int32} {v1 : Int32} {v2 : Int32} {v3 : Int32} {r : Int32 × (Nat → Nat → Int32)} (C : Cx p s m args meth c G A RX3 cX3_set 5 ((some .int)))   (h : X3_set fu N  xq RR v1 v2 v3 = some r) : Wd p l e rm_X3_set s m args below meth c G A 5 0 0 (QQ G A (fun o w => o = some (.int r.1) ∧ w = (xm G xa FA (fa 0) ra xq ak r.2 ++ ([rcw ra r1 r2 r3 r4 r5] ++ (fw G fa N fp fq t0 t1 t2 t3 t4 t5 tL)))) below args s 0 0) (xm G xa FA (fa 0) ra xq ak RR ++ ([rcw ra r1 r2 r3 r4 r5] ++ (fw G fa N fp fq t0 t1 t2 t3 t4 t5 tL))) [(0, .ref (xa 0)), (1, .int v1), (2, .int v2), (3, .int v3)] 0 [] := by
  unfold X3_set at h
  refine w_iload_n C 1 rfl dX3_set_0 ?_
  obtain ⟨x1, hx1, h⟩ := bd_some h
  refine w_cSi C (c_X3_isMap fu  hx1) pk_X3_isMap ml_X3_64 (As := [.int v1]) (rest := []) ⟨⟨rfl, rfl⟩, Nat.le_of_ble_eq_true rfl, Nat.le_of_ble_eq_true rfl⟩ rfl ⟨(Nat.le_of_ble_eq_true rfl), (Nat.le_of_ble_eq_true rfl)⟩ (Nat.le_of_ble_eq_true rfl) rfl (List.append_nil _).symm (List.append_nil _) dX3_set_1 ?_
  refine w_if_eq (tgt := 23) C dX3_set_4 (by decide) (fun hb2 => ?_) (fun hb2 => ?_)
  · have h := if_t hb2 h
    refine w_iconst (v := (-1)) C dX3_set_23 (by decide) ?_
    cases h
    exact w_iret C ⟨rfl, rfl⟩ dX3_set_24
  · have h := if_f hb2 h
    refine w_aload_n C 0 rfl dX3_set_7 ?_
    refine w_iload_n C 2 rfl dX3_set_8 ?_
    obtain ⟨x3, hx3, h⟩ := bd_some h
    refine w_cVi (wr := []) (qc := (RX3, TX3, 8)) C (c_X3_isNumber fu  hx3) pk_X3_isNumber ml_X3_46 (As := [.int v2]) (rest := []) (k9 := 0) rfl rfl ⟨⟨rfl, rfl⟩, Nat.le_of_ble_eq_true rfl, Nat.le_of_ble_eq_true rfl⟩ rfl ⟨(Nat.le_of_ble_eq_true rfl), (Nat.le_of_ble_eq_true rfl)⟩ (Nat.le_of_ble_eq_true rfl) rfl rfl (List.nil_append _) dX3_set_9 ?_
    refine w_if_eq (tgt := 23) C dX3_set_12 (by decide) (fun hb4 => ?_) (fun hb4 => ?_)
    · have h := if_t hb4 h
      refine w_iconst (v := (-1)) C dX3_set_23 (by decide) ?_
      cases h
      exact w_iret C ⟨rfl, rfl⟩ dX3_set_24
    · have h := if_f hb4 h
      refine w_aload_n C 0 rfl dX3_set_15 ?_
      refine w_iload_n C 3 rfl dX3_set_16 ?_
      obtain ⟨x5, hx5, h⟩ := bd_some h
      refine w_cVi (wr := []) (qc := (RX3, TX3, 8)) C (c_X3_isNumber fu  hx5) pk_X3_isNumber ml_X3_46 (As := [.int v3]) (rest := []) (k9 := 0) rfl rfl ⟨⟨rfl, rfl⟩, Nat.le_of_ble_eq_true rfl, Nat.le_of_ble_eq_true rfl⟩ rfl ⟨(Nat.le_of_ble_eq_true rfl), (Nat.le_of_ble_eq_true rfl)⟩ (Nat.le_of_ble_eq_true rfl) rfl rfl (List.nil_append _) dX3_set_17 ?_
      refine w_if_ne (tgt := 25) C dX3_set_20 (by decide) (fun hb6 => ?_) (fun hb6 => ?_)
      · have h := if_f hb6 h
        refine w_aload_n C 0 rfl dX3_set_25 ?_
        refine gt_X3_17 C dX3_set_26 ?_
        refine w_iload_n C 1 rfl dX3_set_29 ?_
        obtain ⟨hi7, h⟩ := ckI_some h
        refine ld_maps C hi7 dX3_set_30 ?_
        refine w_iload_n C 2 rfl dX3_set_31 ?_
        obtain ⟨hi8, h⟩ := ckI_some h
        refine ld_row C (Nat.lt_trans (vp_lt hi7) (by decide)) hi8 dX3_set_32 ?_
        refine w_istore C (Nat.le_of_ble_eq_true rfl) rfl dX3_set_33 ?_
        refine w_aload_n C 1 rfl dX3_set_35 ?_
        refine gt_X3_17 C dX3_set_36 ?_
        refine w_iload_n C 2 rfl dX3_set_39 ?_
        obtain ⟨hi9, h⟩ := ckI_some h
        refine ld_maps C hi9 dX3_set_40 ?_
        refine w_iload_n C 3 rfl dX3_set_41 ?_
        refine w_iload_n C 4 rfl dX3_set_42 ?_
        obtain ⟨hi10, h⟩ := ckI_some h
        refine sr_row C (Nat.lt_trans (vp_lt hi9) (by decide)) hi10 dX3_set_43 ?_
        refine w_iload C 0 rfl dX3_set_44 ?_
        cases h
        exact w_iret C ⟨rfl, rfl⟩ dX3_set_46
      · have h := if_t hb6 h
        refine w_iconst (v := (-1)) C dX3_set_23 (by decide) ?_
        cases h
        exact w_iret C ⟨rfl, rfl⟩ dX3_set_24
theorem c_X3_set {l : Launch} {G : GG} {fa : Nat → Nat} {N : Nat} {ra : Nat} {xa : Nat → Nat} {FA : Nat → Option Nat} {xq : Int32} {ak : Int64} {RR : Nat → Nat → Int32} {r1 : Int32} {r2 : Int32} {r3 : Int32} {r4 : Int32} {r5 : Int32} {fp : Int32} {fq : Int32} {t0 : Nat → Int32} {t1 : Nat → Int32} {t2 : Nat → Int32} {t3 : Nat → Int32} {t4 : Nat → Int32} {t5 : Nat → Int32} {tL : Nat → Option Nat} (fu : Nat) {v1 : Int32} {v2 : Int32} {v3 : Int32} {r : Int32 × (Nat → Nat → Int32)} (h : X3_set fu N xq RR v1 v2 v3 = some r) : Ct l yX3_set cX3_set 5 ((some .int)) G rm_X3_set [.ref (xa 0), .int v1, .int v2, .int v3] (xm G xa FA (fa 0) ra xq ak RR ++ ([rcw ra r1 r2 r3 r4 r5] ++ (fw G fa N fp fq t0 t1 t2 t3 t4 t5 tL))) (fun o w => o = some (.int r.1) ∧ w = (xm G xa FA (fa 0) ra xq ak r.2 ++ ([rcw ra r1 r2 r3 r4 r5] ++ (fw G fa N fp fq t0 t1 t2 t3 t4 t5 tL)))) 0 0 := Ct.of (by decide) (Nat.le_of_ble_eq_true rfl) (fun p e s m args below meth c A C _ => w_X3_set C h)
abbrev rm_X3_at : Room := { frames := 1, cells := 0, slots := 0, locals := 21 }
theorem pk_X3_at : PkV RX3 yX3_at cX3_at 3 ((some .int)) 2 := ⟨rfl, co_X3_at, ini_RX3, im_X3_at, se_X3_at, by decide +kernel⟩
set_option maxRecDepth 20000 in
set_option maxHeartbeats 4000000 in
theorem w_X3_at {fa : Nat → Nat} {N : Nat} {ra : Nat} {xa : Nat → Nat} {FA : Nat → Option Nat} {ak : Int64} {r1 : Int32} {r2 : Int32} {r3 : Int32} {r4 : Int32} {r5 : Int32} {fp : Int32} {fq : Int32} {t0 : Nat → Int32} {t1 : Nat → Int32} {t2 : Nat → Int32} {t3 : Nat → Int32} {t4 : Nat → Int32} {t5 : Nat → Int32} {tL : Nat → Option Nat} {fu : Nat}  {xq : Int32} {RR : Nat → Nat → Int32} {v1 : Int32} {v2 : Int32} {r : Int32} (C : Cx p s m args meth c G A RX3 cX3_at 3 ((some .int)))   (h : X3_at fu N  xq RR v1 v2 = some r) : Wd p l e rm_X3_at s m args below meth c G A 3 0 0 (QQ G A (fun o w => o = some (.int r) ∧ w = (xm G xa FA (fa 0) ra xq ak RR ++ ([rcw ra r1 r2 r3 r4 r5] ++ (fw G fa N fp fq t0 t1 t2 t3 t4 t5 tL)))) below args s 0 0) (xm G xa FA (fa 0) ra xq ak RR ++ ([rcw ra r1 r2 r3 r4 r5] ++ (fw G fa N fp fq t0 t1 t2 t3 t4 t5 tL))) [(0, .ref (xa 0)), (1, .int v1), (2, .int v2)] 0 [] := by
  unfold X3_at at h
  refine w_iload_n C 1 rfl dX3_at_0 ?_
  obtain ⟨x1, hx1, h⟩ := bd_some h
  refine w_cSi C (c_X3_isMap fu  hx1) pk_X3_isMap ml_X3_64 (As := [.int v1]) (rest := []) ⟨⟨rfl, rfl⟩, Nat.le_of_ble_eq_true rfl, Nat.le_of_ble_eq_true rfl⟩ rfl ⟨(Nat.le_of_ble_eq_true rfl), (Nat.le_of_ble_eq_true rfl)⟩ (Nat.le_of_ble_eq_true rfl) rfl (List.append_nil _).symm (List.append_nil _) dX3_at_1 ?_
  refine w_if_eq (tgt := 15) C dX3_at_4 (by decide) (fun hb2 => ?_) (fun hb2 => ?_)
  · have h := if_t hb2 h
    refine w_iconst (v := (-1)) C dX3_at_15 (by decide) ?_
    cases h
    exact w_iret C ⟨rfl, rfl⟩ dX3_at_16
  · have h := if_f hb2 h
    refine w_aload_n C 0 rfl dX3_at_7 ?_
    refine w_iload_n C 2 rfl dX3_at_8 ?_
    obtain ⟨x3, hx3, h⟩ := bd_some h
    refine w_cVi (wr := []) (qc := (RX3, TX3, 8)) C (c_X3_isNumber fu  hx3) pk_X3_isNumber ml_X3_46 (As := [.int v2]) (rest := []) (k9 := 0) rfl rfl ⟨⟨rfl, rfl⟩, Nat.le_of_ble_eq_true rfl, Nat.le_of_ble_eq_true rfl⟩ rfl ⟨(Nat.le_of_ble_eq_true rfl), (Nat.le_of_ble_eq_true rfl)⟩ (Nat.le_of_ble_eq_true rfl) rfl rfl (List.nil_append _) dX3_at_9 ?_
    refine w_if_ne (tgt := 17) C dX3_at_12 (by decide) (fun hb4 => ?_) (fun hb4 => ?_)
    · have h := if_f hb4 h
      refine w_aload_n C 0 rfl dX3_at_17 ?_
      refine gt_X3_17 C dX3_at_18 ?_
      refine w_iload_n C 1 rfl dX3_at_21 ?_
      obtain ⟨hi5, h⟩ := ckI_some h
      refine ld_maps C hi5 dX3_at_22 ?_
      refine w_iload_n C 2 rfl dX3_at_23 ?_
      obtain ⟨hi6, h⟩ := ckI_some h
      refine ld_row C (Nat.lt_trans (vp_lt hi5) (by decide)) hi6 dX3_at_24 ?_
      cases h
      exact w_iret C ⟨rfl, rfl⟩ dX3_at_25
    · have h := if_t hb4 h
      refine w_iconst (v := (-1)) C dX3_at_15 (by decide) ?_
      cases h
      exact w_iret C ⟨rfl, rfl⟩ dX3_at_16
theorem c_X3_at {l : Launch} {G : GG} {fa : Nat → Nat} {N : Nat} {ra : Nat} {xa : Nat → Nat} {FA : Nat → Option Nat} {xq : Int32} {ak : Int64} {RR : Nat → Nat → Int32} {r1 : Int32} {r2 : Int32} {r3 : Int32} {r4 : Int32} {r5 : Int32} {fp : Int32} {fq : Int32} {t0 : Nat → Int32} {t1 : Nat → Int32} {t2 : Nat → Int32} {t3 : Nat → Int32} {t4 : Nat → Int32} {t5 : Nat → Int32} {tL : Nat → Option Nat} (fu : Nat) {v1 : Int32} {v2 : Int32} {r : Int32} (h : X3_at fu N xq RR v1 v2 = some r) : Ct l yX3_at cX3_at 3 ((some .int)) G rm_X3_at [.ref (xa 0), .int v1, .int v2] (xm G xa FA (fa 0) ra xq ak RR ++ ([rcw ra r1 r2 r3 r4 r5] ++ (fw G fa N fp fq t0 t1 t2 t3 t4 t5 tL))) (fun o w => o = some (.int r) ∧ w = (xm G xa FA (fa 0) ra xq ak RR ++ ([rcw ra r1 r2 r3 r4 r5] ++ (fw G fa N fp fq t0 t1 t2 t3 t4 t5 tL)))) 0 0 := Ct.of (by decide) (Nat.le_of_ble_eq_true rfl) (fun p e s m args below meth c A C _ => w_X3_at C h)
abbrev rm_X3_coefficientOf : Room := { frames := 1, cells := 0, slots := 0, locals := 22 }
theorem pk_X3_coefficientOf : PkV RX3 yX3_coefficientOf cX3_coefficientOf 5 ((some .int)) 2 := ⟨rfl, co_X3_coefficientOf, ini_RX3, im_X3_coefficientOf, se_X3_coefficientOf, by decide +kernel⟩
set_option maxRecDepth 20000 in
set_option maxHeartbeats 4000000 in
theorem w_X3_coefficientOf_13 {fa : Nat → Nat} {N : Nat} {ra : Nat} {xa : Nat → Nat} {FA : Nat → Option Nat} {ak : Int64} {r1 : Int32} {r2 : Int32} {r3 : Int32} {r4 : Int32} {r5 : Int32} {fp : Int32} {t4 : Nat → Int32} {t5 : Nat → Int32} {tL : Nat → Option Nat} {xq : Int32} {RR : Nat → Nat → Int32} {fq : Int32} {t0 : Nat → Int32} {t1 : Nat → Int32} {t2 : Nat → Int32} {t3 : Nat → Int32} {j1 : Nat} {v2 : Int32} {fu : Nat}  {r : Int32} (C : Cx p s m args meth c G A RX3 cX3_coefficientOf 5 ((some .int))) (hj1 : j1 < 6)  : ∀ (fk : Nat) (v3 : Int32) (v4 : Int32), X3_coefficientOf_13 fu N  xq RR fq t0 t1 t2 t3 j1 v2 fk v3 v4 = some r → Wd p l e rm_X3_coefficientOf s m args below meth c G A 5 0 0 (QQ G A (fun o w => o = some (.int r) ∧ w = (xm G xa FA (fa 0) ra xq ak RR ++ ([rcw ra r1 r2 r3 r4 r5] ++ (fw G fa N fp fq t0 t1 t2 t3 t4 t5 tL)))) below args s 0 0) (xm G xa FA (fa 0) ra xq ak RR ++ ([rcw ra r1 r2 r3 r4 r5] ++ (fw G fa N fp fq t0 t1 t2 t3 t4 t5 tL))) [(0, .ref (xa 0)), (1, .ref (xa (3 + j1))), (2, .int v2), (3, .int v3), (4, .int v4)] 13 [] := by
  intro fk
  induction fk with
  | zero =>
    intro v3 v4 h
    have h : (none : Option Int32) = some r := h
    cases h
  | succ fk ih =>
    intro v3 v4 h
    have h : X3_coefficientOf_13_b fu N  xq RR fq t0 t1 t2 t3 j1 v2 (X3_coefficientOf_13 fu N  xq RR fq t0 t1 t2 t3 j1 v2 fk) v3 v4 = some r := h
    unfold X3_coefficientOf_13_b at h
    refine w_iload C 4 rfl dX3_coefficientOf_13 ?_
    refine w_aload_n C 0 rfl dX3_coefficientOf_15 ?_
    refine gt_X3_42 C dX3_coefficientOf_16 ?_
    refine w_icmp_ge (tgt := 65) C dX3_coefficientOf_19 (by decide) (fun hb2 => ?_) (fun hb2 => ?_)
    · have h := if_t hb2 h
      refine w_aload_n C 0 rfl dX3_coefficientOf_65 ?_
      refine gt_X3_49 C dX3_coefficientOf_66 ?_
      refine w_iconst (v := 0) C dX3_coefficientOf_69 (by decide) ?_
      refine w_iload_n C 3 rfl dX3_coefficientOf_70 ?_
      obtain ⟨x3, hx3, h⟩ := bd_some h
      refine w_cVi (qc := (RX0, TX0, 9)) C (c_X0_less fu  hx3) pk_X0_less ml_X3_71 (As := [.int 0, .int v3]) (rest := []) (k9 := 0) rfl rfl ⟨⟨rfl, rfl⟩, Nat.le_of_ble_eq_true rfl, Nat.le_of_ble_eq_true rfl⟩ rfl ⟨(Nat.le_of_ble_eq_true rfl), (Nat.le_of_ble_eq_true rfl)⟩ (Nat.le_of_ble_eq_true rfl) rfl (List.append_assoc _ _ _).symm (List.append_assoc _ _ _) dX3_coefficientOf_71 ?_
      cases h
      exact w_iret C ⟨rfl, rfl⟩ dX3_coefficientOf_74
    · have h := if_f hb2 h
      refine w_aload_n C 0 rfl dX3_coefficientOf_22 ?_
      refine gt_X3_49 C dX3_coefficientOf_23 ?_
      refine w_iload_n C 3 rfl dX3_coefficientOf_26 ?_
      refine w_aload_n C 0 rfl dX3_coefficientOf_27 ?_
      refine gt_X3_49 C dX3_coefficientOf_28 ?_
      refine w_aload_n C 1 rfl dX3_coefficientOf_31 ?_
      refine w_iload C 4 rfl dX3_coefficientOf_32 ?_
      obtain ⟨hi4, h⟩ := ckI_some h
      refine ld_row C hj1 hi4 dX3_coefficientOf_34 ?_
      refine w_aload_n C 0 rfl dX3_coefficientOf_35 ?_
      refine gt_X3_49 C dX3_coefficientOf_36 ?_
      refine w_iload C 4 rfl dX3_coefficientOf_39 ?_
      refine w_aload_n C 0 rfl dX3_coefficientOf_41 ?_
      refine gt_X3_42 C dX3_coefficientOf_42 ?_
      refine w_iconst (v := 1) C dX3_coefficientOf_45 (by decide) ?_
      refine w_isub C dX3_coefficientOf_46 ?_
      refine w_iload_n C 2 rfl dX3_coefficientOf_47 ?_
      refine w_isub C dX3_coefficientOf_48 ?_
      obtain ⟨x5, hx5, h⟩ := bd_some h
      refine w_cVi (qc := (RX0, TX0, 9)) C (c_X0_raised fu  hx5) pk_X0_raised ml_X3_74 (As := [.int v4, .int ((xq - 1) - v2)]) (rest := [.int (RR j1 v4.toNatClampNeg), .ref (fa 0), .int v3, .ref (fa 0)]) (k9 := 0) rfl rfl ⟨⟨rfl, rfl⟩, Nat.le_of_ble_eq_true rfl, Nat.le_of_ble_eq_true rfl⟩ rfl ⟨(Nat.le_of_ble_eq_true rfl), (Nat.le_of_ble_eq_true rfl)⟩ (Nat.le_of_ble_eq_true rfl) rfl (List.append_assoc _ _ _).symm (List.append_assoc _ _ _) dX3_coefficientOf_49 ?_
      obtain ⟨x6, hx6, h⟩ := bd_some h
      refine w_cVi (qc := (RX0, TX0, 9)) C (c_X0_product fu  hx6) pk_X0_product ml_X3_57 (As := [.int (RR j1 v4.toNatClampNeg), .int x5]) (rest := [.int v3, .ref (fa 0)]) (k9 := 0) rfl rfl ⟨⟨rfl, rfl⟩, Nat.le_of_ble_eq_true rfl, Nat.le_of_ble_eq_true rfl⟩ rfl ⟨(Nat.le_of_ble_eq_true rfl), (Nat.le_of_ble_eq_true rfl)⟩ (Nat.le_of_ble_eq_true rfl) rfl (List.append_assoc _ _ _).symm (List.append_assoc _ _ _) dX3_coefficientOf_52 ?_
      obtain ⟨x7, hx7, h⟩ := bd_some h
      refine w_cVi (qc := (RX0, TX0, 9)) C (c_X0_sum fu  hx7) pk_X0_sum ml_X3_53 (As := [.int v3, .int x6]) (rest := []) (k9 := 0) rfl rfl ⟨⟨rfl, rfl⟩, Nat.le_of_ble_eq_true rfl, Nat.le_of_ble_eq_true rfl⟩ rfl ⟨(Nat.le_of_ble_eq_true rfl), (Nat.le_of_ble_eq_true rfl)⟩ (Nat.le_of_ble_eq_true rfl) rfl (List.append_assoc _ _ _).symm (List.append_assoc _ _ _) dX3_coefficientOf_55 ?_
      refine w_istore_n C (Nat.le_of_ble_eq_true rfl) rfl dX3_coefficientOf_58 ?_
      refine w_iinc (v := v4 + 1) (k := 4) C rfl rfl (Nat.le_of_ble_eq_true rfl) rfl dX3_coefficientOf_59 ?_
      refine w_goto (tgt := 13) C dX3_coefficientOf_62 (by decide) ?_
      refine w_lv [2, 3, 4, 1, 0] rfl ?_
      exact ih _ _ h
set_option maxRecDepth 20000 in
set_option maxHeartbeats 4000000 in
theorem w_X3_coefficientOf {fa : Nat → Nat} {N : Nat} {ra : Nat} {xa : Nat → Nat} {FA : Nat → Option Nat} {ak : Int64} {r1 : Int32} {r2 : Int32} {r3 : Int32} {r4 : Int32} {r5 : Int32} {fp : Int32} {t4 : Nat → Int32} {t5 : Nat → Int32} {tL : Nat → Option Nat} {fu : Nat}  {xq : Int32} {RR : Nat → Nat → Int32} {fq : Int32} {t0 : Nat → Int32} {t1 : Nat → Int32} {t2 : Nat → Int32} {t3 : Nat → Int32} {j1 : Nat} {v2 : Int32} {r : Int32} (C : Cx p s m args meth c G A RX3 cX3_coefficientOf 5 ((some .int))) (hj1 : j1 < 6)  (h : X3_coefficientOf fu N  xq RR fq t0 t1 t2 t3 j1 v2 = some r) : Wd p l e rm_X3_coefficientOf s m args below meth c G A 5 0 0 (QQ G A (fun o w => o = some (.int r) ∧ w = (xm G xa FA (fa 0) ra xq ak RR ++ ([rcw ra r1 r2 r3 r4 r5] ++ (fw G fa N fp fq t0 t1 t2 t3 t4 t5 tL)))) below args s 0 0) (xm G xa FA (fa 0) ra xq ak RR ++ ([rcw ra r1 r2 r3 r4 r5] ++ (fw G fa N fp fq t0 t1 t2 t3 t4 t5 tL))) [(0, .ref (xa 0)), (1, .ref (xa (3 + j1))), (2, .int v2)] 0 [] := by
  unfold X3_coefficientOf at h
  refine w_iload_n C 2 rfl dX3_coefficientOf_0 ?_
  refine w_if_ne (tgt := 8) C dX3_coefficientOf_1 (by decide) (fun hb1 => ?_) (fun hb1 => ?_)
  · have h := if_f hb1 h
    refine w_iconst (v := 0) C dX3_coefficientOf_8 (by decide) ?_
    refine w_istore_n C (Nat.le_of_ble_eq_true rfl) rfl dX3_coefficientOf_9 ?_
    refine w_iconst (v := 0) C dX3_coefficientOf_10 (by decide) ?_
    refine w_istore C (Nat.le_of_ble_eq_true rfl) rfl dX3_coefficientOf_11 ?_
    refine w_lv [2, 3, 4, 1, 0] rfl ?_
    exact w_X3_coefficientOf_13 C  hj1  _ _ _ h
  · have h := if_t hb1 h
    refine w_aload_n C 1 rfl dX3_coefficientOf_4 ?_
    refine w_iconst (v := 0) C dX3_coefficientOf_5 (by decide) ?_
    obtain ⟨hi8, h⟩ := ckI_some h
    refine ld_row C hj1 hi8 dX3_coefficientOf_6 ?_
    cases h
    exact w_iret C ⟨rfl, rfl⟩ dX3_coefficientOf_7
theorem c_X3_coefficientOf {l : Launch} {G : GG} {fa : Nat → Nat} {N : Nat} {ra : Nat} {xa : Nat → Nat} {FA : Nat → Option Nat} {xq : Int32} {ak : Int64} {RR : Nat → Nat → Int32} {r1 : Int32} {r2 : Int32} {r3 : Int32} {r4 : Int32} {r5 : Int32} {fp : Int32} {fq : Int32} {t0 : Nat → Int32} {t1 : Nat → Int32} {t2 : Nat → Int32} {t3 : Nat → Int32} {t4 : Nat → Int32} {t5 : Nat → Int32} {tL : Nat → Option Nat} (fu : Nat) {j1 : Nat} {v2 : Int32} (hj1 : j1 < 6) {r : Int32} (h : X3_coefficientOf fu N xq RR fq t0 t1 t2 t3 j1 v2 = some r) : Ct l yX3_coefficientOf cX3_coefficientOf 5 ((some .int)) G rm_X3_coefficientOf [.ref (xa 0), .ref (xa (3 + j1)), .int v2] (xm G xa FA (fa 0) ra xq ak RR ++ ([rcw ra r1 r2 r3 r4 r5] ++ (fw G fa N fp fq t0 t1 t2 t3 t4 t5 tL))) (fun o w => o = some (.int r) ∧ w = (xm G xa FA (fa 0) ra xq ak RR ++ ([rcw ra r1 r2 r3 r4 r5] ++ (fw G fa N fp fq t0 t1 t2 t3 t4 t5 tL)))) 0 0 := Ct.of (by decide) (Nat.le_of_ble_eq_true rfl) (fun p e s m args below meth c A C _ => w_X3_coefficientOf C hj1 h)
abbrev rm_X3_coefficient : Room := { frames := 2, cells := 0, slots := 0, locals := 46 }
theorem pk_X3_coefficient : PkV RX3 yX3_coefficient cX3_coefficient 3 ((some .int)) 2 := ⟨rfl, co_X3_coefficient, ini_RX3, im_X3_coefficient, se_X3_coefficient, by decide +kernel⟩
set_option maxRecDepth 20000 in
set_option maxHeartbeats 4000000 in
theorem w_X3_coefficient {fa : Nat → Nat} {N : Nat} {ra : Nat} {xa : Nat → Nat} {FA : Nat → Option Nat} {ak : Int64} {r1 : Int32} {r2 : Int32} {r3 : Int32} {r4 : Int32} {r5 : Int32} {fp : Int32} {t4 : Nat → Int32} {t5 : Nat → Int32} {tL : Nat → Option Nat} {fu : Nat}  {xq : Int32} {RR : Nat → Nat → Int32} {fq : Int32} {t0 : Nat → Int32} {t1 : Nat → Int32} {t2 : Nat → Int32} {t3 : Nat → Int32} {v1 : Int32} {v2 : Int32} {r : Int32} (C : Cx p s m args meth c G A RX3 cX3_coefficient 3 ((some .int)))   (h : X3_coefficient fu N  xq RR fq t0 t1 t2 t3 v1 v2 = some r) : Wd p l e rm_X3_coefficient s m args below meth c G A 3 0 0 (QQ G A (fun o w => o = some (.int r) ∧ w = (xm G xa FA (fa 0) ra xq ak RR ++ ([rcw ra r1 r2 r3 r4 r5] ++ (fw G fa N fp fq t0 t1 t2 t3 t4 t5 tL)))) below args s 0 0) (xm G xa FA (fa 0) ra xq ak RR ++ ([rcw ra r1 r2 r3 r4 r5] ++ (fw G fa N fp fq t0 t1 t2 t3 t4 t5 tL))) [(0, .ref (xa 0)), (1, .int v1), (2, .int v2)] 0 [] := by
  unfold X3_coefficient at h
  refine w_iload_n C 1 rfl dX3_coefficient_0 ?_
  obtain ⟨x1, hx1, h⟩ := bd_some h
  refine w_cSi C (c_X3_isMap fu  hx1) pk_X3_isMap ml_X3_64 (As := [.int v1]) (rest := []) ⟨⟨rfl, rfl⟩, Nat.le_of_ble_eq_true rfl, Nat.le_of_ble_eq_true rfl⟩ rfl ⟨(Nat.le_of_ble_eq_true rfl), (Nat.le_of_ble_eq_true rfl)⟩ (Nat.le_of_ble_eq_true rfl) rfl (List.append_nil _).symm (List.append_nil _) dX3_coefficient_1 ?_
  refine w_if_eq (tgt := 15) C dX3_coefficient_4 (by decide) (fun hb2 => ?_) (fun hb2 => ?_)
  · have h := if_t hb2 h
    refine w_iconst (v := (-1)) C dX3_coefficient_15 (by decide) ?_
    cases h
    exact w_iret C ⟨rfl, rfl⟩ dX3_coefficient_16
  · have h := if_f hb2 h
    refine w_aload_n C 0 rfl dX3_coefficient_7 ?_
    refine w_iload_n C 2 rfl dX3_coefficient_8 ?_
    obtain ⟨x3, hx3, h⟩ := bd_some h
    refine w_cVi (wr := []) (qc := (RX3, TX3, 8)) C (c_X3_isNumber fu  hx3) pk_X3_isNumber ml_X3_46 (As := [.int v2]) (rest := []) (k9 := 0) rfl rfl ⟨⟨rfl, rfl⟩, Nat.le_of_ble_eq_true rfl, Nat.le_of_ble_eq_true rfl⟩ rfl ⟨(Nat.le_of_ble_eq_true rfl), (Nat.le_of_ble_eq_true rfl)⟩ (Nat.le_of_ble_eq_true rfl) rfl rfl (List.nil_append _) dX3_coefficient_9 ?_
    refine w_if_ne (tgt := 17) C dX3_coefficient_12 (by decide) (fun hb4 => ?_) (fun hb4 => ?_)
    · have h := if_f hb4 h
      refine w_aload_n C 0 rfl dX3_coefficient_17 ?_
      refine w_aload_n C 0 rfl dX3_coefficient_18 ?_
      refine gt_X3_17 C dX3_coefficient_19 ?_
      refine w_iload_n C 1 rfl dX3_coefficient_22 ?_
      obtain ⟨hi5, h⟩ := ckI_some h
      refine ld_maps C hi5 dX3_coefficient_23 ?_
      refine w_iload_n C 2 rfl dX3_coefficient_24 ?_
      obtain ⟨x6, hx6, h⟩ := bd_some h
      refine w_cVi (wr := []) (qc := (RX3, TX3, 8)) C (c_X3_coefficientOf fu (Nat.lt_trans (vp_lt hi5) (by decide)) hx6) pk_X3_coefficientOf ml_X3_67 (As := [.ref (xa (3 + v1.toNatClampNeg)), .int v2]) (rest := []) (k9 := 0) rfl rfl ⟨⟨rfl, rfl⟩, Nat.le_of_ble_eq_true rfl, Nat.le_of_ble_eq_true rfl⟩ rfl ⟨(Nat.le_of_ble_eq_true rfl), (Nat.le_of_ble_eq_true rfl)⟩ (Nat.le_of_ble_eq_true rfl) rfl rfl (List.nil_append _) dX3_coefficient_25 ?_
      cases h
      exact w_iret C ⟨rfl, rfl⟩ dX3_coefficient_28
    · have h := if_t hb4 h
      refine w_iconst (v := (-1)) C dX3_coefficient_15 (by decide) ?_
      cases h
      exact w_iret C ⟨rfl, rfl⟩ dX3_coefficient_16
theorem c_X3_coefficient {l : Launch} {G : GG} {fa : Nat → Nat} {N : Nat} {ra : Nat} {xa : Nat → Nat} {FA : Nat → Option Nat} {xq : Int32} {ak : Int64} {RR : Nat → Nat → Int32} {r1 : Int32} {r2 : Int32} {r3 : Int32} {r4 : Int32} {r5 : Int32} {fp : Int32} {fq : Int32} {t0 : Nat → Int32} {t1 : Nat → Int32} {t2 : Nat → Int32} {t3 : Nat → Int32} {t4 : Nat → Int32} {t5 : Nat → Int32} {tL : Nat → Option Nat} (fu : Nat) {v1 : Int32} {v2 : Int32} {r : Int32} (h : X3_coefficient fu N xq RR fq t0 t1 t2 t3 v1 v2 = some r) : Ct l yX3_coefficient cX3_coefficient 3 ((some .int)) G rm_X3_coefficient [.ref (xa 0), .int v1, .int v2] (xm G xa FA (fa 0) ra xq ak RR ++ ([rcw ra r1 r2 r3 r4 r5] ++ (fw G fa N fp fq t0 t1 t2 t3 t4 t5 tL))) (fun o w => o = some (.int r) ∧ w = (xm G xa FA (fa 0) ra xq ak RR ++ ([rcw ra r1 r2 r3 r4 r5] ++ (fw G fa N fp fq t0 t1 t2 t3 t4 t5 tL)))) 0 0 := Ct.of (by decide) (Nat.le_of_ble_eq_true rfl) (fun p e s m args below meth c A C _ => w_X3_coefficient C h)
abbrev rm_X3_change : Room := { frames := 2, cells := 0, slots := 0, locals := 46 }
theorem pk_X3_change : PkV RX3 yX3_change cX3_change 8 ((some .int)) 3 := ⟨rfl, co_X3_change, ini_RX3, im_X3_change, se_X3_change, by decide +kernel⟩
set_option maxRecDepth 20000 in
set_option maxHeartbeats 4000000 in
theorem w_X3_change_57 {fa : Nat → Nat} {N : Nat} {ra : Nat} {xa : Nat → Nat} {FA : Nat → Option Nat} {ak : Int64} {r1 : Int32} {r2 : Int32} {r3 : Int32} {r4 : Int32} {r5 : Int32} {fp : Int32} {t4 : Nat → Int32} {t5 : Nat → Int32} {tL : Nat → Option Nat} {xq : Int32} {fq : Int32} {t0 : Nat → Int32} {t1 : Nat → Int32} {t2 : Nat → Int32} {t3 : Nat → Int32} {v2 : Int32} {j4 : Nat} {v5 : Int32} {v6 : Int32} {fu : Nat}  {r : Int32 × (Nat → Nat → Int32)} (C : Cx p s m args meth c G A RX3 cX3_change 8 ((some .int))) (hj4 : j4 < 6)  : ∀ (fk : Nat) (RR : Nat → Nat → Int32) (v7 : Int32), X3_change_57 fu N  xq fq t0 t1 t2 t3 v2 j4 v5 v6 fk RR v7 = some r → Wd p l e rm_X3_change s m args below meth c G A 8 0 0 (QQ G A (fun o w => o = some (.int r.1) ∧ w = (xm G xa FA (fa 0) ra xq ak r.2 ++ ([rcw ra r1 r2 r3 r4 r5] ++ (fw G fa N fp fq t0 t1 t2 t3 t4 t5 tL)))) below args s 0 0) (xm G xa FA (fa 0) ra xq ak RR ++ ([rcw ra r1 r2 r3 r4 r5] ++ (fw G fa N fp fq t0 t1 t2 t3 t4 t5 tL))) [(0, .ref (xa 0)), (2, .int v2), (4, .ref (xa (3 + j4))), (5, .int v5), (6, .int v6), (7, .int v7)] 57 [] := by
  intro fk
  induction fk with
  | zero =>
    intro RR v7 h
    have h : (none : Option (Int32 × (Nat → Nat → Int32))) = some r := h
    cases h
  | succ fk ih =>
    intro RR v7 h
    have h : X3_change_57_b fu N  xq fq t0 t1 t2 t3 v2 j4 v5 v6 (X3_change_57 fu N  xq fq t0 t1 t2 t3 v2 j4 v5 v6 fk) RR v7 = some r := h
    unfold X3_change_57_b at h
    refine w_iload C 5 rfl dX3_change_57 ?_
    refine w_aload_n C 0 rfl dX3_change_59 ?_
    refine gt_X3_42 C dX3_change_60 ?_
    refine w_icmp_ge (tgt := 108) C dX3_change_63 (by decide) (fun hb10 => ?_) (fun hb10 => ?_)
    · have h := if_t hb10 h
      refine w_iload C 3 rfl dX3_change_108 ?_
      cases h
      exact w_iret C ⟨rfl, rfl⟩ dX3_change_110
    · have h := if_f hb10 h
      refine w_aload C 2 rfl dX3_change_66 ?_
      refine w_iload C 5 rfl dX3_change_68 ?_
      refine w_aload_n C 0 rfl dX3_change_70 ?_
      refine gt_X3_49 C dX3_change_71 ?_
      refine w_aload C 2 rfl dX3_change_74 ?_
      refine w_iload C 5 rfl dX3_change_76 ?_
      obtain ⟨hi11, h⟩ := ckI_some h
      refine ld_row C hj4 hi11 dX3_change_78 ?_
      refine w_aload_n C 0 rfl dX3_change_79 ?_
      refine gt_X3_49 C dX3_change_80 ?_
      refine w_iload C 4 rfl dX3_change_83 ?_
      refine w_aload_n C 0 rfl dX3_change_85 ?_
      refine gt_X3_49 C dX3_change_86 ?_
      refine w_iload C 5 rfl dX3_change_89 ?_
      refine w_iload_n C 1 rfl dX3_change_91 ?_
      obtain ⟨x12, hx12, h⟩ := bd_some h
      refine w_cVi (qc := (RX0, TX0, 9)) C (c_X0_raised fu  hx12) pk_X0_raised ml_X3_74 (As := [.int v7, .int v2]) (rest := [.int v6, .ref (fa 0), .int (RR j4 v7.toNatClampNeg), .ref (fa 0), .int v7, .ref (xa (3 + j4))]) (k9 := 0) rfl rfl ⟨⟨rfl, rfl⟩, Nat.le_of_ble_eq_true rfl, Nat.le_of_ble_eq_true rfl⟩ rfl ⟨(Nat.le_of_ble_eq_true rfl), (Nat.le_of_ble_eq_true rfl)⟩ (Nat.le_of_ble_eq_true rfl) rfl (List.append_assoc _ _ _).symm (List.append_assoc _ _ _) dX3_change_92 ?_
      obtain ⟨x13, hx13, h⟩ := bd_some h
      refine w_cVi (qc := (RX0, TX0, 9)) C (c_X0_product fu  hx13) pk_X0_product ml_X3_57 (As := [.int v6, .int x12]) (rest := [.int (RR j4 v7.toNatClampNeg), .ref (fa 0), .int v7, .ref (xa (3 + j4))]) (k9 := 0) rfl rfl ⟨⟨rfl, rfl⟩, Nat.le_of_ble_eq_true rfl, Nat.le_of_ble_eq_true rfl⟩ rfl ⟨(Nat.le_of_ble_eq_true rfl), (Nat.le_of_ble_eq_true rfl)⟩ (Nat.le_of_ble_eq_true rfl) rfl (List.append_assoc _ _ _).symm (List.append_assoc _ _ _) dX3_change_95 ?_
      obtain ⟨x14, hx14, h⟩ := bd_some h
      refine w_cVi (qc := (RX0, TX0, 9)) C (c_X0_sum fu  hx14) pk_X0_sum ml_X3_53 (As := [.int (RR j4 v7.toNatClampNeg), .int x13]) (rest := [.int v7, .ref (xa (3 + j4))]) (k9 := 0) rfl rfl ⟨⟨rfl, rfl⟩, Nat.le_of_ble_eq_true rfl, Nat.le_of_ble_eq_true rfl⟩ rfl ⟨(Nat.le_of_ble_eq_true rfl), (Nat.le_of_ble_eq_true rfl)⟩ (Nat.le_of_ble_eq_true rfl) rfl (List.append_assoc _ _ _).symm (List.append_assoc _ _ _) dX3_change_98 ?_
      obtain ⟨hi15, h⟩ := ckI_some h
      refine sr_row C hj4 hi15 dX3_change_101 ?_
      refine w_iinc (v := v7 + 1) (k := 5) C rfl rfl (Nat.le_of_ble_eq_true rfl) rfl dX3_change_102 ?_
      refine w_goto (tgt := 57) C dX3_change_105 (by decide) ?_
      refine w_lv [1, 2, 3, 4, 5, 0] rfl ?_
      exact ih _ _ h
set_option maxRecDepth 20000 in
set_option maxHeartbeats 4000000 in
theorem w_X3_change {fa : Nat → Nat} {N : Nat} {ra : Nat} {xa : Nat → Nat} {FA : Nat → Option Nat} {ak : Int64} {r1 : Int32} {r2 : Int32} {r3 : Int32} {r4 : Int32} {r5 : Int32} {fp : Int32} {t4 : Nat → Int32} {t5 : Nat → Int32} {tL : Nat → Option Nat} {fu : Nat}  {xq : Int32} {RR : Nat → Nat → Int32} {fq : Int32} {t0 : Nat → Int32} {t1 : Nat → Int32} {t2 : Nat → Int32} {t3 : Nat → Int32} {v1 : Int32} {v2 : Int32} {v3 : Int32} {r : Int32 × (Nat → Nat → Int32)} (C : Cx p s m args meth c G A RX3 cX3_change 8 ((some .int)))   (h : X3_change fu N  xq RR fq t0 t1 t2 t3 v1 v2 v3 = some r) : Wd p l e rm_X3_change s m args below meth c G A 8 0 0 (QQ G A (fun o w => o = some (.int r.1) ∧ w = (xm G xa FA (fa 0) ra xq ak r.2 ++ ([rcw ra r1 r2 r3 r4 r5] ++ (fw G fa N fp fq t0 t1 t2 t3 t4 t5 tL)))) below args s 0 0) (xm G xa FA (fa 0) ra xq ak RR ++ ([rcw ra r1 r2 r3 r4 r5] ++ (fw G fa N fp fq t0 t1 t2 t3 t4 t5 tL))) [(0, .ref (xa 0)), (1, .int v1), (2, .int v2), (3, .int v3)] 0 [] := by
  unfold X3_change at h
  refine w_iload_n C 1 rfl dX3_change_0 ?_
  obtain ⟨x1, hx1, h⟩ := bd_some h
  refine w_cSi C (c_X3_isMap fu  hx1) pk_X3_isMap ml_X3_64 (As := [.int v1]) (rest := []) ⟨⟨rfl, rfl⟩, Nat.le_of_ble_eq_true rfl, Nat.le_of_ble_eq_true rfl⟩ rfl ⟨(Nat.le_of_ble_eq_true rfl), (Nat.le_of_ble_eq_true rfl)⟩ (Nat.le_of_ble_eq_true rfl) rfl (List.append_nil _).symm (List.append_nil _) dX3_change_1 ?_
  refine w_if_eq (tgt := 23) C dX3_change_4 (by decide) (fun hb2 => ?_) (fun hb2 => ?_)
  · have h := if_t hb2 h
    refine w_iconst (v := (-1)) C dX3_change_23 (by decide) ?_
    cases h
    exact w_iret C ⟨rfl, rfl⟩ dX3_change_24
  · have h := if_f hb2 h
    refine w_aload_n C 0 rfl dX3_change_7 ?_
    refine w_iload_n C 2 rfl dX3_change_8 ?_
    obtain ⟨x3, hx3, h⟩ := bd_some h
    refine w_cVi (wr := []) (qc := (RX3, TX3, 8)) C (c_X3_isNumber fu  hx3) pk_X3_isNumber ml_X3_46 (As := [.int v2]) (rest := []) (k9 := 0) rfl rfl ⟨⟨rfl, rfl⟩, Nat.le_of_ble_eq_true rfl, Nat.le_of_ble_eq_true rfl⟩ rfl ⟨(Nat.le_of_ble_eq_true rfl), (Nat.le_of_ble_eq_true rfl)⟩ (Nat.le_of_ble_eq_true rfl) rfl rfl (List.nil_append _) dX3_change_9 ?_
    refine w_if_eq (tgt := 23) C dX3_change_12 (by decide) (fun hb4 => ?_) (fun hb4 => ?_)
    · have h := if_t hb4 h
      refine w_iconst (v := (-1)) C dX3_change_23 (by decide) ?_
      cases h
      exact w_iret C ⟨rfl, rfl⟩ dX3_change_24
    · have h := if_f hb4 h
      refine w_aload_n C 0 rfl dX3_change_15 ?_
      refine w_iload_n C 3 rfl dX3_change_16 ?_
      obtain ⟨x5, hx5, h⟩ := bd_some h
      refine w_cVi (wr := []) (qc := (RX3, TX3, 8)) C (c_X3_isNumber fu  hx5) pk_X3_isNumber ml_X3_46 (As := [.int v3]) (rest := []) (k9 := 0) rfl rfl ⟨⟨rfl, rfl⟩, Nat.le_of_ble_eq_true rfl, Nat.le_of_ble_eq_true rfl⟩ rfl ⟨(Nat.le_of_ble_eq_true rfl), (Nat.le_of_ble_eq_true rfl)⟩ (Nat.le_of_ble_eq_true rfl) rfl rfl (List.nil_append _) dX3_change_17 ?_
      refine w_if_ne (tgt := 25) C dX3_change_20 (by decide) (fun hb6 => ?_) (fun hb6 => ?_)
      · have h := if_f hb6 h
        refine w_aload_n C 0 rfl dX3_change_25 ?_
        refine gt_X3_17 C dX3_change_26 ?_
        refine w_iload_n C 1 rfl dX3_change_29 ?_
        obtain ⟨hi7, h⟩ := ckI_some h
        refine ld_maps C hi7 dX3_change_30 ?_
        refine w_astore C (Nat.le_of_ble_eq_true rfl) rfl dX3_change_31 ?_
        refine w_aload_n C 1 rfl dX3_change_33 ?_
        refine w_aload C 0 rfl dX3_change_34 ?_
        refine w_iload_n C 3 rfl dX3_change_36 ?_
        obtain ⟨x8, hx8, h⟩ := bd_some h
        refine w_cVi (wr := []) (qc := (RX3, TX3, 8)) C (c_X3_coefficientOf fu (Nat.lt_trans (vp_lt hi7) (by decide)) hx8) pk_X3_coefficientOf ml_X3_67 (As := [.ref (xa (3 + v1.toNatClampNeg)), .int v2]) (rest := []) (k9 := 0) rfl rfl ⟨⟨rfl, rfl⟩, Nat.le_of_ble_eq_true rfl, Nat.le_of_ble_eq_true rfl⟩ rfl ⟨(Nat.le_of_ble_eq_true rfl), (Nat.le_of_ble_eq_true rfl)⟩ (Nat.le_of_ble_eq_true rfl) rfl rfl (List.nil_append _) dX3_change_37 ?_
        refine w_istore C (Nat.le_of_ble_eq_true rfl) rfl dX3_change_40 ?_
        refine w_aload_n C 2 rfl dX3_change_42 ?_
        refine gt_X3_49 C dX3_change_43 ?_
        refine w_iload_n C 5 rfl dX3_change_46 ?_
        refine w_iload C 0 rfl dX3_change_47 ?_
        obtain ⟨x9, hx9, h⟩ := bd_some h
        refine w_cVi (qc := (RX0, TX0, 9)) C (c_X0_less fu  hx9) pk_X0_less ml_X3_71 (As := [.int v3, .int x8]) (rest := []) (k9 := 0) rfl rfl ⟨⟨rfl, rfl⟩, Nat.le_of_ble_eq_true rfl, Nat.le_of_ble_eq_true rfl⟩ rfl ⟨(Nat.le_of_ble_eq_true rfl), (Nat.le_of_ble_eq_true rfl)⟩ (Nat.le_of_ble_eq_true rfl) rfl (List.append_assoc _ _ _).symm (List.append_assoc _ _ _) dX3_change_49 ?_
        refine w_istore C (Nat.le_of_ble_eq_true rfl) rfl dX3_change_52 ?_
        refine w_iconst (v := 0) C dX3_change_54 (by decide) ?_
        refine w_istore C (Nat.le_of_ble_eq_true rfl) rfl dX3_change_55 ?_
        refine w_lv [4, 6, 3, 2, 1, 0] rfl ?_
        exact w_X3_change_57 C  (Nat.lt_trans (vp_lt hi7) (by decide))  _ _ _ h
      · have h := if_t hb6 h
        refine w_iconst (v := (-1)) C dX3_change_23 (by decide) ?_
        cases h
        exact w_iret C ⟨rfl, rfl⟩ dX3_change_24
theorem c_X3_change {l : Launch} {G : GG} {fa : Nat → Nat} {N : Nat} {ra : Nat} {xa : Nat → Nat} {FA : Nat → Option Nat} {xq : Int32} {ak : Int64} {RR : Nat → Nat → Int32} {r1 : Int32} {r2 : Int32} {r3 : Int32} {r4 : Int32} {r5 : Int32} {fp : Int32} {fq : Int32} {t0 : Nat → Int32} {t1 : Nat → Int32} {t2 : Nat → Int32} {t3 : Nat → Int32} {t4 : Nat → Int32} {t5 : Nat → Int32} {tL : Nat → Option Nat} (fu : Nat) {v1 : Int32} {v2 : Int32} {v3 : Int32} {r : Int32 × (Nat → Nat → Int32)} (h : X3_change fu N xq RR fq t0 t1 t2 t3 v1 v2 v3 = some r) : Ct l yX3_change cX3_change 8 ((some .int)) G rm_X3_change [.ref (xa 0), .int v1, .int v2, .int v3] (xm G xa FA (fa 0) ra xq ak RR ++ ([rcw ra r1 r2 r3 r4 r5] ++ (fw G fa N fp fq t0 t1 t2 t3 t4 t5 tL))) (fun o w => o = some (.int r.1) ∧ w = (xm G xa FA (fa 0) ra xq ak r.2 ++ ([rcw ra r1 r2 r3 r4 r5] ++ (fw G fa N fp fq t0 t1 t2 t3 t4 t5 tL)))) 0 0 := Ct.of (by decide) (Nat.le_of_ble_eq_true rfl) (fun p e s m args below meth c A C _ => w_X3_change C h)
abbrev rm_X3_degree : Room := { frames := 2, cells := 0, slots := 0, locals := 46 }
theorem pk_X3_degree : PkV RX3 yX3_degree cX3_degree 3 ((some .int)) 1 := ⟨rfl, co_X3_degree, ini_RX3, im_X3_degree, se_X3_degree, by decide +kernel⟩
set_option maxRecDepth 20000 in
set_option maxHeartbeats 4000000 in
theorem w_X3_degree_16 {fa : Nat → Nat} {N : Nat} {ra : Nat} {xa : Nat → Nat} {FA : Nat → Option Nat} {ak : Int64} {r1 : Int32} {r2 : Int32} {r3 : Int32} {r4 : Int32} {r5 : Int32} {fp : Int32} {t4 : Nat → Int32} {t5 : Nat → Int32} {tL : Nat → Option Nat} {xq : Int32} {RR : Nat → Nat → Int32} {fq : Int32} {t0 : Nat → Int32} {t1 : Nat → Int32} {t2 : Nat → Int32} {t3 : Nat → Int32} {v1 : Int32} {fu : Nat}  {r : Int32} (C : Cx p s m args meth c G A RX3 cX3_degree 3 ((some .int)))   : ∀ (fk : Nat) (v2 : Int32), X3_degree_16 fu N  xq RR fq t0 t1 t2 t3 v1 fk v2 = some r → Wd p l e rm_X3_degree s m args below meth c G A 3 0 0 (QQ G A (fun o w => o = some (.int r) ∧ w = (xm G xa FA (fa 0) ra xq ak RR ++ ([rcw ra r1 r2 r3 r4 r5] ++ (fw G fa N fp fq t0 t1 t2 t3 t4 t5 tL)))) below args s 0 0) (xm G xa FA (fa 0) ra xq ak RR ++ ([rcw ra r1 r2 r3 r4 r5] ++ (fw G fa N fp fq t0 t1 t2 t3 t4 t5 tL))) [(0, .ref (xa 0)), (1, .int v1), (2, .int v2)] 16 [] := by
  intro fk
  induction fk with
  | zero =>
    intro v2 h
    have h : (none : Option Int32) = some r := h
    cases h
  | succ fk ih =>
    intro v2 h
    have h : X3_degree_16_b fu N  xq RR fq t0 t1 t2 t3 v1 (X3_degree_16 fu N  xq RR fq t0 t1 t2 t3 v1 fk) v2 = some r := h
    unfold X3_degree_16_b at h
    refine w_iload_n C 2 rfl dX3_degree_16 ?_
    refine w_if_lt (tgt := 42) C dX3_degree_17 (by decide) (fun hb3 => ?_) (fun hb3 => ?_)
    · have h := if_t hb3 h
      refine w_bipush (v := (-9)) C dX3_degree_42 (by decide) ?_
      cases h
      exact w_iret C ⟨rfl, rfl⟩ dX3_degree_44
    · have h := if_f hb3 h
      refine w_aload_n C 0 rfl dX3_degree_20 ?_
      refine w_aload_n C 0 rfl dX3_degree_21 ?_
      refine gt_X3_17 C dX3_degree_22 ?_
      refine w_iload_n C 1 rfl dX3_degree_25 ?_
      obtain ⟨hi4, h⟩ := ckI_some h
      refine ld_maps C hi4 dX3_degree_26 ?_
      refine w_iload_n C 2 rfl dX3_degree_27 ?_
      obtain ⟨x5, hx5, h⟩ := bd_some h
      refine w_cVi (wr := []) (qc := (RX3, TX3, 8)) C (c_X3_coefficientOf fu (Nat.lt_trans (vp_lt hi4) (by decide)) hx5) pk_X3_coefficientOf ml_X3_67 (As := [.ref (xa (3 + v1.toNatClampNeg)), .int v2]) (rest := []) (k9 := 0) rfl rfl ⟨⟨rfl, rfl⟩, Nat.le_of_ble_eq_true rfl, Nat.le_of_ble_eq_true rfl⟩ rfl ⟨(Nat.le_of_ble_eq_true rfl), (Nat.le_of_ble_eq_true rfl)⟩ (Nat.le_of_ble_eq_true rfl) rfl rfl (List.nil_append _) dX3_degree_28 ?_
      refine w_if_eq (tgt := 36) C dX3_degree_31 (by decide) (fun hb6 => ?_) (fun hb6 => ?_)
      · have h := if_t hb6 h
        refine w_iinc (v := v2 + (-1)) (k := 2) C rfl (by rw [litm1]) (Nat.le_of_ble_eq_true rfl) rfl dX3_degree_36 ?_
        refine w_goto (tgt := 16) C dX3_degree_39 (by decide) ?_
        refine w_lv [1, 2, 0] rfl ?_
        exact ih _ h
      · have h := if_f hb6 h
        refine w_iload_n C 2 rfl dX3_degree_34 ?_
        cases h
        exact w_iret C ⟨rfl, rfl⟩ dX3_degree_35
set_option maxRecDepth 20000 in
set_option maxHeartbeats 4000000 in
theorem w_X3_degree {fa : Nat → Nat} {N : Nat} {ra : Nat} {xa : Nat → Nat} {FA : Nat → Option Nat} {ak : Int64} {r1 : Int32} {r2 : Int32} {r3 : Int32} {r4 : Int32} {r5 : Int32} {fp : Int32} {t4 : Nat → Int32} {t5 : Nat → Int32} {tL : Nat → Option Nat} {fu : Nat}  {xq : Int32} {RR : Nat → Nat → Int32} {fq : Int32} {t0 : Nat → Int32} {t1 : Nat → Int32} {t2 : Nat → Int32} {t3 : Nat → Int32} {v1 : Int32} {r : Int32} (C : Cx p s m args meth c G A RX3 cX3_degree 3 ((some .int)))   (h : X3_degree fu N  xq RR fq t0 t1 t2 t3 v1 = some r) : Wd p l e rm_X3_degree s m args below meth c G A 3 0 0 (QQ G A (fun o w => o = some (.int r) ∧ w = (xm G xa FA (fa 0) ra xq ak RR ++ ([rcw ra r1 r2 r3 r4 r5] ++ (fw G fa N fp fq t0 t1 t2 t3 t4 t5 tL)))) below args s 0 0) (xm G xa FA (fa 0) ra xq ak RR ++ ([rcw ra r1 r2 r3 r4 r5] ++ (fw G fa N fp fq t0 t1 t2 t3 t4 t5 tL))) [(0, .ref (xa 0)), (1, .int v1)] 0 [] := by
  unfold X3_degree at h
  refine w_iload_n C 1 rfl dX3_degree_0 ?_
  obtain ⟨x1, hx1, h⟩ := bd_some h
  refine w_cSi C (c_X3_isMap fu  hx1) pk_X3_isMap ml_X3_64 (As := [.int v1]) (rest := []) ⟨⟨rfl, rfl⟩, Nat.le_of_ble_eq_true rfl, Nat.le_of_ble_eq_true rfl⟩ rfl ⟨(Nat.le_of_ble_eq_true rfl), (Nat.le_of_ble_eq_true rfl)⟩ (Nat.le_of_ble_eq_true rfl) rfl (List.append_nil _).symm (List.append_nil _) dX3_degree_1 ?_
  refine w_if_ne (tgt := 9) C dX3_degree_4 (by decide) (fun hb2 => ?_) (fun hb2 => ?_)
  · have h := if_f hb2 h
    refine w_aload_n C 0 rfl dX3_degree_9 ?_
    refine gt_X3_42 C dX3_degree_10 ?_
    refine w_iconst (v := 1) C dX3_degree_13 (by decide) ?_
    refine w_isub C dX3_degree_14 ?_
    refine w_istore_n C (Nat.le_of_ble_eq_true rfl) rfl dX3_degree_15 ?_
    refine w_lv [1, 2, 0] rfl ?_
    exact w_X3_degree_16 C    _ _ h
  · have h := if_t hb2 h
    refine w_iconst (v := (-1)) C dX3_degree_7 (by decide) ?_
    cases h
    exact w_iret C ⟨rfl, rfl⟩ dX3_degree_8
theorem c_X3_degree {l : Launch} {G : GG} {fa : Nat → Nat} {N : Nat} {ra : Nat} {xa : Nat → Nat} {FA : Nat → Option Nat} {xq : Int32} {ak : Int64} {RR : Nat → Nat → Int32} {r1 : Int32} {r2 : Int32} {r3 : Int32} {r4 : Int32} {r5 : Int32} {fp : Int32} {fq : Int32} {t0 : Nat → Int32} {t1 : Nat → Int32} {t2 : Nat → Int32} {t3 : Nat → Int32} {t4 : Nat → Int32} {t5 : Nat → Int32} {tL : Nat → Option Nat} (fu : Nat) {v1 : Int32} {r : Int32} (h : X3_degree fu N xq RR fq t0 t1 t2 t3 v1 = some r) : Ct l yX3_degree cX3_degree 3 ((some .int)) G rm_X3_degree [.ref (xa 0), .int v1] (xm G xa FA (fa 0) ra xq ak RR ++ ([rcw ra r1 r2 r3 r4 r5] ++ (fw G fa N fp fq t0 t1 t2 t3 t4 t5 tL))) (fun o w => o = some (.int r) ∧ w = (xm G xa FA (fa 0) ra xq ak RR ++ ([rcw ra r1 r2 r3 r4 r5] ++ (fw G fa N fp fq t0 t1 t2 t3 t4 t5 tL)))) 0 0 := Ct.of (by decide) (Nat.le_of_ble_eq_true rfl) (fun p e s m args below meth c A C _ => w_X3_degree C h)
abbrev rm_X3_isRecipe : Room := { frames := 1, cells := 0, slots := 0, locals := 21 }
theorem pk_X3_isRecipe : PkV RX3 yX3_isRecipe cX3_isRecipe 6 ((some .boolean)) 5 := ⟨rfl, co_X3_isRecipe, ini_RX3, im_X3_isRecipe, se_X3_isRecipe, by decide +kernel⟩
set_option maxRecDepth 20000 in
set_option maxHeartbeats 4000000 in
theorem w_X3_isRecipe {fa : Nat → Nat} {N : Nat} {ra : Nat} {xa : Nat → Nat} {FA : Nat → Option Nat} {ak : Int64} {RR : Nat → Nat → Int32} {r1 : Int32} {r2 : Int32} {r3 : Int32} {r4 : Int32} {r5 : Int32} {fp : Int32} {fq : Int32} {t0 : Nat → Int32} {t1 : Nat → Int32} {t2 : Nat → Int32} {t3 : Nat → Int32} {t4 : Nat → Int32} {t5 : Nat → Int32} {tL : Nat → Option Nat} {fu : Nat}  {xq : Int32} {v1 : Int32} {v2 : Int32} {v3 : Int32} {v4 : Int32} {v5 : Int32} {r : Int32} (C : Cx p s m args meth c G A RX3 cX3_isRecipe 6 ((some .boolean)))   (h : X3_isRecipe fu N  xq v1 v2 v3 v4 v5 = some r) : Wd p l e rm_X3_isRecipe s m args below meth c G A 6 0 0 (QQ G A (fun o w => o = some (.int r) ∧ w = (xm G xa FA (fa 0) ra xq ak RR ++ ([rcw ra r1 r2 r3 r4 r5] ++ (fw G fa N fp fq t0 t1 t2 t3 t4 t5 tL)))) below args s 0 0) (xm G xa FA (fa 0) ra xq ak RR ++ ([rcw ra r1 r2 r3 r4 r5] ++ (fw G fa N fp fq t0 t1 t2 t3 t4 t5 tL))) [(0, .ref (xa 0)), (1, .int v1), (2, .int v2), (3, .int v3), (4, .int v4), (5, .int v5)] 0 [] := by
  unfold X3_isRecipe at h
  refine w_iload_n C 1 rfl dX3_isRecipe_0 ?_
  refine w_if_lt (tgt := 21) C dX3_isRecipe_1 (by decide) (fun hb1 => ?_) (fun hb1 => ?_)
  · have h := if_t hb1 h
    refine w_iconst (v := 0) C dX3_isRecipe_21 (by decide) ?_
    cases h
    exact w_zret C rfl ⟨rfl, rfl⟩ dX3_isRecipe_22
  · have h := if_f hb1 h
    refine w_iload_n C 1 rfl dX3_isRecipe_4 ?_
    refine w_iconst (v := 2) C dX3_isRecipe_5 (by decide) ?_
    refine w_icmp_gt (tgt := 21) C dX3_isRecipe_6 (by decide) (fun hb2 => ?_) (fun hb2 => ?_)
    · have h := if_t hb2 h
      refine w_iconst (v := 0) C dX3_isRecipe_21 (by decide) ?_
      cases h
      exact w_zret C rfl ⟨rfl, rfl⟩ dX3_isRecipe_22
    · have h := if_f hb2 h
      refine w_iload_n C 2 rfl dX3_isRecipe_9 ?_
      refine w_iconst (v := 1) C dX3_isRecipe_10 (by decide) ?_
      refine w_icmp_lt (tgt := 21) C dX3_isRecipe_11 (by decide) (fun hb3 => ?_) (fun hb3 => ?_)
      · have h := if_t hb3 h
        refine w_iconst (v := 0) C dX3_isRecipe_21 (by decide) ?_
        cases h
        exact w_zret C rfl ⟨rfl, rfl⟩ dX3_isRecipe_22
      · have h := if_f hb3 h
        refine w_iload_n C 2 rfl dX3_isRecipe_14 ?_
        refine w_sipush (v := 255) C dX3_isRecipe_15 (by decide) ?_
        refine w_icmp_le (tgt := 23) C dX3_isRecipe_18 (by decide) (fun hb4 => ?_) (fun hb4 => ?_)
        · have h := if_t hb4 h
          refine w_iload_n C 1 rfl dX3_isRecipe_23 ?_
          refine w_if_eq (tgt := 53) C dX3_isRecipe_24 (by decide) (fun hb5 => ?_) (fun hb5 => ?_)
          · have h := if_t hb5 h
            refine w_iconst (v := 1) C dX3_isRecipe_53 (by decide) ?_
            refine w_goto (tgt := 58) C dX3_isRecipe_54 (by decide) ?_
            cases h
            exact w_zret C rfl ⟨rfl, rfl⟩ dX3_isRecipe_58
          · have h := if_f hb5 h
            refine w_aload_n C 0 rfl dX3_isRecipe_27 ?_
            refine w_iload_n C 3 rfl dX3_isRecipe_28 ?_
            obtain ⟨x6, hx6, h⟩ := bd_some h
            refine w_cVi (wr := []) (qc := (RX3, TX3, 8)) C (c_X3_isNumber fu  hx6) pk_X3_isNumber ml_X3_46 (As := [.int v3]) (rest := []) (k9 := 0) rfl rfl ⟨⟨rfl, rfl⟩, Nat.le_of_ble_eq_true rfl, Nat.le_of_ble_eq_true rfl⟩ rfl ⟨(Nat.le_of_ble_eq_true rfl), (Nat.le_of_ble_eq_true rfl)⟩ (Nat.le_of_ble_eq_true rfl) rfl rfl (List.nil_append _) dX3_isRecipe_29 ?_
            refine w_if_eq (tgt := 57) C dX3_isRecipe_32 (by decide) (fun hb7 => ?_) (fun hb7 => ?_)
            · have h := if_t hb7 h
              refine w_iconst (v := 0) C dX3_isRecipe_57 (by decide) ?_
              cases h
              exact w_zret C rfl ⟨rfl, rfl⟩ dX3_isRecipe_58
            · have h := if_f hb7 h
              refine w_aload_n C 0 rfl dX3_isRecipe_35 ?_
              refine w_iload C 4 rfl dX3_isRecipe_36 ?_
              obtain ⟨x8, hx8, h⟩ := bd_some h
              refine w_cVi (wr := []) (qc := (RX3, TX3, 8)) C (c_X3_isNumber fu  hx8) pk_X3_isNumber ml_X3_46 (As := [.int v4]) (rest := []) (k9 := 0) rfl rfl ⟨⟨rfl, rfl⟩, Nat.le_of_ble_eq_true rfl, Nat.le_of_ble_eq_true rfl⟩ rfl ⟨(Nat.le_of_ble_eq_true rfl), (Nat.le_of_ble_eq_true rfl)⟩ (Nat.le_of_ble_eq_true rfl) rfl rfl (List.nil_append _) dX3_isRecipe_38 ?_
              refine w_if_eq (tgt := 57) C dX3_isRecipe_41 (by decide) (fun hb9 => ?_) (fun hb9 => ?_)
              · have h := if_t hb9 h
                refine w_iconst (v := 0) C dX3_isRecipe_57 (by decide) ?_
                cases h
                exact w_zret C rfl ⟨rfl, rfl⟩ dX3_isRecipe_58
              · have h := if_f hb9 h
                refine w_aload_n C 0 rfl dX3_isRecipe_44 ?_
                refine w_iload C 5 rfl dX3_isRecipe_45 ?_
                obtain ⟨x10, hx10, h⟩ := bd_some h
                refine w_cVi (wr := []) (qc := (RX3, TX3, 8)) C (c_X3_isNumber fu  hx10) pk_X3_isNumber ml_X3_46 (As := [.int v5]) (rest := []) (k9 := 0) rfl rfl ⟨⟨rfl, rfl⟩, Nat.le_of_ble_eq_true rfl, Nat.le_of_ble_eq_true rfl⟩ rfl ⟨(Nat.le_of_ble_eq_true rfl), (Nat.le_of_ble_eq_true rfl)⟩ (Nat.le_of_ble_eq_true rfl) rfl rfl (List.nil_append _) dX3_isRecipe_47 ?_
                refine w_if_eq (tgt := 57) C dX3_isRecipe_50 (by decide) (fun hb11 => ?_) (fun hb11 => ?_)
                · have h := if_t hb11 h
                  refine w_iconst (v := 0) C dX3_isRecipe_57 (by decide) ?_
                  cases h
                  exact w_zret C rfl ⟨rfl, rfl⟩ dX3_isRecipe_58
                · have h := if_f hb11 h
                  refine w_iconst (v := 1) C dX3_isRecipe_53 (by decide) ?_
                  refine w_goto (tgt := 58) C dX3_isRecipe_54 (by decide) ?_
                  cases h
                  exact w_zret C rfl ⟨rfl, rfl⟩ dX3_isRecipe_58
        · have h := if_f hb4 h
          refine w_iconst (v := 0) C dX3_isRecipe_21 (by decide) ?_
          cases h
          exact w_zret C rfl ⟨rfl, rfl⟩ dX3_isRecipe_22
theorem c_X3_isRecipe {l : Launch} {G : GG} {fa : Nat → Nat} {N : Nat} {ra : Nat} {xa : Nat → Nat} {FA : Nat → Option Nat} {xq : Int32} {ak : Int64} {RR : Nat → Nat → Int32} {r1 : Int32} {r2 : Int32} {r3 : Int32} {r4 : Int32} {r5 : Int32} {fp : Int32} {fq : Int32} {t0 : Nat → Int32} {t1 : Nat → Int32} {t2 : Nat → Int32} {t3 : Nat → Int32} {t4 : Nat → Int32} {t5 : Nat → Int32} {tL : Nat → Option Nat} (fu : Nat) {v1 : Int32} {v2 : Int32} {v3 : Int32} {v4 : Int32} {v5 : Int32} {r : Int32} (h : X3_isRecipe fu N xq v1 v2 v3 v4 v5 = some r) : Ct l yX3_isRecipe cX3_isRecipe 6 ((some .boolean)) G rm_X3_isRecipe [.ref (xa 0), .int v1, .int v2, .int v3, .int v4, .int v5] (xm G xa FA (fa 0) ra xq ak RR ++ ([rcw ra r1 r2 r3 r4 r5] ++ (fw G fa N fp fq t0 t1 t2 t3 t4 t5 tL))) (fun o w => o = some (.int r) ∧ w = (xm G xa FA (fa 0) ra xq ak RR ++ ([rcw ra r1 r2 r3 r4 r5] ++ (fw G fa N fp fq t0 t1 t2 t3 t4 t5 tL)))) 0 0 := Ct.of (by decide) (Nat.le_of_ble_eq_true rfl) (fun p e s m args below meth c A C _ => w_X3_isRecipe C h)
abbrev rm_X3_make : Room := { frames := 5, cells := 0, slots := 0, locals := 111 }
theorem pk_X3_make : PkV RX3 yX3_make cX3_make 8 ((some .int)) 6 := ⟨rfl, co_X3_make, ini_RX3, im_X3_make, se_X3_make, by decide +kernel⟩
set_option maxRecDepth 20000 in
set_option maxHeartbeats 4000000 in
theorem w_X3_make_41 {fa : Nat → Nat} {N : Nat} {ra : Nat} {xa : Nat → Nat} {FA : Nat → Option Nat} {ak : Int64} {fp : Int32} {t3 : Nat → Int32} {t4 : Nat → Int32} {t5 : Nat → Int32} {tL : Nat → Option Nat} {xq : Int32} {r1 : Int32} {r2 : Int32} {r3 : Int32} {r4 : Int32} {fq : Int32} {t0 : Nat → Int32} {t1 : Nat → Int32} {t2 : Nat → Int32} {v1 : Int32} {v2 : Int32} {fu : Nat}  {r : Int32 × (Nat → Nat → Int32) × Int32 × Int32 × Int32 × Int32 × Int32} (C : Cx p s m args meth c G A RX3 cX3_make 8 ((some .int)))   : ∀ (fk : Nat) (RR : Nat → Nat → Int32) (r5 : Int32) (v7 : Int32), X3_make_41 fu N  xq r1 r2 r3 r4 fq t0 t1 t2 v1 v2 fk RR r5 v7 = some r → Wd p l e rm_X3_make s m args below meth c G A 8 0 0 (QQ G A (fun o w => o = some (.int r.1) ∧ w = (xm G xa FA (fa 0) ra xq ak r.2.1 ++ ([rcw ra r.2.2.1 r.2.2.2.1 r.2.2.2.2.1 r.2.2.2.2.2.1 r.2.2.2.2.2.2] ++ (fw G fa N fp fq t0 t1 t2 t3 t4 t5 tL)))) below args s 0 0) (xm G xa FA (fa 0) ra xq ak RR ++ ([rcw ra r1 r2 r3 r4 r5] ++ (fw G fa N fp fq t0 t1 t2 t3 t4 t5 tL))) [(0, .ref (xa 0)), (1, .int v1), (2, .int v2), (7, .int v7)] 41 [] := by
  intro fk
  induction fk with
  | zero =>
    intro RR r5 v7 h
    have h : (none : Option (Int32 × (Nat → Nat → Int32) × Int32 × Int32 × Int32 × Int32 × Int32)) = some r := h
    cases h
  | succ fk ih =>
    intro RR r5 v7 h
    have h : X3_make_41_b fu N  xq r1 r2 r3 r4 fq t0 t1 t2 v1 v2 (X3_make_41 fu N  xq r1 r2 r3 r4 fq t0 t1 t2 v1 v2 fk) RR r5 v7 = some r := h
    unfold X3_make_41_b at h
    refine w_iload C 3 rfl dX3_make_41 ?_
    refine w_aload_n C 0 rfl dX3_make_43 ?_
    refine gt_X3_42 C dX3_make_44 ?_
    refine w_icmp_ge (tgt := 79) C dX3_make_47 (by decide) (fun hb6 => ?_) (fun hb6 => ?_)
    · have h := if_t hb6 h
      refine w_iconst (v := 1) C dX3_make_79 (by decide) ?_
      cases h
      exact w_iret C ⟨rfl, rfl⟩ dX3_make_80
    · have h := if_f hb6 h
      refine w_aload_n C 0 rfl dX3_make_50 ?_
      refine gt_X3_17 C dX3_make_51 ?_
      refine w_iload_n C 1 rfl dX3_make_54 ?_
      obtain ⟨hi7, h⟩ := ckI_some h
      refine ld_maps C hi7 dX3_make_55 ?_
      refine w_iload C 3 rfl dX3_make_56 ?_
      refine w_aload_n C 0 rfl dX3_make_58 ?_
      refine gt_X3_30 C dX3_make_59 ?_
      refine w_aload_n C 0 rfl dX3_make_62 ?_
      refine gt_X3_49 C dX3_make_63 ?_
      refine w_iload_n C 2 rfl dX3_make_66 ?_
      refine w_iload C 3 rfl dX3_make_67 ?_
      obtain ⟨x8, hx8, h⟩ := bd_some h
      refine w_cVi (qc := (RX2, TX2, 5)) C (c_X2_takes fu  hx8) pk_X2_takes ml_X3_85 (As := [.ref (fa 0), .int v2, .int v7]) (rest := [.int v7, .ref (xa (3 + v1.toNatClampNeg))]) (k9 := 0) rfl rfl ⟨⟨rfl, rfl⟩, Nat.le_of_ble_eq_true rfl, Nat.le_of_ble_eq_true rfl⟩ rfl ⟨(Nat.le_of_ble_eq_true rfl), (Nat.le_of_ble_eq_true rfl)⟩ (Nat.le_of_ble_eq_true rfl) rfl rfl (rfl) dX3_make_69 ?_
      obtain ⟨hi9, h⟩ := ckI_some h
      refine sr_row C (Nat.lt_trans (vp_lt hi7) (by decide)) hi9 dX3_make_72 ?_
      refine w_iinc (v := v7 + 1) (k := 3) C rfl rfl (Nat.le_of_ble_eq_true rfl) rfl dX3_make_73 ?_
      refine w_goto (tgt := 41) C dX3_make_76 (by decide) ?_
      refine w_lv [1, 2, 3, 0] rfl ?_
      exact ih _ _ _ h
set_option maxRecDepth 20000 in
set_option maxHeartbeats 4000000 in
theorem w_X3_make {fa : Nat → Nat} {N : Nat} {ra : Nat} {xa : Nat → Nat} {FA : Nat → Option Nat} {ak : Int64} {fp : Int32} {t3 : Nat → Int32} {t4 : Nat → Int32} {t5 : Nat → Int32} {tL : Nat → Option Nat} {fu : Nat}  {xq : Int32} {RR : Nat → Nat → Int32} {r1 : Int32} {r2 : Int32} {r3 : Int32} {r4 : Int32} {r5 : Int32} {fq : Int32} {t0 : Nat → Int32} {t1 : Nat → Int32} {t2 : Nat → Int32} {v1 : Int32} {v2 : Int32} {v3 : Int32} {v4 : Int32} {v5 : Int32} {v6 : Int32} {r : Int32 × (Nat → Nat → Int32) × Int32 × Int32 × Int32 × Int32 × Int32} (C : Cx p s m args meth c G A RX3 cX3_make 8 ((some .int)))   (h : X3_make fu N  xq RR r1 r2 r3 r4 r5 fq t0 t1 t2 v1 v2 v3 v4 v5 v6 = some r) : Wd p l e rm_X3_make s m args below meth c G A 8 0 0 (QQ G A (fun o w => o = some (.int r.1) ∧ w = (xm G xa FA (fa 0) ra xq ak r.2.1 ++ ([rcw ra r.2.2.1 r.2.2.2.1 r.2.2.2.2.1 r.2.2.2.2.2.1 r.2.2.2.2.2.2] ++ (fw G fa N fp fq t0 t1 t2 t3 t4 t5 tL)))) below args s 0 0) (xm G xa FA (fa 0) ra xq ak RR ++ ([rcw ra r1 r2 r3 r4 r5] ++ (fw G fa N fp fq t0 t1 t2 t3 t4 t5 tL))) [(0, .ref (xa 0)), (1, .int v1), (2, .int v2), (3, .int v3), (4, .int v4), (5, .int v5), (6, .int v6)] 0 [] := by
  unfold X3_make at h
  refine w_iload_n C 1 rfl dX3_make_0 ?_
  obtain ⟨x1, hx1, h⟩ := bd_some h
  refine w_cSi C (c_X3_isMap fu  hx1) pk_X3_isMap ml_X3_64 (As := [.int v1]) (rest := []) ⟨⟨rfl, rfl⟩, Nat.le_of_ble_eq_true rfl, Nat.le_of_ble_eq_true rfl⟩ rfl ⟨(Nat.le_of_ble_eq_true rfl), (Nat.le_of_ble_eq_true rfl)⟩ (Nat.le_of_ble_eq_true rfl) rfl (List.append_nil _).symm (List.append_nil _) dX3_make_1 ?_
  refine w_if_eq (tgt := 22) C dX3_make_4 (by decide) (fun hb2 => ?_) (fun hb2 => ?_)
  · have h := if_t hb2 h
    refine w_iconst (v := (-1)) C dX3_make_22 (by decide) ?_
    cases h
    exact w_iret C ⟨rfl, rfl⟩ dX3_make_23
  · have h := if_f hb2 h
    refine w_aload_n C 0 rfl dX3_make_7 ?_
    refine w_iload_n C 2 rfl dX3_make_8 ?_
    refine w_iload_n C 3 rfl dX3_make_9 ?_
    refine w_iload C 4 rfl dX3_make_10 ?_
    refine w_iload C 5 rfl dX3_make_12 ?_
    refine w_iload C 6 rfl dX3_make_14 ?_
    obtain ⟨x3, hx3, h⟩ := bd_some h
    refine w_cVi (wr := []) (qc := (RX3, TX3, 8)) C (c_X3_isRecipe fu  hx3) pk_X3_isRecipe ml_X3_77 (As := [.int v2, .int v3, .int v4, .int v5, .int v6]) (rest := []) (k9 := 0) rfl rfl ⟨⟨rfl, rfl⟩, Nat.le_of_ble_eq_true rfl, Nat.le_of_ble_eq_true rfl⟩ rfl ⟨(Nat.le_of_ble_eq_true rfl), (Nat.le_of_ble_eq_true rfl)⟩ (Nat.le_of_ble_eq_true rfl) rfl rfl (List.nil_append _) dX3_make_16 ?_
    refine w_if_ne (tgt := 24) C dX3_make_19 (by decide) (fun hb4 => ?_) (fun hb4 => ?_)
    · have h := if_f hb4 h
      refine w_aload_n C 0 rfl dX3_make_24 ?_
      refine gt_X3_30 C dX3_make_25 ?_
      refine w_iload_n C 3 rfl dX3_make_28 ?_
      refine w_iload C 4 rfl dX3_make_29 ?_
      refine w_iload C 5 rfl dX3_make_31 ?_
      refine w_iload C 6 rfl dX3_make_33 ?_
      obtain ⟨x5, hx5, h⟩ := bd_some h
      refine w_cVv (qc := (RX2, TX2, 5)) C (c_X2_write fu  hx5) pk_X2_write ml_X3_81 (As := [.int v3, .int v4, .int v5, .int v6]) (rest := []) (k9 := 0) rfl rfl ⟨⟨rfl, rfl⟩, Nat.le_of_ble_eq_true rfl, Nat.le_of_ble_eq_true rfl⟩ rfl ⟨(Nat.le_of_ble_eq_true rfl), (Nat.le_of_ble_eq_true rfl)⟩ (Nat.le_of_ble_eq_true rfl) rfl rfl (rfl) dX3_make_35 ?_
      refine w_iconst (v := 0) C dX3_make_38 (by decide) ?_
      refine w_istore C (Nat.le_of_ble_eq_true rfl) rfl dX3_make_39 ?_
      refine w_lv [1, 2, 3, 0] rfl ?_
      exact w_X3_make_41 C    _ _ _ _ h
    · have h := if_t hb4 h
      refine w_iconst (v := (-1)) C dX3_make_22 (by decide) ?_
      cases h
      exact w_iret C ⟨rfl, rfl⟩ dX3_make_23
theorem c_X3_make {l : Launch} {G : GG} {fa : Nat → Nat} {N : Nat} {ra : Nat} {xa : Nat → Nat} {FA : Nat → Option Nat} {xq : Int32} {ak : Int64} {RR : Nat → Nat → Int32} {r1 : Int32} {r2 : Int32} {r3 : Int32} {r4 : Int32} {r5 : Int32} {fp : Int32} {fq : Int32} {t0 : Nat → Int32} {t1 : Nat → Int32} {t2 : Nat → Int32} {t3 : Nat → Int32} {t4 : Nat → Int32} {t5 : Nat → Int32} {tL : Nat → Option Nat} (fu : Nat) {v1 : Int32} {v2 : Int32} {v3 : Int32} {v4 : Int32} {v5 : Int32} {v6 : Int32} {r : Int32 × (Nat → Nat → Int32) × Int32 × Int32 × Int32 × Int32 × Int32} (h : X3_make fu N xq RR r1 r2 r3 r4 r5 fq t0 t1 t2 v1 v2 v3 v4 v5 v6 = some r) : Ct l yX3_make cX3_make 8 ((some .int)) G rm_X3_make [.ref (xa 0), .int v1, .int v2, .int v3, .int v4, .int v5, .int v6] (xm G xa FA (fa 0) ra xq ak RR ++ ([rcw ra r1 r2 r3 r4 r5] ++ (fw G fa N fp fq t0 t1 t2 t3 t4 t5 tL))) (fun o w => o = some (.int r.1) ∧ w = (xm G xa FA (fa 0) ra xq ak r.2.1 ++ ([rcw ra r.2.2.1 r.2.2.2.1 r.2.2.2.2.1 r.2.2.2.2.2.1 r.2.2.2.2.2.2] ++ (fw G fa N fp fq t0 t1 t2 t3 t4 t5 tL)))) 0 0 := Ct.of (by decide) (Nat.le_of_ble_eq_true rfl) (fun p e s m args below meth c A C _ => w_X3_make C h)
end
