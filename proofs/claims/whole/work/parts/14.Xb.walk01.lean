section
variable {p : Program} {l : Launch} {e : Env} {s : State} {m : MethodId} {args : Array Value} {below : List Frame} {meth : Method} {c : Code} {G : GG} {A : Nat → Prop}
abbrev rm_X3_taste : Room := { frames := 5, cells := 0, slots := 0, locals := 111 }
theorem pk_X3_taste : PkV RX3 yX3_taste cX3_taste 8 ((some .int)) 6 := ⟨rfl, co_X3_taste, ini_RX3, im_X3_taste, se_X3_taste, by decide +kernel⟩
set_option maxRecDepth 20000 in
set_option maxHeartbeats 4000000 in
theorem w_X3_taste {fa : Nat → Nat} {N : Nat} {ra : Nat} {xa : Nat → Nat} {FA : Nat → Option Nat} {RR : Nat → Nat → Int32} {fp : Int32} {t3 : Nat → Int32} {t4 : Nat → Int32} {t5 : Nat → Int32} {tL : Nat → Option Nat} {fu : Nat}  {xq : Int32} {ak : Int64} {r1 : Int32} {r2 : Int32} {r3 : Int32} {r4 : Int32} {r5 : Int32} {fq : Int32} {t0 : Nat → Int32} {t1 : Nat → Int32} {t2 : Nat → Int32} {v1 : Int32} {v2 : Int32} {v3 : Int32} {v4 : Int32} {v5 : Int32} {v6 : Int32} {r : Int32 × Int64 × Int32 × Int32 × Int32 × Int32 × Int32} (C : Cx p s m args meth c G A RX3 cX3_taste 8 ((some .int)))   (h : X3_taste fu N  xq ak r1 r2 r3 r4 r5 fq t0 t1 t2 v1 v2 v3 v4 v5 v6 = some r) : Wd p l e rm_X3_taste s m args below meth c G A 8 0 0 (QQ G A (fun o w => o = some (.int r.1) ∧ w = (xm G xa FA (fa 0) ra xq r.2.1 RR ++ ([rcw ra r.2.2.1 r.2.2.2.1 r.2.2.2.2.1 r.2.2.2.2.2.1 r.2.2.2.2.2.2] ++ (fw G fa N fp fq t0 t1 t2 t3 t4 t5 tL)))) below args s 0 0) (xm G xa FA (fa 0) ra xq ak RR ++ ([rcw ra r1 r2 r3 r4 r5] ++ (fw G fa N fp fq t0 t1 t2 t3 t4 t5 tL))) [(0, .ref (xa 0)), (1, .int v1), (2, .int v2), (3, .int v3), (4, .int v4), (5, .int v5), (6, .int v6)] 0 [] := by
  unfold X3_taste at h
  refine w_aload_n C 0 rfl dX3_taste_0 ?_
  refine w_iload_n C 1 rfl dX3_taste_1 ?_
  refine w_iload_n C 2 rfl dX3_taste_2 ?_
  refine w_iload_n C 3 rfl dX3_taste_3 ?_
  refine w_iload C 4 rfl dX3_taste_4 ?_
  refine w_iload C 5 rfl dX3_taste_6 ?_
  obtain ⟨x1, hx1, h⟩ := bd_some h
  refine w_cVi (wr := []) (qc := (RX3, TX3, 8)) C (c_X3_isRecipe fu  hx1) pk_X3_isRecipe ml_X3_77 (As := [.int v1, .int v2, .int v3, .int v4, .int v5]) (rest := []) (k9 := 0) rfl rfl ⟨⟨rfl, rfl⟩, Nat.le_of_ble_eq_true rfl, Nat.le_of_ble_eq_true rfl⟩ rfl ⟨(Nat.le_of_ble_eq_true rfl), (Nat.le_of_ble_eq_true rfl)⟩ (Nat.le_of_ble_eq_true rfl) rfl rfl (List.nil_append _) dX3_taste_8 ?_
  refine w_if_eq (tgt := 23) C dX3_taste_11 (by decide) (fun hb2 => ?_) (fun hb2 => ?_)
  · have h := if_t hb2 h
    refine w_iconst (v := (-1)) C dX3_taste_23 (by decide) ?_
    cases h
    exact w_iret C ⟨rfl, rfl⟩ dX3_taste_24
  · have h := if_f hb2 h
    refine w_aload_n C 0 rfl dX3_taste_14 ?_
    refine w_iload C 6 rfl dX3_taste_15 ?_
    obtain ⟨x3, hx3, h⟩ := bd_some h
    refine w_cVi (wr := []) (qc := (RX3, TX3, 8)) C (c_X3_isNumber fu  hx3) pk_X3_isNumber ml_X3_46 (As := [.int v6]) (rest := []) (k9 := 0) rfl rfl ⟨⟨rfl, rfl⟩, Nat.le_of_ble_eq_true rfl, Nat.le_of_ble_eq_true rfl⟩ rfl ⟨(Nat.le_of_ble_eq_true rfl), (Nat.le_of_ble_eq_true rfl)⟩ (Nat.le_of_ble_eq_true rfl) rfl rfl (List.nil_append _) dX3_taste_17 ?_
    refine w_if_ne (tgt := 25) C dX3_taste_20 (by decide) (fun hb4 => ?_) (fun hb4 => ?_)
    · have h := if_f hb4 h
      refine w_aload_n C 0 rfl dX3_taste_25 ?_
      refine gt_X3_30 C dX3_taste_26 ?_
      refine w_iload_n C 2 rfl dX3_taste_29 ?_
      refine w_iload_n C 3 rfl dX3_taste_30 ?_
      refine w_iload C 4 rfl dX3_taste_31 ?_
      refine w_iload C 5 rfl dX3_taste_33 ?_
      obtain ⟨x5, hx5, h⟩ := bd_some h
      refine w_cVv (qc := (RX2, TX2, 5)) C (c_X2_write fu  hx5) pk_X2_write ml_X3_81 (As := [.int v2, .int v3, .int v4, .int v5]) (rest := []) (k9 := 0) rfl rfl ⟨⟨rfl, rfl⟩, Nat.le_of_ble_eq_true rfl, Nat.le_of_ble_eq_true rfl⟩ rfl ⟨(Nat.le_of_ble_eq_true rfl), (Nat.le_of_ble_eq_true rfl)⟩ (Nat.le_of_ble_eq_true rfl) rfl rfl (rfl) dX3_taste_35 ?_
      refine w_aload_n C 0 rfl dX3_taste_38 ?_
      refine gt_X3_30 C dX3_taste_39 ?_
      refine w_aload_n C 0 rfl dX3_taste_42 ?_
      refine gt_X3_49 C dX3_taste_43 ?_
      refine w_iload_n C 1 rfl dX3_taste_46 ?_
      refine w_iload C 6 rfl dX3_taste_47 ?_
      obtain ⟨x6, hx6, h⟩ := bd_some h
      refine w_cVi (qc := (RX2, TX2, 5)) C (c_X2_takes fu  hx6) pk_X2_takes ml_X3_85 (As := [.ref (fa 0), .int v1, .int v6]) (rest := []) (k9 := 0) rfl rfl ⟨⟨rfl, rfl⟩, Nat.le_of_ble_eq_true rfl, Nat.le_of_ble_eq_true rfl⟩ rfl ⟨(Nat.le_of_ble_eq_true rfl), (Nat.le_of_ble_eq_true rfl)⟩ (Nat.le_of_ble_eq_true rfl) rfl rfl (rfl) dX3_taste_49 ?_
      refine w_istore C (Nat.le_of_ble_eq_true rfl) rfl dX3_taste_52 ?_
      refine w_aload_n C 1 rfl dX3_taste_54 ?_
      refine w_dup C dX3_taste_55 rfl ?_
      refine gt_X3_89 C dX3_taste_56 ?_
      refine w_aload_n C 1 rfl dX3_taste_59 ?_
      refine gt_X3_30 C dX3_taste_60 ?_
      refine gt_X3_93 C dX3_taste_63 ?_
      refine w_i2l C dX3_taste_66 ?_
      refine w_ladd C dX3_taste_67 ?_
      refine pt_X3_89 C dX3_taste_68 ?_
      refine w_iload C 0 rfl dX3_taste_71 ?_
      cases h
      exact w_iret C ⟨rfl, rfl⟩ dX3_taste_73
    · have h := if_t hb4 h
      refine w_iconst (v := (-1)) C dX3_taste_23 (by decide) ?_
      cases h
      exact w_iret C ⟨rfl, rfl⟩ dX3_taste_24
theorem c_X3_taste {l : Launch} {G : GG} {fa : Nat → Nat} {N : Nat} {ra : Nat} {xa : Nat → Nat} {FA : Nat → Option Nat} {xq : Int32} {ak : Int64} {RR : Nat → Nat → Int32} {r1 : Int32} {r2 : Int32} {r3 : Int32} {r4 : Int32} {r5 : Int32} {fp : Int32} {fq : Int32} {t0 : Nat → Int32} {t1 : Nat → Int32} {t2 : Nat → Int32} {t3 : Nat → Int32} {t4 : Nat → Int32} {t5 : Nat → Int32} {tL : Nat → Option Nat} (fu : Nat) {v1 : Int32} {v2 : Int32} {v3 : Int32} {v4 : Int32} {v5 : Int32} {v6 : Int32} {r : Int32 × Int64 × Int32 × Int32 × Int32 × Int32 × Int32} (h : X3_taste fu N xq ak r1 r2 r3 r4 r5 fq t0 t1 t2 v1 v2 v3 v4 v5 v6 = some r) : Ct l yX3_taste cX3_taste 8 ((some .int)) G rm_X3_taste [.ref (xa 0), .int v1, .int v2, .int v3, .int v4, .int v5, .int v6] (xm G xa FA (fa 0) ra xq ak RR ++ ([rcw ra r1 r2 r3 r4 r5] ++ (fw G fa N fp fq t0 t1 t2 t3 t4 t5 tL))) (fun o w => o = some (.int r.1) ∧ w = (xm G xa FA (fa 0) ra xq r.2.1 RR ++ ([rcw ra r.2.2.1 r.2.2.2.1 r.2.2.2.2.1 r.2.2.2.2.2.1 r.2.2.2.2.2.2] ++ (fw G fa N fp fq t0 t1 t2 t3 t4 t5 tL)))) 0 0 := Ct.of (by decide) (Nat.le_of_ble_eq_true rfl) (fun p e s m args below meth c A C _ => w_X3_taste C h)
abbrev rm_X3_putSpare : Room := { frames := 1, cells := 0, slots := 0, locals := 40 }
theorem pk_X3_putSpare : PkV RX3 yX3_putSpare cX3_putSpare 2 none 1 := ⟨rfl, co_X3_putSpare, ini_RX3, im_X3_putSpare, se_X3_putSpare, by decide +kernel⟩
set_option maxRecDepth 20000 in
set_option maxHeartbeats 4000000 in
theorem w_X3_putSpare {fa : Nat → Nat} {N : Nat} {ra : Nat} {xa : Nat → Nat} {FA : Nat → Option Nat} {ak : Int64} {r1 : Int32} {r2 : Int32} {r3 : Int32} {r4 : Int32} {r5 : Int32} {fp : Int32} {fq : Int32} {t0 : Nat → Int32} {t1 : Nat → Int32} {t2 : Nat → Int32} {t3 : Nat → Int32} {t4 : Nat → Int32} {t5 : Nat → Int32} {tL : Nat → Option Nat} {fu : Nat}  {xq : Int32} {RR : Nat → Nat → Int32} {v1 : Int32} {r : (Nat → Nat → Int32)} (C : Cx p s m args meth c G A RX3 cX3_putSpare 2 none)   (h : X3_putSpare fu N  xq RR v1 = some r) : Wd p l e rm_X3_putSpare s m args below meth c G A 2 0 0 (QQ G A (fun o w => o = none ∧ w = (xm G xa FA (fa 0) ra xq ak r ++ ([rcw ra r1 r2 r3 r4 r5] ++ (fw G fa N fp fq t0 t1 t2 t3 t4 t5 tL)))) below args s 0 0) (xm G xa FA (fa 0) ra xq ak RR ++ ([rcw ra r1 r2 r3 r4 r5] ++ (fw G fa N fp fq t0 t1 t2 t3 t4 t5 tL))) [(0, .ref (xa 0)), (1, .int v1)] 0 [] := by
  unfold X3_putSpare at h
  refine w_aload_n C 0 rfl dX3_putSpare_0 ?_
  refine gt_X3_20 C dX3_putSpare_1 ?_
  refine w_iconst (v := 0) C dX3_putSpare_4 (by decide) ?_
  refine w_aload_n C 0 rfl dX3_putSpare_5 ?_
  refine gt_X3_17 C dX3_putSpare_6 ?_
  refine w_iload_n C 1 rfl dX3_putSpare_9 ?_
  obtain ⟨hi1, h⟩ := ckI_some h
  refine ld_maps C hi1 dX3_putSpare_10 ?_
  refine w_iconst (v := 0) C dX3_putSpare_11 (by decide) ?_
  refine w_aload_n C 0 rfl dX3_putSpare_12 ?_
  refine gt_X3_42 C dX3_putSpare_13 ?_
  obtain ⟨hi2a, hi2b, hi2c, hi2d, hi2e, h⟩ := ckC_some h
  refine cp_row C ml_X3_190 (by decide) (Nat.lt_trans (vp_lt hi1) (by decide)) hi2a hi2b hi2c hi2d hi2e (Nat.le_of_ble_eq_true rfl) (Nat.le_of_ble_eq_true rfl) dX3_putSpare_16 ?_
  cases h
  exact w_vret C ⟨rfl, rfl⟩ dX3_putSpare_19
theorem c_X3_putSpare {l : Launch} {G : GG} {fa : Nat → Nat} {N : Nat} {ra : Nat} {xa : Nat → Nat} {FA : Nat → Option Nat} {xq : Int32} {ak : Int64} {RR : Nat → Nat → Int32} {r1 : Int32} {r2 : Int32} {r3 : Int32} {r4 : Int32} {r5 : Int32} {fp : Int32} {fq : Int32} {t0 : Nat → Int32} {t1 : Nat → Int32} {t2 : Nat → Int32} {t3 : Nat → Int32} {t4 : Nat → Int32} {t5 : Nat → Int32} {tL : Nat → Option Nat} (fu : Nat) {v1 : Int32} {r : (Nat → Nat → Int32)} (h : X3_putSpare fu N xq RR v1 = some r) : Ct l yX3_putSpare cX3_putSpare 2 none G rm_X3_putSpare [.ref (xa 0), .int v1] (xm G xa FA (fa 0) ra xq ak RR ++ ([rcw ra r1 r2 r3 r4 r5] ++ (fw G fa N fp fq t0 t1 t2 t3 t4 t5 tL))) (fun o w => o = none ∧ w = (xm G xa FA (fa 0) ra xq ak r ++ ([rcw ra r1 r2 r3 r4 r5] ++ (fw G fa N fp fq t0 t1 t2 t3 t4 t5 tL)))) 0 0 := Ct.of (by decide) (Nat.le_of_ble_eq_true rfl) (fun p e s m args below meth c A C _ => w_X3_putSpare C h)
abbrev rm_X3_chain : Room := { frames := 2, cells := 0, slots := 0, locals := 61 }
theorem pk_X3_chain : PkV RX3 yX3_chain cX3_chain 5 ((some .int)) 3 := ⟨rfl, co_X3_chain, ini_RX3, im_X3_chain, se_X3_chain, by decide +kernel⟩
set_option maxRecDepth 20000 in
set_option maxHeartbeats 4000000 in
theorem w_X3_chain_26 {fa : Nat → Nat} {N : Nat} {ra : Nat} {xa : Nat → Nat} {FA : Nat → Option Nat} {ak : Int64} {r1 : Int32} {r2 : Int32} {r3 : Int32} {r4 : Int32} {r5 : Int32} {fp : Int32} {fq : Int32} {t0 : Nat → Int32} {t1 : Nat → Int32} {t2 : Nat → Int32} {t3 : Nat → Int32} {t4 : Nat → Int32} {t5 : Nat → Int32} {tL : Nat → Option Nat} {xq : Int32} {v1 : Int32} {v2 : Int32} {v3 : Int32} {fu : Nat}  {r : Int32 × (Nat → Nat → Int32)} (C : Cx p s m args meth c G A RX3 cX3_chain 5 ((some .int)))   : ∀ (fk : Nat) (RR : Nat → Nat → Int32) (v4 : Int32), X3_chain_26 fu N  xq v1 v2 v3 fk RR v4 = some r → Wd p l e rm_X3_chain s m args below meth c G A 5 0 0 (QQ G A (fun o w => o = some (.int r.1) ∧ w = (xm G xa FA (fa 0) ra xq ak r.2 ++ ([rcw ra r1 r2 r3 r4 r5] ++ (fw G fa N fp fq t0 t1 t2 t3 t4 t5 tL)))) below args s 0 0) (xm G xa FA (fa 0) ra xq ak RR ++ ([rcw ra r1 r2 r3 r4 r5] ++ (fw G fa N fp fq t0 t1 t2 t3 t4 t5 tL))) [(0, .ref (xa 0)), (1, .int v1), (2, .int v2), (3, .int v3), (4, .int v4)] 26 [] := by
  intro fk
  induction fk with
  | zero =>
    intro RR v4 h
    have h : (none : Option (Int32 × (Nat → Nat → Int32))) = some r := h
    cases h
  | succ fk ih =>
    intro RR v4 h
    have h : X3_chain_26_b fu N  xq v1 v2 v3 (X3_chain_26 fu N  xq v1 v2 v3 fk) RR v4 = some r := h
    unfold X3_chain_26_b at h
    refine w_iload C 4 rfl dX3_chain_26 ?_
    refine w_aload_n C 0 rfl dX3_chain_28 ?_
    refine gt_X3_42 C dX3_chain_29 ?_
    refine w_icmp_ge (tgt := 64) C dX3_chain_32 (by decide) (fun hb7 => ?_) (fun hb7 => ?_)
    · have h := if_t hb7 h
      refine w_aload_n C 0 rfl dX3_chain_64 ?_
      refine w_iload_n C 1 rfl dX3_chain_65 ?_
      obtain ⟨x8, hx8, h⟩ := bd_some h
      refine w_cVv (wr := []) (qc := (RX3, TX3, 8)) C (c_X3_putSpare fu  hx8) pk_X3_putSpare ml_X3_95 (As := [.int v1]) (rest := []) (k9 := 0) rfl rfl ⟨⟨rfl, rfl⟩, Nat.le_of_ble_eq_true rfl, Nat.le_of_ble_eq_true rfl⟩ rfl ⟨(Nat.le_of_ble_eq_true rfl), (Nat.le_of_ble_eq_true rfl)⟩ (Nat.le_of_ble_eq_true rfl) rfl rfl (List.nil_append _) dX3_chain_66 ?_
      refine w_iconst (v := 1) C dX3_chain_69 (by decide) ?_
      cases h
      exact w_iret C ⟨rfl, rfl⟩ dX3_chain_70
    · have h := if_f hb7 h
      refine w_aload_n C 0 rfl dX3_chain_35 ?_
      refine gt_X3_20 C dX3_chain_36 ?_
      refine w_iload C 4 rfl dX3_chain_39 ?_
      refine w_aload_n C 0 rfl dX3_chain_41 ?_
      refine gt_X3_17 C dX3_chain_42 ?_
      refine w_iload_n C 2 rfl dX3_chain_45 ?_
      obtain ⟨hi9, h⟩ := ckI_some h
      refine ld_maps C hi9 dX3_chain_46 ?_
      refine w_aload_n C 0 rfl dX3_chain_47 ?_
      refine gt_X3_17 C dX3_chain_48 ?_
      refine w_iload_n C 3 rfl dX3_chain_51 ?_
      obtain ⟨hi10, h⟩ := ckI_some h
      refine ld_maps C hi10 dX3_chain_52 ?_
      refine w_iload C 4 rfl dX3_chain_53 ?_
      obtain ⟨hi11, h⟩ := ckI_some h
      refine ld_row C (Nat.lt_trans (vp_lt hi10) (by decide)) hi11 dX3_chain_55 ?_
      obtain ⟨hi12, h⟩ := ckI_some h
      refine ld_row C (Nat.lt_trans (vp_lt hi9) (by decide)) hi12 dX3_chain_56 ?_
      obtain ⟨hi13, h⟩ := ckI_some h
      refine sr_row C (by decide) hi13 dX3_chain_57 ?_
      refine w_iinc (v := v4 + 1) (k := 4) C rfl rfl (Nat.le_of_ble_eq_true rfl) rfl dX3_chain_58 ?_
      refine w_goto (tgt := 26) C dX3_chain_61 (by decide) ?_
      refine w_lv [1, 2, 3, 4, 0] rfl ?_
      exact ih _ _ h
set_option maxRecDepth 20000 in
set_option maxHeartbeats 4000000 in
theorem w_X3_chain {fa : Nat → Nat} {N : Nat} {ra : Nat} {xa : Nat → Nat} {FA : Nat → Option Nat} {ak : Int64} {r1 : Int32} {r2 : Int32} {r3 : Int32} {r4 : Int32} {r5 : Int32} {fp : Int32} {fq : Int32} {t0 : Nat → Int32} {t1 : Nat → Int32} {t2 : Nat → Int32} {t3 : Nat → Int32} {t4 : Nat → Int32} {t5 : Nat → Int32} {tL : Nat → Option Nat} {fu : Nat}  {xq : Int32} {RR : Nat → Nat → Int32} {v1 : Int32} {v2 : Int32} {v3 : Int32} {r : Int32 × (Nat → Nat → Int32)} (C : Cx p s m args meth c G A RX3 cX3_chain 5 ((some .int)))   (h : X3_chain fu N  xq RR v1 v2 v3 = some r) : Wd p l e rm_X3_chain s m args below meth c G A 5 0 0 (QQ G A (fun o w => o = some (.int r.1) ∧ w = (xm G xa FA (fa 0) ra xq ak r.2 ++ ([rcw ra r1 r2 r3 r4 r5] ++ (fw G fa N fp fq t0 t1 t2 t3 t4 t5 tL)))) below args s 0 0) (xm G xa FA (fa 0) ra xq ak RR ++ ([rcw ra r1 r2 r3 r4 r5] ++ (fw G fa N fp fq t0 t1 t2 t3 t4 t5 tL))) [(0, .ref (xa 0)), (1, .int v1), (2, .int v2), (3, .int v3)] 0 [] := by
  unfold X3_chain at h
  refine w_iload_n C 1 rfl dX3_chain_0 ?_
  obtain ⟨x1, hx1, h⟩ := bd_some h
  refine w_cSi C (c_X3_isMap fu  hx1) pk_X3_isMap ml_X3_64 (As := [.int v1]) (rest := []) ⟨⟨rfl, rfl⟩, Nat.le_of_ble_eq_true rfl, Nat.le_of_ble_eq_true rfl⟩ rfl ⟨(Nat.le_of_ble_eq_true rfl), (Nat.le_of_ble_eq_true rfl)⟩ (Nat.le_of_ble_eq_true rfl) rfl (List.append_nil _).symm (List.append_nil _) dX3_chain_1 ?_
  refine w_if_eq (tgt := 21) C dX3_chain_4 (by decide) (fun hb2 => ?_) (fun hb2 => ?_)
  · have h := if_t hb2 h
    refine w_iconst (v := (-1)) C dX3_chain_21 (by decide) ?_
    cases h
    exact w_iret C ⟨rfl, rfl⟩ dX3_chain_22
  · have h := if_f hb2 h
    refine w_iload_n C 2 rfl dX3_chain_7 ?_
    obtain ⟨x3, hx3, h⟩ := bd_some h
    refine w_cSi C (c_X3_isMap fu  hx3) pk_X3_isMap ml_X3_64 (As := [.int v2]) (rest := []) ⟨⟨rfl, rfl⟩, Nat.le_of_ble_eq_true rfl, Nat.le_of_ble_eq_true rfl⟩ rfl ⟨(Nat.le_of_ble_eq_true rfl), (Nat.le_of_ble_eq_true rfl)⟩ (Nat.le_of_ble_eq_true rfl) rfl (List.append_nil _).symm (List.append_nil _) dX3_chain_8 ?_
    refine w_if_eq (tgt := 21) C dX3_chain_11 (by decide) (fun hb4 => ?_) (fun hb4 => ?_)
    · have h := if_t hb4 h
      refine w_iconst (v := (-1)) C dX3_chain_21 (by decide) ?_
      cases h
      exact w_iret C ⟨rfl, rfl⟩ dX3_chain_22
    · have h := if_f hb4 h
      refine w_iload_n C 3 rfl dX3_chain_14 ?_
      obtain ⟨x5, hx5, h⟩ := bd_some h
      refine w_cSi C (c_X3_isMap fu  hx5) pk_X3_isMap ml_X3_64 (As := [.int v3]) (rest := []) ⟨⟨rfl, rfl⟩, Nat.le_of_ble_eq_true rfl, Nat.le_of_ble_eq_true rfl⟩ rfl ⟨(Nat.le_of_ble_eq_true rfl), (Nat.le_of_ble_eq_true rfl)⟩ (Nat.le_of_ble_eq_true rfl) rfl (List.append_nil _).symm (List.append_nil _) dX3_chain_15 ?_
      refine w_if_ne (tgt := 23) C dX3_chain_18 (by decide) (fun hb6 => ?_) (fun hb6 => ?_)
      · have h := if_f hb6 h
        refine w_iconst (v := 0) C dX3_chain_23 (by decide) ?_
        refine w_istore C (Nat.le_of_ble_eq_true rfl) rfl dX3_chain_24 ?_
        refine w_lv [1, 2, 3, 4, 0] rfl ?_
        exact w_X3_chain_26 C    _ _ _ h
      · have h := if_t hb6 h
        refine w_iconst (v := (-1)) C dX3_chain_21 (by decide) ?_
        cases h
        exact w_iret C ⟨rfl, rfl⟩ dX3_chain_22
theorem c_X3_chain {l : Launch} {G : GG} {fa : Nat → Nat} {N : Nat} {ra : Nat} {xa : Nat → Nat} {FA : Nat → Option Nat} {xq : Int32} {ak : Int64} {RR : Nat → Nat → Int32} {r1 : Int32} {r2 : Int32} {r3 : Int32} {r4 : Int32} {r5 : Int32} {fp : Int32} {fq : Int32} {t0 : Nat → Int32} {t1 : Nat → Int32} {t2 : Nat → Int32} {t3 : Nat → Int32} {t4 : Nat → Int32} {t5 : Nat → Int32} {tL : Nat → Option Nat} (fu : Nat) {v1 : Int32} {v2 : Int32} {v3 : Int32} {r : Int32 × (Nat → Nat → Int32)} (h : X3_chain fu N xq RR v1 v2 v3 = some r) : Ct l yX3_chain cX3_chain 5 ((some .int)) G rm_X3_chain [.ref (xa 0), .int v1, .int v2, .int v3] (xm G xa FA (fa 0) ra xq ak RR ++ ([rcw ra r1 r2 r3 r4 r5] ++ (fw G fa N fp fq t0 t1 t2 t3 t4 t5 tL))) (fun o w => o = some (.int r.1) ∧ w = (xm G xa FA (fa 0) ra xq ak r.2 ++ ([rcw ra r1 r2 r3 r4 r5] ++ (fw G fa N fp fq t0 t1 t2 t3 t4 t5 tL)))) 0 0 := Ct.of (by decide) (Nat.le_of_ble_eq_true rfl) (fun p e s m args below meth c A C _ => w_X3_chain C h)
abbrev rm_X3_imageSize : Room := { frames := 1, cells := 0, slots := 0, locals := 20 }
theorem pk_X3_imageSize : PkV RX3 yX3_imageSize cX3_imageSize 4 ((some .int)) 1 := ⟨rfl, co_X3_imageSize, ini_RX3, im_X3_imageSize, se_X3_imageSize, by decide +kernel⟩
set_option maxRecDepth 20000 in
set_option maxHeartbeats 4000000 in
theorem w_X3_imageSize_4 {fa : Nat → Nat} {N : Nat} {ra : Nat} {xa : Nat → Nat} {FA : Nat → Option Nat} {ak : Int64} {r1 : Int32} {r2 : Int32} {r3 : Int32} {r4 : Int32} {r5 : Int32} {fp : Int32} {fq : Int32} {t0 : Nat → Int32} {t1 : Nat → Int32} {t2 : Nat → Int32} {t3 : Nat → Int32} {t4 : Nat → Int32} {t5 : Nat → Int32} {tL : Nat → Option Nat} {xq : Int32} {RR : Nat → Nat → Int32} {j1 : Nat} {fu : Nat}  {r : Int32} (C : Cx p s m args meth c G A RX3 cX3_imageSize 4 ((some .int))) (hj1 : j1 < 6)  : ∀ (fk : Nat) (v2 : Int32) (v3 : Int32), X3_imageSize_4 fu N  xq RR j1 fk v2 v3 = some r → Wd p l e rm_X3_imageSize s m args below meth c G A 4 0 0 (QQ G A (fun o w => o = some (.int r) ∧ w = (xm G xa FA (fa 0) ra xq ak RR ++ ([rcw ra r1 r2 r3 r4 r5] ++ (fw G fa N fp fq t0 t1 t2 t3 t4 t5 tL)))) below args s 0 0) (xm G xa FA (fa 0) ra xq ak RR ++ ([rcw ra r1 r2 r3 r4 r5] ++ (fw G fa N fp fq t0 t1 t2 t3 t4 t5 tL))) [(0, .ref (xa 0)), (1, .ref (xa (3 + j1))), (2, .int v2), (3, .int v3)] 4 [] := by
  intro fk
  induction fk with
  | zero =>
    intro v2 v3 h
    have h : (none : Option Int32) = some r := h
    cases h
  | succ fk ih =>
    intro v2 v3 h
    have h : X3_imageSize_4_b fu N  xq RR j1 (X3_imageSize_4 fu N  xq RR j1 fk) v2 v3 = some r := h
    unfold X3_imageSize_4_b at h
    refine w_iload_n C 3 rfl dX3_imageSize_4 ?_
    refine w_aload_n C 0 rfl dX3_imageSize_5 ?_
    refine gt_X3_42 C dX3_imageSize_6 ?_
    refine w_icmp_ge (tgt := 26) C dX3_imageSize_9 (by decide) (fun hb1 => ?_) (fun hb1 => ?_)
    · have h := if_t hb1 h
      refine w_iload_n C 2 rfl dX3_imageSize_26 ?_
      obtain ⟨x2, hx2, h⟩ := bd_some h
      refine w_cSi C (c_J6_bitCount_0f7a4 fu  hx2) pk_J6_bitCount_0f7a4 ml_X3_196 (As := [.int v2]) (rest := []) ⟨⟨rfl, rfl⟩, Nat.le_of_ble_eq_true rfl, Nat.le_of_ble_eq_true rfl⟩ rfl ⟨(Nat.le_of_ble_eq_true rfl), (Nat.le_of_ble_eq_true rfl)⟩ (Nat.le_of_ble_eq_true rfl) rfl (List.append_nil _).symm (List.append_nil _) dX3_imageSize_27 ?_
      cases h
      exact w_iret C ⟨rfl, rfl⟩ dX3_imageSize_30
    · have h := if_f hb1 h
      refine w_iload_n C 2 rfl dX3_imageSize_12 ?_
      refine w_iconst (v := 1) C dX3_imageSize_13 (by decide) ?_
      refine w_aload_n C 1 rfl dX3_imageSize_14 ?_
      refine w_iload_n C 3 rfl dX3_imageSize_15 ?_
      obtain ⟨hi3, h⟩ := ckI_some h
      refine ld_row C hj1 hi3 dX3_imageSize_16 ?_
      refine w_ishl C dX3_imageSize_17 ?_
      refine w_ior C dX3_imageSize_18 ?_
      refine w_istore_n C (Nat.le_of_ble_eq_true rfl) rfl dX3_imageSize_19 ?_
      refine w_iinc (v := v3 + 1) (k := 3) C rfl rfl (Nat.le_of_ble_eq_true rfl) rfl dX3_imageSize_20 ?_
      refine w_goto (tgt := 4) C dX3_imageSize_23 (by decide) ?_
      refine w_lv [2, 3, 1, 0] rfl ?_
      exact ih _ _ h
set_option maxRecDepth 20000 in
set_option maxHeartbeats 4000000 in
theorem w_X3_imageSize {fa : Nat → Nat} {N : Nat} {ra : Nat} {xa : Nat → Nat} {FA : Nat → Option Nat} {ak : Int64} {r1 : Int32} {r2 : Int32} {r3 : Int32} {r4 : Int32} {r5 : Int32} {fp : Int32} {fq : Int32} {t0 : Nat → Int32} {t1 : Nat → Int32} {t2 : Nat → Int32} {t3 : Nat → Int32} {t4 : Nat → Int32} {t5 : Nat → Int32} {tL : Nat → Option Nat} {fu : Nat}  {xq : Int32} {RR : Nat → Nat → Int32} {j1 : Nat} {r : Int32} (C : Cx p s m args meth c G A RX3 cX3_imageSize 4 ((some .int))) (hj1 : j1 < 6)  (h : X3_imageSize fu N  xq RR j1 = some r) : Wd p l e rm_X3_imageSize s m args below meth c G A 4 0 0 (QQ G A (fun o w => o = some (.int r) ∧ w = (xm G xa FA (fa 0) ra xq ak RR ++ ([rcw ra r1 r2 r3 r4 r5] ++ (fw G fa N fp fq t0 t1 t2 t3 t4 t5 tL)))) below args s 0 0) (xm G xa FA (fa 0) ra xq ak RR ++ ([rcw ra r1 r2 r3 r4 r5] ++ (fw G fa N fp fq t0 t1 t2 t3 t4 t5 tL))) [(0, .ref (xa 0)), (1, .ref (xa (3 + j1)))] 0 [] := by
  unfold X3_imageSize at h
  refine w_iconst (v := 0) C dX3_imageSize_0 (by decide) ?_
  refine w_istore_n C (Nat.le_of_ble_eq_true rfl) rfl dX3_imageSize_1 ?_
  refine w_iconst (v := 0) C dX3_imageSize_2 (by decide) ?_
  refine w_istore_n C (Nat.le_of_ble_eq_true rfl) rfl dX3_imageSize_3 ?_
  refine w_lv [2, 3, 1, 0] rfl ?_
  exact w_X3_imageSize_4 C  hj1  _ _ _ h
theorem c_X3_imageSize {l : Launch} {G : GG} {fa : Nat → Nat} {N : Nat} {ra : Nat} {xa : Nat → Nat} {FA : Nat → Option Nat} {xq : Int32} {ak : Int64} {RR : Nat → Nat → Int32} {r1 : Int32} {r2 : Int32} {r3 : Int32} {r4 : Int32} {r5 : Int32} {fp : Int32} {fq : Int32} {t0 : Nat → Int32} {t1 : Nat → Int32} {t2 : Nat → Int32} {t3 : Nat → Int32} {t4 : Nat → Int32} {t5 : Nat → Int32} {tL : Nat → Option Nat} (fu : Nat) {j1 : Nat} (hj1 : j1 < 6) {r : Int32} (h : X3_imageSize fu N xq RR j1 = some r) : Ct l yX3_imageSize cX3_imageSize 4 ((some .int)) G rm_X3_imageSize [.ref (xa 0), .ref (xa (3 + j1))] (xm G xa FA (fa 0) ra xq ak RR ++ ([rcw ra r1 r2 r3 r4 r5] ++ (fw G fa N fp fq t0 t1 t2 t3 t4 t5 tL))) (fun o w => o = some (.int r) ∧ w = (xm G xa FA (fa 0) ra xq ak RR ++ ([rcw ra r1 r2 r3 r4 r5] ++ (fw G fa N fp fq t0 t1 t2 t3 t4 t5 tL)))) 0 0 := Ct.of (by decide) (Nat.le_of_ble_eq_true rfl) (fun p e s m args below meth c A C _ => w_X3_imageSize C hj1 h)
abbrev rm_X3_isShuffle : Room := { frames := 2, cells := 0, slots := 0, locals := 43 }
theorem pk_X3_isShuffle : PkV RX3 yX3_isShuffle cX3_isShuffle 2 ((some .boolean)) 1 := ⟨rfl, co_X3_isShuffle, ini_RX3, im_X3_isShuffle, se_X3_isShuffle, by decide +kernel⟩
set_option maxRecDepth 20000 in
set_option maxHeartbeats 4000000 in
theorem w_X3_isShuffle {fa : Nat → Nat} {N : Nat} {ra : Nat} {xa : Nat → Nat} {FA : Nat → Option Nat} {ak : Int64} {r1 : Int32} {r2 : Int32} {r3 : Int32} {r4 : Int32} {r5 : Int32} {fp : Int32} {fq : Int32} {t0 : Nat → Int32} {t1 : Nat → Int32} {t2 : Nat → Int32} {t3 : Nat → Int32} {t4 : Nat → Int32} {t5 : Nat → Int32} {tL : Nat → Option Nat} {fu : Nat}  {xq : Int32} {RR : Nat → Nat → Int32} {j1 : Nat} {r : Int32} (C : Cx p s m args meth c G A RX3 cX3_isShuffle 2 ((some .boolean))) (hj1 : j1 < 6)  (h : X3_isShuffle fu N  xq RR j1 = some r) : Wd p l e rm_X3_isShuffle s m args below meth c G A 2 0 0 (QQ G A (fun o w => o = some (.int r) ∧ w = (xm G xa FA (fa 0) ra xq ak RR ++ ([rcw ra r1 r2 r3 r4 r5] ++ (fw G fa N fp fq t0 t1 t2 t3 t4 t5 tL)))) below args s 0 0) (xm G xa FA (fa 0) ra xq ak RR ++ ([rcw ra r1 r2 r3 r4 r5] ++ (fw G fa N fp fq t0 t1 t2 t3 t4 t5 tL))) [(0, .ref (xa 0)), (1, .ref (xa (3 + j1)))] 0 [] := by
  unfold X3_isShuffle at h
  refine w_aload_n C 0 rfl dX3_isShuffle_0 ?_
  refine w_aload_n C 1 rfl dX3_isShuffle_1 ?_
  obtain ⟨x1, hx1, h⟩ := bd_some h
  refine w_cVi (wr := []) (qc := (RX3, TX3, 8)) C (c_X3_imageSize fu hj1 hx1) pk_X3_imageSize ml_X3_115 (As := [.ref (xa (3 + j1))]) (rest := []) (k9 := 0) rfl rfl ⟨⟨rfl, rfl⟩, Nat.le_of_ble_eq_true rfl, Nat.le_of_ble_eq_true rfl⟩ rfl ⟨(Nat.le_of_ble_eq_true rfl), (Nat.le_of_ble_eq_true rfl)⟩ (Nat.le_of_ble_eq_true rfl) rfl rfl (List.nil_append _) dX3_isShuffle_2 ?_
  refine w_aload_n C 0 rfl dX3_isShuffle_5 ?_
  refine gt_X3_42 C dX3_isShuffle_6 ?_
  refine w_icmp_ne (tgt := 16) C dX3_isShuffle_9 (by decide) (fun hb2 => ?_) (fun hb2 => ?_)
  · have h := if_f hb2 h
    refine w_iconst (v := 0) C dX3_isShuffle_16 (by decide) ?_
    cases h
    exact w_zret C rfl ⟨rfl, rfl⟩ dX3_isShuffle_17
  · have h := if_t hb2 h
    refine w_iconst (v := 1) C dX3_isShuffle_12 (by decide) ?_
    refine w_goto (tgt := 17) C dX3_isShuffle_13 (by decide) ?_
    cases h
    exact w_zret C rfl ⟨rfl, rfl⟩ dX3_isShuffle_17
theorem c_X3_isShuffle {l : Launch} {G : GG} {fa : Nat → Nat} {N : Nat} {ra : Nat} {xa : Nat → Nat} {FA : Nat → Option Nat} {xq : Int32} {ak : Int64} {RR : Nat → Nat → Int32} {r1 : Int32} {r2 : Int32} {r3 : Int32} {r4 : Int32} {r5 : Int32} {fp : Int32} {fq : Int32} {t0 : Nat → Int32} {t1 : Nat → Int32} {t2 : Nat → Int32} {t3 : Nat → Int32} {t4 : Nat → Int32} {t5 : Nat → Int32} {tL : Nat → Option Nat} (fu : Nat) {j1 : Nat} (hj1 : j1 < 6) {r : Int32} (h : X3_isShuffle fu N xq RR j1 = some r) : Ct l yX3_isShuffle cX3_isShuffle 2 ((some .boolean)) G rm_X3_isShuffle [.ref (xa 0), .ref (xa (3 + j1))] (xm G xa FA (fa 0) ra xq ak RR ++ ([rcw ra r1 r2 r3 r4 r5] ++ (fw G fa N fp fq t0 t1 t2 t3 t4 t5 tL))) (fun o w => o = some (.int r) ∧ w = (xm G xa FA (fa 0) ra xq ak RR ++ ([rcw ra r1 r2 r3 r4 r5] ++ (fw G fa N fp fq t0 t1 t2 t3 t4 t5 tL)))) 0 0 := Ct.of (by decide) (Nat.le_of_ble_eq_true rfl) (fun p e s m args below meth c A C _ => w_X3_isShuffle C hj1 h)
abbrev rm_X3_truth : Room := { frames := 0, cells := 0, slots := 0, locals := 0 }
theorem pk_X3_truth : PkS yX3_truth cX3_truth 1 ((some .int)) 1 := ⟨co_X3_truth, ini_RX3, st_X3_truth, by decide +kernel⟩
set_option maxRecDepth 20000 in
set_option maxHeartbeats 4000000 in
theorem w_X3_truth  {fu : Nat}  {v0 : Int32} {r : Int32} (C : Cx p s m args meth c G A RX3 cX3_truth 1 ((some .int)))   (h : X3_truth fu  v0 = some r) : Wd p l e rm_X3_truth s m args below meth c G A 1 0 0 (QQ G A (fun o w => o = some (.int r) ∧ w = []) below args s 0 0) [] [(0, .int v0)] 0 [] := by
  unfold X3_truth at h
  refine w_iload_n C 0 rfl dX3_truth_0 ?_
  refine w_if_eq (tgt := 8) C dX3_truth_1 (by decide) (fun hb1 => ?_) (fun hb1 => ?_)
  · have h := if_t hb1 h
    refine w_iconst (v := 0) C dX3_truth_8 (by decide) ?_
    cases h
    exact w_iret C ⟨rfl, rfl⟩ dX3_truth_9
  · have h := if_f hb1 h
    refine w_iconst (v := 1) C dX3_truth_4 (by decide) ?_
    refine w_goto (tgt := 9) C dX3_truth_5 (by decide) ?_
    cases h
    exact w_iret C ⟨rfl, rfl⟩ dX3_truth_9
theorem c_X3_truth {l : Launch} {G : GG}  (fu : Nat) {v0 : Int32} {r : Int32} (h : X3_truth fu  v0 = some r) : Ct l yX3_truth cX3_truth 1 ((some .int)) G rm_X3_truth [.int v0] [] (fun o w => o = some (.int r) ∧ w = []) 0 0 := Ct.of (by decide) (Nat.le_of_ble_eq_true rfl) (fun p e s m args below meth c A C _ => w_X3_truth C h)
abbrev rm_X3_shuffles : Room := { frames := 3, cells := 0, slots := 0, locals := 64 }
theorem pk_X3_shuffles : PkV RX3 yX3_shuffles cX3_shuffles 2 ((some .int)) 1 := ⟨rfl, co_X3_shuffles, ini_RX3, im_X3_shuffles, se_X3_shuffles, by decide +kernel⟩
set_option maxRecDepth 20000 in
set_option maxHeartbeats 4000000 in
theorem w_X3_shuffles {fa : Nat → Nat} {N : Nat} {ra : Nat} {xa : Nat → Nat} {FA : Nat → Option Nat} {ak : Int64} {r1 : Int32} {r2 : Int32} {r3 : Int32} {r4 : Int32} {r5 : Int32} {fp : Int32} {fq : Int32} {t0 : Nat → Int32} {t1 : Nat → Int32} {t2 : Nat → Int32} {t3 : Nat → Int32} {t4 : Nat → Int32} {t5 : Nat → Int32} {tL : Nat → Option Nat} {fu : Nat}  {xq : Int32} {RR : Nat → Nat → Int32} {v1 : Int32} {r : Int32} (C : Cx p s m args meth c G A RX3 cX3_shuffles 2 ((some .int)))   (h : X3_shuffles fu N  xq RR v1 = some r) : Wd p l e rm_X3_shuffles s m args below meth c G A 2 0 0 (QQ G A (fun o w => o = some (.int r) ∧ w = (xm G xa FA (fa 0) ra xq ak RR ++ ([rcw ra r1 r2 r3 r4 r5] ++ (fw G fa N fp fq t0 t1 t2 t3 t4 t5 tL)))) below args s 0 0) (xm G xa FA (fa 0) ra xq ak RR ++ ([rcw ra r1 r2 r3 r4 r5] ++ (fw G fa N fp fq t0 t1 t2 t3 t4 t5 tL))) [(0, .ref (xa 0)), (1, .int v1)] 0 [] := by
  unfold X3_shuffles at h
  refine w_iload_n C 1 rfl dX3_shuffles_0 ?_
  obtain ⟨x1, hx1, h⟩ := bd_some h
  refine w_cSi C (c_X3_isMap fu  hx1) pk_X3_isMap ml_X3_64 (As := [.int v1]) (rest := []) ⟨⟨rfl, rfl⟩, Nat.le_of_ble_eq_true rfl, Nat.le_of_ble_eq_true rfl⟩ rfl ⟨(Nat.le_of_ble_eq_true rfl), (Nat.le_of_ble_eq_true rfl)⟩ (Nat.le_of_ble_eq_true rfl) rfl (List.append_nil _).symm (List.append_nil _) dX3_shuffles_1 ?_
  refine w_if_ne (tgt := 9) C dX3_shuffles_4 (by decide) (fun hb2 => ?_) (fun hb2 => ?_)
  · have h := if_f hb2 h
    refine w_aload_n C 0 rfl dX3_shuffles_9 ?_
    refine w_aload_n C 0 rfl dX3_shuffles_10 ?_
    refine gt_X3_17 C dX3_shuffles_11 ?_
    refine w_iload_n C 1 rfl dX3_shuffles_14 ?_
    obtain ⟨hi3, h⟩ := ckI_some h
    refine ld_maps C hi3 dX3_shuffles_15 ?_
    obtain ⟨x4, hx4, h⟩ := bd_some h
    refine w_cVi (wr := []) (qc := (RX3, TX3, 8)) C (c_X3_isShuffle fu (Nat.lt_trans (vp_lt hi3) (by decide)) hx4) pk_X3_isShuffle ml_X3_98 (As := [.ref (xa (3 + v1.toNatClampNeg))]) (rest := []) (k9 := 0) rfl rfl ⟨⟨rfl, rfl⟩, Nat.le_of_ble_eq_true rfl, Nat.le_of_ble_eq_true rfl⟩ rfl ⟨(Nat.le_of_ble_eq_true rfl), (Nat.le_of_ble_eq_true rfl)⟩ (Nat.le_of_ble_eq_true rfl) rfl rfl (List.nil_append _) dX3_shuffles_16 ?_
    obtain ⟨x5, hx5, h⟩ := bd_some h
    refine w_cSi C (c_X3_truth fu  hx5) pk_X3_truth ml_X3_102 (As := [.int x4]) (rest := []) ⟨⟨rfl, rfl⟩, Nat.le_of_ble_eq_true rfl, Nat.le_of_ble_eq_true rfl⟩ rfl ⟨(Nat.le_of_ble_eq_true rfl), (Nat.le_of_ble_eq_true rfl)⟩ (Nat.le_of_ble_eq_true rfl) rfl (List.append_nil _).symm (List.append_nil _) dX3_shuffles_19 ?_
    cases h
    exact w_iret C ⟨rfl, rfl⟩ dX3_shuffles_22
  · have h := if_t hb2 h
    refine w_iconst (v := (-1)) C dX3_shuffles_7 (by decide) ?_
    cases h
    exact w_iret C ⟨rfl, rfl⟩ dX3_shuffles_8
theorem c_X3_shuffles {l : Launch} {G : GG} {fa : Nat → Nat} {N : Nat} {ra : Nat} {xa : Nat → Nat} {FA : Nat → Option Nat} {xq : Int32} {ak : Int64} {RR : Nat → Nat → Int32} {r1 : Int32} {r2 : Int32} {r3 : Int32} {r4 : Int32} {r5 : Int32} {fp : Int32} {fq : Int32} {t0 : Nat → Int32} {t1 : Nat → Int32} {t2 : Nat → Int32} {t3 : Nat → Int32} {t4 : Nat → Int32} {t5 : Nat → Int32} {tL : Nat → Option Nat} (fu : Nat) {v1 : Int32} {r : Int32} (h : X3_shuffles fu N xq RR v1 = some r) : Ct l yX3_shuffles cX3_shuffles 2 ((some .int)) G rm_X3_shuffles [.ref (xa 0), .int v1] (xm G xa FA (fa 0) ra xq ak RR ++ ([rcw ra r1 r2 r3 r4 r5] ++ (fw G fa N fp fq t0 t1 t2 t3 t4 t5 tL))) (fun o w => o = some (.int r) ∧ w = (xm G xa FA (fa 0) ra xq ak RR ++ ([rcw ra r1 r2 r3 r4 r5] ++ (fw G fa N fp fq t0 t1 t2 t3 t4 t5 tL)))) 0 0 := Ct.of (by decide) (Nat.le_of_ble_eq_true rfl) (fun p e s m args below meth c A C _ => w_X3_shuffles C h)
abbrev rm_X3_timesTaken : Room := { frames := 1, cells := 0, slots := 0, locals := 20 }
theorem pk_X3_timesTaken : PkV RX3 yX3_timesTaken cX3_timesTaken 5 ((some .int)) 2 := ⟨rfl, co_X3_timesTaken, ini_RX3, im_X3_timesTaken, se_X3_timesTaken, by decide +kernel⟩
set_option maxRecDepth 20000 in
set_option maxHeartbeats 4000000 in
theorem w_X3_timesTaken_28 {fa : Nat → Nat} {N : Nat} {ra : Nat} {xa : Nat → Nat} {FA : Nat → Option Nat} {ak : Int64} {r1 : Int32} {r2 : Int32} {r3 : Int32} {r4 : Int32} {r5 : Int32} {fp : Int32} {fq : Int32} {t0 : Nat → Int32} {t1 : Nat → Int32} {t2 : Nat → Int32} {t3 : Nat → Int32} {t4 : Nat → Int32} {t5 : Nat → Int32} {tL : Nat → Option Nat} {fu : Nat} {rc5 : Int32 → Int32 → Option Int32} {xq : Int32} {RR : Nat → Nat → Int32} {s0 : Int32} {s1 : Int32} {j1 : Nat} {v2 : Int32} {v4 : Int32} {r : Int32} (C : Cx p s m args meth c G A RX3 cX3_timesTaken 5 ((some .int))) (hj1 : j1 < 6) (hrc5 : ∀ (v3 : Int32) (v4 : Int32), rc5 v3 v4 = some r → Wd p l e rm_X3_timesTaken s m args below meth c G A 5 0 0 (QQ G A (fun o w => o = some (.int r) ∧ w = (xm G xa FA (fa 0) ra xq ak RR ++ ([rcw ra r1 r2 r3 r4 r5] ++ (fw G fa N fp fq t0 t1 t2 t3 t4 t5 tL)))) below args s 0 0) (xm G xa FA (fa 0) ra xq ak RR ++ ([rcw ra r1 r2 r3 r4 r5] ++ (fw G fa N fp fq t0 t1 t2 t3 t4 t5 tL))) [(0, .ref (xa 0)), (1, .ref (xa (3 + j1))), (2, .int v2), (3, .int v3), (4, .int v4)] 5 []) (h : X3_timesTaken_28 fu N rc5 xq RR s0 s1 j1 v2 v4 = some r) : Wd p l e rm_X3_timesTaken s m args below meth c G A 5 0 0 (QQ G A (fun o w => o = some (.int r) ∧ w = (xm G xa FA (fa 0) ra xq ak RR ++ ([rcw ra r1 r2 r3 r4 r5] ++ (fw G fa N fp fq t0 t1 t2 t3 t4 t5 tL)))) below args s 0 0) (xm G xa FA (fa 0) ra xq ak RR ++ ([rcw ra r1 r2 r3 r4 r5] ++ (fw G fa N fp fq t0 t1 t2 t3 t4 t5 tL))) [(0, .ref (xa 0)), (1, .ref (xa (3 + j1))), (2, .int v2), (4, .int v4)] 28 [.int s0, .int s1] := by
  unfold X3_timesTaken_28 at h
  obtain ⟨x4, hx4, h⟩ := bd_some h
  refine w_cSi C (c_X3_truth fu  hx4) pk_X3_truth ml_X3_102 (As := [.int s0]) (rest := [.int s1]) ⟨⟨rfl, rfl⟩, Nat.le_of_ble_eq_true rfl, Nat.le_of_ble_eq_true rfl⟩ rfl ⟨(Nat.le_of_ble_eq_true rfl), (Nat.le_of_ble_eq_true rfl)⟩ (Nat.le_of_ble_eq_true rfl) rfl (List.append_nil _).symm (List.append_nil _) dX3_timesTaken_28 ?_
  refine w_iadd C dX3_timesTaken_31 ?_
  refine w_istore_n C (Nat.le_of_ble_eq_true rfl) rfl dX3_timesTaken_32 ?_
  refine w_iinc (v := v4 + 1) (k := 4) C rfl rfl (Nat.le_of_ble_eq_true rfl) rfl dX3_timesTaken_33 ?_
  refine w_goto (tgt := 5) C dX3_timesTaken_36 (by decide) ?_
  refine w_lv [2, 3, 4, 1, 0] rfl ?_
  exact hrc5 _ _ h
set_option maxRecDepth 20000 in
set_option maxHeartbeats 4000000 in
theorem w_X3_timesTaken_5 {fa : Nat → Nat} {N : Nat} {ra : Nat} {xa : Nat → Nat} {FA : Nat → Option Nat} {ak : Int64} {r1 : Int32} {r2 : Int32} {r3 : Int32} {r4 : Int32} {r5 : Int32} {fp : Int32} {fq : Int32} {t0 : Nat → Int32} {t1 : Nat → Int32} {t2 : Nat → Int32} {t3 : Nat → Int32} {t4 : Nat → Int32} {t5 : Nat → Int32} {tL : Nat → Option Nat} {xq : Int32} {RR : Nat → Nat → Int32} {j1 : Nat} {v2 : Int32} {fu : Nat}  {r : Int32} (C : Cx p s m args meth c G A RX3 cX3_timesTaken 5 ((some .int))) (hj1 : j1 < 6)  : ∀ (fk : Nat) (v3 : Int32) (v4 : Int32), X3_timesTaken_5 fu N  xq RR j1 v2 fk v3 v4 = some r → Wd p l e rm_X3_timesTaken s m args below meth c G A 5 0 0 (QQ G A (fun o w => o = some (.int r) ∧ w = (xm G xa FA (fa 0) ra xq ak RR ++ ([rcw ra r1 r2 r3 r4 r5] ++ (fw G fa N fp fq t0 t1 t2 t3 t4 t5 tL)))) below args s 0 0) (xm G xa FA (fa 0) ra xq ak RR ++ ([rcw ra r1 r2 r3 r4 r5] ++ (fw G fa N fp fq t0 t1 t2 t3 t4 t5 tL))) [(0, .ref (xa 0)), (1, .ref (xa (3 + j1))), (2, .int v2), (3, .int v3), (4, .int v4)] 5 [] := by
  intro fk
  induction fk with
  | zero =>
    intro v3 v4 h
    have h : (none : Option Int32) = some r := h
    cases h
  | succ fk ih =>
    intro v3 v4 h
    have h : X3_timesTaken_5_b fu N  xq RR j1 v2 (X3_timesTaken_5 fu N  xq RR j1 v2 fk) v3 v4 = some r := h
    unfold X3_timesTaken_5_b at h
    refine w_iload C 4 rfl dX3_timesTaken_5 ?_
    refine w_aload_n C 0 rfl dX3_timesTaken_7 ?_
    refine gt_X3_42 C dX3_timesTaken_8 ?_
    refine w_icmp_ge (tgt := 39) C dX3_timesTaken_11 (by decide) (fun hb1 => ?_) (fun hb1 => ?_)
    · have h := if_t hb1 h
      refine w_iload_n C 3 rfl dX3_timesTaken_39 ?_
      cases h
      exact w_iret C ⟨rfl, rfl⟩ dX3_timesTaken_40
    · have h := if_f hb1 h
      refine w_iload_n C 3 rfl dX3_timesTaken_14 ?_
      refine w_aload_n C 1 rfl dX3_timesTaken_15 ?_
      refine w_iload C 4 rfl dX3_timesTaken_16 ?_
      obtain ⟨hi2, h⟩ := ckI_some h
      refine ld_row C hj1 hi2 dX3_timesTaken_18 ?_
      refine w_iload_n C 2 rfl dX3_timesTaken_19 ?_
      refine w_icmp_ne (tgt := 27) C dX3_timesTaken_20 (by decide) (fun hb3 => ?_) (fun hb3 => ?_)
      · have h := if_f hb3 h
        refine w_iconst (v := 0) C dX3_timesTaken_27 (by decide) ?_
        refine w_lv [0, 1, 2, 4] rfl ?_
        exact w_X3_timesTaken_28 C  hj1 ih h
      · have h := if_t hb3 h
        refine w_iconst (v := 1) C dX3_timesTaken_23 (by decide) ?_
        refine w_goto (tgt := 28) C dX3_timesTaken_24 (by decide) ?_
        refine w_lv [0, 1, 2, 4] rfl ?_
        exact w_X3_timesTaken_28 C  hj1 ih h
set_option maxRecDepth 20000 in
set_option maxHeartbeats 4000000 in
theorem w_X3_timesTaken {fa : Nat → Nat} {N : Nat} {ra : Nat} {xa : Nat → Nat} {FA : Nat → Option Nat} {ak : Int64} {r1 : Int32} {r2 : Int32} {r3 : Int32} {r4 : Int32} {r5 : Int32} {fp : Int32} {fq : Int32} {t0 : Nat → Int32} {t1 : Nat → Int32} {t2 : Nat → Int32} {t3 : Nat → Int32} {t4 : Nat → Int32} {t5 : Nat → Int32} {tL : Nat → Option Nat} {fu : Nat}  {xq : Int32} {RR : Nat → Nat → Int32} {j1 : Nat} {v2 : Int32} {r : Int32} (C : Cx p s m args meth c G A RX3 cX3_timesTaken 5 ((some .int))) (hj1 : j1 < 6)  (h : X3_timesTaken fu N  xq RR j1 v2 = some r) : Wd p l e rm_X3_timesTaken s m args below meth c G A 5 0 0 (QQ G A (fun o w => o = some (.int r) ∧ w = (xm G xa FA (fa 0) ra xq ak RR ++ ([rcw ra r1 r2 r3 r4 r5] ++ (fw G fa N fp fq t0 t1 t2 t3 t4 t5 tL)))) below args s 0 0) (xm G xa FA (fa 0) ra xq ak RR ++ ([rcw ra r1 r2 r3 r4 r5] ++ (fw G fa N fp fq t0 t1 t2 t3 t4 t5 tL))) [(0, .ref (xa 0)), (1, .ref (xa (3 + j1))), (2, .int v2)] 0 [] := by
  unfold X3_timesTaken at h
  refine w_iconst (v := 0) C dX3_timesTaken_0 (by decide) ?_
  refine w_istore_n C (Nat.le_of_ble_eq_true rfl) rfl dX3_timesTaken_1 ?_
  refine w_iconst (v := 0) C dX3_timesTaken_2 (by decide) ?_
  refine w_istore C (Nat.le_of_ble_eq_true rfl) rfl dX3_timesTaken_3 ?_
  refine w_lv [2, 3, 4, 1, 0] rfl ?_
  exact w_X3_timesTaken_5 C  hj1  _ _ _ h
theorem c_X3_timesTaken {l : Launch} {G : GG} {fa : Nat → Nat} {N : Nat} {ra : Nat} {xa : Nat → Nat} {FA : Nat → Option Nat} {xq : Int32} {ak : Int64} {RR : Nat → Nat → Int32} {r1 : Int32} {r2 : Int32} {r3 : Int32} {r4 : Int32} {r5 : Int32} {fp : Int32} {fq : Int32} {t0 : Nat → Int32} {t1 : Nat → Int32} {t2 : Nat → Int32} {t3 : Nat → Int32} {t4 : Nat → Int32} {t5 : Nat → Int32} {tL : Nat → Option Nat} (fu : Nat) {j1 : Nat} {v2 : Int32} (hj1 : j1 < 6) {r : Int32} (h : X3_timesTaken fu N xq RR j1 v2 = some r) : Ct l yX3_timesTaken cX3_timesTaken 5 ((some .int)) G rm_X3_timesTaken [.ref (xa 0), .ref (xa (3 + j1)), .int v2] (xm G xa FA (fa 0) ra xq ak RR ++ ([rcw ra r1 r2 r3 r4 r5] ++ (fw G fa N fp fq t0 t1 t2 t3 t4 t5 tL))) (fun o w => o = some (.int r) ∧ w = (xm G xa FA (fa 0) ra xq ak RR ++ ([rcw ra r1 r2 r3 r4 r5] ++ (fw G fa N fp fq t0 t1 t2 t3 t4 t5 tL)))) 0 0 := Ct.of (by decide) (Nat.le_of_ble_eq_true rfl) (fun p e s m args below meth c A C _ => w_X3_timesTaken C hj1 h)
abbrev rm_X3_fails : Room := { frames := 2, cells := 0, slots := 0, locals := 46 }
theorem pk_X3_fails : PkV RX3 yX3_fails cX3_fails 5 ((some .int)) 1 := ⟨rfl, co_X3_fails, ini_RX3, im_X3_fails, se_X3_fails, by decide +kernel⟩
set_option maxRecDepth 20000 in
set_option maxHeartbeats 4000000 in
theorem w_X3_fails_39 {fa : Nat → Nat} {N : Nat} {ra : Nat} {xa : Nat → Nat} {FA : Nat → Option Nat} {ak : Int64} {r1 : Int32} {r2 : Int32} {r3 : Int32} {r4 : Int32} {r5 : Int32} {fp : Int32} {t4 : Nat → Int32} {t5 : Nat → Int32} {tL : Nat → Option Nat} {xq : Int32} {fq : Int32} {t0 : Nat → Int32} {t1 : Nat → Int32} {t2 : Nat → Int32} {t3 : Nat → Int32} {j2 : Nat} {v3 : Int32} {fu : Nat} {rc26 : (Nat → Nat → Int32) → Int32 → Option (Int32 × (Nat → Nat → Int32))} {r : Int32 × (Nat → Nat → Int32)} (C : Cx p s m args meth c G A RX3 cX3_fails 5 ((some .int))) (hj2 : j2 < 6) (hrc26 : ∀ (RR : Nat → Nat → Int32) (v3 : Int32), rc26 RR v3 = some r → Wd p l e rm_X3_fails s m args below meth c G A 5 0 0 (QQ G A (fun o w => o = some (.int r.1) ∧ w = (xm G xa FA (fa 0) ra xq ak r.2 ++ ([rcw ra r1 r2 r3 r4 r5] ++ (fw G fa N fp fq t0 t1 t2 t3 t4 t5 tL)))) below args s 0 0) (xm G xa FA (fa 0) ra xq ak RR ++ ([rcw ra r1 r2 r3 r4 r5] ++ (fw G fa N fp fq t0 t1 t2 t3 t4 t5 tL))) [(0, .ref (xa 0)), (2, .ref (xa (3 + j2))), (3, .int v3)] 26 []) : ∀ (fk : Nat) (RR : Nat → Nat → Int32) (v4 : Int32), X3_fails_39 fu N rc26 xq fq t0 t1 t2 t3 j2 v3 fk RR v4 = some r → Wd p l e rm_X3_fails s m args below meth c G A 5 0 0 (QQ G A (fun o w => o = some (.int r.1) ∧ w = (xm G xa FA (fa 0) ra xq ak r.2 ++ ([rcw ra r1 r2 r3 r4 r5] ++ (fw G fa N fp fq t0 t1 t2 t3 t4 t5 tL)))) below args s 0 0) (xm G xa FA (fa 0) ra xq ak RR ++ ([rcw ra r1 r2 r3 r4 r5] ++ (fw G fa N fp fq t0 t1 t2 t3 t4 t5 tL))) [(0, .ref (xa 0)), (2, .ref (xa (3 + j2))), (3, .int v3), (4, .int v4)] 39 [] := by
  intro fk
  induction fk with
  | zero =>
    intro RR v4 h
    have h : (none : Option (Int32 × (Nat → Nat → Int32))) = some r := h
    cases h
  | succ fk ih =>
    intro RR v4 h
    have h : X3_fails_39_b fu N rc26 xq fq t0 t1 t2 t3 j2 v3 (X3_fails_39 fu N rc26 xq fq t0 t1 t2 t3 j2 v3 fk) RR v4 = some r := h
    unfold X3_fails_39_b at h
    refine w_iload C 3 rfl dX3_fails_39 ?_
    refine w_aload_n C 0 rfl dX3_fails_41 ?_
    refine gt_X3_42 C dX3_fails_42 ?_
    refine w_icmp_ge (tgt := 79) C dX3_fails_45 (by decide) (fun hb8 => ?_) (fun hb8 => ?_)
    · have h := if_t hb8 h
      refine w_aload_n C 0 rfl dX3_fails_79 ?_
      refine w_aload_n C 0 rfl dX3_fails_80 ?_
      refine gt_X3_20 C dX3_fails_81 ?_
      refine w_aload_n C 0 rfl dX3_fails_84 ?_
      refine gt_X3_42 C dX3_fails_85 ?_
      refine w_iconst (v := 1) C dX3_fails_88 (by decide) ?_
      refine w_isub C dX3_fails_89 ?_
      obtain ⟨x9, hx9, h⟩ := bd_some h
      refine w_cVi (wr := []) (qc := (RX3, TX3, 8)) C (c_X3_coefficientOf fu (by decide) hx9) pk_X3_coefficientOf ml_X3_67 (As := [.ref (xa (3 + 4)), .int (xq - 1)]) (rest := []) (k9 := 0) rfl rfl ⟨⟨rfl, rfl⟩, Nat.le_of_ble_eq_true rfl, Nat.le_of_ble_eq_true rfl⟩ rfl ⟨(Nat.le_of_ble_eq_true rfl), (Nat.le_of_ble_eq_true rfl)⟩ (Nat.le_of_ble_eq_true rfl) rfl rfl (List.nil_append _) dX3_fails_90 ?_
      refine w_if_eq (tgt := 98) C dX3_fails_93 (by decide) (fun hb10 => ?_) (fun hb10 => ?_)
      · have h := if_t hb10 h
        refine w_iinc (v := v3 + 1) (k := 2) C rfl rfl (Nat.le_of_ble_eq_true rfl) rfl dX3_fails_98 ?_
        refine w_goto (tgt := 26) C dX3_fails_101 (by decide) ?_
        refine w_lv [1, 2, 0] rfl ?_
        exact hrc26 _ _ h
      · have h := if_f hb10 h
        refine w_iload_n C 2 rfl dX3_fails_96 ?_
        cases h
        exact w_iret C ⟨rfl, rfl⟩ dX3_fails_97
    · have h := if_f hb8 h
      refine w_aload_n C 0 rfl dX3_fails_48 ?_
      refine gt_X3_20 C dX3_fails_49 ?_
      refine w_iload C 3 rfl dX3_fails_52 ?_
      refine w_aload_n C 0 rfl dX3_fails_54 ?_
      refine gt_X3_49 C dX3_fails_55 ?_
      refine w_aload_n C 0 rfl dX3_fails_58 ?_
      refine gt_X3_20 C dX3_fails_59 ?_
      refine w_iload C 3 rfl dX3_fails_62 ?_
      obtain ⟨hi11, h⟩ := ckI_some h
      refine ld_row C (by decide) hi11 dX3_fails_64 ?_
      refine w_aload_n C 1 rfl dX3_fails_65 ?_
      refine w_iload C 3 rfl dX3_fails_66 ?_
      obtain ⟨hi12, h⟩ := ckI_some h
      refine ld_row C hj2 hi12 dX3_fails_68 ?_
      obtain ⟨x13, hx13, h⟩ := bd_some h
      refine w_cVi (qc := (RX0, TX0, 9)) C (c_X0_product fu  hx13) pk_X0_product ml_X3_57 (As := [.int (RR 4 v4.toNatClampNeg), .int (RR j2 v4.toNatClampNeg)]) (rest := [.int v4, .ref (xa (3 + 4))]) (k9 := 0) rfl rfl ⟨⟨rfl, rfl⟩, Nat.le_of_ble_eq_true rfl, Nat.le_of_ble_eq_true rfl⟩ rfl ⟨(Nat.le_of_ble_eq_true rfl), (Nat.le_of_ble_eq_true rfl)⟩ (Nat.le_of_ble_eq_true rfl) rfl (List.append_assoc _ _ _).symm (List.append_assoc _ _ _) dX3_fails_69 ?_
      obtain ⟨hi14, h⟩ := ckI_some h
      refine sr_row C (by decide) hi14 dX3_fails_72 ?_
      refine w_iinc (v := v4 + 1) (k := 3) C rfl rfl (Nat.le_of_ble_eq_true rfl) rfl dX3_fails_73 ?_
      refine w_goto (tgt := 39) C dX3_fails_76 (by decide) ?_
      refine w_lv [1, 2, 3, 0] rfl ?_
      exact ih _ _ h
set_option maxRecDepth 20000 in
set_option maxHeartbeats 4000000 in
theorem w_X3_fails_26 {fa : Nat → Nat} {N : Nat} {ra : Nat} {xa : Nat → Nat} {FA : Nat → Option Nat} {ak : Int64} {r1 : Int32} {r2 : Int32} {r3 : Int32} {r4 : Int32} {r5 : Int32} {fp : Int32} {t4 : Nat → Int32} {t5 : Nat → Int32} {tL : Nat → Option Nat} {xq : Int32} {fq : Int32} {t0 : Nat → Int32} {t1 : Nat → Int32} {t2 : Nat → Int32} {t3 : Nat → Int32} {j2 : Nat} {fu : Nat}  {r : Int32 × (Nat → Nat → Int32)} (C : Cx p s m args meth c G A RX3 cX3_fails 5 ((some .int))) (hj2 : j2 < 6)  : ∀ (fk : Nat) (RR : Nat → Nat → Int32) (v3 : Int32), X3_fails_26 fu N  xq fq t0 t1 t2 t3 j2 fk RR v3 = some r → Wd p l e rm_X3_fails s m args below meth c G A 5 0 0 (QQ G A (fun o w => o = some (.int r.1) ∧ w = (xm G xa FA (fa 0) ra xq ak r.2 ++ ([rcw ra r1 r2 r3 r4 r5] ++ (fw G fa N fp fq t0 t1 t2 t3 t4 t5 tL)))) below args s 0 0) (xm G xa FA (fa 0) ra xq ak RR ++ ([rcw ra r1 r2 r3 r4 r5] ++ (fw G fa N fp fq t0 t1 t2 t3 t4 t5 tL))) [(0, .ref (xa 0)), (2, .ref (xa (3 + j2))), (3, .int v3)] 26 [] := by
  intro fk
  induction fk with
  | zero =>
    intro RR v3 h
    have h : (none : Option (Int32 × (Nat → Nat → Int32))) = some r := h
    cases h
  | succ fk ih =>
    intro RR v3 h
    have h : X3_fails_26_b fu N  xq fq t0 t1 t2 t3 j2 (X3_fails_26 fu N  xq fq t0 t1 t2 t3 j2 fk) RR v3 = some r := h
    unfold X3_fails_26_b at h
    refine w_iload_n C 2 rfl dX3_fails_26 ?_
    refine w_aload_n C 0 rfl dX3_fails_27 ?_
    refine gt_X3_42 C dX3_fails_28 ?_
    refine w_iconst (v := 2) C dX3_fails_31 (by decide) ?_
    refine w_isub C dX3_fails_32 ?_
    refine w_icmp_gt (tgt := 104) C dX3_fails_33 (by decide) (fun hb5 => ?_) (fun hb5 => ?_)
    · have h := if_t hb5 h
      refine w_aload_n C 0 rfl dX3_fails_104 ?_
      refine w_aload_n C 1 rfl dX3_fails_105 ?_
      refine w_iconst (v := 0) C dX3_fails_106 (by decide) ?_
      obtain ⟨x6, hx6, h⟩ := bd_some h
      refine w_cVi (wr := []) (qc := (RX3, TX3, 8)) C (c_X3_timesTaken fu hj2 hx6) pk_X3_timesTaken ml_X3_112 (As := [.ref (xa (3 + j2)), .int 0]) (rest := []) (k9 := 0) rfl rfl ⟨⟨rfl, rfl⟩, Nat.le_of_ble_eq_true rfl, Nat.le_of_ble_eq_true rfl⟩ rfl ⟨(Nat.le_of_ble_eq_true rfl), (Nat.le_of_ble_eq_true rfl)⟩ (Nat.le_of_ble_eq_true rfl) rfl rfl (List.nil_append _) dX3_fails_107 ?_
      refine w_iconst (v := 1) C dX3_fails_110 (by decide) ?_
      refine w_icmp_ne (tgt := 118) C dX3_fails_111 (by decide) (fun hb7 => ?_) (fun hb7 => ?_)
      · have h := if_f hb7 h
        refine w_aload_n C 0 rfl dX3_fails_118 ?_
        refine gt_X3_42 C dX3_fails_119 ?_
        refine w_iconst (v := 1) C dX3_fails_122 (by decide) ?_
        refine w_isub C dX3_fails_123 ?_
        cases h
        exact w_iret C ⟨rfl, rfl⟩ dX3_fails_124
      · have h := if_t hb7 h
        refine w_iconst (v := 0) C dX3_fails_114 (by decide) ?_
        refine w_goto (tgt := 124) C dX3_fails_115 (by decide) ?_
        cases h
        exact w_iret C ⟨rfl, rfl⟩ dX3_fails_124
    · have h := if_f hb5 h
      refine w_iconst (v := 0) C dX3_fails_36 (by decide) ?_
      refine w_istore C (Nat.le_of_ble_eq_true rfl) rfl dX3_fails_37 ?_
      refine w_lv [1, 2, 3, 0] rfl ?_
      exact w_X3_fails_39 C  hj2 ih _ _ _ h
set_option maxRecDepth 20000 in
set_option maxHeartbeats 4000000 in
theorem w_X3_fails {fa : Nat → Nat} {N : Nat} {ra : Nat} {xa : Nat → Nat} {FA : Nat → Option Nat} {ak : Int64} {r1 : Int32} {r2 : Int32} {r3 : Int32} {r4 : Int32} {r5 : Int32} {fp : Int32} {t4 : Nat → Int32} {t5 : Nat → Int32} {tL : Nat → Option Nat} {fu : Nat}  {xq : Int32} {RR : Nat → Nat → Int32} {fq : Int32} {t0 : Nat → Int32} {t1 : Nat → Int32} {t2 : Nat → Int32} {t3 : Nat → Int32} {v1 : Int32} {r : Int32 × (Nat → Nat → Int32)} (C : Cx p s m args meth c G A RX3 cX3_fails 5 ((some .int)))   (h : X3_fails fu N  xq RR fq t0 t1 t2 t3 v1 = some r) : Wd p l e rm_X3_fails s m args below meth c G A 5 0 0 (QQ G A (fun o w => o = some (.int r.1) ∧ w = (xm G xa FA (fa 0) ra xq ak r.2 ++ ([rcw ra r1 r2 r3 r4 r5] ++ (fw G fa N fp fq t0 t1 t2 t3 t4 t5 tL)))) below args s 0 0) (xm G xa FA (fa 0) ra xq ak RR ++ ([rcw ra r1 r2 r3 r4 r5] ++ (fw G fa N fp fq t0 t1 t2 t3 t4 t5 tL))) [(0, .ref (xa 0)), (1, .int v1)] 0 [] := by
  unfold X3_fails at h
  refine w_iload_n C 1 rfl dX3_fails_0 ?_
  obtain ⟨x1, hx1, h⟩ := bd_some h
  refine w_cSi C (c_X3_isMap fu  hx1) pk_X3_isMap ml_X3_64 (As := [.int v1]) (rest := []) ⟨⟨rfl, rfl⟩, Nat.le_of_ble_eq_true rfl, Nat.le_of_ble_eq_true rfl⟩ rfl ⟨(Nat.le_of_ble_eq_true rfl), (Nat.le_of_ble_eq_true rfl)⟩ (Nat.le_of_ble_eq_true rfl) rfl (List.append_nil _).symm (List.append_nil _) dX3_fails_1 ?_
  refine w_if_ne (tgt := 9) C dX3_fails_4 (by decide) (fun hb2 => ?_) (fun hb2 => ?_)
  · have h := if_f hb2 h
    refine w_aload_n C 0 rfl dX3_fails_9 ?_
    refine gt_X3_17 C dX3_fails_10 ?_
    refine w_iload_n C 1 rfl dX3_fails_13 ?_
    obtain ⟨hi3, h⟩ := ckI_some h
    refine ld_maps C hi3 dX3_fails_14 ?_
    refine w_astore_n C (Nat.le_of_ble_eq_true rfl) rfl dX3_fails_15 ?_
    refine w_aload_n C 1 rfl dX3_fails_16 ?_
    refine gt_X3_20 C dX3_fails_17 ?_
    refine w_iconst (v := 1) C dX3_fails_20 (by decide) ?_
    obtain ⟨x4, hx4, h⟩ := bd_some h
    refine w_fill C (by decide) hx4 ml_X3_106 (rest := []) (Nat.le_of_ble_eq_true rfl) (Nat.le_of_ble_eq_true rfl) (Nat.le_of_ble_eq_true rfl) (Nat.le_of_ble_eq_true rfl) (Nat.le_of_ble_eq_true rfl) dX3_fails_21 ?_
    refine w_iconst (v := 1) C dX3_fails_24 (by decide) ?_
    refine w_istore_n C (Nat.le_of_ble_eq_true rfl) rfl dX3_fails_25 ?_
    refine w_lv [2, 1, 0] rfl ?_
    exact w_X3_fails_26 C  (Nat.lt_trans (vp_lt hi3) (by decide))  _ _ _ h
  · have h := if_t hb2 h
    refine w_iconst (v := (-1)) C dX3_fails_7 (by decide) ?_
    cases h
    exact w_iret C ⟨rfl, rfl⟩ dX3_fails_8
theorem c_X3_fails {l : Launch} {G : GG} {fa : Nat → Nat} {N : Nat} {ra : Nat} {xa : Nat → Nat} {FA : Nat → Option Nat} {xq : Int32} {ak : Int64} {RR : Nat → Nat → Int32} {r1 : Int32} {r2 : Int32} {r3 : Int32} {r4 : Int32} {r5 : Int32} {fp : Int32} {fq : Int32} {t0 : Nat → Int32} {t1 : Nat → Int32} {t2 : Nat → Int32} {t3 : Nat → Int32} {t4 : Nat → Int32} {t5 : Nat → Int32} {tL : Nat → Option Nat} (fu : Nat) {v1 : Int32} {r : Int32 × (Nat → Nat → Int32)} (h : X3_fails fu N xq RR fq t0 t1 t2 t3 v1 = some r) : Ct l yX3_fails cX3_fails 5 ((some .int)) G rm_X3_fails [.ref (xa 0), .int v1] (xm G xa FA (fa 0) ra xq ak RR ++ ([rcw ra r1 r2 r3 r4 r5] ++ (fw G fa N fp fq t0 t1 t2 t3 t4 t5 tL))) (fun o w => o = some (.int r.1) ∧ w = (xm G xa FA (fa 0) ra xq ak r.2 ++ ([rcw ra r1 r2 r3 r4 r5] ++ (fw G fa N fp fq t0 t1 t2 t3 t4 t5 tL)))) 0 0 := Ct.of (by decide) (Nat.le_of_ble_eq_true rfl) (fun p e s m args below meth c A C _ => w_X3_fails C h)
abbrev rm_X3_image : Room := { frames := 2, cells := 0, slots := 0, locals := 43 }
theorem pk_X3_image : PkV RX3 yX3_image cX3_image 2 ((some .int)) 1 := ⟨rfl, co_X3_image, ini_RX3, im_X3_image, se_X3_image, by decide +kernel⟩
set_option maxRecDepth 20000 in
set_option maxHeartbeats 4000000 in
theorem w_X3_image {fa : Nat → Nat} {N : Nat} {ra : Nat} {xa : Nat → Nat} {FA : Nat → Option Nat} {ak : Int64} {r1 : Int32} {r2 : Int32} {r3 : Int32} {r4 : Int32} {r5 : Int32} {fp : Int32} {fq : Int32} {t0 : Nat → Int32} {t1 : Nat → Int32} {t2 : Nat → Int32} {t3 : Nat → Int32} {t4 : Nat → Int32} {t5 : Nat → Int32} {tL : Nat → Option Nat} {fu : Nat}  {xq : Int32} {RR : Nat → Nat → Int32} {v1 : Int32} {r : Int32} (C : Cx p s m args meth c G A RX3 cX3_image 2 ((some .int)))   (h : X3_image fu N  xq RR v1 = some r) : Wd p l e rm_X3_image s m args below meth c G A 2 0 0 (QQ G A (fun o w => o = some (.int r) ∧ w = (xm G xa FA (fa 0) ra xq ak RR ++ ([rcw ra r1 r2 r3 r4 r5] ++ (fw G fa N fp fq t0 t1 t2 t3 t4 t5 tL)))) below args s 0 0) (xm G xa FA (fa 0) ra xq ak RR ++ ([rcw ra r1 r2 r3 r4 r5] ++ (fw G fa N fp fq t0 t1 t2 t3 t4 t5 tL))) [(0, .ref (xa 0)), (1, .int v1)] 0 [] := by
  unfold X3_image at h
  refine w_iload_n C 1 rfl dX3_image_0 ?_
  obtain ⟨x1, hx1, h⟩ := bd_some h
  refine w_cSi C (c_X3_isMap fu  hx1) pk_X3_isMap ml_X3_64 (As := [.int v1]) (rest := []) ⟨⟨rfl, rfl⟩, Nat.le_of_ble_eq_true rfl, Nat.le_of_ble_eq_true rfl⟩ rfl ⟨(Nat.le_of_ble_eq_true rfl), (Nat.le_of_ble_eq_true rfl)⟩ (Nat.le_of_ble_eq_true rfl) rfl (List.append_nil _).symm (List.append_nil _) dX3_image_1 ?_
  refine w_if_ne (tgt := 9) C dX3_image_4 (by decide) (fun hb2 => ?_) (fun hb2 => ?_)
  · have h := if_f hb2 h
    refine w_aload_n C 0 rfl dX3_image_9 ?_
    refine w_aload_n C 0 rfl dX3_image_10 ?_
    refine gt_X3_17 C dX3_image_11 ?_
    refine w_iload_n C 1 rfl dX3_image_14 ?_
    obtain ⟨hi3, h⟩ := ckI_some h
    refine ld_maps C hi3 dX3_image_15 ?_
    obtain ⟨x4, hx4, h⟩ := bd_some h
    refine w_cVi (wr := []) (qc := (RX3, TX3, 8)) C (c_X3_imageSize fu (Nat.lt_trans (vp_lt hi3) (by decide)) hx4) pk_X3_imageSize ml_X3_115 (As := [.ref (xa (3 + v1.toNatClampNeg))]) (rest := []) (k9 := 0) rfl rfl ⟨⟨rfl, rfl⟩, Nat.le_of_ble_eq_true rfl, Nat.le_of_ble_eq_true rfl⟩ rfl ⟨(Nat.le_of_ble_eq_true rfl), (Nat.le_of_ble_eq_true rfl)⟩ (Nat.le_of_ble_eq_true rfl) rfl rfl (List.nil_append _) dX3_image_16 ?_
    cases h
    exact w_iret C ⟨rfl, rfl⟩ dX3_image_19
  · have h := if_t hb2 h
    refine w_iconst (v := (-1)) C dX3_image_7 (by decide) ?_
    cases h
    exact w_iret C ⟨rfl, rfl⟩ dX3_image_8
theorem c_X3_image {l : Launch} {G : GG} {fa : Nat → Nat} {N : Nat} {ra : Nat} {xa : Nat → Nat} {FA : Nat → Option Nat} {xq : Int32} {ak : Int64} {RR : Nat → Nat → Int32} {r1 : Int32} {r2 : Int32} {r3 : Int32} {r4 : Int32} {r5 : Int32} {fp : Int32} {fq : Int32} {t0 : Nat → Int32} {t1 : Nat → Int32} {t2 : Nat → Int32} {t3 : Nat → Int32} {t4 : Nat → Int32} {t5 : Nat → Int32} {tL : Nat → Option Nat} (fu : Nat) {v1 : Int32} {r : Int32} (h : X3_image fu N xq RR v1 = some r) : Ct l yX3_image cX3_image 2 ((some .int)) G rm_X3_image [.ref (xa 0), .int v1] (xm G xa FA (fa 0) ra xq ak RR ++ ([rcw ra r1 r2 r3 r4 r5] ++ (fw G fa N fp fq t0 t1 t2 t3 t4 t5 tL))) (fun o w => o = some (.int r) ∧ w = (xm G xa FA (fa 0) ra xq ak RR ++ ([rcw ra r1 r2 r3 r4 r5] ++ (fw G fa N fp fq t0 t1 t2 t3 t4 t5 tL)))) 0 0 := Ct.of (by decide) (Nat.le_of_ble_eq_true rfl) (fun p e s m args below meth c A C _ => w_X3_image C h)
abbrev rm_X3_turn : Room := { frames := 3, cells := 0, slots := 0, locals := 64 }
theorem pk_X3_turn : PkV RX3 yX3_turn cX3_turn 3 ((some .int)) 1 := ⟨rfl, co_X3_turn, ini_RX3, im_X3_turn, se_X3_turn, by decide +kernel⟩
set_option maxRecDepth 20000 in
set_option maxHeartbeats 4000000 in
theorem w_X3_turn_27 {fa : Nat → Nat} {N : Nat} {ra : Nat} {xa : Nat → Nat} {FA : Nat → Option Nat} {ak : Int64} {r1 : Int32} {r2 : Int32} {r3 : Int32} {r4 : Int32} {r5 : Int32} {fp : Int32} {fq : Int32} {t0 : Nat → Int32} {t1 : Nat → Int32} {t2 : Nat → Int32} {t3 : Nat → Int32} {t4 : Nat → Int32} {t5 : Nat → Int32} {tL : Nat → Option Nat} {xq : Int32} {v1 : Int32} {fu : Nat}  {r : Int32 × (Nat → Nat → Int32)} (C : Cx p s m args meth c G A RX3 cX3_turn 3 ((some .int)))   : ∀ (fk : Nat) (RR : Nat → Nat → Int32) (v2 : Int32), X3_turn_27 fu N  xq v1 fk RR v2 = some r → Wd p l e rm_X3_turn s m args below meth c G A 3 0 0 (QQ G A (fun o w => o = some (.int r.1) ∧ w = (xm G xa FA (fa 0) ra xq ak r.2 ++ ([rcw ra r1 r2 r3 r4 r5] ++ (fw G fa N fp fq t0 t1 t2 t3 t4 t5 tL)))) below args s 0 0) (xm G xa FA (fa 0) ra xq ak RR ++ ([rcw ra r1 r2 r3 r4 r5] ++ (fw G fa N fp fq t0 t1 t2 t3 t4 t5 tL))) [(0, .ref (xa 0)), (1, .int v1), (2, .int v2)] 27 [] := by
  intro fk
  induction fk with
  | zero =>
    intro RR v2 h
    have h : (none : Option (Int32 × (Nat → Nat → Int32))) = some r := h
    cases h
  | succ fk ih =>
    intro RR v2 h
    have h : X3_turn_27_b fu N  xq v1 (X3_turn_27 fu N  xq v1 fk) RR v2 = some r := h
    unfold X3_turn_27_b at h
    refine w_iload_n C 2 rfl dX3_turn_27 ?_
    refine w_aload_n C 0 rfl dX3_turn_28 ?_
    refine gt_X3_42 C dX3_turn_29 ?_
    refine w_icmp_ge (tgt := 55) C dX3_turn_32 (by decide) (fun hb6 => ?_) (fun hb6 => ?_)
    · have h := if_t hb6 h
      refine w_aload_n C 0 rfl dX3_turn_55 ?_
      refine w_iload_n C 1 rfl dX3_turn_56 ?_
      obtain ⟨x7, hx7, h⟩ := bd_some h
      refine w_cVv (wr := []) (qc := (RX3, TX3, 8)) C (c_X3_putSpare fu  hx7) pk_X3_putSpare ml_X3_95 (As := [.int v1]) (rest := []) (k9 := 0) rfl rfl ⟨⟨rfl, rfl⟩, Nat.le_of_ble_eq_true rfl, Nat.le_of_ble_eq_true rfl⟩ rfl ⟨(Nat.le_of_ble_eq_true rfl), (Nat.le_of_ble_eq_true rfl)⟩ (Nat.le_of_ble_eq_true rfl) rfl rfl (List.nil_append _) dX3_turn_57 ?_
      refine w_iconst (v := 1) C dX3_turn_60 (by decide) ?_
      cases h
      exact w_iret C ⟨rfl, rfl⟩ dX3_turn_61
    · have h := if_f hb6 h
      refine w_aload_n C 0 rfl dX3_turn_35 ?_
      refine gt_X3_20 C dX3_turn_36 ?_
      refine w_aload_n C 0 rfl dX3_turn_39 ?_
      refine gt_X3_17 C dX3_turn_40 ?_
      refine w_iload_n C 1 rfl dX3_turn_43 ?_
      obtain ⟨hi8, h⟩ := ckI_some h
      refine ld_maps C hi8 dX3_turn_44 ?_
      refine w_iload_n C 2 rfl dX3_turn_45 ?_
      obtain ⟨hi9, h⟩ := ckI_some h
      refine ld_row C (Nat.lt_trans (vp_lt hi8) (by decide)) hi9 dX3_turn_46 ?_
      refine w_iload_n C 2 rfl dX3_turn_47 ?_
      obtain ⟨hi10, h⟩ := ckI_some h
      refine sr_row C (by decide) hi10 dX3_turn_48 ?_
      refine w_iinc (v := v2 + 1) (k := 2) C rfl rfl (Nat.le_of_ble_eq_true rfl) rfl dX3_turn_49 ?_
      refine w_goto (tgt := 27) C dX3_turn_52 (by decide) ?_
      refine w_lv [1, 2, 0] rfl ?_
      exact ih _ _ h
set_option maxRecDepth 20000 in
set_option maxHeartbeats 4000000 in
theorem w_X3_turn {fa : Nat → Nat} {N : Nat} {ra : Nat} {xa : Nat → Nat} {FA : Nat → Option Nat} {ak : Int64} {r1 : Int32} {r2 : Int32} {r3 : Int32} {r4 : Int32} {r5 : Int32} {fp : Int32} {fq : Int32} {t0 : Nat → Int32} {t1 : Nat → Int32} {t2 : Nat → Int32} {t3 : Nat → Int32} {t4 : Nat → Int32} {t5 : Nat → Int32} {tL : Nat → Option Nat} {fu : Nat}  {xq : Int32} {RR : Nat → Nat → Int32} {v1 : Int32} {r : Int32 × (Nat → Nat → Int32)} (C : Cx p s m args meth c G A RX3 cX3_turn 3 ((some .int)))   (h : X3_turn fu N  xq RR v1 = some r) : Wd p l e rm_X3_turn s m args below meth c G A 3 0 0 (QQ G A (fun o w => o = some (.int r.1) ∧ w = (xm G xa FA (fa 0) ra xq ak r.2 ++ ([rcw ra r1 r2 r3 r4 r5] ++ (fw G fa N fp fq t0 t1 t2 t3 t4 t5 tL)))) below args s 0 0) (xm G xa FA (fa 0) ra xq ak RR ++ ([rcw ra r1 r2 r3 r4 r5] ++ (fw G fa N fp fq t0 t1 t2 t3 t4 t5 tL))) [(0, .ref (xa 0)), (1, .int v1)] 0 [] := by
  unfold X3_turn at h
  refine w_iload_n C 1 rfl dX3_turn_0 ?_
  obtain ⟨x1, hx1, h⟩ := bd_some h
  refine w_cSi C (c_X3_isMap fu  hx1) pk_X3_isMap ml_X3_64 (As := [.int v1]) (rest := []) ⟨⟨rfl, rfl⟩, Nat.le_of_ble_eq_true rfl, Nat.le_of_ble_eq_true rfl⟩ rfl ⟨(Nat.le_of_ble_eq_true rfl), (Nat.le_of_ble_eq_true rfl)⟩ (Nat.le_of_ble_eq_true rfl) rfl (List.append_nil _).symm (List.append_nil _) dX3_turn_1 ?_
  refine w_if_ne (tgt := 9) C dX3_turn_4 (by decide) (fun hb2 => ?_) (fun hb2 => ?_)
  · have h := if_f hb2 h
    refine w_aload_n C 0 rfl dX3_turn_9 ?_
    refine w_aload_n C 0 rfl dX3_turn_10 ?_
    refine gt_X3_17 C dX3_turn_11 ?_
    refine w_iload_n C 1 rfl dX3_turn_14 ?_
    obtain ⟨hi3, h⟩ := ckI_some h
    refine ld_maps C hi3 dX3_turn_15 ?_
    obtain ⟨x4, hx4, h⟩ := bd_some h
    refine w_cVi (wr := []) (qc := (RX3, TX3, 8)) C (c_X3_isShuffle fu (Nat.lt_trans (vp_lt hi3) (by decide)) hx4) pk_X3_isShuffle ml_X3_98 (As := [.ref (xa (3 + v1.toNatClampNeg))]) (rest := []) (k9 := 0) rfl rfl ⟨⟨rfl, rfl⟩, Nat.le_of_ble_eq_true rfl, Nat.le_of_ble_eq_true rfl⟩ rfl ⟨(Nat.le_of_ble_eq_true rfl), (Nat.le_of_ble_eq_true rfl)⟩ (Nat.le_of_ble_eq_true rfl) rfl rfl (List.nil_append _) dX3_turn_16 ?_
    refine w_if_ne (tgt := 25) C dX3_turn_19 (by decide) (fun hb5 => ?_) (fun hb5 => ?_)
    · have h := if_f hb5 h
      refine w_iconst (v := 0) C dX3_turn_25 (by decide) ?_
      refine w_istore_n C (Nat.le_of_ble_eq_true rfl) rfl dX3_turn_26 ?_
      refine w_lv [1, 2, 0] rfl ?_
      exact w_X3_turn_27 C    _ _ _ h
    · have h := if_t hb5 h
      refine w_bipush (v := (-2)) C dX3_turn_22 (by decide) ?_
      cases h
      exact w_iret C ⟨rfl, rfl⟩ dX3_turn_24
  · have h := if_t hb2 h
    refine w_iconst (v := (-1)) C dX3_turn_7 (by decide) ?_
    cases h
    exact w_iret C ⟨rfl, rfl⟩ dX3_turn_8
theorem c_X3_turn {l : Launch} {G : GG} {fa : Nat → Nat} {N : Nat} {ra : Nat} {xa : Nat → Nat} {FA : Nat → Option Nat} {xq : Int32} {ak : Int64} {RR : Nat → Nat → Int32} {r1 : Int32} {r2 : Int32} {r3 : Int32} {r4 : Int32} {r5 : Int32} {fp : Int32} {fq : Int32} {t0 : Nat → Int32} {t1 : Nat → Int32} {t2 : Nat → Int32} {t3 : Nat → Int32} {t4 : Nat → Int32} {t5 : Nat → Int32} {tL : Nat → Option Nat} (fu : Nat) {v1 : Int32} {r : Int32 × (Nat → Nat → Int32)} (h : X3_turn fu N xq RR v1 = some r) : Ct l yX3_turn cX3_turn 3 ((some .int)) G rm_X3_turn [.ref (xa 0), .int v1] (xm G xa FA (fa 0) ra xq ak RR ++ ([rcw ra r1 r2 r3 r4 r5] ++ (fw G fa N fp fq t0 t1 t2 t3 t4 t5 tL))) (fun o w => o = some (.int r.1) ∧ w = (xm G xa FA (fa 0) ra xq ak r.2 ++ ([rcw ra r1 r2 r3 r4 r5] ++ (fw G fa N fp fq t0 t1 t2 t3 t4 t5 tL)))) 0 0 := Ct.of (by decide) (Nat.le_of_ble_eq_true rfl) (fun p e s m args below meth c A C _ => w_X3_turn C h)
abbrev rm_X3_roundOf : Room := { frames := 0, cells := 0, slots := 0, locals := 0 }
theorem pk_X3_roundOf : PkV RX3 yX3_roundOf cX3_roundOf 5 ((some .int)) 2 := ⟨rfl, co_X3_roundOf, ini_RX3, im_X3_roundOf, se_X3_roundOf, by decide +kernel⟩
set_option maxRecDepth 20000 in
set_option maxHeartbeats 4000000 in
theorem w_X3_roundOf_7 {fa : Nat → Nat} {N : Nat} {ra : Nat} {xa : Nat → Nat} {FA : Nat → Option Nat} {ak : Int64} {r1 : Int32} {r2 : Int32} {r3 : Int32} {r4 : Int32} {r5 : Int32} {fp : Int32} {fq : Int32} {t0 : Nat → Int32} {t1 : Nat → Int32} {t2 : Nat → Int32} {t3 : Nat → Int32} {t4 : Nat → Int32} {t5 : Nat → Int32} {tL : Nat → Option Nat} {xq : Int32} {RR : Nat → Nat → Int32} {j1 : Nat} {v2 : Int32} {fu : Nat}  {r : Int32} (C : Cx p s m args meth c G A RX3 cX3_roundOf 5 ((some .int))) (hj1 : j1 < 6)  : ∀ (fk : Nat) (v3 : Int32) (v4 : Int32), X3_roundOf_7 fu N  xq RR j1 v2 fk v3 v4 = some r → Wd p l e rm_X3_roundOf s m args below meth c G A 5 0 0 (QQ G A (fun o w => o = some (.int r) ∧ w = (xm G xa FA (fa 0) ra xq ak RR ++ ([rcw ra r1 r2 r3 r4 r5] ++ (fw G fa N fp fq t0 t1 t2 t3 t4 t5 tL)))) below args s 0 0) (xm G xa FA (fa 0) ra xq ak RR ++ ([rcw ra r1 r2 r3 r4 r5] ++ (fw G fa N fp fq t0 t1 t2 t3 t4 t5 tL))) [(0, .ref (xa 0)), (1, .ref (xa (3 + j1))), (2, .int v2), (3, .int v3), (4, .int v4)] 7 [] := by
  intro fk
  induction fk with
  | zero =>
    intro v3 v4 h
    have h : (none : Option Int32) = some r := h
    cases h
  | succ fk ih =>
    intro v3 v4 h
    have h : X3_roundOf_7_b fu N  xq RR j1 v2 (X3_roundOf_7 fu N  xq RR j1 v2 fk) v3 v4 = some r := h
    unfold X3_roundOf_7_b at h
    refine w_iload_n C 3 rfl dX3_roundOf_7 ?_
    refine w_iload_n C 2 rfl dX3_roundOf_8 ?_
    refine w_icmp_eq (tgt := 31) C dX3_roundOf_9 (by decide) (fun hb2 => ?_) (fun hb2 => ?_)
    · have h := if_t hb2 h
      refine w_iload C 4 rfl dX3_roundOf_31 ?_
      cases h
      exact w_iret C ⟨rfl, rfl⟩ dX3_roundOf_33
    · have h := if_f hb2 h
      refine w_iload C 4 rfl dX3_roundOf_12 ?_
      refine w_aload_n C 0 rfl dX3_roundOf_14 ?_
      refine gt_X3_42 C dX3_roundOf_15 ?_
      refine w_icmp_ge (tgt := 31) C dX3_roundOf_18 (by decide) (fun hb3 => ?_) (fun hb3 => ?_)
      · have h := if_t hb3 h
        refine w_iload C 4 rfl dX3_roundOf_31 ?_
        cases h
        exact w_iret C ⟨rfl, rfl⟩ dX3_roundOf_33
      · have h := if_f hb3 h
        refine w_aload_n C 1 rfl dX3_roundOf_21 ?_
        refine w_iload_n C 3 rfl dX3_roundOf_22 ?_
        obtain ⟨hi4, h⟩ := ckI_some h
        refine ld_row C hj1 hi4 dX3_roundOf_23 ?_
        refine w_istore_n C (Nat.le_of_ble_eq_true rfl) rfl dX3_roundOf_24 ?_
        refine w_iinc (v := v4 + 1) (k := 4) C rfl rfl (Nat.le_of_ble_eq_true rfl) rfl dX3_roundOf_25 ?_
        refine w_goto (tgt := 7) C dX3_roundOf_28 (by decide) ?_
        refine w_lv [2, 3, 4, 1, 0] rfl ?_
        exact ih _ _ h
set_option maxRecDepth 20000 in
set_option maxHeartbeats 4000000 in
theorem w_X3_roundOf {fa : Nat → Nat} {N : Nat} {ra : Nat} {xa : Nat → Nat} {FA : Nat → Option Nat} {ak : Int64} {r1 : Int32} {r2 : Int32} {r3 : Int32} {r4 : Int32} {r5 : Int32} {fp : Int32} {fq : Int32} {t0 : Nat → Int32} {t1 : Nat → Int32} {t2 : Nat → Int32} {t3 : Nat → Int32} {t4 : Nat → Int32} {t5 : Nat → Int32} {tL : Nat → Option Nat} {fu : Nat}  {xq : Int32} {RR : Nat → Nat → Int32} {j1 : Nat} {v2 : Int32} {r : Int32} (C : Cx p s m args meth c G A RX3 cX3_roundOf 5 ((some .int))) (hj1 : j1 < 6)  (h : X3_roundOf fu N  xq RR j1 v2 = some r) : Wd p l e rm_X3_roundOf s m args below meth c G A 5 0 0 (QQ G A (fun o w => o = some (.int r) ∧ w = (xm G xa FA (fa 0) ra xq ak RR ++ ([rcw ra r1 r2 r3 r4 r5] ++ (fw G fa N fp fq t0 t1 t2 t3 t4 t5 tL)))) below args s 0 0) (xm G xa FA (fa 0) ra xq ak RR ++ ([rcw ra r1 r2 r3 r4 r5] ++ (fw G fa N fp fq t0 t1 t2 t3 t4 t5 tL))) [(0, .ref (xa 0)), (1, .ref (xa (3 + j1))), (2, .int v2)] 0 [] := by
  unfold X3_roundOf at h
  refine w_aload_n C 1 rfl dX3_roundOf_0 ?_
  refine w_iload_n C 2 rfl dX3_roundOf_1 ?_
  obtain ⟨hi1, h⟩ := ckI_some h
  refine ld_row C hj1 hi1 dX3_roundOf_2 ?_
  refine w_istore_n C (Nat.le_of_ble_eq_true rfl) rfl dX3_roundOf_3 ?_
  refine w_iconst (v := 1) C dX3_roundOf_4 (by decide) ?_
  refine w_istore C (Nat.le_of_ble_eq_true rfl) rfl dX3_roundOf_5 ?_
  refine w_lv [2, 3, 4, 1, 0] rfl ?_
  exact w_X3_roundOf_7 C  hj1  _ _ _ h
theorem c_X3_roundOf {l : Launch} {G : GG} {fa : Nat → Nat} {N : Nat} {ra : Nat} {xa : Nat → Nat} {FA : Nat → Option Nat} {xq : Int32} {ak : Int64} {RR : Nat → Nat → Int32} {r1 : Int32} {r2 : Int32} {r3 : Int32} {r4 : Int32} {r5 : Int32} {fp : Int32} {fq : Int32} {t0 : Nat → Int32} {t1 : Nat → Int32} {t2 : Nat → Int32} {t3 : Nat → Int32} {t4 : Nat → Int32} {t5 : Nat → Int32} {tL : Nat → Option Nat} (fu : Nat) {j1 : Nat} {v2 : Int32} (hj1 : j1 < 6) {r : Int32} (h : X3_roundOf fu N xq RR j1 v2 = some r) : Ct l yX3_roundOf cX3_roundOf 5 ((some .int)) G rm_X3_roundOf [.ref (xa 0), .ref (xa (3 + j1)), .int v2] (xm G xa FA (fa 0) ra xq ak RR ++ ([rcw ra r1 r2 r3 r4 r5] ++ (fw G fa N fp fq t0 t1 t2 t3 t4 t5 tL))) (fun o w => o = some (.int r) ∧ w = (xm G xa FA (fa 0) ra xq ak RR ++ ([rcw ra r1 r2 r3 r4 r5] ++ (fw G fa N fp fq t0 t1 t2 t3 t4 t5 tL)))) 0 0 := Ct.of (by decide) (Nat.le_of_ble_eq_true rfl) (fun p e s m args below meth c A C _ => w_X3_roundOf C hj1 h)
abbrev rm_X3_leastCommonMultiple : Room := { frames := 0, cells := 0, slots := 0, locals := 0 }
theorem pk_X3_leastCommonMultiple : PkS yX3_leastCommonMultiple cX3_leastCommonMultiple 4 ((some .int)) 2 := ⟨co_X3_leastCommonMultiple, ini_RX3, st_X3_leastCommonMultiple, by decide +kernel⟩
set_option maxRecDepth 20000 in
set_option maxHeartbeats 4000000 in
theorem w_X3_leastCommonMultiple_4  {v0 : Int32} {v1 : Int32} {fu : Nat}  {r : Int32} (C : Cx p s m args meth c G A RX3 cX3_leastCommonMultiple 4 ((some .int)))   : ∀ (fk : Nat) (v2 : Int32) (v3 : Int32), X3_leastCommonMultiple_4 fu  v0 v1 fk v2 v3 = some r → Wd p l e rm_X3_leastCommonMultiple s m args below meth c G A 4 0 0 (QQ G A (fun o w => o = some (.int r) ∧ w = []) below args s 0 0) [] [(0, .int v0), (1, .int v1), (2, .int v2), (3, .int v3)] 4 [] := by
  intro fk
  induction fk with
  | zero =>
    intro v2 v3 h
    have h : (none : Option Int32) = some r := h
    cases h
  | succ fk ih =>
    intro v2 v3 h
    have h : X3_leastCommonMultiple_4_b fu  v0 v1 (X3_leastCommonMultiple_4 fu  v0 v1 fk) v2 v3 = some r := h
    unfold X3_leastCommonMultiple_4_b at h
    refine w_iload_n C 3 rfl dX3_leastCommonMultiple_4 ?_
    refine w_iload_n C 1 rfl dX3_leastCommonMultiple_5 ?_
    refine w_icmp_ge (tgt := 25) C dX3_leastCommonMultiple_6 (by decide) (fun hb1 => ?_) (fun hb1 => ?_)
    · have h := if_t hb1 h
      refine w_iload_n C 2 rfl dX3_leastCommonMultiple_25 ?_
      cases h
      exact w_iret C ⟨rfl, rfl⟩ dX3_leastCommonMultiple_26
    · have h := if_f hb1 h
      refine w_iload_n C 2 rfl dX3_leastCommonMultiple_9 ?_
      refine w_iload_n C 1 rfl dX3_leastCommonMultiple_10 ?_
      obtain ⟨hz2, h⟩ := ckZ_some h
      refine w_irem C hz2 dX3_leastCommonMultiple_11 ?_
      refine w_if_eq (tgt := 25) C dX3_leastCommonMultiple_12 (by decide) (fun hb3 => ?_) (fun hb3 => ?_)
      · have h := if_t hb3 h
        refine w_iload_n C 2 rfl dX3_leastCommonMultiple_25 ?_
        cases h
        exact w_iret C ⟨rfl, rfl⟩ dX3_leastCommonMultiple_26
      · have h := if_f hb3 h
        refine w_iload_n C 2 rfl dX3_leastCommonMultiple_15 ?_
        refine w_iload_n C 0 rfl dX3_leastCommonMultiple_16 ?_
        refine w_iadd C dX3_leastCommonMultiple_17 ?_
        refine w_istore_n C (Nat.le_of_ble_eq_true rfl) rfl dX3_leastCommonMultiple_18 ?_
        refine w_iinc (v := v3 + 1) (k := 3) C rfl rfl (Nat.le_of_ble_eq_true rfl) rfl dX3_leastCommonMultiple_19 ?_
        refine w_goto (tgt := 4) C dX3_leastCommonMultiple_22 (by decide) ?_
        refine w_lv [2, 3, 1, 0] rfl ?_
        exact ih _ _ h
set_option maxRecDepth 20000 in
set_option maxHeartbeats 4000000 in
theorem w_X3_leastCommonMultiple  {fu : Nat}  {v0 : Int32} {v1 : Int32} {r : Int32} (C : Cx p s m args meth c G A RX3 cX3_leastCommonMultiple 4 ((some .int)))   (h : X3_leastCommonMultiple fu  v0 v1 = some r) : Wd p l e rm_X3_leastCommonMultiple s m args below meth c G A 4 0 0 (QQ G A (fun o w => o = some (.int r) ∧ w = []) below args s 0 0) [] [(0, .int v0), (1, .int v1)] 0 [] := by
  unfold X3_leastCommonMultiple at h
  refine w_iload_n C 0 rfl dX3_leastCommonMultiple_0 ?_
  refine w_istore_n C (Nat.le_of_ble_eq_true rfl) rfl dX3_leastCommonMultiple_1 ?_
  refine w_iconst (v := 1) C dX3_leastCommonMultiple_2 (by decide) ?_
  refine w_istore_n C (Nat.le_of_ble_eq_true rfl) rfl dX3_leastCommonMultiple_3 ?_
  refine w_lv [2, 3, 1, 0] rfl ?_
  exact w_X3_leastCommonMultiple_4 C    _ _ _ h
theorem c_X3_leastCommonMultiple {l : Launch} {G : GG}  (fu : Nat) {v0 : Int32} {v1 : Int32} {r : Int32} (h : X3_leastCommonMultiple fu  v0 v1 = some r) : Ct l yX3_leastCommonMultiple cX3_leastCommonMultiple 4 ((some .int)) G rm_X3_leastCommonMultiple [.int v0, .int v1] [] (fun o w => o = some (.int r) ∧ w = []) 0 0 := Ct.of (by decide) (Nat.le_of_ble_eq_true rfl) (fun p e s m args below meth c A C _ => w_X3_leastCommonMultiple C h)
end
