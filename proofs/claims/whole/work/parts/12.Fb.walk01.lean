section
variable {p : Program} {l : Launch} {e : Env} {s : State} {m : MethodId} {args : Array Value} {below : List Frame} {meth : Method} {c : Code} {G : GG} {A : Nat → Prop}
abbrev rm_X0_polynomialAt : Room := { frames := 1, cells := 0, slots := 0, locals := 22 }
theorem pk_X0_polynomialAt : PkV RX0 yX0_polynomialAt cX0_polynomialAt 5 ((some .int)) 2 := ⟨rfl, co_X0_polynomialAt, ini_RX0, im_X0_polynomialAt, se_X0_polynomialAt, by decide +kernel⟩
set_option maxRecDepth 20000 in
set_option maxHeartbeats 4000000 in
theorem w_X0_polynomialAt_5 {fa : Nat → Nat} {N : Nat} {fp : Int32} {t2 : Nat → Int32} {t3 : Nat → Int32} {t4 : Nat → Int32} {tL : Nat → Option Nat} {fq : Int32} {t0 : Nat → Int32} {t1 : Nat → Int32} {t5 : Nat → Int32} {v2 : Int32} {fu : Nat}  {r : Int32} (C : Cx p s m args meth c G A RX0 cX0_polynomialAt 5 ((some .int)))   : ∀ (fk : Nat) (v3 : Int32) (v4 : Int32), X0_polynomialAt_5 fu N  fq t0 t1 t5 v2 fk v3 v4 = some r → Wd p l e rm_X0_polynomialAt s m args below meth c G A 5 0 0 (QQ G A (fun o w => o = some (.int r) ∧ w = (fw G fa N fp fq t0 t1 t2 t3 t4 t5 tL)) below args s 0 0) (fw G fa N fp fq t0 t1 t2 t3 t4 t5 tL) [(0, .ref (fa 0)), (2, .int v2), (3, .int v3), (4, .int v4)] 5 [] := by
  intro fk
  induction fk with
  | zero =>
    intro v3 v4 h
    have h : (none : Option Int32) = some r := h
    cases h
  | succ fk ih =>
    intro v3 v4 h
    have h : X0_polynomialAt_5_b fu N  fq t0 t1 t5 v2 (X0_polynomialAt_5 fu N  fq t0 t1 t5 v2 fk) v3 v4 = some r := h
    unfold X0_polynomialAt_5_b at h
    refine w_iload C 3 rfl dX0_polynomialAt_5 ?_
    refine w_if_le (tgt := 34) C dX0_polynomialAt_7 (by decide) (fun hb1 => ?_) (fun hb1 => ?_)
    · have h := if_t hb1 h
      refine w_iload_n C 2 rfl dX0_polynomialAt_34 ?_
      cases h
      exact w_iret C ⟨rfl, rfl⟩ dX0_polynomialAt_35
    · have h := if_f hb1 h
      refine w_aload_n C 0 rfl dX0_polynomialAt_10 ?_
      refine w_aload_n C 0 rfl dX0_polynomialAt_11 ?_
      refine w_iload_n C 2 rfl dX0_polynomialAt_12 ?_
      refine w_aload_n C 0 rfl dX0_polynomialAt_13 ?_
      refine gt_X0_9 C dX0_polynomialAt_14 ?_
      refine w_iload C 3 rfl dX0_polynomialAt_17 ?_
      obtain ⟨hi2, h⟩ := ckI_some h
      refine ld_t5 C hi2 dX0_polynomialAt_19 ?_
      obtain ⟨x3, hx3, h⟩ := bd_some h
      refine w_cVi (wr := []) (qc := (RX0, TX0, 9)) C (c_X0_sum fu  hx3) pk_X0_sum ml_X0_69 (As := [.int v3, .int (t5 v4.toNatClampNeg)]) (rest := [.ref (fa 0)]) (k9 := 0) rfl rfl ⟨⟨rfl, rfl⟩, Nat.le_of_ble_eq_true rfl, Nat.le_of_ble_eq_true rfl⟩ rfl ⟨(Nat.le_of_ble_eq_true rfl), (Nat.le_of_ble_eq_true rfl)⟩ (Nat.le_of_ble_eq_true rfl) rfl rfl (List.nil_append _) dX0_polynomialAt_20 ?_
      refine w_iload_n C 1 rfl dX0_polynomialAt_23 ?_
      obtain ⟨x4, hx4, h⟩ := bd_some h
      refine w_cVi (wr := []) (qc := (RX0, TX0, 9)) C (c_X0_product fu  hx4) pk_X0_product ml_X0_72 (As := [.int x3, .int v2]) (rest := []) (k9 := 0) rfl rfl ⟨⟨rfl, rfl⟩, Nat.le_of_ble_eq_true rfl, Nat.le_of_ble_eq_true rfl⟩ rfl ⟨(Nat.le_of_ble_eq_true rfl), (Nat.le_of_ble_eq_true rfl)⟩ (Nat.le_of_ble_eq_true rfl) rfl rfl (List.nil_append _) dX0_polynomialAt_24 ?_
      refine w_istore_n C (Nat.le_of_ble_eq_true rfl) rfl dX0_polynomialAt_27 ?_
      refine w_iinc (v := v4 + (-1)) (k := 3) C rfl (by rw [litm1]) (Nat.le_of_ble_eq_true rfl) rfl dX0_polynomialAt_28 ?_
      refine w_goto (tgt := 5) C dX0_polynomialAt_31 (by decide) ?_
      refine w_lv [2, 3, 1, 0] rfl ?_
      exact ih _ _ h
set_option maxRecDepth 20000 in
set_option maxHeartbeats 4000000 in
theorem w_X0_polynomialAt {fa : Nat → Nat} {N : Nat} {fp : Int32} {t2 : Nat → Int32} {t3 : Nat → Int32} {t4 : Nat → Int32} {tL : Nat → Option Nat} {fu : Nat}  {fq : Int32} {t0 : Nat → Int32} {t1 : Nat → Int32} {t5 : Nat → Int32} {v1 : Int32} {v2 : Int32} {r : Int32} (C : Cx p s m args meth c G A RX0 cX0_polynomialAt 5 ((some .int)))   (h : X0_polynomialAt fu N  fq t0 t1 t5 v1 v2 = some r) : Wd p l e rm_X0_polynomialAt s m args below meth c G A 5 0 0 (QQ G A (fun o w => o = some (.int r) ∧ w = (fw G fa N fp fq t0 t1 t2 t3 t4 t5 tL)) below args s 0 0) (fw G fa N fp fq t0 t1 t2 t3 t4 t5 tL) [(0, .ref (fa 0)), (1, .int v1), (2, .int v2)] 0 [] := by
  unfold X0_polynomialAt at h
  refine w_iconst (v := 0) C dX0_polynomialAt_0 (by decide) ?_
  refine w_istore_n C (Nat.le_of_ble_eq_true rfl) rfl dX0_polynomialAt_1 ?_
  refine w_iload_n C 2 rfl dX0_polynomialAt_2 ?_
  refine w_istore C (Nat.le_of_ble_eq_true rfl) rfl dX0_polynomialAt_3 ?_
  refine w_lv [2, 4, 1, 0] rfl ?_
  exact w_X0_polynomialAt_5 C    _ _ _ h
theorem c_X0_polynomialAt {l : Launch} {G : GG} {fa : Nat → Nat} {N : Nat} {fp : Int32} {fq : Int32} {t0 : Nat → Int32} {t1 : Nat → Int32} {t2 : Nat → Int32} {t3 : Nat → Int32} {t4 : Nat → Int32} {t5 : Nat → Int32} {tL : Nat → Option Nat} (fu : Nat) {v1 : Int32} {v2 : Int32} {r : Int32} (h : X0_polynomialAt fu N fq t0 t1 t5 v1 v2 = some r) : Ct l yX0_polynomialAt cX0_polynomialAt 5 ((some .int)) G rm_X0_polynomialAt [.ref (fa 0), .int v1, .int v2] (fw G fa N fp fq t0 t1 t2 t3 t4 t5 tL) (fun o w => o = some (.int r) ∧ w = (fw G fa N fp fq t0 t1 t2 t3 t4 t5 tL)) 0 0 := Ct.of (by decide) (Nat.le_of_ble_eq_true rfl) (fun p e s m args below meth c A C _ => w_X0_polynomialAt C h)
abbrev rm_X0_polynomialShuffles : Room := { frames := 2, cells := 0, slots := 0, locals := 46 }
theorem pk_X0_polynomialShuffles : PkV RX0 yX0_polynomialShuffles cX0_polynomialShuffles 5 ((some .boolean)) 1 := ⟨rfl, co_X0_polynomialShuffles, ini_RX0, im_X0_polynomialShuffles, se_X0_polynomialShuffles, by decide +kernel⟩
set_option maxRecDepth 20000 in
set_option maxHeartbeats 4000000 in
theorem w_X0_polynomialShuffles_4 {fa : Nat → Nat} {N : Nat} {fp : Int32} {t2 : Nat → Int32} {t3 : Nat → Int32} {t4 : Nat → Int32} {tL : Nat → Option Nat} {fq : Int32} {t0 : Nat → Int32} {t1 : Nat → Int32} {t5 : Nat → Int32} {v1 : Int32} {fu : Nat}  {r : Int32} (C : Cx p s m args meth c G A RX0 cX0_polynomialShuffles 5 ((some .boolean)))   : ∀ (fk : Nat) (v2 : Int32) (v3 : Int32), X0_polynomialShuffles_4 fu N  fq t0 t1 t5 v1 fk v2 v3 = some r → Wd p l e rm_X0_polynomialShuffles s m args below meth c G A 5 0 0 (QQ G A (fun o w => o = some (.int r) ∧ w = (fw G fa N fp fq t0 t1 t2 t3 t4 t5 tL)) below args s 0 0) (fw G fa N fp fq t0 t1 t2 t3 t4 t5 tL) [(0, .ref (fa 0)), (1, .int v1), (2, .int v2), (3, .int v3)] 4 [] := by
  intro fk
  induction fk with
  | zero =>
    intro v2 v3 h
    have h : (none : Option Int32) = some r := h
    cases h
  | succ fk ih =>
    intro v2 v3 h
    have h : X0_polynomialShuffles_4_b fu N  fq t0 t1 t5 v1 (X0_polynomialShuffles_4 fu N  fq t0 t1 t5 v1 fk) v2 v3 = some r := h
    unfold X0_polynomialShuffles_4_b at h
    refine w_iload_n C 3 rfl dX0_polynomialShuffles_4 ?_
    refine w_aload_n C 0 rfl dX0_polynomialShuffles_5 ?_
    refine gt_X0_21 C dX0_polynomialShuffles_6 ?_
    refine w_icmp_ge (tgt := 42) C dX0_polynomialShuffles_9 (by decide) (fun hb1 => ?_) (fun hb1 => ?_)
    · have h := if_t hb1 h
      refine w_iconst (v := 1) C dX0_polynomialShuffles_42 (by decide) ?_
      cases h
      exact w_zret C rfl ⟨rfl, rfl⟩ dX0_polynomialShuffles_43
    · have h := if_f hb1 h
      refine w_iconst (v := 1) C dX0_polynomialShuffles_12 (by decide) ?_
      refine w_aload_n C 0 rfl dX0_polynomialShuffles_13 ?_
      refine w_iload_n C 1 rfl dX0_polynomialShuffles_14 ?_
      refine w_iload_n C 3 rfl dX0_polynomialShuffles_15 ?_
      obtain ⟨x2, hx2, h⟩ := bd_some h
      refine w_cVi (wr := []) (qc := (RX0, TX0, 9)) C (c_X0_polynomialAt fu  hx2) pk_X0_polynomialAt ml_X0_95 (As := [.int v1, .int v3]) (rest := [.int 1]) (k9 := 0) rfl rfl ⟨⟨rfl, rfl⟩, Nat.le_of_ble_eq_true rfl, Nat.le_of_ble_eq_true rfl⟩ rfl ⟨(Nat.le_of_ble_eq_true rfl), (Nat.le_of_ble_eq_true rfl)⟩ (Nat.le_of_ble_eq_true rfl) rfl rfl (List.nil_append _) dX0_polynomialShuffles_16 ?_
      refine w_ishl C dX0_polynomialShuffles_19 ?_
      refine w_istore C (Nat.le_of_ble_eq_true rfl) rfl dX0_polynomialShuffles_20 ?_
      refine w_iload_n C 3 rfl dX0_polynomialShuffles_22 ?_
      refine w_iload C 0 rfl dX0_polynomialShuffles_23 ?_
      refine w_iand C dX0_polynomialShuffles_25 ?_
      refine w_if_eq (tgt := 31) C dX0_polynomialShuffles_26 (by decide) (fun hb3 => ?_) (fun hb3 => ?_)
      · have h := if_t hb3 h
        refine w_iload_n C 3 rfl dX0_polynomialShuffles_31 ?_
        refine w_iload C 0 rfl dX0_polynomialShuffles_32 ?_
        refine w_ior C dX0_polynomialShuffles_34 ?_
        refine w_istore_n C (Nat.le_of_ble_eq_true rfl) rfl dX0_polynomialShuffles_35 ?_
        refine w_iinc (v := v3 + 1) (k := 4) C rfl rfl (Nat.le_of_ble_eq_true rfl) rfl dX0_polynomialShuffles_36 ?_
        refine w_goto (tgt := 4) C dX0_polynomialShuffles_39 (by decide) ?_
        refine w_lv [3, 4, 1, 0] rfl ?_
        exact ih _ _ h
      · have h := if_f hb3 h
        refine w_iconst (v := 0) C dX0_polynomialShuffles_29 (by decide) ?_
        cases h
        exact w_zret C rfl ⟨rfl, rfl⟩ dX0_polynomialShuffles_30
set_option maxRecDepth 20000 in
set_option maxHeartbeats 4000000 in
theorem w_X0_polynomialShuffles {fa : Nat → Nat} {N : Nat} {fp : Int32} {t2 : Nat → Int32} {t3 : Nat → Int32} {t4 : Nat → Int32} {tL : Nat → Option Nat} {fu : Nat}  {fq : Int32} {t0 : Nat → Int32} {t1 : Nat → Int32} {t5 : Nat → Int32} {v1 : Int32} {r : Int32} (C : Cx p s m args meth c G A RX0 cX0_polynomialShuffles 5 ((some .boolean)))   (h : X0_polynomialShuffles fu N  fq t0 t1 t5 v1 = some r) : Wd p l e rm_X0_polynomialShuffles s m args below meth c G A 5 0 0 (QQ G A (fun o w => o = some (.int r) ∧ w = (fw G fa N fp fq t0 t1 t2 t3 t4 t5 tL)) below args s 0 0) (fw G fa N fp fq t0 t1 t2 t3 t4 t5 tL) [(0, .ref (fa 0)), (1, .int v1)] 0 [] := by
  unfold X0_polynomialShuffles at h
  refine w_iconst (v := 0) C dX0_polynomialShuffles_0 (by decide) ?_
  refine w_istore_n C (Nat.le_of_ble_eq_true rfl) rfl dX0_polynomialShuffles_1 ?_
  refine w_iconst (v := 0) C dX0_polynomialShuffles_2 (by decide) ?_
  refine w_istore_n C (Nat.le_of_ble_eq_true rfl) rfl dX0_polynomialShuffles_3 ?_
  refine w_lv [2, 3, 1, 0] rfl ?_
  exact w_X0_polynomialShuffles_4 C    _ _ _ h
theorem c_X0_polynomialShuffles {l : Launch} {G : GG} {fa : Nat → Nat} {N : Nat} {fp : Int32} {fq : Int32} {t0 : Nat → Int32} {t1 : Nat → Int32} {t2 : Nat → Int32} {t3 : Nat → Int32} {t4 : Nat → Int32} {t5 : Nat → Int32} {tL : Nat → Option Nat} (fu : Nat) {v1 : Int32} {r : Int32} (h : X0_polynomialShuffles fu N fq t0 t1 t5 v1 = some r) : Ct l yX0_polynomialShuffles cX0_polynomialShuffles 5 ((some .boolean)) G rm_X0_polynomialShuffles [.ref (fa 0), .int v1] (fw G fa N fp fq t0 t1 t2 t3 t4 t5 tL) (fun o w => o = some (.int r) ∧ w = (fw G fa N fp fq t0 t1 t2 t3 t4 t5 tL)) 0 0 := Ct.of (by decide) (Nat.le_of_ble_eq_true rfl) (fun p e s m args below meth c A C _ => w_X0_polynomialShuffles C h)
end
