section
variable {p : Program} {l : Launch} {e : Env} {s : State} {m : MethodId} {args : Array Value} {below : List Frame} {meth : Method} {c : Code} {G : GG} {A : Nat → Prop}
abbrev rm_X0_sum : Room := { frames := 0, cells := 0, slots := 0, locals := 0 }
theorem pk_X0_sum : PkV RX0 yX0_sum cX0_sum 3 ((some .int)) 2 := ⟨rfl, co_X0_sum, ini_RX0, im_X0_sum, se_X0_sum, by decide +kernel⟩
set_option maxRecDepth 20000 in
set_option maxHeartbeats 4000000 in
theorem w_X0_sum {fa : Nat → Nat} {N : Nat} {fp : Int32} {t1 : Nat → Int32} {t2 : Nat → Int32} {t3 : Nat → Int32} {t4 : Nat → Int32} {t5 : Nat → Int32} {tL : Nat → Option Nat} {fu : Nat}  {fq : Int32} {t0 : Nat → Int32} {v1 : Int32} {v2 : Int32} {r : Int32} (C : Cx p s m args meth c G A RX0 cX0_sum 3 ((some .int)))   (h : X0_sum fu N  fq t0 v1 v2 = some r) : Wd p l e rm_X0_sum s m args below meth c G A 3 0 0 (QQ G A (fun o w => o = some (.int r) ∧ w = (fw G fa N fp fq t0 t1 t2 t3 t4 t5 tL)) below args s 0 0) (fw G fa N fp fq t0 t1 t2 t3 t4 t5 tL) [(0, .ref (fa 0)), (1, .int v1), (2, .int v2)] 0 [] := by
  unfold X0_sum at h
  refine w_aload_n C 0 rfl dX0_sum_0 ?_
  refine gt_X0_32 C dX0_sum_1 ?_
  refine w_iload_n C 1 rfl dX0_sum_4 ?_
  refine w_aload_n C 0 rfl dX0_sum_5 ?_
  refine gt_X0_21 C dX0_sum_6 ?_
  refine w_imul C dX0_sum_9 ?_
  refine w_iload_n C 2 rfl dX0_sum_10 ?_
  refine w_iadd C dX0_sum_11 ?_
  obtain ⟨hi1, h⟩ := ckI_some h
  refine ld_t0 C hi1 dX0_sum_12 ?_
  cases h
  exact w_iret C ⟨rfl, rfl⟩ dX0_sum_13
theorem c_X0_sum {l : Launch} {G : GG} {fa : Nat → Nat} {N : Nat} {fp : Int32} {fq : Int32} {t0 : Nat → Int32} {t1 : Nat → Int32} {t2 : Nat → Int32} {t3 : Nat → Int32} {t4 : Nat → Int32} {t5 : Nat → Int32} {tL : Nat → Option Nat} (fu : Nat) {v1 : Int32} {v2 : Int32} {r : Int32} (h : X0_sum fu N fq t0 v1 v2 = some r) : Ct l yX0_sum cX0_sum 3 ((some .int)) G rm_X0_sum [.ref (fa 0), .int v1, .int v2] (fw G fa N fp fq t0 t1 t2 t3 t4 t5 tL) (fun o w => o = some (.int r) ∧ w = (fw G fa N fp fq t0 t1 t2 t3 t4 t5 tL)) 0 0 := Ct.of (by decide) (Nat.le_of_ble_eq_true rfl) (fun p e s m args below meth c A C _ => w_X0_sum C h)
abbrev rm_X0_less : Room := { frames := 0, cells := 0, slots := 0, locals := 0 }
theorem pk_X0_less : PkV RX0 yX0_less cX0_less 3 ((some .int)) 2 := ⟨rfl, co_X0_less, ini_RX0, im_X0_less, se_X0_less, by decide +kernel⟩
set_option maxRecDepth 20000 in
set_option maxHeartbeats 4000000 in
theorem w_X0_less {fa : Nat → Nat} {N : Nat} {fp : Int32} {t1 : Nat → Int32} {t2 : Nat → Int32} {t4 : Nat → Int32} {t5 : Nat → Int32} {tL : Nat → Option Nat} {fu : Nat}  {fq : Int32} {t0 : Nat → Int32} {t3 : Nat → Int32} {v1 : Int32} {v2 : Int32} {r : Int32} (C : Cx p s m args meth c G A RX0 cX0_less 3 ((some .int)))   (h : X0_less fu N  fq t0 t3 v1 v2 = some r) : Wd p l e rm_X0_less s m args below meth c G A 3 0 0 (QQ G A (fun o w => o = some (.int r) ∧ w = (fw G fa N fp fq t0 t1 t2 t3 t4 t5 tL)) below args s 0 0) (fw G fa N fp fq t0 t1 t2 t3 t4 t5 tL) [(0, .ref (fa 0)), (1, .int v1), (2, .int v2)] 0 [] := by
  unfold X0_less at h
  refine w_aload_n C 0 rfl dX0_less_0 ?_
  refine gt_X0_32 C dX0_less_1 ?_
  refine w_iload_n C 1 rfl dX0_less_4 ?_
  refine w_aload_n C 0 rfl dX0_less_5 ?_
  refine gt_X0_21 C dX0_less_6 ?_
  refine w_imul C dX0_less_9 ?_
  refine w_aload_n C 0 rfl dX0_less_10 ?_
  refine gt_X0_41 C dX0_less_11 ?_
  refine w_iload_n C 2 rfl dX0_less_14 ?_
  obtain ⟨hi1, h⟩ := ckI_some h
  refine ld_t3 C hi1 dX0_less_15 ?_
  refine w_iadd C dX0_less_16 ?_
  obtain ⟨hi2, h⟩ := ckI_some h
  refine ld_t0 C hi2 dX0_less_17 ?_
  cases h
  exact w_iret C ⟨rfl, rfl⟩ dX0_less_18
theorem c_X0_less {l : Launch} {G : GG} {fa : Nat → Nat} {N : Nat} {fp : Int32} {fq : Int32} {t0 : Nat → Int32} {t1 : Nat → Int32} {t2 : Nat → Int32} {t3 : Nat → Int32} {t4 : Nat → Int32} {t5 : Nat → Int32} {tL : Nat → Option Nat} (fu : Nat) {v1 : Int32} {v2 : Int32} {r : Int32} (h : X0_less fu N fq t0 t3 v1 v2 = some r) : Ct l yX0_less cX0_less 3 ((some .int)) G rm_X0_less [.ref (fa 0), .int v1, .int v2] (fw G fa N fp fq t0 t1 t2 t3 t4 t5 tL) (fun o w => o = some (.int r) ∧ w = (fw G fa N fp fq t0 t1 t2 t3 t4 t5 tL)) 0 0 := Ct.of (by decide) (Nat.le_of_ble_eq_true rfl) (fun p e s m args below meth c A C _ => w_X0_less C h)
abbrev rm_X0_product : Room := { frames := 0, cells := 0, slots := 0, locals := 0 }
theorem pk_X0_product : PkV RX0 yX0_product cX0_product 3 ((some .int)) 2 := ⟨rfl, co_X0_product, ini_RX0, im_X0_product, se_X0_product, by decide +kernel⟩
set_option maxRecDepth 20000 in
set_option maxHeartbeats 4000000 in
theorem w_X0_product {fa : Nat → Nat} {N : Nat} {fp : Int32} {t0 : Nat → Int32} {t2 : Nat → Int32} {t3 : Nat → Int32} {t4 : Nat → Int32} {t5 : Nat → Int32} {tL : Nat → Option Nat} {fu : Nat}  {fq : Int32} {t1 : Nat → Int32} {v1 : Int32} {v2 : Int32} {r : Int32} (C : Cx p s m args meth c G A RX0 cX0_product 3 ((some .int)))   (h : X0_product fu N  fq t1 v1 v2 = some r) : Wd p l e rm_X0_product s m args below meth c G A 3 0 0 (QQ G A (fun o w => o = some (.int r) ∧ w = (fw G fa N fp fq t0 t1 t2 t3 t4 t5 tL)) below args s 0 0) (fw G fa N fp fq t0 t1 t2 t3 t4 t5 tL) [(0, .ref (fa 0)), (1, .int v1), (2, .int v2)] 0 [] := by
  unfold X0_product at h
  refine w_aload_n C 0 rfl dX0_product_0 ?_
  refine gt_X0_35 C dX0_product_1 ?_
  refine w_iload_n C 1 rfl dX0_product_4 ?_
  refine w_aload_n C 0 rfl dX0_product_5 ?_
  refine gt_X0_21 C dX0_product_6 ?_
  refine w_imul C dX0_product_9 ?_
  refine w_iload_n C 2 rfl dX0_product_10 ?_
  refine w_iadd C dX0_product_11 ?_
  obtain ⟨hi1, h⟩ := ckI_some h
  refine ld_t1 C hi1 dX0_product_12 ?_
  cases h
  exact w_iret C ⟨rfl, rfl⟩ dX0_product_13
theorem c_X0_product {l : Launch} {G : GG} {fa : Nat → Nat} {N : Nat} {fp : Int32} {fq : Int32} {t0 : Nat → Int32} {t1 : Nat → Int32} {t2 : Nat → Int32} {t3 : Nat → Int32} {t4 : Nat → Int32} {t5 : Nat → Int32} {tL : Nat → Option Nat} (fu : Nat) {v1 : Int32} {v2 : Int32} {r : Int32} (h : X0_product fu N fq t1 v1 v2 = some r) : Ct l yX0_product cX0_product 3 ((some .int)) G rm_X0_product [.ref (fa 0), .int v1, .int v2] (fw G fa N fp fq t0 t1 t2 t3 t4 t5 tL) (fun o w => o = some (.int r) ∧ w = (fw G fa N fp fq t0 t1 t2 t3 t4 t5 tL)) 0 0 := Ct.of (by decide) (Nat.le_of_ble_eq_true rfl) (fun p e s m args below meth c A C _ => w_X0_product C h)
abbrev rm_X0_inverse : Room := { frames := 0, cells := 0, slots := 0, locals := 0 }
theorem pk_X0_inverse : PkV RX0 yX0_inverse cX0_inverse 2 ((some .int)) 1 := ⟨rfl, co_X0_inverse, ini_RX0, im_X0_inverse, se_X0_inverse, by decide +kernel⟩
set_option maxRecDepth 20000 in
set_option maxHeartbeats 4000000 in
theorem w_X0_inverse {fa : Nat → Nat} {N : Nat} {fp : Int32} {fq : Int32} {t0 : Nat → Int32} {t1 : Nat → Int32} {t2 : Nat → Int32} {t3 : Nat → Int32} {t5 : Nat → Int32} {tL : Nat → Option Nat} {fu : Nat}  {t4 : Nat → Int32} {v1 : Int32} {r : Int32} (C : Cx p s m args meth c G A RX0 cX0_inverse 2 ((some .int)))   (h : X0_inverse fu N  t4 v1 = some r) : Wd p l e rm_X0_inverse s m args below meth c G A 2 0 0 (QQ G A (fun o w => o = some (.int r) ∧ w = (fw G fa N fp fq t0 t1 t2 t3 t4 t5 tL)) below args s 0 0) (fw G fa N fp fq t0 t1 t2 t3 t4 t5 tL) [(0, .ref (fa 0)), (1, .int v1)] 0 [] := by
  unfold X0_inverse at h
  refine w_aload_n C 0 rfl dX0_inverse_0 ?_
  refine gt_X0_44 C dX0_inverse_1 ?_
  refine w_iload_n C 1 rfl dX0_inverse_4 ?_
  obtain ⟨hi1, h⟩ := ckI_some h
  refine ld_t4 C hi1 dX0_inverse_5 ?_
  cases h
  exact w_iret C ⟨rfl, rfl⟩ dX0_inverse_6
theorem c_X0_inverse {l : Launch} {G : GG} {fa : Nat → Nat} {N : Nat} {fp : Int32} {fq : Int32} {t0 : Nat → Int32} {t1 : Nat → Int32} {t2 : Nat → Int32} {t3 : Nat → Int32} {t4 : Nat → Int32} {t5 : Nat → Int32} {tL : Nat → Option Nat} (fu : Nat) {v1 : Int32} {r : Int32} (h : X0_inverse fu N t4 v1 = some r) : Ct l yX0_inverse cX0_inverse 2 ((some .int)) G rm_X0_inverse [.ref (fa 0), .int v1] (fw G fa N fp fq t0 t1 t2 t3 t4 t5 tL) (fun o w => o = some (.int r) ∧ w = (fw G fa N fp fq t0 t1 t2 t3 t4 t5 tL)) 0 0 := Ct.of (by decide) (Nat.le_of_ble_eq_true rfl) (fun p e s m args below meth c A C _ => w_X0_inverse C h)
abbrev rm_X0_raised : Room := { frames := 0, cells := 0, slots := 0, locals := 0 }
theorem pk_X0_raised : PkV RX0 yX0_raised cX0_raised 3 ((some .int)) 2 := ⟨rfl, co_X0_raised, ini_RX0, im_X0_raised, se_X0_raised, by decide +kernel⟩
set_option maxRecDepth 20000 in
set_option maxHeartbeats 4000000 in
theorem w_X0_raised_34 {fa : Nat → Nat} {N : Nat} {fp : Int32} {t0 : Nat → Int32} {t1 : Nat → Int32} {t3 : Nat → Int32} {t4 : Nat → Int32} {t5 : Nat → Int32} {tL : Nat → Option Nat} {fu : Nat}  {fq : Int32} {t2 : Nat → Int32} {s0 : Int32} {s1 : Int32} {r : Int32} (C : Cx p s m args meth c G A RX0 cX0_raised 3 ((some .int)))   (h : X0_raised_34 fu N  fq t2 s0 s1 = some r) : Wd p l e rm_X0_raised s m args below meth c G A 3 0 0 (QQ G A (fun o w => o = some (.int r) ∧ w = (fw G fa N fp fq t0 t1 t2 t3 t4 t5 tL)) below args s 0 0) (fw G fa N fp fq t0 t1 t2 t3 t4 t5 tL) [] 34 [.int s0, .int s1, .ref (fa 3)] := by
  unfold X0_raised_34 at h
  refine w_iadd C dX0_raised_34 ?_
  obtain ⟨hi3, h⟩ := ckI_some h
  refine ld_t2 C hi3 dX0_raised_35 ?_
  cases h
  exact w_iret C ⟨rfl, rfl⟩ dX0_raised_36
set_option maxRecDepth 20000 in
set_option maxHeartbeats 4000000 in
theorem w_X0_raised {fa : Nat → Nat} {N : Nat} {fp : Int32} {t0 : Nat → Int32} {t1 : Nat → Int32} {t3 : Nat → Int32} {t4 : Nat → Int32} {t5 : Nat → Int32} {tL : Nat → Option Nat} {fu : Nat}  {fq : Int32} {t2 : Nat → Int32} {v1 : Int32} {v2 : Int32} {r : Int32} (C : Cx p s m args meth c G A RX0 cX0_raised 3 ((some .int)))   (h : X0_raised fu N  fq t2 v1 v2 = some r) : Wd p l e rm_X0_raised s m args below meth c G A 3 0 0 (QQ G A (fun o w => o = some (.int r) ∧ w = (fw G fa N fp fq t0 t1 t2 t3 t4 t5 tL)) below args s 0 0) (fw G fa N fp fq t0 t1 t2 t3 t4 t5 tL) [(0, .ref (fa 0)), (1, .int v1), (2, .int v2)] 0 [] := by
  unfold X0_raised at h
  refine w_aload_n C 0 rfl dX0_raised_0 ?_
  refine gt_X0_38 C dX0_raised_1 ?_
  refine w_iload_n C 1 rfl dX0_raised_4 ?_
  refine w_aload_n C 0 rfl dX0_raised_5 ?_
  refine gt_X0_21 C dX0_raised_6 ?_
  refine w_imul C dX0_raised_9 ?_
  refine w_iload_n C 2 rfl dX0_raised_10 ?_
  refine w_aload_n C 0 rfl dX0_raised_11 ?_
  refine gt_X0_21 C dX0_raised_12 ?_
  refine w_icmp_ge (tgt := 22) C dX0_raised_15 (by decide) (fun hb1 => ?_) (fun hb1 => ?_)
  · have h := if_t hb1 h
    refine w_iconst (v := 1) C dX0_raised_22 (by decide) ?_
    refine w_iload_n C 2 rfl dX0_raised_23 ?_
    refine w_iconst (v := 1) C dX0_raised_24 (by decide) ?_
    refine w_isub C dX0_raised_25 ?_
    refine w_aload_n C 0 rfl dX0_raised_26 ?_
    refine gt_X0_21 C dX0_raised_27 ?_
    refine w_iconst (v := 1) C dX0_raised_30 (by decide) ?_
    refine w_isub C dX0_raised_31 ?_
    obtain ⟨hz2, h⟩ := ckZ_some h
    refine w_irem C hz2 dX0_raised_32 ?_
    refine w_iadd C dX0_raised_33 ?_
    refine w_lv [] rfl ?_
    exact w_X0_raised_34 C    h
  · have h := if_f hb1 h
    refine w_iload_n C 2 rfl dX0_raised_18 ?_
    refine w_goto (tgt := 34) C dX0_raised_19 (by decide) ?_
    refine w_lv [] rfl ?_
    exact w_X0_raised_34 C    h
theorem c_X0_raised {l : Launch} {G : GG} {fa : Nat → Nat} {N : Nat} {fp : Int32} {fq : Int32} {t0 : Nat → Int32} {t1 : Nat → Int32} {t2 : Nat → Int32} {t3 : Nat → Int32} {t4 : Nat → Int32} {t5 : Nat → Int32} {tL : Nat → Option Nat} (fu : Nat) {v1 : Int32} {v2 : Int32} {r : Int32} (h : X0_raised fu N fq t2 v1 v2 = some r) : Ct l yX0_raised cX0_raised 3 ((some .int)) G rm_X0_raised [.ref (fa 0), .int v1, .int v2] (fw G fa N fp fq t0 t1 t2 t3 t4 t5 tL) (fun o w => o = some (.int r) ∧ w = (fw G fa N fp fq t0 t1 t2 t3 t4 t5 tL)) 0 0 := Ct.of (by decide) (Nat.le_of_ble_eq_true rfl) (fun p e s m args below meth c A C _ => w_X0_raised C h)
abbrev rm_X0_primeOf : Room := { frames := 0, cells := 0, slots := 0, locals := 0 }
theorem pk_X0_primeOf : PkS yX0_primeOf cX0_primeOf 1 ((some .int)) 1 := ⟨co_X0_primeOf, ini_RX0, st_X0_primeOf, by decide +kernel⟩
set_option maxRecDepth 20000 in
set_option maxHeartbeats 4000000 in
theorem w_X0_primeOf  {fu : Nat}  {v0 : Int32} {r : Int32} (C : Cx p s m args meth c G A RX0 cX0_primeOf 1 ((some .int)))   (h : X0_primeOf fu  v0 = some r) : Wd p l e rm_X0_primeOf s m args below meth c G A 1 0 0 (QQ G A (fun o w => o = some (.int r) ∧ w = []) below args s 0 0) [] [(0, .int v0)] 0 [] := by
  unfold X0_primeOf at h
  refine w_iload_n C 0 rfl dX0_primeOf_0 ?_
  by_cases hb1 : v0 = 4
  · have h := if_t hb1 h
    refine w_lookup (off := 43) (tgt := 44) C dX0_primeOf_1 (by decide) (by rw [hb1]; decide) (by decide) ?_
    refine w_iconst (v := 2) C dX0_primeOf_44 (by decide) ?_
    cases h
    exact w_iret C ⟨rfl, rfl⟩ dX0_primeOf_45
  · have h := if_f hb1 h
    by_cases hb2 : v0 = 8
    · have h := if_t hb2 h
      refine w_lookup (off := 43) (tgt := 44) C dX0_primeOf_1 (by decide) (by rw [hb2]; decide) (by decide) ?_
      refine w_iconst (v := 2) C dX0_primeOf_44 (by decide) ?_
      cases h
      exact w_iret C ⟨rfl, rfl⟩ dX0_primeOf_45
    · have h := if_f hb2 h
      by_cases hb3 : v0 = 9
      · have h := if_t hb3 h
        refine w_lookup (off := 45) (tgt := 46) C dX0_primeOf_1 (by decide) (by rw [hb3]; decide) (by decide) ?_
        refine w_iconst (v := 3) C dX0_primeOf_46 (by decide) ?_
        cases h
        exact w_iret C ⟨rfl, rfl⟩ dX0_primeOf_47
      · have h := if_f hb3 h
        by_cases hb4 : v0 = 16
        · have h := if_t hb4 h
          refine w_lookup (off := 43) (tgt := 44) C dX0_primeOf_1 (by decide) (by rw [hb4]; decide) (by decide) ?_
          refine w_iconst (v := 2) C dX0_primeOf_44 (by decide) ?_
          cases h
          exact w_iret C ⟨rfl, rfl⟩ dX0_primeOf_45
        · have h := if_f hb4 h
          refine w_lookup (off := 47) (tgt := 48) C dX0_primeOf_1 (by decide) ((lv_osw hb1 (by decide)).trans ((lv_osw hb2 (by decide)).trans ((lv_osw hb3 (by decide)).trans ((lv_osw hb4 (by decide)).trans (rfl))))) (by decide) ?_
          refine w_iload_n C 0 rfl dX0_primeOf_48 ?_
          cases h
          exact w_iret C ⟨rfl, rfl⟩ dX0_primeOf_49
theorem c_X0_primeOf {l : Launch} {G : GG}  (fu : Nat) {v0 : Int32} {r : Int32} (h : X0_primeOf fu  v0 = some r) : Ct l yX0_primeOf cX0_primeOf 1 ((some .int)) G rm_X0_primeOf [.int v0] [] (fun o w => o = some (.int r) ∧ w = []) 0 0 := Ct.of (by decide) (Nat.le_of_ble_eq_true rfl) (fun p e s m args below meth c A C _ => w_X0_primeOf C h)
abbrev rm_X0_digitwise : Room := { frames := 0, cells := 0, slots := 0, locals := 0 }
theorem pk_X0_digitwise : PkV RX0 yX0_digitwise cX0_digitwise 5 ((some .int)) 2 := ⟨rfl, co_X0_digitwise, ini_RX0, im_X0_digitwise, se_X0_digitwise, by decide +kernel⟩
set_option maxRecDepth 20000 in
set_option maxHeartbeats 4000000 in
theorem w_X0_digitwise_5 {fa : Nat → Nat} {N : Nat} {t0 : Nat → Int32} {t1 : Nat → Int32} {t2 : Nat → Int32} {t3 : Nat → Int32} {t4 : Nat → Int32} {t5 : Nat → Int32} {tL : Nat → Option Nat} {fp : Int32} {fq : Int32} {v1 : Int32} {v2 : Int32} {fu : Nat}  {r : Int32} (C : Cx p s m args meth c G A RX0 cX0_digitwise 5 ((some .int)))   : ∀ (fk : Nat) (v3 : Int32) (v4 : Int32), X0_digitwise_5 fu N  fp fq v1 v2 fk v3 v4 = some r → Wd p l e rm_X0_digitwise s m args below meth c G A 5 0 0 (QQ G A (fun o w => o = some (.int r) ∧ w = (fw G fa N fp fq t0 t1 t2 t3 t4 t5 tL)) below args s 0 0) (fw G fa N fp fq t0 t1 t2 t3 t4 t5 tL) [(0, .ref (fa 0)), (1, .int v1), (2, .int v2), (3, .int v3), (4, .int v4)] 5 [] := by
  intro fk
  induction fk with
  | zero =>
    intro v3 v4 h
    have h : (none : Option Int32) = some r := h
    cases h
  | succ fk ih =>
    intro v3 v4 h
    have h : X0_digitwise_5_b fu N  fp fq v1 v2 (X0_digitwise_5 fu N  fp fq v1 v2 fk) v3 v4 = some r := h
    unfold X0_digitwise_5_b at h
    refine w_iload C 4 rfl dX0_digitwise_5 ?_
    refine w_aload_n C 0 rfl dX0_digitwise_7 ?_
    refine gt_X0_21 C dX0_digitwise_8 ?_
    refine w_icmp_ge (tgt := 46) C dX0_digitwise_11 (by decide) (fun hb1 => ?_) (fun hb1 => ?_)
    · have h := if_t hb1 h
      refine w_iload_n C 3 rfl dX0_digitwise_46 ?_
      cases h
      exact w_iret C ⟨rfl, rfl⟩ dX0_digitwise_47
    · have h := if_f hb1 h
      refine w_iload_n C 3 rfl dX0_digitwise_14 ?_
      refine w_iload_n C 1 rfl dX0_digitwise_15 ?_
      refine w_iload C 4 rfl dX0_digitwise_16 ?_
      obtain ⟨hz2, h⟩ := ckZ_some h
      refine w_idiv C hz2 dX0_digitwise_18 ?_
      refine w_iload_n C 2 rfl dX0_digitwise_19 ?_
      refine w_iload C 4 rfl dX0_digitwise_20 ?_
      obtain ⟨hz3, h⟩ := ckZ_some h
      refine w_idiv C hz3 dX0_digitwise_22 ?_
      refine w_iadd C dX0_digitwise_23 ?_
      refine w_aload_n C 0 rfl dX0_digitwise_24 ?_
      refine gt_X0_29 C dX0_digitwise_25 ?_
      obtain ⟨hz4, h⟩ := ckZ_some h
      refine w_irem C hz4 dX0_digitwise_28 ?_
      refine w_iload C 4 rfl dX0_digitwise_29 ?_
      refine w_imul C dX0_digitwise_31 ?_
      refine w_iadd C dX0_digitwise_32 ?_
      refine w_istore_n C (Nat.le_of_ble_eq_true rfl) rfl dX0_digitwise_33 ?_
      refine w_iload C 4 rfl dX0_digitwise_34 ?_
      refine w_aload_n C 1 rfl dX0_digitwise_36 ?_
      refine gt_X0_29 C dX0_digitwise_37 ?_
      refine w_imul C dX0_digitwise_40 ?_
      refine w_istore C (Nat.le_of_ble_eq_true rfl) rfl dX0_digitwise_41 ?_
      refine w_goto (tgt := 5) C dX0_digitwise_43 (by decide) ?_
      refine w_lv [2, 3, 4, 1, 0] rfl ?_
      exact ih _ _ h
set_option maxRecDepth 20000 in
set_option maxHeartbeats 4000000 in
theorem w_X0_digitwise {fa : Nat → Nat} {N : Nat} {t0 : Nat → Int32} {t1 : Nat → Int32} {t2 : Nat → Int32} {t3 : Nat → Int32} {t4 : Nat → Int32} {t5 : Nat → Int32} {tL : Nat → Option Nat} {fu : Nat}  {fp : Int32} {fq : Int32} {v1 : Int32} {v2 : Int32} {r : Int32} (C : Cx p s m args meth c G A RX0 cX0_digitwise 5 ((some .int)))   (h : X0_digitwise fu N  fp fq v1 v2 = some r) : Wd p l e rm_X0_digitwise s m args below meth c G A 5 0 0 (QQ G A (fun o w => o = some (.int r) ∧ w = (fw G fa N fp fq t0 t1 t2 t3 t4 t5 tL)) below args s 0 0) (fw G fa N fp fq t0 t1 t2 t3 t4 t5 tL) [(0, .ref (fa 0)), (1, .int v1), (2, .int v2)] 0 [] := by
  unfold X0_digitwise at h
  refine w_iconst (v := 0) C dX0_digitwise_0 (by decide) ?_
  refine w_istore_n C (Nat.le_of_ble_eq_true rfl) rfl dX0_digitwise_1 ?_
  refine w_iconst (v := 1) C dX0_digitwise_2 (by decide) ?_
  refine w_istore C (Nat.le_of_ble_eq_true rfl) rfl dX0_digitwise_3 ?_
  refine w_lv [2, 3, 4, 1, 0] rfl ?_
  exact w_X0_digitwise_5 C    _ _ _ h
theorem c_X0_digitwise {l : Launch} {G : GG} {fa : Nat → Nat} {N : Nat} {fp : Int32} {fq : Int32} {t0 : Nat → Int32} {t1 : Nat → Int32} {t2 : Nat → Int32} {t3 : Nat → Int32} {t4 : Nat → Int32} {t5 : Nat → Int32} {tL : Nat → Option Nat} (fu : Nat) {v1 : Int32} {v2 : Int32} {r : Int32} (h : X0_digitwise fu N fp fq v1 v2 = some r) : Ct l yX0_digitwise cX0_digitwise 5 ((some .int)) G rm_X0_digitwise [.ref (fa 0), .int v1, .int v2] (fw G fa N fp fq t0 t1 t2 t3 t4 t5 tL) (fun o w => o = some (.int r) ∧ w = (fw G fa N fp fq t0 t1 t2 t3 t4 t5 tL)) 0 0 := Ct.of (by decide) (Nat.le_of_ble_eq_true rfl) (fun p e s m args below meth c A C _ => w_X0_digitwise C h)
abbrev rm_X0_fillSums : Room := { frames := 1, cells := 0, slots := 0, locals := 24 }
theorem pk_X0_fillSums : PkV RX0 yX0_fillSums cX0_fillSums 4 none 0 := ⟨rfl, co_X0_fillSums, ini_RX0, im_X0_fillSums, se_X0_fillSums, by decide +kernel⟩
set_option maxRecDepth 20000 in
set_option maxHeartbeats 4000000 in
theorem w_X0_fillSums_52 {fa : Nat → Nat} {N : Nat} {t1 : Nat → Int32} {t2 : Nat → Int32} {t4 : Nat → Int32} {t5 : Nat → Int32} {tL : Nat → Option Nat} {fu : Nat} {rc2 : (Nat → Int32) → (Nat → Int32) → Int32 → Option ((Nat → Int32) × (Nat → Int32))} {rc12 : (Nat → Int32) → (Nat → Int32) → Int32 → Option ((Nat → Int32) × (Nat → Int32))} {fp : Int32} {fq : Int32} {t0 : Nat → Int32} {t3 : Nat → Int32} {v1 : Int32} {v2 : Int32} {r : (Nat → Int32) × (Nat → Int32)} (C : Cx p s m args meth c G A RX0 cX0_fillSums 4 none)  (hrc2 : ∀ (t0 : Nat → Int32) (t3 : Nat → Int32) (v1 : Int32), rc2 t0 t3 v1 = some r → Wd p l e rm_X0_fillSums s m args below meth c G A 4 0 0 (QQ G A (fun o w => o = none ∧ w = (fw G fa N fp fq r.1 t1 t2 r.2 t4 t5 tL)) below args s 0 0) (fw G fa N fp fq t0 t1 t2 t3 t4 t5 tL) [(0, .ref (fa 0)), (1, .int v1)] 2 []) (hrc12 : ∀ (t0 : Nat → Int32) (t3 : Nat → Int32) (v2 : Int32), rc12 t0 t3 v2 = some r → Wd p l e rm_X0_fillSums s m args below meth c G A 4 0 0 (QQ G A (fun o w => o = none ∧ w = (fw G fa N fp fq r.1 t1 t2 r.2 t4 t5 tL)) below args s 0 0) (fw G fa N fp fq t0 t1 t2 t3 t4 t5 tL) [(0, .ref (fa 0)), (1, .int v1), (2, .int v2)] 12 []) (h : X0_fillSums_52 fu N rc2 rc12 fp fq t0 t3 v1 v2 = some r) : Wd p l e rm_X0_fillSums s m args below meth c G A 4 0 0 (QQ G A (fun o w => o = none ∧ w = (fw G fa N fp fq r.1 t1 t2 r.2 t4 t5 tL)) below args s 0 0) (fw G fa N fp fq t0 t1 t2 t3 t4 t5 tL) [(0, .ref (fa 0)), (1, .int v1), (2, .int v2)] 52 [] := by
  unfold X0_fillSums_52 at h
  refine w_iinc (v := v2 + 1) (k := 2) C rfl rfl (Nat.le_of_ble_eq_true rfl) rfl dX0_fillSums_52 ?_
  refine w_goto (tgt := 12) C dX0_fillSums_55 (by decide) ?_
  refine w_lv [1, 2, 0] rfl ?_
  exact hrc12 _ _ _ h
set_option maxRecDepth 20000 in
set_option maxHeartbeats 4000000 in
theorem w_X0_fillSums_12 {fa : Nat → Nat} {N : Nat} {t1 : Nat → Int32} {t2 : Nat → Int32} {t4 : Nat → Int32} {t5 : Nat → Int32} {tL : Nat → Option Nat} {fp : Int32} {fq : Int32} {v1 : Int32} {fu : Nat} {rc2 : (Nat → Int32) → (Nat → Int32) → Int32 → Option ((Nat → Int32) × (Nat → Int32))} {r : (Nat → Int32) × (Nat → Int32)} (C : Cx p s m args meth c G A RX0 cX0_fillSums 4 none)  (hrc2 : ∀ (t0 : Nat → Int32) (t3 : Nat → Int32) (v1 : Int32), rc2 t0 t3 v1 = some r → Wd p l e rm_X0_fillSums s m args below meth c G A 4 0 0 (QQ G A (fun o w => o = none ∧ w = (fw G fa N fp fq r.1 t1 t2 r.2 t4 t5 tL)) below args s 0 0) (fw G fa N fp fq t0 t1 t2 t3 t4 t5 tL) [(0, .ref (fa 0)), (1, .int v1)] 2 []) : ∀ (fk : Nat) (t0 : Nat → Int32) (t3 : Nat → Int32) (v2 : Int32), X0_fillSums_12 fu N rc2 fp fq v1 fk t0 t3 v2 = some r → Wd p l e rm_X0_fillSums s m args below meth c G A 4 0 0 (QQ G A (fun o w => o = none ∧ w = (fw G fa N fp fq r.1 t1 t2 r.2 t4 t5 tL)) below args s 0 0) (fw G fa N fp fq t0 t1 t2 t3 t4 t5 tL) [(0, .ref (fa 0)), (1, .int v1), (2, .int v2)] 12 [] := by
  intro fk
  induction fk with
  | zero =>
    intro t0 t3 v2 h
    have h : (none : Option ((Nat → Int32) × (Nat → Int32))) = some r := h
    cases h
  | succ fk ih =>
    intro t0 t3 v2 h
    have h : X0_fillSums_12_b fu N rc2 fp fq v1 (X0_fillSums_12 fu N rc2 fp fq v1 fk) t0 t3 v2 = some r := h
    unfold X0_fillSums_12_b at h
    refine w_iload_n C 2 rfl dX0_fillSums_12 ?_
    refine w_aload_n C 0 rfl dX0_fillSums_13 ?_
    refine gt_X0_21 C dX0_fillSums_14 ?_
    refine w_icmp_ge (tgt := 58) C dX0_fillSums_17 (by decide) (fun hb2 => ?_) (fun hb2 => ?_)
    · have h := if_t hb2 h
      refine w_iinc (v := v1 + 1) (k := 1) C rfl rfl (Nat.le_of_ble_eq_true rfl) rfl dX0_fillSums_58 ?_
      refine w_goto (tgt := 2) C dX0_fillSums_61 (by decide) ?_
      refine w_lv [1, 0] rfl ?_
      exact hrc2 _ _ _ h
    · have h := if_f hb2 h
      refine w_aload_n C 0 rfl dX0_fillSums_20 ?_
      refine w_iload_n C 1 rfl dX0_fillSums_21 ?_
      refine w_iload_n C 2 rfl dX0_fillSums_22 ?_
      obtain ⟨x3, hx3, h⟩ := bd_some h
      refine w_cVi (wr := []) (qc := (RX0, TX0, 9)) C (c_X0_digitwise fu  hx3) pk_X0_digitwise ml_X0_56 (As := [.int v1, .int v2]) (rest := []) (k9 := 0) rfl rfl ⟨⟨rfl, rfl⟩, Nat.le_of_ble_eq_true rfl, Nat.le_of_ble_eq_true rfl⟩ rfl ⟨(Nat.le_of_ble_eq_true rfl), (Nat.le_of_ble_eq_true rfl)⟩ (Nat.le_of_ble_eq_true rfl) rfl rfl (List.nil_append _) dX0_fillSums_23 ?_
      refine w_istore_n C (Nat.le_of_ble_eq_true rfl) rfl dX0_fillSums_26 ?_
      refine w_aload_n C 1 rfl dX0_fillSums_27 ?_
      refine gt_X0_32 C dX0_fillSums_28 ?_
      refine w_iload_n C 2 rfl dX0_fillSums_31 ?_
      refine w_aload_n C 1 rfl dX0_fillSums_32 ?_
      refine gt_X0_21 C dX0_fillSums_33 ?_
      refine w_imul C dX0_fillSums_36 ?_
      refine w_iload_n C 3 rfl dX0_fillSums_37 ?_
      refine w_iadd C dX0_fillSums_38 ?_
      refine w_iload_n C 0 rfl dX0_fillSums_39 ?_
      obtain ⟨hi4, h⟩ := ckI_some h
      refine sr_t0 C hi4 dX0_fillSums_40 ?_
      refine w_iload_n C 0 rfl dX0_fillSums_41 ?_
      refine w_if_ne (tgt := 52) C dX0_fillSums_42 (by decide) (fun hb5 => ?_) (fun hb5 => ?_)
      · have h := if_f hb5 h
        refine w_lv [1, 2, 3] rfl ?_
        exact w_X0_fillSums_52 C   hrc2 ih h
      · have h := if_t hb5 h
        refine w_aload_n C 1 rfl dX0_fillSums_45 ?_
        refine gt_X0_41 C dX0_fillSums_46 ?_
        refine w_iload_n C 2 rfl dX0_fillSums_49 ?_
        refine w_iload_n C 3 rfl dX0_fillSums_50 ?_
        obtain ⟨hi6, h⟩ := ckI_some h
        refine sr_t3 C hi6 dX0_fillSums_51 ?_
        refine w_lv [1, 2, 3] rfl ?_
        exact w_X0_fillSums_52 C   hrc2 ih h
set_option maxRecDepth 20000 in
set_option maxHeartbeats 4000000 in
theorem w_X0_fillSums_2 {fa : Nat → Nat} {N : Nat} {t1 : Nat → Int32} {t2 : Nat → Int32} {t4 : Nat → Int32} {t5 : Nat → Int32} {tL : Nat → Option Nat} {fp : Int32} {fq : Int32} {fu : Nat}  {r : (Nat → Int32) × (Nat → Int32)} (C : Cx p s m args meth c G A RX0 cX0_fillSums 4 none)   : ∀ (fk : Nat) (t0 : Nat → Int32) (t3 : Nat → Int32) (v1 : Int32), X0_fillSums_2 fu N  fp fq fk t0 t3 v1 = some r → Wd p l e rm_X0_fillSums s m args below meth c G A 4 0 0 (QQ G A (fun o w => o = none ∧ w = (fw G fa N fp fq r.1 t1 t2 r.2 t4 t5 tL)) below args s 0 0) (fw G fa N fp fq t0 t1 t2 t3 t4 t5 tL) [(0, .ref (fa 0)), (1, .int v1)] 2 [] := by
  intro fk
  induction fk with
  | zero =>
    intro t0 t3 v1 h
    have h : (none : Option ((Nat → Int32) × (Nat → Int32))) = some r := h
    cases h
  | succ fk ih =>
    intro t0 t3 v1 h
    have h : X0_fillSums_2_b fu N  fp fq (X0_fillSums_2 fu N  fp fq fk) t0 t3 v1 = some r := h
    unfold X0_fillSums_2_b at h
    refine w_iload_n C 1 rfl dX0_fillSums_2 ?_
    refine w_aload_n C 0 rfl dX0_fillSums_3 ?_
    refine gt_X0_21 C dX0_fillSums_4 ?_
    refine w_icmp_ge (tgt := 64) C dX0_fillSums_7 (by decide) (fun hb1 => ?_) (fun hb1 => ?_)
    · have h := if_t hb1 h
      cases h
      exact w_vret C ⟨rfl, rfl⟩ dX0_fillSums_64
    · have h := if_f hb1 h
      refine w_iconst (v := 0) C dX0_fillSums_10 (by decide) ?_
      refine w_istore_n C (Nat.le_of_ble_eq_true rfl) rfl dX0_fillSums_11 ?_
      refine w_lv [1, 2, 0] rfl ?_
      exact w_X0_fillSums_12 C   ih _ _ _ _ h
set_option maxRecDepth 20000 in
set_option maxHeartbeats 4000000 in
theorem w_X0_fillSums {fa : Nat → Nat} {N : Nat} {t1 : Nat → Int32} {t2 : Nat → Int32} {t4 : Nat → Int32} {t5 : Nat → Int32} {tL : Nat → Option Nat} {fu : Nat}  {fp : Int32} {fq : Int32} {t0 : Nat → Int32} {t3 : Nat → Int32} {r : (Nat → Int32) × (Nat → Int32)} (C : Cx p s m args meth c G A RX0 cX0_fillSums 4 none)   (h : X0_fillSums fu N  fp fq t0 t3 = some r) : Wd p l e rm_X0_fillSums s m args below meth c G A 4 0 0 (QQ G A (fun o w => o = none ∧ w = (fw G fa N fp fq r.1 t1 t2 r.2 t4 t5 tL)) below args s 0 0) (fw G fa N fp fq t0 t1 t2 t3 t4 t5 tL) [(0, .ref (fa 0))] 0 [] := by
  unfold X0_fillSums at h
  refine w_iconst (v := 0) C dX0_fillSums_0 (by decide) ?_
  refine w_istore_n C (Nat.le_of_ble_eq_true rfl) rfl dX0_fillSums_1 ?_
  refine w_lv [1, 0] rfl ?_
  exact w_X0_fillSums_2 C    _ _ _ _ h
theorem c_X0_fillSums {l : Launch} {G : GG} {fa : Nat → Nat} {N : Nat} {fp : Int32} {fq : Int32} {t0 : Nat → Int32} {t1 : Nat → Int32} {t2 : Nat → Int32} {t3 : Nat → Int32} {t4 : Nat → Int32} {t5 : Nat → Int32} {tL : Nat → Option Nat} (fu : Nat)  {r : (Nat → Int32) × (Nat → Int32)} (h : X0_fillSums fu N fp fq t0 t3  = some r) : Ct l yX0_fillSums cX0_fillSums 4 none G rm_X0_fillSums [.ref (fa 0)] (fw G fa N fp fq t0 t1 t2 t3 t4 t5 tL) (fun o w => o = none ∧ w = (fw G fa N fp fq r.1 t1 t2 r.2 t4 t5 tL)) 0 0 := Ct.of (by decide) (Nat.le_of_ble_eq_true rfl) (fun p e s m args below meth c A C _ => w_X0_fillSums C h)
abbrev rm_X0_repeated : Room := { frames := 0, cells := 0, slots := 0, locals := 0 }
theorem pk_X0_repeated : PkV RX0 yX0_repeated cX0_repeated 5 ((some .int)) 2 := ⟨rfl, co_X0_repeated, ini_RX0, im_X0_repeated, se_X0_repeated, by decide +kernel⟩
set_option maxRecDepth 20000 in
set_option maxHeartbeats 4000000 in
theorem w_X0_repeated_5 {fa : Nat → Nat} {N : Nat} {fp : Int32} {t1 : Nat → Int32} {t2 : Nat → Int32} {t3 : Nat → Int32} {t4 : Nat → Int32} {t5 : Nat → Int32} {tL : Nat → Option Nat} {fq : Int32} {t0 : Nat → Int32} {v1 : Int32} {v2 : Int32} {fu : Nat}  {r : Int32} (C : Cx p s m args meth c G A RX0 cX0_repeated 5 ((some .int)))   : ∀ (fk : Nat) (v3 : Int32) (v4 : Int32), X0_repeated_5 fu N  fq t0 v1 v2 fk v3 v4 = some r → Wd p l e rm_X0_repeated s m args below meth c G A 5 0 0 (QQ G A (fun o w => o = some (.int r) ∧ w = (fw G fa N fp fq t0 t1 t2 t3 t4 t5 tL)) below args s 0 0) (fw G fa N fp fq t0 t1 t2 t3 t4 t5 tL) [(0, .ref (fa 0)), (1, .int v1), (2, .int v2), (3, .int v3), (4, .int v4)] 5 [] := by
  intro fk
  induction fk with
  | zero =>
    intro v3 v4 h
    have h : (none : Option Int32) = some r := h
    cases h
  | succ fk ih =>
    intro v3 v4 h
    have h : X0_repeated_5_b fu N  fq t0 v1 v2 (X0_repeated_5 fu N  fq t0 v1 v2 fk) v3 v4 = some r := h
    unfold X0_repeated_5_b at h
    refine w_iload C 4 rfl dX0_repeated_5 ?_
    refine w_iload_n C 2 rfl dX0_repeated_7 ?_
    refine w_icmp_ge (tgt := 31) C dX0_repeated_8 (by decide) (fun hb1 => ?_) (fun hb1 => ?_)
    · have h := if_t hb1 h
      refine w_iload_n C 3 rfl dX0_repeated_31 ?_
      cases h
      exact w_iret C ⟨rfl, rfl⟩ dX0_repeated_32
    · have h := if_f hb1 h
      refine w_aload_n C 0 rfl dX0_repeated_11 ?_
      refine gt_X0_32 C dX0_repeated_12 ?_
      refine w_iload_n C 3 rfl dX0_repeated_15 ?_
      refine w_aload_n C 0 rfl dX0_repeated_16 ?_
      refine gt_X0_21 C dX0_repeated_17 ?_
      refine w_imul C dX0_repeated_20 ?_
      refine w_iload_n C 1 rfl dX0_repeated_21 ?_
      refine w_iadd C dX0_repeated_22 ?_
      obtain ⟨hi2, h⟩ := ckI_some h
      refine ld_t0 C hi2 dX0_repeated_23 ?_
      refine w_istore_n C (Nat.le_of_ble_eq_true rfl) rfl dX0_repeated_24 ?_
      refine w_iinc (v := v4 + 1) (k := 4) C rfl rfl (Nat.le_of_ble_eq_true rfl) rfl dX0_repeated_25 ?_
      refine w_goto (tgt := 5) C dX0_repeated_28 (by decide) ?_
      refine w_lv [2, 3, 4, 1, 0] rfl ?_
      exact ih _ _ h
set_option maxRecDepth 20000 in
set_option maxHeartbeats 4000000 in
theorem w_X0_repeated {fa : Nat → Nat} {N : Nat} {fp : Int32} {t1 : Nat → Int32} {t2 : Nat → Int32} {t3 : Nat → Int32} {t4 : Nat → Int32} {t5 : Nat → Int32} {tL : Nat → Option Nat} {fu : Nat}  {fq : Int32} {t0 : Nat → Int32} {v1 : Int32} {v2 : Int32} {r : Int32} (C : Cx p s m args meth c G A RX0 cX0_repeated 5 ((some .int)))   (h : X0_repeated fu N  fq t0 v1 v2 = some r) : Wd p l e rm_X0_repeated s m args below meth c G A 5 0 0 (QQ G A (fun o w => o = some (.int r) ∧ w = (fw G fa N fp fq t0 t1 t2 t3 t4 t5 tL)) below args s 0 0) (fw G fa N fp fq t0 t1 t2 t3 t4 t5 tL) [(0, .ref (fa 0)), (1, .int v1), (2, .int v2)] 0 [] := by
  unfold X0_repeated at h
  refine w_iconst (v := 0) C dX0_repeated_0 (by decide) ?_
  refine w_istore_n C (Nat.le_of_ble_eq_true rfl) rfl dX0_repeated_1 ?_
  refine w_iconst (v := 0) C dX0_repeated_2 (by decide) ?_
  refine w_istore C (Nat.le_of_ble_eq_true rfl) rfl dX0_repeated_3 ?_
  refine w_lv [2, 3, 4, 1, 0] rfl ?_
  exact w_X0_repeated_5 C    _ _ _ h
theorem c_X0_repeated {l : Launch} {G : GG} {fa : Nat → Nat} {N : Nat} {fp : Int32} {fq : Int32} {t0 : Nat → Int32} {t1 : Nat → Int32} {t2 : Nat → Int32} {t3 : Nat → Int32} {t4 : Nat → Int32} {t5 : Nat → Int32} {tL : Nat → Option Nat} (fu : Nat) {v1 : Int32} {v2 : Int32} {r : Int32} (h : X0_repeated fu N fq t0 v1 v2 = some r) : Ct l yX0_repeated cX0_repeated 5 ((some .int)) G rm_X0_repeated [.ref (fa 0), .int v1, .int v2] (fw G fa N fp fq t0 t1 t2 t3 t4 t5 tL) (fun o w => o = some (.int r) ∧ w = (fw G fa N fp fq t0 t1 t2 t3 t4 t5 tL)) 0 0 := Ct.of (by decide) (Nat.le_of_ble_eq_true rfl) (fun p e s m args below meth c A C _ => w_X0_repeated C h)
abbrev rm_X0_timesZ : Room := { frames := 1, cells := 0, slots := 0, locals := 24 }
theorem pk_X0_timesZ : PkV RX0 yX0_timesZ cX0_timesZ 4 ((some .int)) 1 := ⟨rfl, co_X0_timesZ, ini_RX0, im_X0_timesZ, se_X0_timesZ, by decide +kernel⟩
set_option maxRecDepth 20000 in
set_option maxHeartbeats 4000000 in
theorem w_X0_timesZ_23 {fa : Nat → Nat} {N : Nat} {t1 : Nat → Int32} {t2 : Nat → Int32} {t3 : Nat → Int32} {t4 : Nat → Int32} {t5 : Nat → Int32} {tL : Nat → Option Nat} {fu : Nat}  {fp : Int32} {fq : Int32} {t0 : Nat → Int32} {s0 : Int32} {v1 : Int32} {v2 : Int32} {r : Int32} (C : Cx p s m args meth c G A RX0 cX0_timesZ 4 ((some .int)))   (h : X0_timesZ_23 fu N  fp fq t0 s0 v1 v2 = some r) : Wd p l e rm_X0_timesZ s m args below meth c G A 4 0 0 (QQ G A (fun o w => o = some (.int r) ∧ w = (fw G fa N fp fq t0 t1 t2 t3 t4 t5 tL)) below args s 0 0) (fw G fa N fp fq t0 t1 t2 t3 t4 t5 tL) [(0, .ref (fa 0)), (1, .int v1), (2, .int v2)] 23 [.int s0] := by
  unfold X0_timesZ_23 at h
  refine w_istore_n C (Nat.le_of_ble_eq_true rfl) rfl dX0_timesZ_23 ?_
  refine w_aload_n C 1 rfl dX0_timesZ_24 ?_
  refine w_iload_n C 2 rfl dX0_timesZ_25 ?_
  refine w_iload_n C 3 rfl dX0_timesZ_26 ?_
  obtain ⟨hz3, h⟩ := ckZ_some h
  refine w_irem C hz3 dX0_timesZ_27 ?_
  refine w_aload_n C 1 rfl dX0_timesZ_28 ?_
  refine gt_X0_29 C dX0_timesZ_29 ?_
  refine w_imul C dX0_timesZ_32 ?_
  refine w_aload_n C 1 rfl dX0_timesZ_33 ?_
  refine w_iload_n C 0 rfl dX0_timesZ_34 ?_
  refine w_iload_n C 2 rfl dX0_timesZ_35 ?_
  refine w_iload_n C 3 rfl dX0_timesZ_36 ?_
  obtain ⟨hz4, h⟩ := ckZ_some h
  refine w_idiv C hz4 dX0_timesZ_37 ?_
  obtain ⟨x5, hx5, h⟩ := bd_some h
  refine w_cVi (wr := []) (qc := (RX0, TX0, 9)) C (c_X0_repeated fu  hx5) pk_X0_repeated ml_X0_66 (As := [.int s0, .int (v1 / v2)]) (rest := [.int ((v1 - v1 / v2 * v2) * fp), .ref (fa 0)]) (k9 := 0) rfl rfl ⟨⟨rfl, rfl⟩, Nat.le_of_ble_eq_true rfl, Nat.le_of_ble_eq_true rfl⟩ rfl ⟨(Nat.le_of_ble_eq_true rfl), (Nat.le_of_ble_eq_true rfl)⟩ (Nat.le_of_ble_eq_true rfl) rfl rfl (List.nil_append _) dX0_timesZ_38 ?_
  obtain ⟨x6, hx6, h⟩ := bd_some h
  refine w_cVi (wr := []) (qc := (RX0, TX0, 9)) C (c_X0_sum fu  hx6) pk_X0_sum ml_X0_69 (As := [.int ((v1 - v1 / v2 * v2) * fp), .int x5]) (rest := []) (k9 := 0) rfl rfl ⟨⟨rfl, rfl⟩, Nat.le_of_ble_eq_true rfl, Nat.le_of_ble_eq_true rfl⟩ rfl ⟨(Nat.le_of_ble_eq_true rfl), (Nat.le_of_ble_eq_true rfl)⟩ (Nat.le_of_ble_eq_true rfl) rfl rfl (List.nil_append _) dX0_timesZ_41 ?_
  cases h
  exact w_iret C ⟨rfl, rfl⟩ dX0_timesZ_44
set_option maxRecDepth 20000 in
set_option maxHeartbeats 4000000 in
theorem w_X0_timesZ {fa : Nat → Nat} {N : Nat} {t1 : Nat → Int32} {t2 : Nat → Int32} {t3 : Nat → Int32} {t4 : Nat → Int32} {t5 : Nat → Int32} {tL : Nat → Option Nat} {fu : Nat}  {fp : Int32} {fq : Int32} {t0 : Nat → Int32} {v1 : Int32} {r : Int32} (C : Cx p s m args meth c G A RX0 cX0_timesZ 4 ((some .int)))   (h : X0_timesZ fu N  fp fq t0 v1 = some r) : Wd p l e rm_X0_timesZ s m args below meth c G A 4 0 0 (QQ G A (fun o w => o = some (.int r) ∧ w = (fw G fa N fp fq t0 t1 t2 t3 t4 t5 tL)) below args s 0 0) (fw G fa N fp fq t0 t1 t2 t3 t4 t5 tL) [(0, .ref (fa 0)), (1, .int v1)] 0 [] := by
  unfold X0_timesZ at h
  refine w_aload_n C 0 rfl dX0_timesZ_0 ?_
  refine gt_X0_21 C dX0_timesZ_1 ?_
  refine w_aload_n C 0 rfl dX0_timesZ_4 ?_
  refine gt_X0_29 C dX0_timesZ_5 ?_
  obtain ⟨hz1, h⟩ := ckZ_some h
  refine w_idiv C hz1 dX0_timesZ_8 ?_
  refine w_istore_n C (Nat.le_of_ble_eq_true rfl) rfl dX0_timesZ_9 ?_
  refine w_aload_n C 1 rfl dX0_timesZ_10 ?_
  refine gt_X0_29 C dX0_timesZ_11 ?_
  refine w_iconst (v := 2) C dX0_timesZ_14 (by decide) ?_
  refine w_icmp_ne (tgt := 22) C dX0_timesZ_15 (by decide) (fun hb2 => ?_) (fun hb2 => ?_)
  · have h := if_f hb2 h
    refine w_iconst (v := 2) C dX0_timesZ_22 (by decide) ?_
    refine w_lv [1, 2, 0] rfl ?_
    exact w_X0_timesZ_23 C    h
  · have h := if_t hb2 h
    refine w_iconst (v := 3) C dX0_timesZ_18 (by decide) ?_
    refine w_goto (tgt := 23) C dX0_timesZ_19 (by decide) ?_
    refine w_lv [1, 2, 0] rfl ?_
    exact w_X0_timesZ_23 C    h
theorem c_X0_timesZ {l : Launch} {G : GG} {fa : Nat → Nat} {N : Nat} {fp : Int32} {fq : Int32} {t0 : Nat → Int32} {t1 : Nat → Int32} {t2 : Nat → Int32} {t3 : Nat → Int32} {t4 : Nat → Int32} {t5 : Nat → Int32} {tL : Nat → Option Nat} (fu : Nat) {v1 : Int32} {r : Int32} (h : X0_timesZ fu N fp fq t0 v1 = some r) : Ct l yX0_timesZ cX0_timesZ 4 ((some .int)) G rm_X0_timesZ [.ref (fa 0), .int v1] (fw G fa N fp fq t0 t1 t2 t3 t4 t5 tL) (fun o w => o = some (.int r) ∧ w = (fw G fa N fp fq t0 t1 t2 t3 t4 t5 tL)) 0 0 := Ct.of (by decide) (Nat.le_of_ble_eq_true rfl) (fun p e s m args below meth c A C _ => w_X0_timesZ C h)
abbrev rm_X0_polynomialProduct : Room := { frames := 2, cells := 0, slots := 0, locals := 47 }
theorem pk_X0_polynomialProduct : PkV RX0 yX0_polynomialProduct cX0_polynomialProduct 5 ((some .int)) 2 := ⟨rfl, co_X0_polynomialProduct, ini_RX0, im_X0_polynomialProduct, se_X0_polynomialProduct, by decide +kernel⟩
set_option maxRecDepth 20000 in
set_option maxHeartbeats 4000000 in
theorem w_X0_polynomialProduct_13 {fa : Nat → Nat} {N : Nat} {t1 : Nat → Int32} {t2 : Nat → Int32} {t3 : Nat → Int32} {t4 : Nat → Int32} {t5 : Nat → Int32} {tL : Nat → Option Nat} {fp : Int32} {fq : Int32} {t0 : Nat → Int32} {v1 : Int32} {v2 : Int32} {fu : Nat}  {r : Int32} (C : Cx p s m args meth c G A RX0 cX0_polynomialProduct 5 ((some .int)))   : ∀ (fk : Nat) (v3 : Int32) (v4 : Int32), X0_polynomialProduct_13 fu N  fp fq t0 v1 v2 fk v3 v4 = some r → Wd p l e rm_X0_polynomialProduct s m args below meth c G A 5 0 0 (QQ G A (fun o w => o = some (.int r) ∧ w = (fw G fa N fp fq t0 t1 t2 t3 t4 t5 tL)) below args s 0 0) (fw G fa N fp fq t0 t1 t2 t3 t4 t5 tL) [(0, .ref (fa 0)), (1, .int v1), (2, .int v2), (3, .int v3), (4, .int v4)] 13 [] := by
  intro fk
  induction fk with
  | zero =>
    intro v3 v4 h
    have h : (none : Option Int32) = some r := h
    cases h
  | succ fk ih =>
    intro v3 v4 h
    have h : X0_polynomialProduct_13_b fu N  fp fq t0 v1 v2 (X0_polynomialProduct_13 fu N  fp fq t0 v1 v2 fk) v3 v4 = some r := h
    unfold X0_polynomialProduct_13_b at h
    refine w_iload C 4 rfl dX0_polynomialProduct_13 ?_
    refine w_if_le (tgt := 54) C dX0_polynomialProduct_15 (by decide) (fun hb2 => ?_) (fun hb2 => ?_)
    · have h := if_t hb2 h
      refine w_iload_n C 3 rfl dX0_polynomialProduct_54 ?_
      cases h
      exact w_iret C ⟨rfl, rfl⟩ dX0_polynomialProduct_55
    · have h := if_f hb2 h
      refine w_aload_n C 0 rfl dX0_polynomialProduct_18 ?_
      refine w_aload_n C 0 rfl dX0_polynomialProduct_19 ?_
      refine w_iload_n C 3 rfl dX0_polynomialProduct_20 ?_
      obtain ⟨x3, hx3, h⟩ := bd_some h
      refine w_cVi (wr := []) (qc := (RX0, TX0, 9)) C (c_X0_timesZ fu  hx3) pk_X0_timesZ ml_X0_63 (As := [.int v3]) (rest := [.ref (fa 0)]) (k9 := 0) rfl rfl ⟨⟨rfl, rfl⟩, Nat.le_of_ble_eq_true rfl, Nat.le_of_ble_eq_true rfl⟩ rfl ⟨(Nat.le_of_ble_eq_true rfl), (Nat.le_of_ble_eq_true rfl)⟩ (Nat.le_of_ble_eq_true rfl) rfl rfl (List.nil_append _) dX0_polynomialProduct_21 ?_
      refine w_aload_n C 0 rfl dX0_polynomialProduct_24 ?_
      refine w_iload_n C 1 rfl dX0_polynomialProduct_25 ?_
      refine w_iload_n C 2 rfl dX0_polynomialProduct_26 ?_
      refine w_iload C 4 rfl dX0_polynomialProduct_27 ?_
      obtain ⟨hz4, h⟩ := ckZ_some h
      refine w_idiv C hz4 dX0_polynomialProduct_29 ?_
      refine w_aload_n C 0 rfl dX0_polynomialProduct_30 ?_
      refine gt_X0_29 C dX0_polynomialProduct_31 ?_
      obtain ⟨hz5, h⟩ := ckZ_some h
      refine w_irem C hz5 dX0_polynomialProduct_34 ?_
      obtain ⟨x6, hx6, h⟩ := bd_some h
      refine w_cVi (wr := []) (qc := (RX0, TX0, 9)) C (c_X0_repeated fu  hx6) pk_X0_repeated ml_X0_66 (As := [.int v1, .int ((v2 / v4) - (v2 / v4) / fp * fp)]) (rest := [.int x3, .ref (fa 0)]) (k9 := 0) rfl rfl ⟨⟨rfl, rfl⟩, Nat.le_of_ble_eq_true rfl, Nat.le_of_ble_eq_true rfl⟩ rfl ⟨(Nat.le_of_ble_eq_true rfl), (Nat.le_of_ble_eq_true rfl)⟩ (Nat.le_of_ble_eq_true rfl) rfl rfl (List.nil_append _) dX0_polynomialProduct_35 ?_
      obtain ⟨x7, hx7, h⟩ := bd_some h
      refine w_cVi (wr := []) (qc := (RX0, TX0, 9)) C (c_X0_sum fu  hx7) pk_X0_sum ml_X0_69 (As := [.int x3, .int x6]) (rest := []) (k9 := 0) rfl rfl ⟨⟨rfl, rfl⟩, Nat.le_of_ble_eq_true rfl, Nat.le_of_ble_eq_true rfl⟩ rfl ⟨(Nat.le_of_ble_eq_true rfl), (Nat.le_of_ble_eq_true rfl)⟩ (Nat.le_of_ble_eq_true rfl) rfl rfl (List.nil_append _) dX0_polynomialProduct_38 ?_
      refine w_istore_n C (Nat.le_of_ble_eq_true rfl) rfl dX0_polynomialProduct_41 ?_
      refine w_iload C 4 rfl dX0_polynomialProduct_42 ?_
      refine w_aload_n C 1 rfl dX0_polynomialProduct_44 ?_
      refine gt_X0_29 C dX0_polynomialProduct_45 ?_
      obtain ⟨hz8, h⟩ := ckZ_some h
      refine w_idiv C hz8 dX0_polynomialProduct_48 ?_
      refine w_istore C (Nat.le_of_ble_eq_true rfl) rfl dX0_polynomialProduct_49 ?_
      refine w_goto (tgt := 13) C dX0_polynomialProduct_51 (by decide) ?_
      refine w_lv [2, 3, 4, 1, 0] rfl ?_
      exact ih _ _ h
set_option maxRecDepth 20000 in
set_option maxHeartbeats 4000000 in
theorem w_X0_polynomialProduct {fa : Nat → Nat} {N : Nat} {t1 : Nat → Int32} {t2 : Nat → Int32} {t3 : Nat → Int32} {t4 : Nat → Int32} {t5 : Nat → Int32} {tL : Nat → Option Nat} {fu : Nat}  {fp : Int32} {fq : Int32} {t0 : Nat → Int32} {v1 : Int32} {v2 : Int32} {r : Int32} (C : Cx p s m args meth c G A RX0 cX0_polynomialProduct 5 ((some .int)))   (h : X0_polynomialProduct fu N  fp fq t0 v1 v2 = some r) : Wd p l e rm_X0_polynomialProduct s m args below meth c G A 5 0 0 (QQ G A (fun o w => o = some (.int r) ∧ w = (fw G fa N fp fq t0 t1 t2 t3 t4 t5 tL)) below args s 0 0) (fw G fa N fp fq t0 t1 t2 t3 t4 t5 tL) [(0, .ref (fa 0)), (1, .int v1), (2, .int v2)] 0 [] := by
  unfold X0_polynomialProduct at h
  refine w_iconst (v := 0) C dX0_polynomialProduct_0 (by decide) ?_
  refine w_istore_n C (Nat.le_of_ble_eq_true rfl) rfl dX0_polynomialProduct_1 ?_
  refine w_aload_n C 1 rfl dX0_polynomialProduct_2 ?_
  refine gt_X0_21 C dX0_polynomialProduct_3 ?_
  refine w_aload_n C 1 rfl dX0_polynomialProduct_6 ?_
  refine gt_X0_29 C dX0_polynomialProduct_7 ?_
  obtain ⟨hz1, h⟩ := ckZ_some h
  refine w_idiv C hz1 dX0_polynomialProduct_10 ?_
  refine w_istore C (Nat.le_of_ble_eq_true rfl) rfl dX0_polynomialProduct_11 ?_
  refine w_lv [2, 3, 4, 1, 0] rfl ?_
  exact w_X0_polynomialProduct_13 C    _ _ _ h
theorem c_X0_polynomialProduct {l : Launch} {G : GG} {fa : Nat → Nat} {N : Nat} {fp : Int32} {fq : Int32} {t0 : Nat → Int32} {t1 : Nat → Int32} {t2 : Nat → Int32} {t3 : Nat → Int32} {t4 : Nat → Int32} {t5 : Nat → Int32} {tL : Nat → Option Nat} (fu : Nat) {v1 : Int32} {v2 : Int32} {r : Int32} (h : X0_polynomialProduct fu N fp fq t0 v1 v2 = some r) : Ct l yX0_polynomialProduct cX0_polynomialProduct 5 ((some .int)) G rm_X0_polynomialProduct [.ref (fa 0), .int v1, .int v2] (fw G fa N fp fq t0 t1 t2 t3 t4 t5 tL) (fun o w => o = some (.int r) ∧ w = (fw G fa N fp fq t0 t1 t2 t3 t4 t5 tL)) 0 0 := Ct.of (by decide) (Nat.le_of_ble_eq_true rfl) (fun p e s m args below meth c A C _ => w_X0_polynomialProduct C h)
abbrev rm_X0_fillProducts : Room := { frames := 3, cells := 0, slots := 0, locals := 71 }
theorem pk_X0_fillProducts : PkV RX0 yX0_fillProducts cX0_fillProducts 4 none 0 := ⟨rfl, co_X0_fillProducts, ini_RX0, im_X0_fillProducts, se_X0_fillProducts, by decide +kernel⟩
set_option maxRecDepth 20000 in
set_option maxHeartbeats 4000000 in
theorem w_X0_fillProducts_75 {fa : Nat → Nat} {N : Nat} {t2 : Nat → Int32} {t3 : Nat → Int32} {t5 : Nat → Int32} {tL : Nat → Option Nat} {fu : Nat} {rc2 : (Nat → Int32) → (Nat → Int32) → Int32 → Option ((Nat → Int32) × (Nat → Int32))} {rc12 : (Nat → Int32) → (Nat → Int32) → Int32 → Option ((Nat → Int32) × (Nat → Int32))} {fp : Int32} {fq : Int32} {t0 : Nat → Int32} {t1 : Nat → Int32} {t4 : Nat → Int32} {v1 : Int32} {v2 : Int32} {r : (Nat → Int32) × (Nat → Int32)} (C : Cx p s m args meth c G A RX0 cX0_fillProducts 4 none)  (hrc2 : ∀ (t1 : Nat → Int32) (t4 : Nat → Int32) (v1 : Int32), rc2 t1 t4 v1 = some r → Wd p l e rm_X0_fillProducts s m args below meth c G A 4 0 0 (QQ G A (fun o w => o = none ∧ w = (fw G fa N fp fq t0 r.1 t2 t3 r.2 t5 tL)) below args s 0 0) (fw G fa N fp fq t0 t1 t2 t3 t4 t5 tL) [(0, .ref (fa 0)), (1, .int v1)] 2 []) (hrc12 : ∀ (t1 : Nat → Int32) (t4 : Nat → Int32) (v2 : Int32), rc12 t1 t4 v2 = some r → Wd p l e rm_X0_fillProducts s m args below meth c G A 4 0 0 (QQ G A (fun o w => o = none ∧ w = (fw G fa N fp fq t0 r.1 t2 t3 r.2 t5 tL)) below args s 0 0) (fw G fa N fp fq t0 t1 t2 t3 t4 t5 tL) [(0, .ref (fa 0)), (1, .int v1), (2, .int v2)] 12 []) (h : X0_fillProducts_75 fu N rc2 rc12 fp fq t0 t1 t4 v1 v2 = some r) : Wd p l e rm_X0_fillProducts s m args below meth c G A 4 0 0 (QQ G A (fun o w => o = none ∧ w = (fw G fa N fp fq t0 r.1 t2 t3 r.2 t5 tL)) below args s 0 0) (fw G fa N fp fq t0 t1 t2 t3 t4 t5 tL) [(0, .ref (fa 0)), (1, .int v1), (2, .int v2)] 75 [] := by
  unfold X0_fillProducts_75 at h
  refine w_iinc (v := v2 + 1) (k := 2) C rfl rfl (Nat.le_of_ble_eq_true rfl) rfl dX0_fillProducts_75 ?_
  refine w_goto (tgt := 12) C dX0_fillProducts_78 (by decide) ?_
  refine w_lv [1, 2, 0] rfl ?_
  exact hrc12 _ _ _ h
set_option maxRecDepth 20000 in
set_option maxHeartbeats 4000000 in
theorem w_X0_fillProducts_48 {fa : Nat → Nat} {N : Nat} {t2 : Nat → Int32} {t3 : Nat → Int32} {t5 : Nat → Int32} {tL : Nat → Option Nat} {fu : Nat} {rc2 : (Nat → Int32) → (Nat → Int32) → Int32 → Option ((Nat → Int32) × (Nat → Int32))} {rc12 : (Nat → Int32) → (Nat → Int32) → Int32 → Option ((Nat → Int32) × (Nat → Int32))} {fp : Int32} {fq : Int32} {t0 : Nat → Int32} {t1 : Nat → Int32} {t4 : Nat → Int32} {s0 : Int32} {v1 : Int32} {v2 : Int32} {r : (Nat → Int32) × (Nat → Int32)} (C : Cx p s m args meth c G A RX0 cX0_fillProducts 4 none)  (hrc2 : ∀ (t1 : Nat → Int32) (t4 : Nat → Int32) (v1 : Int32), rc2 t1 t4 v1 = some r → Wd p l e rm_X0_fillProducts s m args below meth c G A 4 0 0 (QQ G A (fun o w => o = none ∧ w = (fw G fa N fp fq t0 r.1 t2 t3 r.2 t5 tL)) below args s 0 0) (fw G fa N fp fq t0 t1 t2 t3 t4 t5 tL) [(0, .ref (fa 0)), (1, .int v1)] 2 []) (hrc12 : ∀ (t1 : Nat → Int32) (t4 : Nat → Int32) (v2 : Int32), rc12 t1 t4 v2 = some r → Wd p l e rm_X0_fillProducts s m args below meth c G A 4 0 0 (QQ G A (fun o w => o = none ∧ w = (fw G fa N fp fq t0 r.1 t2 t3 r.2 t5 tL)) below args s 0 0) (fw G fa N fp fq t0 t1 t2 t3 t4 t5 tL) [(0, .ref (fa 0)), (1, .int v1), (2, .int v2)] 12 []) (h : X0_fillProducts_48 fu N rc2 rc12 fp fq t0 t1 t4 s0 v1 v2 = some r) : Wd p l e rm_X0_fillProducts s m args below meth c G A 4 0 0 (QQ G A (fun o w => o = none ∧ w = (fw G fa N fp fq t0 r.1 t2 t3 r.2 t5 tL)) below args s 0 0) (fw G fa N fp fq t0 t1 t2 t3 t4 t5 tL) [(0, .ref (fa 0)), (1, .int v1), (2, .int v2)] 48 [.int s0] := by
  unfold X0_fillProducts_48 at h
  refine w_istore_n C (Nat.le_of_ble_eq_true rfl) rfl dX0_fillProducts_48 ?_
  refine w_aload_n C 1 rfl dX0_fillProducts_49 ?_
  refine gt_X0_35 C dX0_fillProducts_50 ?_
  refine w_iload_n C 2 rfl dX0_fillProducts_53 ?_
  refine w_aload_n C 1 rfl dX0_fillProducts_54 ?_
  refine gt_X0_21 C dX0_fillProducts_55 ?_
  refine w_imul C dX0_fillProducts_58 ?_
  refine w_iload_n C 3 rfl dX0_fillProducts_59 ?_
  refine w_iadd C dX0_fillProducts_60 ?_
  refine w_iload_n C 0 rfl dX0_fillProducts_61 ?_
  obtain ⟨hi5, h⟩ := ckI_some h
  refine sr_t1 C hi5 dX0_fillProducts_62 ?_
  refine w_iload_n C 0 rfl dX0_fillProducts_63 ?_
  refine w_iconst (v := 1) C dX0_fillProducts_64 (by decide) ?_
  refine w_icmp_ne (tgt := 75) C dX0_fillProducts_65 (by decide) (fun hb6 => ?_) (fun hb6 => ?_)
  · have h := if_f hb6 h
    refine w_lv [1, 2, 3] rfl ?_
    exact w_X0_fillProducts_75 C   hrc2 hrc12 h
  · have h := if_t hb6 h
    refine w_aload_n C 1 rfl dX0_fillProducts_68 ?_
    refine gt_X0_44 C dX0_fillProducts_69 ?_
    refine w_iload_n C 2 rfl dX0_fillProducts_72 ?_
    refine w_iload_n C 3 rfl dX0_fillProducts_73 ?_
    obtain ⟨hi7, h⟩ := ckI_some h
    refine sr_t4 C hi7 dX0_fillProducts_74 ?_
    refine w_lv [1, 2, 3] rfl ?_
    exact w_X0_fillProducts_75 C   hrc2 hrc12 h
set_option maxRecDepth 20000 in
set_option maxHeartbeats 4000000 in
theorem w_X0_fillProducts_12 {fa : Nat → Nat} {N : Nat} {t2 : Nat → Int32} {t3 : Nat → Int32} {t5 : Nat → Int32} {tL : Nat → Option Nat} {fp : Int32} {fq : Int32} {t0 : Nat → Int32} {v1 : Int32} {fu : Nat} {rc2 : (Nat → Int32) → (Nat → Int32) → Int32 → Option ((Nat → Int32) × (Nat → Int32))} {r : (Nat → Int32) × (Nat → Int32)} (C : Cx p s m args meth c G A RX0 cX0_fillProducts 4 none)  (hrc2 : ∀ (t1 : Nat → Int32) (t4 : Nat → Int32) (v1 : Int32), rc2 t1 t4 v1 = some r → Wd p l e rm_X0_fillProducts s m args below meth c G A 4 0 0 (QQ G A (fun o w => o = none ∧ w = (fw G fa N fp fq t0 r.1 t2 t3 r.2 t5 tL)) below args s 0 0) (fw G fa N fp fq t0 t1 t2 t3 t4 t5 tL) [(0, .ref (fa 0)), (1, .int v1)] 2 []) : ∀ (fk : Nat) (t1 : Nat → Int32) (t4 : Nat → Int32) (v2 : Int32), X0_fillProducts_12 fu N rc2 fp fq t0 v1 fk t1 t4 v2 = some r → Wd p l e rm_X0_fillProducts s m args below meth c G A 4 0 0 (QQ G A (fun o w => o = none ∧ w = (fw G fa N fp fq t0 r.1 t2 t3 r.2 t5 tL)) below args s 0 0) (fw G fa N fp fq t0 t1 t2 t3 t4 t5 tL) [(0, .ref (fa 0)), (1, .int v1), (2, .int v2)] 12 [] := by
  intro fk
  induction fk with
  | zero =>
    intro t1 t4 v2 h
    have h : (none : Option ((Nat → Int32) × (Nat → Int32))) = some r := h
    cases h
  | succ fk ih =>
    intro t1 t4 v2 h
    have h : X0_fillProducts_12_b fu N rc2 fp fq t0 v1 (X0_fillProducts_12 fu N rc2 fp fq t0 v1 fk) t1 t4 v2 = some r := h
    unfold X0_fillProducts_12_b at h
    refine w_iload_n C 2 rfl dX0_fillProducts_12 ?_
    refine w_aload_n C 0 rfl dX0_fillProducts_13 ?_
    refine gt_X0_21 C dX0_fillProducts_14 ?_
    refine w_icmp_ge (tgt := 81) C dX0_fillProducts_17 (by decide) (fun hb2 => ?_) (fun hb2 => ?_)
    · have h := if_t hb2 h
      refine w_iinc (v := v1 + 1) (k := 1) C rfl rfl (Nat.le_of_ble_eq_true rfl) rfl dX0_fillProducts_81 ?_
      refine w_goto (tgt := 2) C dX0_fillProducts_84 (by decide) ?_
      refine w_lv [1, 0] rfl ?_
      exact hrc2 _ _ _ h
    · have h := if_f hb2 h
      refine w_aload_n C 0 rfl dX0_fillProducts_20 ?_
      refine gt_X0_29 C dX0_fillProducts_21 ?_
      refine w_aload_n C 0 rfl dX0_fillProducts_24 ?_
      refine gt_X0_21 C dX0_fillProducts_25 ?_
      refine w_icmp_ne (tgt := 42) C dX0_fillProducts_28 (by decide) (fun hb3 => ?_) (fun hb3 => ?_)
      · have h := if_f hb3 h
        refine w_aload_n C 0 rfl dX0_fillProducts_42 ?_
        refine w_iload_n C 1 rfl dX0_fillProducts_43 ?_
        refine w_iload_n C 2 rfl dX0_fillProducts_44 ?_
        obtain ⟨x4, hx4, h⟩ := bd_some h
        refine w_cVi (wr := []) (qc := (RX0, TX0, 9)) C (c_X0_polynomialProduct fu  hx4) pk_X0_polynomialProduct ml_X0_60 (As := [.int v1, .int v2]) (rest := []) (k9 := 0) rfl rfl ⟨⟨rfl, rfl⟩, Nat.le_of_ble_eq_true rfl, Nat.le_of_ble_eq_true rfl⟩ rfl ⟨(Nat.le_of_ble_eq_true rfl), (Nat.le_of_ble_eq_true rfl)⟩ (Nat.le_of_ble_eq_true rfl) rfl rfl (List.nil_append _) dX0_fillProducts_45 ?_
        refine w_lv [0, 1, 2] rfl ?_
        exact w_X0_fillProducts_48 C   hrc2 ih h
      · have h := if_t hb3 h
        refine w_iload_n C 1 rfl dX0_fillProducts_31 ?_
        refine w_iload_n C 2 rfl dX0_fillProducts_32 ?_
        refine w_imul C dX0_fillProducts_33 ?_
        refine w_aload_n C 0 rfl dX0_fillProducts_34 ?_
        refine gt_X0_21 C dX0_fillProducts_35 ?_
        obtain ⟨hz8, h⟩ := ckZ_some h
        refine w_irem C hz8 dX0_fillProducts_38 ?_
        refine w_goto (tgt := 48) C dX0_fillProducts_39 (by decide) ?_
        refine w_lv [0, 1, 2] rfl ?_
        exact w_X0_fillProducts_48 C   hrc2 ih h
set_option maxRecDepth 20000 in
set_option maxHeartbeats 4000000 in
theorem w_X0_fillProducts_2 {fa : Nat → Nat} {N : Nat} {t2 : Nat → Int32} {t3 : Nat → Int32} {t5 : Nat → Int32} {tL : Nat → Option Nat} {fp : Int32} {fq : Int32} {t0 : Nat → Int32} {fu : Nat}  {r : (Nat → Int32) × (Nat → Int32)} (C : Cx p s m args meth c G A RX0 cX0_fillProducts 4 none)   : ∀ (fk : Nat) (t1 : Nat → Int32) (t4 : Nat → Int32) (v1 : Int32), X0_fillProducts_2 fu N  fp fq t0 fk t1 t4 v1 = some r → Wd p l e rm_X0_fillProducts s m args below meth c G A 4 0 0 (QQ G A (fun o w => o = none ∧ w = (fw G fa N fp fq t0 r.1 t2 t3 r.2 t5 tL)) below args s 0 0) (fw G fa N fp fq t0 t1 t2 t3 t4 t5 tL) [(0, .ref (fa 0)), (1, .int v1)] 2 [] := by
  intro fk
  induction fk with
  | zero =>
    intro t1 t4 v1 h
    have h : (none : Option ((Nat → Int32) × (Nat → Int32))) = some r := h
    cases h
  | succ fk ih =>
    intro t1 t4 v1 h
    have h : X0_fillProducts_2_b fu N  fp fq t0 (X0_fillProducts_2 fu N  fp fq t0 fk) t1 t4 v1 = some r := h
    unfold X0_fillProducts_2_b at h
    refine w_iload_n C 1 rfl dX0_fillProducts_2 ?_
    refine w_aload_n C 0 rfl dX0_fillProducts_3 ?_
    refine gt_X0_21 C dX0_fillProducts_4 ?_
    refine w_icmp_ge (tgt := 87) C dX0_fillProducts_7 (by decide) (fun hb1 => ?_) (fun hb1 => ?_)
    · have h := if_t hb1 h
      cases h
      exact w_vret C ⟨rfl, rfl⟩ dX0_fillProducts_87
    · have h := if_f hb1 h
      refine w_iconst (v := 0) C dX0_fillProducts_10 (by decide) ?_
      refine w_istore_n C (Nat.le_of_ble_eq_true rfl) rfl dX0_fillProducts_11 ?_
      refine w_lv [1, 2, 0] rfl ?_
      exact w_X0_fillProducts_12 C   ih _ _ _ _ h
set_option maxRecDepth 20000 in
set_option maxHeartbeats 4000000 in
theorem w_X0_fillProducts {fa : Nat → Nat} {N : Nat} {t2 : Nat → Int32} {t3 : Nat → Int32} {t5 : Nat → Int32} {tL : Nat → Option Nat} {fu : Nat}  {fp : Int32} {fq : Int32} {t0 : Nat → Int32} {t1 : Nat → Int32} {t4 : Nat → Int32} {r : (Nat → Int32) × (Nat → Int32)} (C : Cx p s m args meth c G A RX0 cX0_fillProducts 4 none)   (h : X0_fillProducts fu N  fp fq t0 t1 t4 = some r) : Wd p l e rm_X0_fillProducts s m args below meth c G A 4 0 0 (QQ G A (fun o w => o = none ∧ w = (fw G fa N fp fq t0 r.1 t2 t3 r.2 t5 tL)) below args s 0 0) (fw G fa N fp fq t0 t1 t2 t3 t4 t5 tL) [(0, .ref (fa 0))] 0 [] := by
  unfold X0_fillProducts at h
  refine w_iconst (v := 0) C dX0_fillProducts_0 (by decide) ?_
  refine w_istore_n C (Nat.le_of_ble_eq_true rfl) rfl dX0_fillProducts_1 ?_
  refine w_lv [1, 0] rfl ?_
  exact w_X0_fillProducts_2 C    _ _ _ _ h
theorem c_X0_fillProducts {l : Launch} {G : GG} {fa : Nat → Nat} {N : Nat} {fp : Int32} {fq : Int32} {t0 : Nat → Int32} {t1 : Nat → Int32} {t2 : Nat → Int32} {t3 : Nat → Int32} {t4 : Nat → Int32} {t5 : Nat → Int32} {tL : Nat → Option Nat} (fu : Nat)  {r : (Nat → Int32) × (Nat → Int32)} (h : X0_fillProducts fu N fp fq t0 t1 t4  = some r) : Ct l yX0_fillProducts cX0_fillProducts 4 none G rm_X0_fillProducts [.ref (fa 0)] (fw G fa N fp fq t0 t1 t2 t3 t4 t5 tL) (fun o w => o = none ∧ w = (fw G fa N fp fq t0 r.1 t2 t3 r.2 t5 tL)) 0 0 := Ct.of (by decide) (Nat.le_of_ble_eq_true rfl) (fun p e s m args below meth c A C _ => w_X0_fillProducts C h)
abbrev rm_X0_fillPowers : Room := { frames := 1, cells := 0, slots := 0, locals := 22 }
theorem pk_X0_fillPowers : PkV RX0 yX0_fillPowers cX0_fillPowers 4 none 0 := ⟨rfl, co_X0_fillPowers, ini_RX0, im_X0_fillPowers, se_X0_fillPowers, by decide +kernel⟩
set_option maxRecDepth 20000 in
set_option maxHeartbeats 4000000 in
theorem w_X0_fillPowers_14 {fa : Nat → Nat} {N : Nat} {fp : Int32} {t0 : Nat → Int32} {t3 : Nat → Int32} {t4 : Nat → Int32} {t5 : Nat → Int32} {tL : Nat → Option Nat} {fq : Int32} {t1 : Nat → Int32} {v1 : Int32} {fu : Nat} {rc2 : (Nat → Int32) → Int32 → Option ((Nat → Int32))} {r : (Nat → Int32)} (C : Cx p s m args meth c G A RX0 cX0_fillPowers 4 none)  (hrc2 : ∀ (t2 : Nat → Int32) (v1 : Int32), rc2 t2 v1 = some r → Wd p l e rm_X0_fillPowers s m args below meth c G A 4 0 0 (QQ G A (fun o w => o = none ∧ w = (fw G fa N fp fq t0 t1 r t3 t4 t5 tL)) below args s 0 0) (fw G fa N fp fq t0 t1 t2 t3 t4 t5 tL) [(0, .ref (fa 0)), (1, .int v1)] 2 []) : ∀ (fk : Nat) (t2 : Nat → Int32) (v2 : Int32) (v3 : Int32), X0_fillPowers_14 fu N rc2 fq t1 v1 fk t2 v2 v3 = some r → Wd p l e rm_X0_fillPowers s m args below meth c G A 4 0 0 (QQ G A (fun o w => o = none ∧ w = (fw G fa N fp fq t0 t1 r t3 t4 t5 tL)) below args s 0 0) (fw G fa N fp fq t0 t1 t2 t3 t4 t5 tL) [(0, .ref (fa 0)), (1, .int v1), (2, .int v2), (3, .int v3)] 14 [] := by
  intro fk
  induction fk with
  | zero =>
    intro t2 v2 v3 h
    have h : (none : Option ((Nat → Int32))) = some r := h
    cases h
  | succ fk ih =>
    intro t2 v2 v3 h
    have h : X0_fillPowers_14_b fu N rc2 fq t1 v1 (X0_fillPowers_14 fu N rc2 fq t1 v1 fk) t2 v2 v3 = some r := h
    unfold X0_fillPowers_14_b at h
    refine w_iload_n C 3 rfl dX0_fillPowers_14 ?_
    refine w_aload_n C 0 rfl dX0_fillPowers_15 ?_
    refine gt_X0_21 C dX0_fillPowers_16 ?_
    refine w_icmp_ge (tgt := 49) C dX0_fillPowers_19 (by decide) (fun hb2 => ?_) (fun hb2 => ?_)
    · have h := if_t hb2 h
      refine w_iinc (v := v1 + 1) (k := 1) C rfl rfl (Nat.le_of_ble_eq_true rfl) rfl dX0_fillPowers_49 ?_
      refine w_goto (tgt := 2) C dX0_fillPowers_52 (by decide) ?_
      refine w_lv [1, 0] rfl ?_
      exact hrc2 _ _ h
    · have h := if_f hb2 h
      refine w_aload_n C 0 rfl dX0_fillPowers_22 ?_
      refine gt_X0_38 C dX0_fillPowers_23 ?_
      refine w_iload_n C 1 rfl dX0_fillPowers_26 ?_
      refine w_aload_n C 0 rfl dX0_fillPowers_27 ?_
      refine gt_X0_21 C dX0_fillPowers_28 ?_
      refine w_imul C dX0_fillPowers_31 ?_
      refine w_iload_n C 3 rfl dX0_fillPowers_32 ?_
      refine w_iadd C dX0_fillPowers_33 ?_
      refine w_iload_n C 2 rfl dX0_fillPowers_34 ?_
      obtain ⟨hi3, h⟩ := ckI_some h
      refine sr_t2 C hi3 dX0_fillPowers_35 ?_
      refine w_aload_n C 0 rfl dX0_fillPowers_36 ?_
      refine w_iload_n C 2 rfl dX0_fillPowers_37 ?_
      refine w_iload_n C 1 rfl dX0_fillPowers_38 ?_
      obtain ⟨x4, hx4, h⟩ := bd_some h
      refine w_cVi (wr := []) (qc := (RX0, TX0, 9)) C (c_X0_product fu  hx4) pk_X0_product ml_X0_72 (As := [.int v2, .int v1]) (rest := []) (k9 := 0) rfl rfl ⟨⟨rfl, rfl⟩, Nat.le_of_ble_eq_true rfl, Nat.le_of_ble_eq_true rfl⟩ rfl ⟨(Nat.le_of_ble_eq_true rfl), (Nat.le_of_ble_eq_true rfl)⟩ (Nat.le_of_ble_eq_true rfl) rfl rfl (List.nil_append _) dX0_fillPowers_39 ?_
      refine w_istore_n C (Nat.le_of_ble_eq_true rfl) rfl dX0_fillPowers_42 ?_
      refine w_iinc (v := v3 + 1) (k := 3) C rfl rfl (Nat.le_of_ble_eq_true rfl) rfl dX0_fillPowers_43 ?_
      refine w_goto (tgt := 14) C dX0_fillPowers_46 (by decide) ?_
      refine w_lv [2, 3, 1, 0] rfl ?_
      exact ih _ _ _ h
set_option maxRecDepth 20000 in
set_option maxHeartbeats 4000000 in
theorem w_X0_fillPowers_2 {fa : Nat → Nat} {N : Nat} {fp : Int32} {t0 : Nat → Int32} {t3 : Nat → Int32} {t4 : Nat → Int32} {t5 : Nat → Int32} {tL : Nat → Option Nat} {fq : Int32} {t1 : Nat → Int32} {fu : Nat}  {r : (Nat → Int32)} (C : Cx p s m args meth c G A RX0 cX0_fillPowers 4 none)   : ∀ (fk : Nat) (t2 : Nat → Int32) (v1 : Int32), X0_fillPowers_2 fu N  fq t1 fk t2 v1 = some r → Wd p l e rm_X0_fillPowers s m args below meth c G A 4 0 0 (QQ G A (fun o w => o = none ∧ w = (fw G fa N fp fq t0 t1 r t3 t4 t5 tL)) below args s 0 0) (fw G fa N fp fq t0 t1 t2 t3 t4 t5 tL) [(0, .ref (fa 0)), (1, .int v1)] 2 [] := by
  intro fk
  induction fk with
  | zero =>
    intro t2 v1 h
    have h : (none : Option ((Nat → Int32))) = some r := h
    cases h
  | succ fk ih =>
    intro t2 v1 h
    have h : X0_fillPowers_2_b fu N  fq t1 (X0_fillPowers_2 fu N  fq t1 fk) t2 v1 = some r := h
    unfold X0_fillPowers_2_b at h
    refine w_iload_n C 1 rfl dX0_fillPowers_2 ?_
    refine w_aload_n C 0 rfl dX0_fillPowers_3 ?_
    refine gt_X0_21 C dX0_fillPowers_4 ?_
    refine w_icmp_ge (tgt := 55) C dX0_fillPowers_7 (by decide) (fun hb1 => ?_) (fun hb1 => ?_)
    · have h := if_t hb1 h
      cases h
      exact w_vret C ⟨rfl, rfl⟩ dX0_fillPowers_55
    · have h := if_f hb1 h
      refine w_iconst (v := 1) C dX0_fillPowers_10 (by decide) ?_
      refine w_istore_n C (Nat.le_of_ble_eq_true rfl) rfl dX0_fillPowers_11 ?_
      refine w_iconst (v := 0) C dX0_fillPowers_12 (by decide) ?_
      refine w_istore_n C (Nat.le_of_ble_eq_true rfl) rfl dX0_fillPowers_13 ?_
      refine w_lv [2, 3, 1, 0] rfl ?_
      exact w_X0_fillPowers_14 C   ih _ _ _ _ h
set_option maxRecDepth 20000 in
set_option maxHeartbeats 4000000 in
theorem w_X0_fillPowers {fa : Nat → Nat} {N : Nat} {fp : Int32} {t0 : Nat → Int32} {t3 : Nat → Int32} {t4 : Nat → Int32} {t5 : Nat → Int32} {tL : Nat → Option Nat} {fu : Nat}  {fq : Int32} {t1 : Nat → Int32} {t2 : Nat → Int32} {r : (Nat → Int32)} (C : Cx p s m args meth c G A RX0 cX0_fillPowers 4 none)   (h : X0_fillPowers fu N  fq t1 t2 = some r) : Wd p l e rm_X0_fillPowers s m args below meth c G A 4 0 0 (QQ G A (fun o w => o = none ∧ w = (fw G fa N fp fq t0 t1 r t3 t4 t5 tL)) below args s 0 0) (fw G fa N fp fq t0 t1 t2 t3 t4 t5 tL) [(0, .ref (fa 0))] 0 [] := by
  unfold X0_fillPowers at h
  refine w_iconst (v := 0) C dX0_fillPowers_0 (by decide) ?_
  refine w_istore_n C (Nat.le_of_ble_eq_true rfl) rfl dX0_fillPowers_1 ?_
  refine w_lv [1, 0] rfl ?_
  exact w_X0_fillPowers_2 C    _ _ _ h
theorem c_X0_fillPowers {l : Launch} {G : GG} {fa : Nat → Nat} {N : Nat} {fp : Int32} {fq : Int32} {t0 : Nat → Int32} {t1 : Nat → Int32} {t2 : Nat → Int32} {t3 : Nat → Int32} {t4 : Nat → Int32} {t5 : Nat → Int32} {tL : Nat → Option Nat} (fu : Nat)  {r : (Nat → Int32)} (h : X0_fillPowers fu N fq t1 t2  = some r) : Ct l yX0_fillPowers cX0_fillPowers 4 none G rm_X0_fillPowers [.ref (fa 0)] (fw G fa N fp fq t0 t1 t2 t3 t4 t5 tL) (fun o w => o = none ∧ w = (fw G fa N fp fq t0 t1 r t3 t4 t5 tL)) 0 0 := Ct.of (by decide) (Nat.le_of_ble_eq_true rfl) (fun p e s m args below meth c A C _ => w_X0_fillPowers C h)
abbrev rm_X0_polynomials : Room := { frames := 0, cells := 0, slots := 0, locals := 0 }
theorem pk_X0_polynomials : PkV RX0 yX0_polynomials cX0_polynomials 4 ((some .int)) 1 := ⟨rfl, co_X0_polynomials, ini_RX0, im_X0_polynomials, se_X0_polynomials, by decide +kernel⟩
set_option maxRecDepth 20000 in
set_option maxHeartbeats 4000000 in
theorem w_X0_polynomials_4 {fa : Nat → Nat} {N : Nat} {fp : Int32} {t0 : Nat → Int32} {t1 : Nat → Int32} {t2 : Nat → Int32} {t3 : Nat → Int32} {t4 : Nat → Int32} {t5 : Nat → Int32} {tL : Nat → Option Nat} {fq : Int32} {v1 : Int32} {fu : Nat}  {r : Int32} (C : Cx p s m args meth c G A RX0 cX0_polynomials 4 ((some .int)))   : ∀ (fk : Nat) (v2 : Int32) (v3 : Int32), X0_polynomials_4 fu N  fq v1 fk v2 v3 = some r → Wd p l e rm_X0_polynomials s m args below meth c G A 4 0 0 (QQ G A (fun o w => o = some (.int r) ∧ w = (fw G fa N fp fq t0 t1 t2 t3 t4 t5 tL)) below args s 0 0) (fw G fa N fp fq t0 t1 t2 t3 t4 t5 tL) [(0, .ref (fa 0)), (1, .int v1), (2, .int v2), (3, .int v3)] 4 [] := by
  intro fk
  induction fk with
  | zero =>
    intro v2 v3 h
    have h : (none : Option Int32) = some r := h
    cases h
  | succ fk ih =>
    intro v2 v3 h
    have h : X0_polynomials_4_b fu N  fq v1 (X0_polynomials_4 fu N  fq v1 fk) v2 v3 = some r := h
    unfold X0_polynomials_4_b at h
    refine w_iload_n C 3 rfl dX0_polynomials_4 ?_
    refine w_iload_n C 1 rfl dX0_polynomials_5 ?_
    refine w_icmp_ge (tgt := 22) C dX0_polynomials_6 (by decide) (fun hb1 => ?_) (fun hb1 => ?_)
    · have h := if_t hb1 h
      refine w_iload_n C 2 rfl dX0_polynomials_22 ?_
      cases h
      exact w_iret C ⟨rfl, rfl⟩ dX0_polynomials_23
    · have h := if_f hb1 h
      refine w_iload_n C 2 rfl dX0_polynomials_9 ?_
      refine w_aload_n C 0 rfl dX0_polynomials_10 ?_
      refine gt_X0_21 C dX0_polynomials_11 ?_
      refine w_imul C dX0_polynomials_14 ?_
      refine w_istore_n C (Nat.le_of_ble_eq_true rfl) rfl dX0_polynomials_15 ?_
      refine w_iinc (v := v3 + 1) (k := 3) C rfl rfl (Nat.le_of_ble_eq_true rfl) rfl dX0_polynomials_16 ?_
      refine w_goto (tgt := 4) C dX0_polynomials_19 (by decide) ?_
      refine w_lv [2, 3, 1, 0] rfl ?_
      exact ih _ _ h
set_option maxRecDepth 20000 in
set_option maxHeartbeats 4000000 in
theorem w_X0_polynomials {fa : Nat → Nat} {N : Nat} {fp : Int32} {t0 : Nat → Int32} {t1 : Nat → Int32} {t2 : Nat → Int32} {t3 : Nat → Int32} {t4 : Nat → Int32} {t5 : Nat → Int32} {tL : Nat → Option Nat} {fu : Nat}  {fq : Int32} {v1 : Int32} {r : Int32} (C : Cx p s m args meth c G A RX0 cX0_polynomials 4 ((some .int)))   (h : X0_polynomials fu N  fq v1 = some r) : Wd p l e rm_X0_polynomials s m args below meth c G A 4 0 0 (QQ G A (fun o w => o = some (.int r) ∧ w = (fw G fa N fp fq t0 t1 t2 t3 t4 t5 tL)) below args s 0 0) (fw G fa N fp fq t0 t1 t2 t3 t4 t5 tL) [(0, .ref (fa 0)), (1, .int v1)] 0 [] := by
  unfold X0_polynomials at h
  refine w_iconst (v := 1) C dX0_polynomials_0 (by decide) ?_
  refine w_istore_n C (Nat.le_of_ble_eq_true rfl) rfl dX0_polynomials_1 ?_
  refine w_iconst (v := 1) C dX0_polynomials_2 (by decide) ?_
  refine w_istore_n C (Nat.le_of_ble_eq_true rfl) rfl dX0_polynomials_3 ?_
  refine w_lv [2, 3, 1, 0] rfl ?_
  exact w_X0_polynomials_4 C    _ _ _ h
theorem c_X0_polynomials {l : Launch} {G : GG} {fa : Nat → Nat} {N : Nat} {fp : Int32} {fq : Int32} {t0 : Nat → Int32} {t1 : Nat → Int32} {t2 : Nat → Int32} {t3 : Nat → Int32} {t4 : Nat → Int32} {t5 : Nat → Int32} {tL : Nat → Option Nat} (fu : Nat) {v1 : Int32} {r : Int32} (h : X0_polynomials fu N fq v1 = some r) : Ct l yX0_polynomials cX0_polynomials 4 ((some .int)) G rm_X0_polynomials [.ref (fa 0), .int v1] (fw G fa N fp fq t0 t1 t2 t3 t4 t5 tL) (fun o w => o = some (.int r) ∧ w = (fw G fa N fp fq t0 t1 t2 t3 t4 t5 tL)) 0 0 := Ct.of (by decide) (Nat.le_of_ble_eq_true rfl) (fun p e s m args below meth c A C _ => w_X0_polynomials C h)
abbrev rm_X0_writePolynomial : Room := { frames := 0, cells := 0, slots := 0, locals := 0 }
theorem pk_X0_writePolynomial : PkV RX0 yX0_writePolynomial cX0_writePolynomial 5 none 2 := ⟨rfl, co_X0_writePolynomial, ini_RX0, im_X0_writePolynomial, se_X0_writePolynomial, by decide +kernel⟩
set_option maxRecDepth 20000 in
set_option maxHeartbeats 4000000 in
theorem w_X0_writePolynomial_5 {fa : Nat → Nat} {N : Nat} {fp : Int32} {t0 : Nat → Int32} {t1 : Nat → Int32} {t2 : Nat → Int32} {t3 : Nat → Int32} {t4 : Nat → Int32} {tL : Nat → Option Nat} {fq : Int32} {v1 : Int32} {fu : Nat}  {r : (Nat → Int32)} (C : Cx p s m args meth c G A RX0 cX0_writePolynomial 5 none)   : ∀ (fk : Nat) (t5 : Nat → Int32) (v3 : Int32) (v4 : Int32), X0_writePolynomial_5 fu N  fq v1 fk t5 v3 v4 = some r → Wd p l e rm_X0_writePolynomial s m args below meth c G A 5 0 0 (QQ G A (fun o w => o = none ∧ w = (fw G fa N fp fq t0 t1 t2 t3 t4 r tL)) below args s 0 0) (fw G fa N fp fq t0 t1 t2 t3 t4 t5 tL) [(0, .ref (fa 0)), (1, .int v1), (3, .int v3), (4, .int v4)] 5 [] := by
  intro fk
  induction fk with
  | zero =>
    intro t5 v3 v4 h
    have h : (none : Option ((Nat → Int32))) = some r := h
    cases h
  | succ fk ih =>
    intro t5 v3 v4 h
    have h : X0_writePolynomial_5_b fu N  fq v1 (X0_writePolynomial_5 fu N  fq v1 fk) t5 v3 v4 = some r := h
    unfold X0_writePolynomial_5_b at h
    refine w_iload C 3 rfl dX0_writePolynomial_5 ?_
    refine w_iload_n C 1 rfl dX0_writePolynomial_7 ?_
    refine w_icmp_ge (tgt := 37) C dX0_writePolynomial_8 (by decide) (fun hb1 => ?_) (fun hb1 => ?_)
    · have h := if_t hb1 h
      refine w_aload_n C 0 rfl dX0_writePolynomial_37 ?_
      refine gt_X0_9 C dX0_writePolynomial_38 ?_
      refine w_iload_n C 1 rfl dX0_writePolynomial_41 ?_
      refine w_iconst (v := 1) C dX0_writePolynomial_42 (by decide) ?_
      obtain ⟨hi2, h⟩ := ckI_some h
      refine sr_t5 C hi2 dX0_writePolynomial_43 ?_
      cases h
      exact w_vret C ⟨rfl, rfl⟩ dX0_writePolynomial_44
    · have h := if_f hb1 h
      refine w_aload_n C 0 rfl dX0_writePolynomial_11 ?_
      refine gt_X0_9 C dX0_writePolynomial_12 ?_
      refine w_iload C 3 rfl dX0_writePolynomial_15 ?_
      refine w_iload_n C 2 rfl dX0_writePolynomial_17 ?_
      refine w_aload_n C 0 rfl dX0_writePolynomial_18 ?_
      refine gt_X0_21 C dX0_writePolynomial_19 ?_
      obtain ⟨hz3, h⟩ := ckZ_some h
      refine w_irem C hz3 dX0_writePolynomial_22 ?_
      obtain ⟨hi4, h⟩ := ckI_some h
      refine sr_t5 C hi4 dX0_writePolynomial_23 ?_
      refine w_iload_n C 2 rfl dX0_writePolynomial_24 ?_
      refine w_aload_n C 0 rfl dX0_writePolynomial_25 ?_
      refine gt_X0_21 C dX0_writePolynomial_26 ?_
      obtain ⟨hz5, h⟩ := ckZ_some h
      refine w_idiv C hz5 dX0_writePolynomial_29 ?_
      refine w_istore_n C (Nat.le_of_ble_eq_true rfl) rfl dX0_writePolynomial_30 ?_
      refine w_iinc (v := v4 + 1) (k := 3) C rfl rfl (Nat.le_of_ble_eq_true rfl) rfl dX0_writePolynomial_31 ?_
      refine w_goto (tgt := 5) C dX0_writePolynomial_34 (by decide) ?_
      refine w_lv [2, 3, 1, 0] rfl ?_
      exact ih _ _ _ h
set_option maxRecDepth 20000 in
set_option maxHeartbeats 4000000 in
theorem w_X0_writePolynomial {fa : Nat → Nat} {N : Nat} {fp : Int32} {t0 : Nat → Int32} {t1 : Nat → Int32} {t2 : Nat → Int32} {t3 : Nat → Int32} {t4 : Nat → Int32} {tL : Nat → Option Nat} {fu : Nat}  {fq : Int32} {t5 : Nat → Int32} {v1 : Int32} {v2 : Int32} {r : (Nat → Int32)} (C : Cx p s m args meth c G A RX0 cX0_writePolynomial 5 none)   (h : X0_writePolynomial fu N  fq t5 v1 v2 = some r) : Wd p l e rm_X0_writePolynomial s m args below meth c G A 5 0 0 (QQ G A (fun o w => o = none ∧ w = (fw G fa N fp fq t0 t1 t2 t3 t4 r tL)) below args s 0 0) (fw G fa N fp fq t0 t1 t2 t3 t4 t5 tL) [(0, .ref (fa 0)), (1, .int v1), (2, .int v2)] 0 [] := by
  unfold X0_writePolynomial at h
  refine w_iload_n C 2 rfl dX0_writePolynomial_0 ?_
  refine w_istore_n C (Nat.le_of_ble_eq_true rfl) rfl dX0_writePolynomial_1 ?_
  refine w_iconst (v := 1) C dX0_writePolynomial_2 (by decide) ?_
  refine w_istore C (Nat.le_of_ble_eq_true rfl) rfl dX0_writePolynomial_3 ?_
  refine w_lv [2, 3, 1, 0] rfl ?_
  exact w_X0_writePolynomial_5 C    _ _ _ _ h
theorem c_X0_writePolynomial {l : Launch} {G : GG} {fa : Nat → Nat} {N : Nat} {fp : Int32} {fq : Int32} {t0 : Nat → Int32} {t1 : Nat → Int32} {t2 : Nat → Int32} {t3 : Nat → Int32} {t4 : Nat → Int32} {t5 : Nat → Int32} {tL : Nat → Option Nat} (fu : Nat) {v1 : Int32} {v2 : Int32} {r : (Nat → Int32)} (h : X0_writePolynomial fu N fq t5 v1 v2 = some r) : Ct l yX0_writePolynomial cX0_writePolynomial 5 none G rm_X0_writePolynomial [.ref (fa 0), .int v1, .int v2] (fw G fa N fp fq t0 t1 t2 t3 t4 t5 tL) (fun o w => o = none ∧ w = (fw G fa N fp fq t0 t1 t2 t3 t4 r tL)) 0 0 := Ct.of (by decide) (Nat.le_of_ble_eq_true rfl) (fun p e s m args below meth c A C _ => w_X0_writePolynomial C h)
end
