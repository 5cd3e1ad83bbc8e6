section
variable {p : Program} {l : Launch} {e : Env} {s : State} {m : MethodId} {args : Array Value} {below : List Frame} {meth : Method} {c : Code} {G : GG} {A : Nat → Prop}
abbrev rm_X4_in : Room := { frames := 0, cells := 0, slots := 0, locals := 0 }
theorem pk_X4_in : PkS yX4_in cX4_in 3 ((some .boolean)) 3 := ⟨co_X4_in, ini_RX4, st_X4_in, by decide +kernel⟩
set_option maxRecDepth 20000 in
set_option maxHeartbeats 4000000 in
theorem w_X4_in  {fu : Nat}  {v0 : Int32} {v1 : Int32} {v2 : Int32} {r : Int32} (C : Cx p s m args meth c G A RX4 cX4_in 3 ((some .boolean)))   (h : X4_in fu  v0 v1 v2 = some r) : Wd p l e rm_X4_in s m args below meth c G A 3 0 0 (QQ G A (fun o w => o = some (.int r) ∧ w = []) below args s 0 0) [] [(0, .int v0), (1, .int v1), (2, .int v2)] 0 [] := by
  unfold X4_in at h
  refine w_iload_n C 0 rfl dX4_in_0 ?_
  refine w_iload_n C 1 rfl dX4_in_1 ?_
  refine w_icmp_lt (tgt := 14) C dX4_in_2 (by decide) (fun hb1 => ?_) (fun hb1 => ?_)
  · have h := if_t hb1 h
    refine w_iconst (v := 0) C dX4_in_14 (by decide) ?_
    cases h
    exact w_zret C rfl ⟨rfl, rfl⟩ dX4_in_15
  · have h := if_f hb1 h
    refine w_iload_n C 0 rfl dX4_in_5 ?_
    refine w_iload_n C 2 rfl dX4_in_6 ?_
    refine w_icmp_gt (tgt := 14) C dX4_in_7 (by decide) (fun hb2 => ?_) (fun hb2 => ?_)
    · have h := if_t hb2 h
      refine w_iconst (v := 0) C dX4_in_14 (by decide) ?_
      cases h
      exact w_zret C rfl ⟨rfl, rfl⟩ dX4_in_15
    · have h := if_f hb2 h
      refine w_iconst (v := 1) C dX4_in_10 (by decide) ?_
      refine w_goto (tgt := 15) C dX4_in_11 (by decide) ?_
      cases h
      exact w_zret C rfl ⟨rfl, rfl⟩ dX4_in_15
theorem c_X4_in {l : Launch} {G : GG}  (fu : Nat) {v0 : Int32} {v1 : Int32} {v2 : Int32} {r : Int32} (h : X4_in fu  v0 v1 v2 = some r) : Ct l yX4_in cX4_in 3 ((some .boolean)) G rm_X4_in [.int v0, .int v1, .int v2] [] (fun o w => o = some (.int r) ∧ w = []) 0 0 := Ct.of (by decide) (Nat.le_of_ble_eq_true rfl) (fun p e s m args below meth c A C _ => w_X4_in C h)
abbrev rm_X4_sumOf : Room := { frames := 0, cells := 0, slots := 0, locals := 0 }
theorem pk_X4_sumOf : PkV RX4 yX4_sumOf cX4_sumOf 7 ((some .int)) 2 := ⟨rfl, co_X4_sumOf, ini_RX4, im_X4_sumOf, se_X4_sumOf, by decide +kernel⟩
set_option maxRecDepth 20000 in
set_option maxHeartbeats 4000000 in
theorem w_X4_sumOf_21 {ma : Nat → Nat} {th : Int32} {tr : Int64} {kq : Int32} {su : Nat → Int32} {pr : Nat → Int32} {ms : Nat → Int32} {ro : Nat → Int32} {be : Nat → Int32} {di : Nat → Int32} {fu : Nat} {rc11 : Int32 → Int32 → Int32 → Int32 → Option Int32} {kp : Int32} {v3 : Int32} {v4 : Int32} {v5 : Int32} {v6 : Int32} {r : Int32} (C : Cx p s m args meth c G A RX4 cX4_sumOf 7 ((some .int)))  (hrc11 : ∀ (v3 : Int32) (v4 : Int32) (v5 : Int32) (v6 : Int32), rc11 v3 v4 v5 v6 = some r → Wd p l e rm_X4_sumOf s m args below meth c G A 7 0 0 (QQ G A (fun o w => o = some (.int r) ∧ w = (mw G ma th tr kq kp su pr ms ro be di)) below args s 0 0) (mw G ma th tr kq kp su pr ms ro be di) [(0, .ref (ma 0)), (3, .int v3), (4, .int v4), (5, .int v5), (6, .int v6)] 11 []) (h : X4_sumOf_21 fu rc11 kp v3 v4 v5 v6 = some r) : Wd p l e rm_X4_sumOf s m args below meth c G A 7 0 0 (QQ G A (fun o w => o = some (.int r) ∧ w = (mw G ma th tr kq kp su pr ms ro be di)) below args s 0 0) (mw G ma th tr kq kp su pr ms ro be di) [(0, .ref (ma 0)), (3, .int v3), (4, .int v4), (5, .int v5), (6, .int v6)] 21 [] := by
  unfold X4_sumOf_21 at h
  refine w_iload_n C 1 rfl dX4_sumOf_21 ?_
  refine w_iload C 2 rfl dX4_sumOf_22 ?_
  refine w_iload C 3 rfl dX4_sumOf_24 ?_
  refine w_aload_n C 0 rfl dX4_sumOf_26 ?_
  refine gt_X4_36 C dX4_sumOf_27 ?_
  obtain ⟨hz2, h⟩ := ckZ_some h
  refine w_irem C hz2 dX4_sumOf_30 ?_
  refine w_iload C 4 rfl dX4_sumOf_31 ?_
  refine w_aload_n C 0 rfl dX4_sumOf_33 ?_
  refine gt_X4_36 C dX4_sumOf_34 ?_
  obtain ⟨hz3, h⟩ := ckZ_some h
  refine w_irem C hz3 dX4_sumOf_37 ?_
  refine w_iadd C dX4_sumOf_38 ?_
  refine w_aload_n C 0 rfl dX4_sumOf_39 ?_
  refine gt_X4_36 C dX4_sumOf_40 ?_
  obtain ⟨hz4, h⟩ := ckZ_some h
  refine w_irem C hz4 dX4_sumOf_43 ?_
  refine w_imul C dX4_sumOf_44 ?_
  refine w_iadd C dX4_sumOf_45 ?_
  refine w_istore_n C (Nat.le_of_ble_eq_true rfl) rfl dX4_sumOf_46 ?_
  refine w_iload C 3 rfl dX4_sumOf_47 ?_
  refine w_aload_n C 1 rfl dX4_sumOf_49 ?_
  refine gt_X4_36 C dX4_sumOf_50 ?_
  obtain ⟨hz5, h⟩ := ckZ_some h
  refine w_idiv C hz5 dX4_sumOf_53 ?_
  refine w_istore C (Nat.le_of_ble_eq_true rfl) rfl dX4_sumOf_54 ?_
  refine w_iload C 4 rfl dX4_sumOf_56 ?_
  refine w_aload_n C 2 rfl dX4_sumOf_58 ?_
  refine gt_X4_36 C dX4_sumOf_59 ?_
  obtain ⟨hz6, h⟩ := ckZ_some h
  refine w_idiv C hz6 dX4_sumOf_62 ?_
  refine w_istore C (Nat.le_of_ble_eq_true rfl) rfl dX4_sumOf_63 ?_
  refine w_iload C 4 rfl dX4_sumOf_65 ?_
  refine w_aload_n C 3 rfl dX4_sumOf_67 ?_
  refine gt_X4_36 C dX4_sumOf_68 ?_
  refine w_imul C dX4_sumOf_71 ?_
  refine w_istore C (Nat.le_of_ble_eq_true rfl) rfl dX4_sumOf_72 ?_
  refine w_goto (tgt := 11) C dX4_sumOf_74 (by decide) ?_
  refine w_lv [4, 3, 0, 2, 1] rfl ?_
  exact hrc11 _ _ _ _ h
set_option maxRecDepth 20000 in
set_option maxHeartbeats 4000000 in
theorem w_X4_sumOf_11 {ma : Nat → Nat} {th : Int32} {tr : Int64} {kq : Int32} {su : Nat → Int32} {pr : Nat → Int32} {ms : Nat → Int32} {ro : Nat → Int32} {be : Nat → Int32} {di : Nat → Int32} {kp : Int32} {fu : Nat}  {r : Int32} (C : Cx p s m args meth c G A RX4 cX4_sumOf 7 ((some .int)))   : ∀ (fk : Nat) (v3 : Int32) (v4 : Int32) (v5 : Int32) (v6 : Int32), X4_sumOf_11 fu  kp fk v3 v4 v5 v6 = some r → Wd p l e rm_X4_sumOf s m args below meth c G A 7 0 0 (QQ G A (fun o w => o = some (.int r) ∧ w = (mw G ma th tr kq kp su pr ms ro be di)) below args s 0 0) (mw G ma th tr kq kp su pr ms ro be di) [(0, .ref (ma 0)), (3, .int v3), (4, .int v4), (5, .int v5), (6, .int v6)] 11 [] := by
  intro fk
  induction fk with
  | zero =>
    intro v3 v4 v5 v6 h
    have h : (none : Option Int32) = some r := h
    cases h
  | succ fk ih =>
    intro v3 v4 v5 v6 h
    have h : X4_sumOf_11_b fu  kp (X4_sumOf_11 fu  kp fk) v3 v4 v5 v6 = some r := h
    unfold X4_sumOf_11_b at h
    refine w_iload C 3 rfl dX4_sumOf_11 ?_
    refine w_if_gt (tgt := 21) C dX4_sumOf_13 (by decide) (fun hb1 => ?_) (fun hb1 => ?_)
    · have h := if_t hb1 h
      refine w_lv [0, 1, 2, 3, 4] rfl ?_
      exact w_X4_sumOf_21 C   ih h
    · have h := if_f hb1 h
      refine w_iload C 4 rfl dX4_sumOf_16 ?_
      refine w_if_le (tgt := 77) C dX4_sumOf_18 (by decide) (fun hb7 => ?_) (fun hb7 => ?_)
      · have h := if_t hb7 h
        refine w_iload_n C 1 rfl dX4_sumOf_77 ?_
        cases h
        exact w_iret C ⟨rfl, rfl⟩ dX4_sumOf_78
      · have h := if_f hb7 h
        refine w_lv [0, 1, 2, 3, 4] rfl ?_
        exact w_X4_sumOf_21 C   ih h
set_option maxRecDepth 20000 in
set_option maxHeartbeats 4000000 in
theorem w_X4_sumOf {ma : Nat → Nat} {th : Int32} {tr : Int64} {kq : Int32} {su : Nat → Int32} {pr : Nat → Int32} {ms : Nat → Int32} {ro : Nat → Int32} {be : Nat → Int32} {di : Nat → Int32} {fu : Nat}  {kp : Int32} {v1 : Int32} {v2 : Int32} {r : Int32} (C : Cx p s m args meth c G A RX4 cX4_sumOf 7 ((some .int)))   (h : X4_sumOf fu  kp v1 v2 = some r) : Wd p l e rm_X4_sumOf s m args below meth c G A 7 0 0 (QQ G A (fun o w => o = some (.int r) ∧ w = (mw G ma th tr kq kp su pr ms ro be di)) below args s 0 0) (mw G ma th tr kq kp su pr ms ro be di) [(0, .ref (ma 0)), (1, .int v1), (2, .int v2)] 0 [] := by
  unfold X4_sumOf at h
  refine w_iconst (v := 0) C dX4_sumOf_0 (by decide) ?_
  refine w_istore_n C (Nat.le_of_ble_eq_true rfl) rfl dX4_sumOf_1 ?_
  refine w_iconst (v := 1) C dX4_sumOf_2 (by decide) ?_
  refine w_istore C (Nat.le_of_ble_eq_true rfl) rfl dX4_sumOf_3 ?_
  refine w_iload_n C 3 rfl dX4_sumOf_5 ?_
  refine w_istore C (Nat.le_of_ble_eq_true rfl) rfl dX4_sumOf_6 ?_
  refine w_iload_n C 5 rfl dX4_sumOf_8 ?_
  refine w_istore C (Nat.le_of_ble_eq_true rfl) rfl dX4_sumOf_9 ?_
  refine w_lv [4, 3, 2, 1, 0] rfl ?_
  exact w_X4_sumOf_11 C    _ _ _ _ _ h
theorem c_X4_sumOf {l : Launch} {G : GG} {ma : Nat → Nat} {th : Int32} {tr : Int64} {kq : Int32} {kp : Int32} {su : Nat → Int32} {pr : Nat → Int32} {ms : Nat → Int32} {ro : Nat → Int32} {be : Nat → Int32} {di : Nat → Int32} (fu : Nat) {v1 : Int32} {v2 : Int32} {r : Int32} (h : X4_sumOf fu kp v1 v2 = some r) : Ct l yX4_sumOf cX4_sumOf 7 ((some .int)) G rm_X4_sumOf [.ref (ma 0), .int v1, .int v2] (mw G ma th tr kq kp su pr ms ro be di) (fun o w => o = some (.int r) ∧ w = (mw G ma th tr kq kp su pr ms ro be di)) 0 0 := Ct.of (by decide) (Nat.le_of_ble_eq_true rfl) (fun p e s m args below meth c A C _ => w_X4_sumOf C h)
abbrev rm_X4_productOf : Room := { frames := 0, cells := 0, slots := 0, locals := 0 }
theorem pk_X4_productOf : PkV RX4 yX4_productOf cX4_productOf 7 ((some .int)) 2 := ⟨rfl, co_X4_productOf, ini_RX4, im_X4_productOf, se_X4_productOf, by decide +kernel⟩
set_option maxRecDepth 20000 in
set_option maxHeartbeats 4000000 in
theorem w_X4_productOf_288 {ma : Nat → Nat} {th : Int32} {tr : Int64} {su : Nat → Int32} {pr : Nat → Int32} {ms : Nat → Int32} {ro : Nat → Int32} {be : Nat → Int32} {kq : Int32} {kp : Int32} {di : Nat → Int32} {fu : Nat}  {r : Int32 × (Nat → Int32)} (C : Cx p s m args meth c G A RX4 cX4_productOf 7 ((some .int)))   : ∀ (fk : Nat) (v5 : Int32) (v6 : Int32), X4_productOf_288 fu  kq kp di fk v5 v6 = some r → Wd p l e rm_X4_productOf s m args below meth c G A 7 0 0 (QQ G A (fun o w => o = some (.int r.1) ∧ w = (mw G ma th tr kq kp su pr ms ro be r.2)) below args s 0 0) (mw G ma th tr kq kp su pr ms ro be di) [(0, .ref (ma 0)), (5, .int v5), (6, .int v6)] 288 [] := by
  intro fk
  induction fk with
  | zero =>
    intro v5 v6 h
    have h : (none : Option (Int32 × (Nat → Int32))) = some r := h
    cases h
  | succ fk ih =>
    intro v5 v6 h
    have h : X4_productOf_288_b fu  kq kp di (X4_productOf_288 fu  kq kp di fk) v5 v6 = some r := h
    unfold X4_productOf_288_b at h
    refine w_iload C 2 rfl dX4_productOf_288 ?_
    refine w_if_lt (tgt := 316) C dX4_productOf_290 (by decide) (fun hb7 => ?_) (fun hb7 => ?_)
    · have h := if_t hb7 h
      refine w_iload C 1 rfl dX4_productOf_316 ?_
      cases h
      exact w_iret C ⟨rfl, rfl⟩ dX4_productOf_318
    · have h := if_f hb7 h
      refine w_aload_n C 0 rfl dX4_productOf_293 ?_
      refine gt_X4_36 C dX4_productOf_294 ?_
      refine w_iload C 1 rfl dX4_productOf_297 ?_
      refine w_imul C dX4_productOf_299 ?_
      refine w_aload_n C 0 rfl dX4_productOf_300 ?_
      refine gt_X4_25 C dX4_productOf_301 ?_
      refine w_iload C 2 rfl dX4_productOf_304 ?_
      obtain ⟨hi8, h⟩ := ckI_some h
      refine ld_di C hi8 dX4_productOf_306 ?_
      refine w_iadd C dX4_productOf_307 ?_
      refine w_istore C (Nat.le_of_ble_eq_true rfl) rfl dX4_productOf_308 ?_
      refine w_iinc (v := v6 + (-1)) (k := 2) C rfl (by rw [litm1]) (Nat.le_of_ble_eq_true rfl) rfl dX4_productOf_310 ?_
      refine w_goto (tgt := 288) C dX4_productOf_313 (by decide) ?_
      refine w_lv [2, 1, 0] rfl ?_
      exact ih _ _ h
set_option maxRecDepth 20000 in
set_option maxHeartbeats 4000000 in
theorem w_X4_productOf_273 {ma : Nat → Nat} {th : Int32} {tr : Int64} {su : Nat → Int32} {pr : Nat → Int32} {ms : Nat → Int32} {ro : Nat → Int32} {be : Nat → Int32} {fu : Nat} {rc170 : (Nat → Int32) → Int32 → Option (Int32 × (Nat → Int32))} {kq : Int32} {kp : Int32} {di : Nat → Int32} {v4 : Int32} {v5 : Int32} {r : Int32 × (Nat → Int32)} (C : Cx p s m args meth c G A RX4 cX4_productOf 7 ((some .int)))  (hrc170 : ∀ (di : Nat → Int32) (v5 : Int32), rc170 di v5 = some r → Wd p l e rm_X4_productOf s m args below meth c G A 7 0 0 (QQ G A (fun o w => o = some (.int r.1) ∧ w = (mw G ma th tr kq kp su pr ms ro be r.2)) below args s 0 0) (mw G ma th tr kq kp su pr ms ro be di) [(0, .ref (ma 0)), (4, .int v4), (5, .int v5)] 170 []) (h : X4_productOf_273 fu rc170 kq kp di v4 v5 = some r) : Wd p l e rm_X4_productOf s m args below meth c G A 7 0 0 (QQ G A (fun o w => o = some (.int r.1) ∧ w = (mw G ma th tr kq kp su pr ms ro be r.2)) below args s 0 0) (mw G ma th tr kq kp su pr ms ro be di) [(0, .ref (ma 0)), (4, .int v4), (5, .int v5)] 273 [] := by
  unfold X4_productOf_273 at h
  refine w_iinc (v := v5 + (-1)) (k := 2) C rfl (by rw [litm1]) (Nat.le_of_ble_eq_true rfl) rfl dX4_productOf_273 ?_
  refine w_goto (tgt := 170) C dX4_productOf_276 (by decide) ?_
  refine w_lv [1, 2, 0] rfl ?_
  exact hrc170 _ _ h
set_option maxRecDepth 20000 in
set_option maxHeartbeats 4000000 in
theorem w_X4_productOf_170 {ma : Nat → Nat} {th : Int32} {tr : Int64} {su : Nat → Int32} {pr : Nat → Int32} {ms : Nat → Int32} {ro : Nat → Int32} {be : Nat → Int32} {kq : Int32} {kp : Int32} {v4 : Int32} {fu : Nat}  {r : Int32 × (Nat → Int32)} (C : Cx p s m args meth c G A RX4 cX4_productOf 7 ((some .int)))   : ∀ (fk : Nat) (di : Nat → Int32) (v5 : Int32), X4_productOf_170 fu  kq kp v4 fk di v5 = some r → Wd p l e rm_X4_productOf s m args below meth c G A 7 0 0 (QQ G A (fun o w => o = some (.int r.1) ∧ w = (mw G ma th tr kq kp su pr ms ro be r.2)) below args s 0 0) (mw G ma th tr kq kp su pr ms ro be di) [(0, .ref (ma 0)), (4, .int v4), (5, .int v5)] 170 [] := by
  intro fk
  induction fk with
  | zero =>
    intro di v5 h
    have h : (none : Option (Int32 × (Nat → Int32))) = some r := h
    cases h
  | succ fk ih =>
    intro di v5 h
    have h : X4_productOf_170_b fu  kq kp v4 (X4_productOf_170 fu  kq kp v4 fk) di v5 = some r := h
    unfold X4_productOf_170_b at h
    refine w_iload C 2 rfl dX4_productOf_170 ?_
    refine w_iload C 1 rfl dX4_productOf_172 ?_
    refine w_icmp_lt (tgt := 279) C dX4_productOf_174 (by decide) (fun hb6 => ?_) (fun hb6 => ?_)
    · have h := if_t hb6 h
      refine w_iconst (v := 0) C dX4_productOf_279 (by decide) ?_
      refine w_istore C (Nat.le_of_ble_eq_true rfl) rfl dX4_productOf_280 ?_
      refine w_iload C 2 rfl dX4_productOf_282 ?_
      refine w_iconst (v := 1) C dX4_productOf_284 (by decide) ?_
      refine w_isub C dX4_productOf_285 ?_
      refine w_istore C (Nat.le_of_ble_eq_true rfl) rfl dX4_productOf_286 ?_
      refine w_lv [2, 1, 0] rfl ?_
      exact w_X4_productOf_288 C    _ _ _ h
    · have h := if_f hb6 h
      refine w_aload_n C 0 rfl dX4_productOf_177 ?_
      refine gt_X4_25 C dX4_productOf_178 ?_
      refine w_iload C 2 rfl dX4_productOf_181 ?_
      obtain ⟨hi9, h⟩ := ckI_some h
      refine ld_di C hi9 dX4_productOf_183 ?_
      refine w_istore C (Nat.le_of_ble_eq_true rfl) rfl dX4_productOf_184 ?_
      refine w_aload_n C 1 rfl dX4_productOf_186 ?_
      refine gt_X4_25 C dX4_productOf_187 ?_
      refine w_iload C 3 rfl dX4_productOf_190 ?_
      refine w_iconst (v := 0) C dX4_productOf_192 (by decide) ?_
      obtain ⟨hi10, h⟩ := ckI_some h
      refine sr_di C hi10 dX4_productOf_193 ?_
      refine w_aload_n C 1 rfl dX4_productOf_194 ?_
      refine gt_X4_25 C dX4_productOf_195 ?_
      refine w_iload C 3 rfl dX4_productOf_198 ?_
      refine w_iload C 2 rfl dX4_productOf_200 ?_
      refine w_isub C dX4_productOf_202 ?_
      refine w_aload_n C 1 rfl dX4_productOf_203 ?_
      refine gt_X4_25 C dX4_productOf_204 ?_
      refine w_iload C 3 rfl dX4_productOf_207 ?_
      refine w_iload C 2 rfl dX4_productOf_209 ?_
      refine w_isub C dX4_productOf_211 ?_
      obtain ⟨hi11, h⟩ := ckI_some h
      refine ld_di C hi11 dX4_productOf_212 ?_
      refine w_aload_n C 1 rfl dX4_productOf_213 ?_
      refine gt_X4_36 C dX4_productOf_214 ?_
      refine w_iload C 0 rfl dX4_productOf_217 ?_
      refine w_isub C dX4_productOf_219 ?_
      refine w_iadd C dX4_productOf_220 ?_
      refine w_aload_n C 1 rfl dX4_productOf_221 ?_
      refine gt_X4_36 C dX4_productOf_222 ?_
      obtain ⟨hz12, h⟩ := ckZ_some h
      refine w_irem C hz12 dX4_productOf_225 ?_
      obtain ⟨hi13, h⟩ := ckI_some h
      refine sr_di C hi13 dX4_productOf_226 ?_
      refine w_aload_n C 1 rfl dX4_productOf_227 ?_
      refine gt_X4_39 C dX4_productOf_228 ?_
      refine w_bipush (v := 9) C dX4_productOf_231 (by decide) ?_
      refine w_icmp_eq (tgt := 273) C dX4_productOf_233 (by decide) (fun hb14 => ?_) (fun hb14 => ?_)
      · have h := if_t hb14 h
        refine w_lv [1, 2, 3] rfl ?_
        exact w_X4_productOf_273 C   ih h
      · have h := if_f hb14 h
        refine w_aload_n C 1 rfl dX4_productOf_236 ?_
        refine gt_X4_25 C dX4_productOf_237 ?_
        refine w_iload C 3 rfl dX4_productOf_240 ?_
        refine w_iload C 2 rfl dX4_productOf_242 ?_
        refine w_isub C dX4_productOf_244 ?_
        refine w_iconst (v := 1) C dX4_productOf_245 (by decide) ?_
        refine w_iadd C dX4_productOf_246 ?_
        refine w_aload_n C 1 rfl dX4_productOf_247 ?_
        refine gt_X4_25 C dX4_productOf_248 ?_
        refine w_iload C 3 rfl dX4_productOf_251 ?_
        refine w_iload C 2 rfl dX4_productOf_253 ?_
        refine w_isub C dX4_productOf_255 ?_
        refine w_iconst (v := 1) C dX4_productOf_256 (by decide) ?_
        refine w_iadd C dX4_productOf_257 ?_
        obtain ⟨hi15, h⟩ := ckI_some h
        refine ld_di C hi15 dX4_productOf_258 ?_
        refine w_aload_n C 1 rfl dX4_productOf_259 ?_
        refine gt_X4_36 C dX4_productOf_260 ?_
        refine w_iload C 0 rfl dX4_productOf_263 ?_
        refine w_isub C dX4_productOf_265 ?_
        refine w_iadd C dX4_productOf_266 ?_
        refine w_aload_n C 1 rfl dX4_productOf_267 ?_
        refine gt_X4_36 C dX4_productOf_268 ?_
        obtain ⟨hz16, h⟩ := ckZ_some h
        refine w_irem C hz16 dX4_productOf_271 ?_
        obtain ⟨hi17, h⟩ := ckI_some h
        refine sr_di C hi17 dX4_productOf_272 ?_
        refine w_lv [1, 2, 3] rfl ?_
        exact w_X4_productOf_273 C   ih h
set_option maxRecDepth 20000 in
set_option maxHeartbeats 4000000 in
theorem w_X4_productOf_164 {ma : Nat → Nat} {th : Int32} {tr : Int64} {su : Nat → Int32} {pr : Nat → Int32} {ms : Nat → Int32} {ro : Nat → Int32} {be : Nat → Int32} {fu : Nat}  {kq : Int32} {kp : Int32} {di : Nat → Int32} {s0 : Int32} {r : Int32 × (Nat → Int32)} (C : Cx p s m args meth c G A RX4 cX4_productOf 7 ((some .int)))   (h : X4_productOf_164 fu  kq kp di s0 = some r) : Wd p l e rm_X4_productOf s m args below meth c G A 7 0 0 (QQ G A (fun o w => o = some (.int r.1) ∧ w = (mw G ma th tr kq kp su pr ms ro be r.2)) below args s 0 0) (mw G ma th tr kq kp su pr ms ro be di) [(0, .ref (ma 0))] 164 [.int s0] := by
  unfold X4_productOf_164 at h
  refine w_istore C (Nat.le_of_ble_eq_true rfl) rfl dX4_productOf_164 ?_
  refine w_bipush (v := 7) C dX4_productOf_166 (by decide) ?_
  refine w_istore C (Nat.le_of_ble_eq_true rfl) rfl dX4_productOf_168 ?_
  refine w_lv [2, 1, 0] rfl ?_
  exact w_X4_productOf_170 C    _ _ _ h
set_option maxRecDepth 20000 in
set_option maxHeartbeats 4000000 in
theorem w_X4_productOf_146 {ma : Nat → Nat} {th : Int32} {tr : Int64} {su : Nat → Int32} {pr : Nat → Int32} {ms : Nat → Int32} {ro : Nat → Int32} {be : Nat → Int32} {fu : Nat}  {kq : Int32} {kp : Int32} {di : Nat → Int32} {r : Int32 × (Nat → Int32)} (C : Cx p s m args meth c G A RX4 cX4_productOf 7 ((some .int)))   (h : X4_productOf_146 fu  kq kp di = some r) : Wd p l e rm_X4_productOf s m args below meth c G A 7 0 0 (QQ G A (fun o w => o = some (.int r.1) ∧ w = (mw G ma th tr kq kp su pr ms ro be r.2)) below args s 0 0) (mw G ma th tr kq kp su pr ms ro be di) [(0, .ref (ma 0))] 146 [] := by
  unfold X4_productOf_146 at h
  refine w_iconst (v := 2) C dX4_productOf_146 (by decide) ?_
  refine w_goto (tgt := 164) C dX4_productOf_147 (by decide) ?_
  refine w_lv [0] rfl ?_
  exact w_X4_productOf_164 C    h
set_option maxRecDepth 20000 in
set_option maxHeartbeats 4000000 in
theorem w_X4_productOf_56 {ma : Nat → Nat} {th : Int32} {tr : Int64} {su : Nat → Int32} {pr : Nat → Int32} {ms : Nat → Int32} {ro : Nat → Int32} {be : Nat → Int32} {kq : Int32} {kp : Int32} {v2 : Int32} {v3 : Int32} {v4 : Int32} {fu : Nat} {rc46 : (Nat → Int32) → Int32 → Int32 → Option (Int32 × (Nat → Int32))} {r : Int32 × (Nat → Int32)} (C : Cx p s m args meth c G A RX4 cX4_productOf 7 ((some .int)))  (hrc46 : ∀ (di : Nat → Int32) (v3 : Int32) (v4 : Int32), rc46 di v3 v4 = some r → Wd p l e rm_X4_productOf s m args below meth c G A 7 0 0 (QQ G A (fun o w => o = some (.int r.1) ∧ w = (mw G ma th tr kq kp su pr ms ro be r.2)) below args s 0 0) (mw G ma th tr kq kp su pr ms ro be di) [(0, .ref (ma 0)), (2, .int v2), (3, .int v3), (4, .int v4)] 46 []) : ∀ (fk : Nat) (di : Nat → Int32) (v5 : Int32) (v6 : Int32), X4_productOf_56 fu rc46 kq kp v2 v3 v4 fk di v5 v6 = some r → Wd p l e rm_X4_productOf s m args below meth c G A 7 0 0 (QQ G A (fun o w => o = some (.int r.1) ∧ w = (mw G ma th tr kq kp su pr ms ro be r.2)) below args s 0 0) (mw G ma th tr kq kp su pr ms ro be di) [(0, .ref (ma 0)), (2, .int v2), (3, .int v3), (4, .int v4), (5, .int v5), (6, .int v6)] 56 [] := by
  intro fk
  induction fk with
  | zero =>
    intro di v5 v6 h
    have h : (none : Option (Int32 × (Nat → Int32))) = some r := h
    cases h
  | succ fk ih =>
    intro di v5 v6 h
    have h : X4_productOf_56_b fu rc46 kq kp v2 v3 v4 (X4_productOf_56 fu rc46 kq kp v2 v3 v4 fk) di v5 v6 = some r := h
    unfold X4_productOf_56_b at h
    refine w_iload C 4 rfl dX4_productOf_56 ?_
    refine w_if_le (tgt := 116) C dX4_productOf_58 (by decide) (fun hb20 => ?_) (fun hb20 => ?_)
    · have h := if_t hb20 h
      refine w_iload_n C 2 rfl dX4_productOf_116 ?_
      refine w_aload_n C 0 rfl dX4_productOf_117 ?_
      refine gt_X4_36 C dX4_productOf_118 ?_
      obtain ⟨hz21, h⟩ := ckZ_some h
      refine w_idiv C hz21 dX4_productOf_121 ?_
      refine w_istore_n C (Nat.le_of_ble_eq_true rfl) rfl dX4_productOf_122 ?_
      refine w_iinc (v := v4 + 1) (k := 3) C rfl rfl (Nat.le_of_ble_eq_true rfl) rfl dX4_productOf_123 ?_
      refine w_goto (tgt := 46) C dX4_productOf_126 (by decide) ?_
      refine w_lv [2, 3, 1, 0] rfl ?_
      exact hrc46 _ _ _ h
    · have h := if_f hb20 h
      refine w_aload_n C 0 rfl dX4_productOf_61 ?_
      refine gt_X4_25 C dX4_productOf_62 ?_
      refine w_iload C 3 rfl dX4_productOf_65 ?_
      refine w_iload C 5 rfl dX4_productOf_67 ?_
      refine w_iadd C dX4_productOf_69 ?_
      refine w_aload_n C 0 rfl dX4_productOf_70 ?_
      refine gt_X4_25 C dX4_productOf_71 ?_
      refine w_iload C 3 rfl dX4_productOf_74 ?_
      refine w_iload C 5 rfl dX4_productOf_76 ?_
      refine w_iadd C dX4_productOf_78 ?_
      obtain ⟨hi22, h⟩ := ckI_some h
      refine ld_di C hi22 dX4_productOf_79 ?_
      refine w_iload_n C 2 rfl dX4_productOf_80 ?_
      refine w_aload_n C 0 rfl dX4_productOf_81 ?_
      refine gt_X4_36 C dX4_productOf_82 ?_
      obtain ⟨hz23, h⟩ := ckZ_some h
      refine w_irem C hz23 dX4_productOf_85 ?_
      refine w_iload C 4 rfl dX4_productOf_86 ?_
      refine w_aload_n C 0 rfl dX4_productOf_88 ?_
      refine gt_X4_36 C dX4_productOf_89 ?_
      obtain ⟨hz24, h⟩ := ckZ_some h
      refine w_irem C hz24 dX4_productOf_92 ?_
      refine w_imul C dX4_productOf_93 ?_
      refine w_iadd C dX4_productOf_94 ?_
      refine w_aload_n C 0 rfl dX4_productOf_95 ?_
      refine gt_X4_36 C dX4_productOf_96 ?_
      obtain ⟨hz25, h⟩ := ckZ_some h
      refine w_irem C hz25 dX4_productOf_99 ?_
      obtain ⟨hi26, h⟩ := ckI_some h
      refine sr_di C hi26 dX4_productOf_100 ?_
      refine w_iload C 4 rfl dX4_productOf_101 ?_
      refine w_aload_n C 0 rfl dX4_productOf_103 ?_
      refine gt_X4_36 C dX4_productOf_104 ?_
      obtain ⟨hz27, h⟩ := ckZ_some h
      refine w_idiv C hz27 dX4_productOf_107 ?_
      refine w_istore C (Nat.le_of_ble_eq_true rfl) rfl dX4_productOf_108 ?_
      refine w_iinc (v := v6 + 1) (k := 5) C rfl rfl (Nat.le_of_ble_eq_true rfl) rfl dX4_productOf_110 ?_
      refine w_goto (tgt := 56) C dX4_productOf_113 (by decide) ?_
      refine w_lv [2, 3, 4, 5, 1, 0] rfl ?_
      exact ih _ _ _ h
set_option maxRecDepth 20000 in
set_option maxHeartbeats 4000000 in
theorem w_X4_productOf_46 {ma : Nat → Nat} {th : Int32} {tr : Int64} {su : Nat → Int32} {pr : Nat → Int32} {ms : Nat → Int32} {ro : Nat → Int32} {be : Nat → Int32} {kq : Int32} {kp : Int32} {v2 : Int32} {fu : Nat}  {r : Int32 × (Nat → Int32)} (C : Cx p s m args meth c G A RX4 cX4_productOf 7 ((some .int)))   : ∀ (fk : Nat) (di : Nat → Int32) (v3 : Int32) (v4 : Int32), X4_productOf_46 fu  kq kp v2 fk di v3 v4 = some r → Wd p l e rm_X4_productOf s m args below meth c G A 7 0 0 (QQ G A (fun o w => o = some (.int r.1) ∧ w = (mw G ma th tr kq kp su pr ms ro be r.2)) below args s 0 0) (mw G ma th tr kq kp su pr ms ro be di) [(0, .ref (ma 0)), (2, .int v2), (3, .int v3), (4, .int v4)] 46 [] := by
  intro fk
  induction fk with
  | zero =>
    intro di v3 v4 h
    have h : (none : Option (Int32 × (Nat → Int32))) = some r := h
    cases h
  | succ fk ih =>
    intro di v3 v4 h
    have h : X4_productOf_46_b fu  kq kp v2 (X4_productOf_46 fu  kq kp v2 fk) di v3 v4 = some r := h
    unfold X4_productOf_46_b at h
    refine w_iload_n C 2 rfl dX4_productOf_46 ?_
    refine w_if_le (tgt := 129) C dX4_productOf_47 (by decide) (fun hb4 => ?_) (fun hb4 => ?_)
    · have h := if_t hb4 h
      refine w_aload_n C 0 rfl dX4_productOf_129 ?_
      refine gt_X4_39 C dX4_productOf_130 ?_
      refine w_iconst (v := 4) C dX4_productOf_133 (by decide) ?_
      refine w_icmp_eq (tgt := 146) C dX4_productOf_134 (by decide) (fun hb5 => ?_) (fun hb5 => ?_)
      · have h := if_t hb5 h
        refine w_lv [0] rfl ?_
        exact w_X4_productOf_146 C    h
      · have h := if_f hb5 h
        refine w_aload_n C 0 rfl dX4_productOf_137 ?_
        refine gt_X4_39 C dX4_productOf_138 ?_
        refine w_bipush (v := 9) C dX4_productOf_141 (by decide) ?_
        refine w_icmp_ne (tgt := 150) C dX4_productOf_143 (by decide) (fun hb18 => ?_) (fun hb18 => ?_)
        · have h := if_f hb18 h
          refine w_aload_n C 0 rfl dX4_productOf_150 ?_
          refine gt_X4_39 C dX4_productOf_151 ?_
          refine w_bipush (v := 8) C dX4_productOf_154 (by decide) ?_
          refine w_icmp_ne (tgt := 163) C dX4_productOf_156 (by decide) (fun hb19 => ?_) (fun hb19 => ?_)
          · have h := if_f hb19 h
            refine w_iconst (v := 4) C dX4_productOf_163 (by decide) ?_
            refine w_lv [0] rfl ?_
            exact w_X4_productOf_164 C    h
          · have h := if_t hb19 h
            refine w_iconst (v := 3) C dX4_productOf_159 (by decide) ?_
            refine w_goto (tgt := 164) C dX4_productOf_160 (by decide) ?_
            refine w_lv [0] rfl ?_
            exact w_X4_productOf_164 C    h
        · have h := if_t hb18 h
          refine w_lv [0] rfl ?_
          exact w_X4_productOf_146 C    h
    · have h := if_f hb4 h
      refine w_iload_n C 1 rfl dX4_productOf_50 ?_
      refine w_istore C (Nat.le_of_ble_eq_true rfl) rfl dX4_productOf_51 ?_
      refine w_iconst (v := 0) C dX4_productOf_53 (by decide) ?_
      refine w_istore C (Nat.le_of_ble_eq_true rfl) rfl dX4_productOf_54 ?_
      refine w_lv [2, 3, 4, 5, 1, 0] rfl ?_
      exact w_X4_productOf_56 C   ih _ _ _ _ h
set_option maxRecDepth 20000 in
set_option maxHeartbeats 4000000 in
theorem w_X4_productOf_22 {ma : Nat → Nat} {th : Int32} {tr : Int64} {su : Nat → Int32} {pr : Nat → Int32} {ms : Nat → Int32} {ro : Nat → Int32} {be : Nat → Int32} {kq : Int32} {kp : Int32} {v1 : Int32} {v2 : Int32} {fu : Nat}  {r : Int32 × (Nat → Int32)} (C : Cx p s m args meth c G A RX4 cX4_productOf 7 ((some .int)))   : ∀ (fk : Nat) (di : Nat → Int32) (v3 : Int32), X4_productOf_22 fu  kq kp v1 v2 fk di v3 = some r → Wd p l e rm_X4_productOf s m args below meth c G A 7 0 0 (QQ G A (fun o w => o = some (.int r.1) ∧ w = (mw G ma th tr kq kp su pr ms ro be r.2)) below args s 0 0) (mw G ma th tr kq kp su pr ms ro be di) [(0, .ref (ma 0)), (1, .int v1), (2, .int v2), (3, .int v3)] 22 [] := by
  intro fk
  induction fk with
  | zero =>
    intro di v3 h
    have h : (none : Option (Int32 × (Nat → Int32))) = some r := h
    cases h
  | succ fk ih =>
    intro di v3 h
    have h : X4_productOf_22_b fu  kq kp v1 v2 (X4_productOf_22 fu  kq kp v1 v2 fk) di v3 = some r := h
    unfold X4_productOf_22_b at h
    refine w_iload_n C 3 rfl dX4_productOf_22 ?_
    refine w_bipush (v := 8) C dX4_productOf_23 (by decide) ?_
    refine w_icmp_ge (tgt := 41) C dX4_productOf_25 (by decide) (fun hb2 => ?_) (fun hb2 => ?_)
    · have h := if_t hb2 h
      refine w_iload_n C 1 rfl dX4_productOf_41 ?_
      refine w_istore_n C (Nat.le_of_ble_eq_true rfl) rfl dX4_productOf_42 ?_
      refine w_iconst (v := 0) C dX4_productOf_43 (by decide) ?_
      refine w_istore C (Nat.le_of_ble_eq_true rfl) rfl dX4_productOf_44 ?_
      obtain ⟨he3, h⟩ := ckE_some h
      refine nrm_di he3 ?_
      refine w_lv [2, 4, 1, 0] rfl ?_
      exact w_X4_productOf_46 C    _ _ _ _ h
    · have h := if_f hb2 h
      refine w_aload_n C 0 rfl dX4_productOf_28 ?_
      refine gt_X4_25 C dX4_productOf_29 ?_
      refine w_iload_n C 3 rfl dX4_productOf_32 ?_
      refine w_iconst (v := 0) C dX4_productOf_33 (by decide) ?_
      obtain ⟨hi28, h⟩ := ckI_some h
      refine sr_di C hi28 dX4_productOf_34 ?_
      refine w_iinc (v := v3 + 1) (k := 3) C rfl rfl (Nat.le_of_ble_eq_true rfl) rfl dX4_productOf_35 ?_
      refine w_goto (tgt := 22) C dX4_productOf_38 (by decide) ?_
      refine w_lv [1, 2, 3, 0] rfl ?_
      exact ih _ _ h
set_option maxRecDepth 20000 in
set_option maxHeartbeats 4000000 in
theorem w_X4_productOf {ma : Nat → Nat} {th : Int32} {tr : Int64} {su : Nat → Int32} {pr : Nat → Int32} {ms : Nat → Int32} {ro : Nat → Int32} {be : Nat → Int32} {fu : Nat}  {kq : Int32} {kp : Int32} {di : Nat → Int32} {v1 : Int32} {v2 : Int32} {r : Int32 × (Nat → Int32)} (C : Cx p s m args meth c G A RX4 cX4_productOf 7 ((some .int)))   (h : X4_productOf fu  kq kp di v1 v2 = some r) : Wd p l e rm_X4_productOf s m args below meth c G A 7 0 0 (QQ G A (fun o w => o = some (.int r.1) ∧ w = (mw G ma th tr kq kp su pr ms ro be r.2)) below args s 0 0) (mw G ma th tr kq kp su pr ms ro be di) [(0, .ref (ma 0)), (1, .int v1), (2, .int v2)] 0 [] := by
  unfold X4_productOf at h
  refine w_aload_n C 0 rfl dX4_productOf_0 ?_
  refine gt_X4_36 C dX4_productOf_1 ?_
  refine w_aload_n C 0 rfl dX4_productOf_4 ?_
  refine gt_X4_39 C dX4_productOf_5 ?_
  refine w_icmp_ne (tgt := 20) C dX4_productOf_8 (by decide) (fun hb1 => ?_) (fun hb1 => ?_)
  · have h := if_f hb1 h
    refine w_iconst (v := 0) C dX4_productOf_20 (by decide) ?_
    refine w_istore_n C (Nat.le_of_ble_eq_true rfl) rfl dX4_productOf_21 ?_
    refine w_lv [1, 2, 3, 0] rfl ?_
    exact w_X4_productOf_22 C    _ _ _ h
  · have h := if_t hb1 h
    refine w_iload_n C 1 rfl dX4_productOf_11 ?_
    refine w_iload_n C 2 rfl dX4_productOf_12 ?_
    refine w_imul C dX4_productOf_13 ?_
    refine w_aload_n C 0 rfl dX4_productOf_14 ?_
    refine gt_X4_36 C dX4_productOf_15 ?_
    obtain ⟨hz29, h⟩ := ckZ_some h
    refine w_irem C hz29 dX4_productOf_18 ?_
    cases h
    exact w_iret C ⟨rfl, rfl⟩ dX4_productOf_19
theorem c_X4_productOf {l : Launch} {G : GG} {ma : Nat → Nat} {th : Int32} {tr : Int64} {kq : Int32} {kp : Int32} {su : Nat → Int32} {pr : Nat → Int32} {ms : Nat → Int32} {ro : Nat → Int32} {be : Nat → Int32} {di : Nat → Int32} (fu : Nat) {v1 : Int32} {v2 : Int32} {r : Int32 × (Nat → Int32)} (h : X4_productOf fu kq kp di v1 v2 = some r) : Ct l yX4_productOf cX4_productOf 7 ((some .int)) G rm_X4_productOf [.ref (ma 0), .int v1, .int v2] (mw G ma th tr kq kp su pr ms ro be di) (fun o w => o = some (.int r.1) ∧ w = (mw G ma th tr kq kp su pr ms ro be r.2)) 0 0 := Ct.of (by decide) (Nat.le_of_ble_eq_true rfl) (fun p e s m args below meth c A C _ => w_X4_productOf C h)
abbrev rm_X4_begins : Room := { frames := 1, cells := 0, slots := 0, locals := 26 }
theorem pk_X4_begins : PkV RX4 yX4_begins cX4_begins 4 none 1 := ⟨rfl, co_X4_begins, ini_RX4, im_X4_begins, se_X4_begins, by decide +kernel⟩
set_option maxRecDepth 20000 in
set_option maxHeartbeats 4000000 in
theorem w_X4_begins_131 {ma : Nat → Nat} {th : Int32} {tr : Int64} {ro : Nat → Int32} {be : Nat → Int32} {kq : Int32} {kp : Int32} {di : Nat → Int32} {v2 : Int32} {fu : Nat} {rc124 : (Nat → Int32) → (Nat → Int32) → (Nat → Int32) → Int32 → Option (Int32 × Int32 × (Nat → Int32) × (Nat → Int32) × (Nat → Int32) × (Nat → Int32))} {r : Int32 × Int32 × (Nat → Int32) × (Nat → Int32) × (Nat → Int32) × (Nat → Int32)} (C : Cx p s m args meth c G A RX4 cX4_begins 4 none)  (hrc124 : ∀ (su : Nat → Int32) (pr : Nat → Int32) (ms : Nat → Int32) (v2 : Int32), rc124 su pr ms v2 = some r → Wd p l e rm_X4_begins s m args below meth c G A 4 0 0 (QQ G A (fun o w => o = none ∧ w = (mw G ma th tr r.1 r.2.1 r.2.2.1 r.2.2.2.1 r.2.2.2.2.1 ro be r.2.2.2.2.2)) below args s 0 0) (mw G ma th tr kq kp su pr ms ro be di) [(0, .ref (ma 0)), (2, .int v2)] 124 []) : ∀ (fk : Nat) (su : Nat → Int32) (pr : Nat → Int32) (ms : Nat → Int32) (v3 : Int32), X4_begins_131 fu rc124 kq kp di v2 fk su pr ms v3 = some r → Wd p l e rm_X4_begins s m args below meth c G A 4 0 0 (QQ G A (fun o w => o = none ∧ w = (mw G ma th tr r.1 r.2.1 r.2.2.1 r.2.2.2.1 r.2.2.2.2.1 ro be r.2.2.2.2.2)) below args s 0 0) (mw G ma th tr kq kp su pr ms ro be di) [(0, .ref (ma 0)), (2, .int v2), (3, .int v3)] 131 [] := by
  intro fk
  induction fk with
  | zero =>
    intro su pr ms v3 h
    have h : (none : Option (Int32 × Int32 × (Nat → Int32) × (Nat → Int32) × (Nat → Int32) × (Nat → Int32))) = some r := h
    cases h
  | succ fk ih =>
    intro su pr ms v3 h
    have h : X4_begins_131_b fu rc124 kq kp di v2 (X4_begins_131 fu rc124 kq kp di v2 fk) su pr ms v3 = some r := h
    unfold X4_begins_131_b at h
    refine w_iload_n C 2 rfl dX4_begins_131 ?_
    refine w_bipush (v := 16) C dX4_begins_132 (by decide) ?_
    refine w_icmp_ge (tgt := 155) C dX4_begins_134 (by decide) (fun hb4 => ?_) (fun hb4 => ?_)
    · have h := if_t hb4 h
      refine w_iinc (v := v2 + 1) (k := 1) C rfl rfl (Nat.le_of_ble_eq_true rfl) rfl dX4_begins_155 ?_
      refine w_goto (tgt := 124) C dX4_begins_158 (by decide) ?_
      refine w_lv [1, 0] rfl ?_
      exact hrc124 _ _ _ _ h
    · have h := if_f hb4 h
      refine w_aload_n C 0 rfl dX4_begins_137 ?_
      refine gt_X4_16 C dX4_begins_138 ?_
      refine w_bipush (v := 16) C dX4_begins_141 (by decide) ?_
      refine w_iload_n C 1 rfl dX4_begins_143 ?_
      refine w_imul C dX4_begins_144 ?_
      refine w_iload_n C 2 rfl dX4_begins_145 ?_
      refine w_iadd C dX4_begins_146 ?_
      refine w_iload_n C 2 rfl dX4_begins_147 ?_
      obtain ⟨hi5, h⟩ := ckI_some h
      refine sr_ms C hi5 dX4_begins_148 ?_
      refine w_iinc (v := v3 + 1) (k := 2) C rfl rfl (Nat.le_of_ble_eq_true rfl) rfl dX4_begins_149 ?_
      refine w_goto (tgt := 131) C dX4_begins_152 (by decide) ?_
      refine w_lv [1, 2, 0] rfl ?_
      exact ih _ _ _ _ h
set_option maxRecDepth 20000 in
set_option maxHeartbeats 4000000 in
theorem w_X4_begins_124 {ma : Nat → Nat} {th : Int32} {tr : Int64} {ro : Nat → Int32} {be : Nat → Int32} {kq : Int32} {kp : Int32} {di : Nat → Int32} {fu : Nat}  {r : Int32 × Int32 × (Nat → Int32) × (Nat → Int32) × (Nat → Int32) × (Nat → Int32)} (C : Cx p s m args meth c G A RX4 cX4_begins 4 none)   : ∀ (fk : Nat) (su : Nat → Int32) (pr : Nat → Int32) (ms : Nat → Int32) (v2 : Int32), X4_begins_124 fu  kq kp di fk su pr ms v2 = some r → Wd p l e rm_X4_begins s m args below meth c G A 4 0 0 (QQ G A (fun o w => o = none ∧ w = (mw G ma th tr r.1 r.2.1 r.2.2.1 r.2.2.2.1 r.2.2.2.2.1 ro be r.2.2.2.2.2)) below args s 0 0) (mw G ma th tr kq kp su pr ms ro be di) [(0, .ref (ma 0)), (2, .int v2)] 124 [] := by
  intro fk
  induction fk with
  | zero =>
    intro su pr ms v2 h
    have h : (none : Option (Int32 × Int32 × (Nat → Int32) × (Nat → Int32) × (Nat → Int32) × (Nat → Int32))) = some r := h
    cases h
  | succ fk ih =>
    intro su pr ms v2 h
    have h : X4_begins_124_b fu  kq kp di (X4_begins_124 fu  kq kp di fk) su pr ms v2 = some r := h
    unfold X4_begins_124_b at h
    refine w_iload_n C 1 rfl dX4_begins_124 ?_
    refine w_iconst (v := 4) C dX4_begins_125 (by decide) ?_
    refine w_icmp_ge (tgt := 161) C dX4_begins_126 (by decide) (fun hb3 => ?_) (fun hb3 => ?_)
    · have h := if_t hb3 h
      cases h
      exact w_vret C ⟨rfl, rfl⟩ dX4_begins_161
    · have h := if_f hb3 h
      refine w_iconst (v := 0) C dX4_begins_129 (by decide) ?_
      refine w_istore_n C (Nat.le_of_ble_eq_true rfl) rfl dX4_begins_130 ?_
      refine w_lv [1, 2, 0] rfl ?_
      exact w_X4_begins_131 C   ih _ _ _ _ _ h
set_option maxRecDepth 20000 in
set_option maxHeartbeats 4000000 in
theorem w_X4_begins_68 {ma : Nat → Nat} {th : Int32} {tr : Int64} {ro : Nat → Int32} {be : Nat → Int32} {kq : Int32} {kp : Int32} {v2 : Int32} {fu : Nat} {rc58 : (Nat → Int32) → (Nat → Int32) → (Nat → Int32) → (Nat → Int32) → Int32 → Option (Int32 × Int32 × (Nat → Int32) × (Nat → Int32) × (Nat → Int32) × (Nat → Int32))} {r : Int32 × Int32 × (Nat → Int32) × (Nat → Int32) × (Nat → Int32) × (Nat → Int32)} (C : Cx p s m args meth c G A RX4 cX4_begins 4 none)  (hrc58 : ∀ (su : Nat → Int32) (pr : Nat → Int32) (ms : Nat → Int32) (di : Nat → Int32) (v2 : Int32), rc58 su pr ms di v2 = some r → Wd p l e rm_X4_begins s m args below meth c G A 4 0 0 (QQ G A (fun o w => o = none ∧ w = (mw G ma th tr r.1 r.2.1 r.2.2.1 r.2.2.2.1 r.2.2.2.2.1 ro be r.2.2.2.2.2)) below args s 0 0) (mw G ma th tr kq kp su pr ms ro be di) [(0, .ref (ma 0)), (2, .int v2)] 58 []) : ∀ (fk : Nat) (su : Nat → Int32) (pr : Nat → Int32) (ms : Nat → Int32) (di : Nat → Int32) (v3 : Int32), X4_begins_68 fu rc58 kq kp v2 fk su pr ms di v3 = some r → Wd p l e rm_X4_begins s m args below meth c G A 4 0 0 (QQ G A (fun o w => o = none ∧ w = (mw G ma th tr r.1 r.2.1 r.2.2.1 r.2.2.2.1 r.2.2.2.2.1 ro be r.2.2.2.2.2)) below args s 0 0) (mw G ma th tr kq kp su pr ms ro be di) [(0, .ref (ma 0)), (2, .int v2), (3, .int v3)] 68 [] := by
  intro fk
  induction fk with
  | zero =>
    intro su pr ms di v3 h
    have h : (none : Option (Int32 × Int32 × (Nat → Int32) × (Nat → Int32) × (Nat → Int32) × (Nat → Int32))) = some r := h
    cases h
  | succ fk ih =>
    intro su pr ms di v3 h
    have h : X4_begins_68_b fu rc58 kq kp v2 (X4_begins_68 fu rc58 kq kp v2 fk) su pr ms di v3 = some r := h
    unfold X4_begins_68_b at h
    refine w_iload_n C 2 rfl dX4_begins_68 ?_
    refine w_aload_n C 0 rfl dX4_begins_69 ?_
    refine gt_X4_39 C dX4_begins_70 ?_
    refine w_icmp_ge (tgt := 116) C dX4_begins_73 (by decide) (fun hb6 => ?_) (fun hb6 => ?_)
    · have h := if_t hb6 h
      refine w_iinc (v := v2 + 1) (k := 1) C rfl rfl (Nat.le_of_ble_eq_true rfl) rfl dX4_begins_116 ?_
      refine w_goto (tgt := 58) C dX4_begins_119 (by decide) ?_
      refine w_lv [1, 0] rfl ?_
      exact hrc58 _ _ _ _ _ h
    · have h := if_f hb6 h
      refine w_aload_n C 0 rfl dX4_begins_76 ?_
      refine gt_X4_7 C dX4_begins_77 ?_
      refine w_bipush (v := 16) C dX4_begins_80 (by decide) ?_
      refine w_iload_n C 1 rfl dX4_begins_82 ?_
      refine w_imul C dX4_begins_83 ?_
      refine w_iload_n C 2 rfl dX4_begins_84 ?_
      refine w_iadd C dX4_begins_85 ?_
      refine w_aload_n C 0 rfl dX4_begins_86 ?_
      refine w_iload_n C 1 rfl dX4_begins_87 ?_
      refine w_iload_n C 2 rfl dX4_begins_88 ?_
      obtain ⟨x7, hx7, h⟩ := bd_some h
      refine w_cVi (wr := []) (qc := (RX4, TX4, 10)) C (c_X4_sumOf fu  hx7) pk_X4_sumOf ml_X4_42 (As := [.int v2, .int v3]) (rest := [.int ((16 * v2) + v3), .ref (ma 1)]) (k9 := 0) rfl rfl ⟨⟨rfl, rfl⟩, Nat.le_of_ble_eq_true rfl, Nat.le_of_ble_eq_true rfl⟩ rfl ⟨(Nat.le_of_ble_eq_true rfl), (Nat.le_of_ble_eq_true rfl)⟩ (Nat.le_of_ble_eq_true rfl) rfl rfl (List.nil_append _) dX4_begins_89 ?_
      obtain ⟨hi8, h⟩ := ckI_some h
      refine sr_su C hi8 dX4_begins_92 ?_
      refine w_aload_n C 0 rfl dX4_begins_93 ?_
      refine gt_X4_13 C dX4_begins_94 ?_
      refine w_bipush (v := 16) C dX4_begins_97 (by decide) ?_
      refine w_iload_n C 1 rfl dX4_begins_99 ?_
      refine w_imul C dX4_begins_100 ?_
      refine w_iload_n C 2 rfl dX4_begins_101 ?_
      refine w_iadd C dX4_begins_102 ?_
      refine w_aload_n C 0 rfl dX4_begins_103 ?_
      refine w_iload_n C 1 rfl dX4_begins_104 ?_
      refine w_iload_n C 2 rfl dX4_begins_105 ?_
      obtain ⟨x9, hx9, h⟩ := bd_some h
      refine w_cVi (wr := []) (qc := (RX4, TX4, 10)) C (c_X4_productOf fu  hx9) pk_X4_productOf ml_X4_46 (As := [.int v2, .int v3]) (rest := [.int ((16 * v2) + v3), .ref (ma 2)]) (k9 := 0) rfl rfl ⟨⟨rfl, rfl⟩, Nat.le_of_ble_eq_true rfl, Nat.le_of_ble_eq_true rfl⟩ rfl ⟨(Nat.le_of_ble_eq_true rfl), (Nat.le_of_ble_eq_true rfl)⟩ (Nat.le_of_ble_eq_true rfl) rfl rfl (List.nil_append _) dX4_begins_106 ?_
      obtain ⟨hi10, h⟩ := ckI_some h
      refine sr_pr C hi10 dX4_begins_109 ?_
      refine w_iinc (v := v3 + 1) (k := 2) C rfl rfl (Nat.le_of_ble_eq_true rfl) rfl dX4_begins_110 ?_
      refine w_goto (tgt := 68) C dX4_begins_113 (by decide) ?_
      refine w_lv [1, 2, 0] rfl ?_
      exact ih _ _ _ _ _ h
set_option maxRecDepth 20000 in
set_option maxHeartbeats 4000000 in
theorem w_X4_begins_58 {ma : Nat → Nat} {th : Int32} {tr : Int64} {ro : Nat → Int32} {be : Nat → Int32} {kq : Int32} {kp : Int32} {fu : Nat}  {r : Int32 × Int32 × (Nat → Int32) × (Nat → Int32) × (Nat → Int32) × (Nat → Int32)} (C : Cx p s m args meth c G A RX4 cX4_begins 4 none)   : ∀ (fk : Nat) (su : Nat → Int32) (pr : Nat → Int32) (ms : Nat → Int32) (di : Nat → Int32) (v2 : Int32), X4_begins_58 fu  kq kp fk su pr ms di v2 = some r → Wd p l e rm_X4_begins s m args below meth c G A 4 0 0 (QQ G A (fun o w => o = none ∧ w = (mw G ma th tr r.1 r.2.1 r.2.2.1 r.2.2.2.1 r.2.2.2.2.1 ro be r.2.2.2.2.2)) below args s 0 0) (mw G ma th tr kq kp su pr ms ro be di) [(0, .ref (ma 0)), (2, .int v2)] 58 [] := by
  intro fk
  induction fk with
  | zero =>
    intro su pr ms di v2 h
    have h : (none : Option (Int32 × Int32 × (Nat → Int32) × (Nat → Int32) × (Nat → Int32) × (Nat → Int32))) = some r := h
    cases h
  | succ fk ih =>
    intro su pr ms di v2 h
    have h : X4_begins_58_b fu  kq kp (X4_begins_58 fu  kq kp fk) su pr ms di v2 = some r := h
    unfold X4_begins_58_b at h
    refine w_iload_n C 1 rfl dX4_begins_58 ?_
    refine w_aload_n C 0 rfl dX4_begins_59 ?_
    refine gt_X4_39 C dX4_begins_60 ?_
    refine w_icmp_ge (tgt := 122) C dX4_begins_63 (by decide) (fun hb2 => ?_) (fun hb2 => ?_)
    · have h := if_t hb2 h
      refine w_iconst (v := 0) C dX4_begins_122 (by decide) ?_
      refine w_istore_n C (Nat.le_of_ble_eq_true rfl) rfl dX4_begins_123 ?_
      refine w_lv [1, 0] rfl ?_
      exact w_X4_begins_124 C    _ _ _ _ _ h
    · have h := if_f hb2 h
      refine w_iconst (v := 0) C dX4_begins_66 (by decide) ?_
      refine w_istore_n C (Nat.le_of_ble_eq_true rfl) rfl dX4_begins_67 ?_
      refine w_lv [1, 2, 0] rfl ?_
      exact w_X4_begins_68 C   ih _ _ _ _ _ _ h
set_option maxRecDepth 20000 in
set_option maxHeartbeats 4000000 in
theorem w_X4_begins_53 {ma : Nat → Nat} {th : Int32} {tr : Int64} {ro : Nat → Int32} {be : Nat → Int32} {fu : Nat}  {kq : Int32} {kp : Int32} {su : Nat → Int32} {pr : Nat → Int32} {ms : Nat → Int32} {di : Nat → Int32} {s0 : Int32} {r : Int32 × Int32 × (Nat → Int32) × (Nat → Int32) × (Nat → Int32) × (Nat → Int32)} (C : Cx p s m args meth c G A RX4 cX4_begins 4 none)   (h : X4_begins_53 fu  kq kp su pr ms di s0 = some r) : Wd p l e rm_X4_begins s m args below meth c G A 4 0 0 (QQ G A (fun o w => o = none ∧ w = (mw G ma th tr r.1 r.2.1 r.2.2.1 r.2.2.2.1 r.2.2.2.2.1 ro be r.2.2.2.2.2)) below args s 0 0) (mw G ma th tr kq kp su pr ms ro be di) [(0, .ref (ma 0))] 53 [.int s0, .ref (ma 0)] := by
  unfold X4_begins_53 at h
  refine pt_X4_36 C dX4_begins_53 ?_
  refine w_iconst (v := 0) C dX4_begins_56 (by decide) ?_
  refine w_istore_n C (Nat.le_of_ble_eq_true rfl) rfl dX4_begins_57 ?_
  refine w_lv [1, 0] rfl ?_
  exact w_X4_begins_58 C    _ _ _ _ _ _ h
set_option maxRecDepth 20000 in
set_option maxHeartbeats 4000000 in
theorem w_X4_begins_32 {ma : Nat → Nat} {th : Int32} {tr : Int64} {ro : Nat → Int32} {be : Nat → Int32} {fu : Nat}  {kq : Int32} {kp : Int32} {su : Nat → Int32} {pr : Nat → Int32} {ms : Nat → Int32} {di : Nat → Int32} {r : Int32 × Int32 × (Nat → Int32) × (Nat → Int32) × (Nat → Int32) × (Nat → Int32)} (C : Cx p s m args meth c G A RX4 cX4_begins 4 none)   (h : X4_begins_32 fu  kq kp su pr ms di = some r) : Wd p l e rm_X4_begins s m args below meth c G A 4 0 0 (QQ G A (fun o w => o = none ∧ w = (mw G ma th tr r.1 r.2.1 r.2.2.1 r.2.2.2.1 r.2.2.2.2.1 ro be r.2.2.2.2.2)) below args s 0 0) (mw G ma th tr kq kp su pr ms ro be di) [(0, .ref (ma 0))] 32 [.ref (ma 0)] := by
  unfold X4_begins_32 at h
  refine w_iconst (v := 2) C dX4_begins_32 (by decide) ?_
  refine w_goto (tgt := 53) C dX4_begins_33 (by decide) ?_
  refine w_lv [0] rfl ?_
  exact w_X4_begins_53 C    h
set_option maxRecDepth 20000 in
set_option maxHeartbeats 4000000 in
theorem w_X4_begins {ma : Nat → Nat} {th : Int32} {tr : Int64} {ro : Nat → Int32} {be : Nat → Int32} {fu : Nat}  {kq : Int32} {kp : Int32} {su : Nat → Int32} {pr : Nat → Int32} {ms : Nat → Int32} {di : Nat → Int32} {v1 : Int32} {r : Int32 × Int32 × (Nat → Int32) × (Nat → Int32) × (Nat → Int32) × (Nat → Int32)} (C : Cx p s m args meth c G A RX4 cX4_begins 4 none)   (h : X4_begins fu  kq kp su pr ms di v1 = some r) : Wd p l e rm_X4_begins s m args below meth c G A 4 0 0 (QQ G A (fun o w => o = none ∧ w = (mw G ma th tr r.1 r.2.1 r.2.2.1 r.2.2.2.1 r.2.2.2.2.1 ro be r.2.2.2.2.2)) below args s 0 0) (mw G ma th tr kq kp su pr ms ro be di) [(0, .ref (ma 0)), (1, .int v1)] 0 [] := by
  unfold X4_begins at h
  refine w_aload_n C 0 rfl dX4_begins_0 ?_
  refine w_iload_n C 1 rfl dX4_begins_1 ?_
  refine pt_X4_39 C dX4_begins_2 ?_
  refine w_aload_n C 0 rfl dX4_begins_5 ?_
  refine w_aload_n C 0 rfl dX4_begins_6 ?_
  refine gt_X4_39 C dX4_begins_7 ?_
  refine w_iconst (v := 4) C dX4_begins_10 (by decide) ?_
  refine w_icmp_eq (tgt := 32) C dX4_begins_11 (by decide) (fun hb1 => ?_) (fun hb1 => ?_)
  · have h := if_t hb1 h
    refine w_lv [0] rfl ?_
    exact w_X4_begins_32 C    h
  · have h := if_f hb1 h
    refine w_aload_n C 0 rfl dX4_begins_14 ?_
    refine gt_X4_39 C dX4_begins_15 ?_
    refine w_bipush (v := 8) C dX4_begins_18 (by decide) ?_
    refine w_icmp_eq (tgt := 32) C dX4_begins_20 (by decide) (fun hb11 => ?_) (fun hb11 => ?_)
    · have h := if_t hb11 h
      refine w_lv [0] rfl ?_
      exact w_X4_begins_32 C    h
    · have h := if_f hb11 h
      refine w_aload_n C 0 rfl dX4_begins_23 ?_
      refine gt_X4_39 C dX4_begins_24 ?_
      refine w_bipush (v := 16) C dX4_begins_27 (by decide) ?_
      refine w_icmp_ne (tgt := 36) C dX4_begins_29 (by decide) (fun hb12 => ?_) (fun hb12 => ?_)
      · have h := if_f hb12 h
        refine w_aload_n C 0 rfl dX4_begins_36 ?_
        refine gt_X4_39 C dX4_begins_37 ?_
        refine w_bipush (v := 9) C dX4_begins_40 (by decide) ?_
        refine w_icmp_ne (tgt := 49) C dX4_begins_42 (by decide) (fun hb13 => ?_) (fun hb13 => ?_)
        · have h := if_f hb13 h
          refine w_aload_n C 0 rfl dX4_begins_49 ?_
          refine gt_X4_39 C dX4_begins_50 ?_
          refine w_lv [0] rfl ?_
          exact w_X4_begins_53 C    h
        · have h := if_t hb13 h
          refine w_iconst (v := 3) C dX4_begins_45 (by decide) ?_
          refine w_goto (tgt := 53) C dX4_begins_46 (by decide) ?_
          refine w_lv [0] rfl ?_
          exact w_X4_begins_53 C    h
      · have h := if_t hb12 h
        refine w_lv [0] rfl ?_
        exact w_X4_begins_32 C    h
theorem c_X4_begins {l : Launch} {G : GG} {ma : Nat → Nat} {th : Int32} {tr : Int64} {kq : Int32} {kp : Int32} {su : Nat → Int32} {pr : Nat → Int32} {ms : Nat → Int32} {ro : Nat → Int32} {be : Nat → Int32} {di : Nat → Int32} (fu : Nat) {v1 : Int32} {r : Int32 × Int32 × (Nat → Int32) × (Nat → Int32) × (Nat → Int32) × (Nat → Int32)} (h : X4_begins fu kq kp su pr ms di v1 = some r) : Ct l yX4_begins cX4_begins 4 none G rm_X4_begins [.ref (ma 0), .int v1] (mw G ma th tr kq kp su pr ms ro be di) (fun o w => o = none ∧ w = (mw G ma th tr r.1 r.2.1 r.2.2.1 r.2.2.2.1 r.2.2.2.2.1 ro be r.2.2.2.2.2)) 0 0 := Ct.of (by decide) (Nat.le_of_ble_eq_true rfl) (fun p e s m args below meth c A C _ => w_X4_begins C h)
abbrev rm_X4_add : Room := { frames := 0, cells := 0, slots := 0, locals := 0 }
theorem pk_X4_add : PkV RX4 yX4_add cX4_add 3 ((some .int)) 2 := ⟨rfl, co_X4_add, ini_RX4, im_X4_add, se_X4_add, by decide +kernel⟩
set_option maxRecDepth 20000 in
set_option maxHeartbeats 4000000 in
theorem w_X4_add {ma : Nat → Nat} {th : Int32} {tr : Int64} {kq : Int32} {kp : Int32} {pr : Nat → Int32} {ms : Nat → Int32} {ro : Nat → Int32} {be : Nat → Int32} {di : Nat → Int32} {fu : Nat}  {su : Nat → Int32} {v1 : Int32} {v2 : Int32} {r : Int32} (C : Cx p s m args meth c G A RX4 cX4_add 3 ((some .int)))   (h : X4_add fu  su v1 v2 = some r) : Wd p l e rm_X4_add s m args below meth c G A 3 0 0 (QQ G A (fun o w => o = some (.int r) ∧ w = (mw G ma th tr kq kp su pr ms ro be di)) below args s 0 0) (mw G ma th tr kq kp su pr ms ro be di) [(0, .ref (ma 0)), (1, .int v1), (2, .int v2)] 0 [] := by
  unfold X4_add at h
  refine w_aload_n C 0 rfl dX4_add_0 ?_
  refine gt_X4_7 C dX4_add_1 ?_
  refine w_bipush (v := 16) C dX4_add_4 (by decide) ?_
  refine w_iload_n C 1 rfl dX4_add_6 ?_
  refine w_imul C dX4_add_7 ?_
  refine w_iload_n C 2 rfl dX4_add_8 ?_
  refine w_iadd C dX4_add_9 ?_
  obtain ⟨hi1, h⟩ := ckI_some h
  refine ld_su C hi1 dX4_add_10 ?_
  cases h
  exact w_iret C ⟨rfl, rfl⟩ dX4_add_11
theorem c_X4_add {l : Launch} {G : GG} {ma : Nat → Nat} {th : Int32} {tr : Int64} {kq : Int32} {kp : Int32} {su : Nat → Int32} {pr : Nat → Int32} {ms : Nat → Int32} {ro : Nat → Int32} {be : Nat → Int32} {di : Nat → Int32} (fu : Nat) {v1 : Int32} {v2 : Int32} {r : Int32} (h : X4_add fu su v1 v2 = some r) : Ct l yX4_add cX4_add 3 ((some .int)) G rm_X4_add [.ref (ma 0), .int v1, .int v2] (mw G ma th tr kq kp su pr ms ro be di) (fun o w => o = some (.int r) ∧ w = (mw G ma th tr kq kp su pr ms ro be di)) 0 0 := Ct.of (by decide) (Nat.le_of_ble_eq_true rfl) (fun p e s m args below meth c A C _ => w_X4_add C h)
abbrev rm_X4_by : Room := { frames := 0, cells := 0, slots := 0, locals := 0 }
theorem pk_X4_by : PkV RX4 yX4_by cX4_by 3 ((some .int)) 2 := ⟨rfl, co_X4_by, ini_RX4, im_X4_by, se_X4_by, by decide +kernel⟩
set_option maxRecDepth 20000 in
set_option maxHeartbeats 4000000 in
theorem w_X4_by {ma : Nat → Nat} {th : Int32} {tr : Int64} {kq : Int32} {kp : Int32} {su : Nat → Int32} {ms : Nat → Int32} {ro : Nat → Int32} {be : Nat → Int32} {di : Nat → Int32} {fu : Nat}  {pr : Nat → Int32} {v1 : Int32} {v2 : Int32} {r : Int32} (C : Cx p s m args meth c G A RX4 cX4_by 3 ((some .int)))   (h : X4_by fu  pr v1 v2 = some r) : Wd p l e rm_X4_by s m args below meth c G A 3 0 0 (QQ G A (fun o w => o = some (.int r) ∧ w = (mw G ma th tr kq kp su pr ms ro be di)) below args s 0 0) (mw G ma th tr kq kp su pr ms ro be di) [(0, .ref (ma 0)), (1, .int v1), (2, .int v2)] 0 [] := by
  unfold X4_by at h
  refine w_aload_n C 0 rfl dX4_by_0 ?_
  refine gt_X4_13 C dX4_by_1 ?_
  refine w_bipush (v := 16) C dX4_by_4 (by decide) ?_
  refine w_iload_n C 1 rfl dX4_by_6 ?_
  refine w_imul C dX4_by_7 ?_
  refine w_iload_n C 2 rfl dX4_by_8 ?_
  refine w_iadd C dX4_by_9 ?_
  obtain ⟨hi1, h⟩ := ckI_some h
  refine ld_pr C hi1 dX4_by_10 ?_
  cases h
  exact w_iret C ⟨rfl, rfl⟩ dX4_by_11
theorem c_X4_by {l : Launch} {G : GG} {ma : Nat → Nat} {th : Int32} {tr : Int64} {kq : Int32} {kp : Int32} {su : Nat → Int32} {pr : Nat → Int32} {ms : Nat → Int32} {ro : Nat → Int32} {be : Nat → Int32} {di : Nat → Int32} (fu : Nat) {v1 : Int32} {v2 : Int32} {r : Int32} (h : X4_by fu pr v1 v2 = some r) : Ct l yX4_by cX4_by 3 ((some .int)) G rm_X4_by [.ref (ma 0), .int v1, .int v2] (mw G ma th tr kq kp su pr ms ro be di) (fun o w => o = some (.int r) ∧ w = (mw G ma th tr kq kp su pr ms ro be di)) 0 0 := Ct.of (by decide) (Nat.le_of_ble_eq_true rfl) (fun p e s m args below meth c A C _ => w_X4_by C h)
abbrev rm_X4_minus : Room := { frames := 1, cells := 0, slots := 0, locals := 22 }
theorem pk_X4_minus : PkV RX4 yX4_minus cX4_minus 3 ((some .int)) 1 := ⟨rfl, co_X4_minus, ini_RX4, im_X4_minus, se_X4_minus, by decide +kernel⟩
set_option maxRecDepth 20000 in
set_option maxHeartbeats 4000000 in
theorem w_X4_minus_2 {ma : Nat → Nat} {th : Int32} {tr : Int64} {kq : Int32} {kp : Int32} {pr : Nat → Int32} {ms : Nat → Int32} {ro : Nat → Int32} {be : Nat → Int32} {di : Nat → Int32} {su : Nat → Int32} {v1 : Int32} {fu : Nat}  {r : Int32} (C : Cx p s m args meth c G A RX4 cX4_minus 3 ((some .int)))   : ∀ (fk : Nat) (v2 : Int32), X4_minus_2 fu  su v1 fk v2 = some r → Wd p l e rm_X4_minus s m args below meth c G A 3 0 0 (QQ G A (fun o w => o = some (.int r) ∧ w = (mw G ma th tr kq kp su pr ms ro be di)) below args s 0 0) (mw G ma th tr kq kp su pr ms ro be di) [(0, .ref (ma 0)), (1, .int v1), (2, .int v2)] 2 [] := by
  intro fk
  induction fk with
  | zero =>
    intro v2 h
    have h : (none : Option Int32) = some r := h
    cases h
  | succ fk ih =>
    intro v2 h
    have h : X4_minus_2_b fu  su v1 (X4_minus_2 fu  su v1 fk) v2 = some r := h
    unfold X4_minus_2_b at h
    refine w_aload_n C 0 rfl dX4_minus_2 ?_
    refine w_iload_n C 1 rfl dX4_minus_3 ?_
    refine w_iload_n C 2 rfl dX4_minus_4 ?_
    obtain ⟨x1, hx1, h⟩ := bd_some h
    refine w_cVi (wr := []) (qc := (RX4, TX4, 10)) C (c_X4_add fu  hx1) pk_X4_add ml_X4_49 (As := [.int v1, .int v2]) (rest := []) (k9 := 0) rfl rfl ⟨⟨rfl, rfl⟩, Nat.le_of_ble_eq_true rfl, Nat.le_of_ble_eq_true rfl⟩ rfl ⟨(Nat.le_of_ble_eq_true rfl), (Nat.le_of_ble_eq_true rfl)⟩ (Nat.le_of_ble_eq_true rfl) rfl rfl (List.nil_append _) dX4_minus_5 ?_
    refine w_if_eq (tgt := 17) C dX4_minus_8 (by decide) (fun hb2 => ?_) (fun hb2 => ?_)
    · have h := if_t hb2 h
      refine w_iload_n C 2 rfl dX4_minus_17 ?_
      cases h
      exact w_iret C ⟨rfl, rfl⟩ dX4_minus_18
    · have h := if_f hb2 h
      refine w_iinc (v := v2 + 1) (k := 2) C rfl rfl (Nat.le_of_ble_eq_true rfl) rfl dX4_minus_11 ?_
      refine w_goto (tgt := 2) C dX4_minus_14 (by decide) ?_
      refine w_lv [1, 2, 0] rfl ?_
      exact ih _ h
set_option maxRecDepth 20000 in
set_option maxHeartbeats 4000000 in
theorem w_X4_minus {ma : Nat → Nat} {th : Int32} {tr : Int64} {kq : Int32} {kp : Int32} {pr : Nat → Int32} {ms : Nat → Int32} {ro : Nat → Int32} {be : Nat → Int32} {di : Nat → Int32} {fu : Nat}  {su : Nat → Int32} {v1 : Int32} {r : Int32} (C : Cx p s m args meth c G A RX4 cX4_minus 3 ((some .int)))   (h : X4_minus fu  su v1 = some r) : Wd p l e rm_X4_minus s m args below meth c G A 3 0 0 (QQ G A (fun o w => o = some (.int r) ∧ w = (mw G ma th tr kq kp su pr ms ro be di)) below args s 0 0) (mw G ma th tr kq kp su pr ms ro be di) [(0, .ref (ma 0)), (1, .int v1)] 0 [] := by
  unfold X4_minus at h
  refine w_iconst (v := 0) C dX4_minus_0 (by decide) ?_
  refine w_istore_n C (Nat.le_of_ble_eq_true rfl) rfl dX4_minus_1 ?_
  refine w_lv [1, 2, 0] rfl ?_
  exact w_X4_minus_2 C    _ _ h
theorem c_X4_minus {l : Launch} {G : GG} {ma : Nat → Nat} {th : Int32} {tr : Int64} {kq : Int32} {kp : Int32} {su : Nat → Int32} {pr : Nat → Int32} {ms : Nat → Int32} {ro : Nat → Int32} {be : Nat → Int32} {di : Nat → Int32} (fu : Nat) {v1 : Int32} {r : Int32} (h : X4_minus fu su v1 = some r) : Ct l yX4_minus cX4_minus 3 ((some .int)) G rm_X4_minus [.ref (ma 0), .int v1] (mw G ma th tr kq kp su pr ms ro be di) (fun o w => o = some (.int r) ∧ w = (mw G ma th tr kq kp su pr ms ro be di)) 0 0 := Ct.of (by decide) (Nat.le_of_ble_eq_true rfl) (fun p e s m args below meth c A C _ => w_X4_minus C h)
abbrev rm_X4_isNumber : Room := { frames := 1, cells := 0, slots := 0, locals := 22 }
theorem pk_X4_isNumber : PkV RX4 yX4_isNumber cX4_isNumber 2 ((some .boolean)) 1 := ⟨rfl, co_X4_isNumber, ini_RX4, im_X4_isNumber, se_X4_isNumber, by decide +kernel⟩
set_option maxRecDepth 20000 in
set_option maxHeartbeats 4000000 in
theorem w_X4_isNumber {ma : Nat → Nat} {th : Int32} {tr : Int64} {kp : Int32} {su : Nat → Int32} {pr : Nat → Int32} {ms : Nat → Int32} {ro : Nat → Int32} {be : Nat → Int32} {di : Nat → Int32} {fu : Nat}  {kq : Int32} {v1 : Int32} {r : Int32} (C : Cx p s m args meth c G A RX4 cX4_isNumber 2 ((some .boolean)))   (h : X4_isNumber fu  kq v1 = some r) : Wd p l e rm_X4_isNumber s m args below meth c G A 2 0 0 (QQ G A (fun o w => o = some (.int r) ∧ w = (mw G ma th tr kq kp su pr ms ro be di)) below args s 0 0) (mw G ma th tr kq kp su pr ms ro be di) [(0, .ref (ma 0)), (1, .int v1)] 0 [] := by
  unfold X4_isNumber at h
  refine w_iload_n C 1 rfl dX4_isNumber_0 ?_
  refine w_iconst (v := 0) C dX4_isNumber_1 (by decide) ?_
  refine w_aload_n C 0 rfl dX4_isNumber_2 ?_
  refine gt_X4_39 C dX4_isNumber_3 ?_
  refine w_iconst (v := 1) C dX4_isNumber_6 (by decide) ?_
  refine w_isub C dX4_isNumber_7 ?_
  obtain ⟨x1, hx1, h⟩ := bd_some h
  refine w_cSi C (c_X4_in fu  hx1) pk_X4_in ml_X4_52 (As := [.int v1, .int 0, .int (kq - 1)]) (rest := []) ⟨⟨rfl, rfl⟩, Nat.le_of_ble_eq_true rfl, Nat.le_of_ble_eq_true rfl⟩ rfl ⟨(Nat.le_of_ble_eq_true rfl), (Nat.le_of_ble_eq_true rfl)⟩ (Nat.le_of_ble_eq_true rfl) rfl (List.append_nil _).symm (List.append_nil _) dX4_isNumber_8 ?_
  obtain ⟨hn2, h⟩ := ckB_some h
  cases h
  exact w_zret C (nar_b hn2) ⟨rfl, rfl⟩ dX4_isNumber_11
theorem c_X4_isNumber {l : Launch} {G : GG} {ma : Nat → Nat} {th : Int32} {tr : Int64} {kq : Int32} {kp : Int32} {su : Nat → Int32} {pr : Nat → Int32} {ms : Nat → Int32} {ro : Nat → Int32} {be : Nat → Int32} {di : Nat → Int32} (fu : Nat) {v1 : Int32} {r : Int32} (h : X4_isNumber fu kq v1 = some r) : Ct l yX4_isNumber cX4_isNumber 2 ((some .boolean)) G rm_X4_isNumber [.ref (ma 0), .int v1] (mw G ma th tr kq kp su pr ms ro be di) (fun o w => o = some (.int r) ∧ w = (mw G ma th tr kq kp su pr ms ro be di)) 0 0 := Ct.of (by decide) (Nat.le_of_ble_eq_true rfl) (fun p e s m args below meth c A C _ => w_X4_isNumber C h)
abbrev rm_X4_isMap : Room := { frames := 1, cells := 0, slots := 0, locals := 22 }
theorem pk_X4_isMap : PkS yX4_isMap cX4_isMap 1 ((some .boolean)) 1 := ⟨co_X4_isMap, ini_RX4, st_X4_isMap, by decide +kernel⟩
set_option maxRecDepth 20000 in
set_option maxHeartbeats 4000000 in
theorem w_X4_isMap  {fu : Nat}  {v0 : Int32} {r : Int32} (C : Cx p s m args meth c G A RX4 cX4_isMap 1 ((some .boolean)))   (h : X4_isMap fu  v0 = some r) : Wd p l e rm_X4_isMap s m args below meth c G A 1 0 0 (QQ G A (fun o w => o = some (.int r) ∧ w = []) below args s 0 0) [] [(0, .int v0)] 0 [] := by
  unfold X4_isMap at h
  refine w_iload_n C 0 rfl dX4_isMap_0 ?_
  refine w_iconst (v := 0) C dX4_isMap_1 (by decide) ?_
  refine w_iconst (v := 3) C dX4_isMap_2 (by decide) ?_
  obtain ⟨x1, hx1, h⟩ := bd_some h
  refine w_cSi C (c_X4_in fu  hx1) pk_X4_in ml_X4_52 (As := [.int v0, .int 0, .int 3]) (rest := []) ⟨⟨rfl, rfl⟩, Nat.le_of_ble_eq_true rfl, Nat.le_of_ble_eq_true rfl⟩ rfl ⟨(Nat.le_of_ble_eq_true rfl), (Nat.le_of_ble_eq_true rfl)⟩ (Nat.le_of_ble_eq_true rfl) rfl (List.append_nil _).symm (List.append_nil _) dX4_isMap_3 ?_
  obtain ⟨hn2, h⟩ := ckB_some h
  cases h
  exact w_zret C (nar_b hn2) ⟨rfl, rfl⟩ dX4_isMap_6
theorem c_X4_isMap {l : Launch} {G : GG}  (fu : Nat) {v0 : Int32} {r : Int32} (h : X4_isMap fu  v0 = some r) : Ct l yX4_isMap cX4_isMap 1 ((some .boolean)) G rm_X4_isMap [.int v0] [] (fun o w => o = some (.int r) ∧ w = []) 0 0 := Ct.of (by decide) (Nat.le_of_ble_eq_true rfl) (fun p e s m args below meth c A C _ => w_X4_isMap C h)
abbrev rm_X4_power : Room := { frames := 1, cells := 0, slots := 0, locals := 22 }
theorem pk_X4_power : PkV RX4 yX4_power cX4_power 5 ((some .int)) 2 := ⟨rfl, co_X4_power, ini_RX4, im_X4_power, se_X4_power, by decide +kernel⟩
set_option maxRecDepth 20000 in
set_option maxHeartbeats 4000000 in
theorem w_X4_power_5 {ma : Nat → Nat} {th : Int32} {tr : Int64} {kq : Int32} {kp : Int32} {su : Nat → Int32} {ms : Nat → Int32} {ro : Nat → Int32} {be : Nat → Int32} {di : Nat → Int32} {pr : Nat → Int32} {v1 : Int32} {v2 : Int32} {fu : Nat}  {r : Int32} (C : Cx p s m args meth c G A RX4 cX4_power 5 ((some .int)))   : ∀ (fk : Nat) (v3 : Int32) (v4 : Int32), X4_power_5 fu  pr v1 v2 fk v3 v4 = some r → Wd p l e rm_X4_power s m args below meth c G A 5 0 0 (QQ G A (fun o w => o = some (.int r) ∧ w = (mw G ma th tr kq kp su pr ms ro be di)) below args s 0 0) (mw G ma th tr kq kp su pr ms ro be di) [(0, .ref (ma 0)), (1, .int v1), (2, .int v2), (3, .int v3), (4, .int v4)] 5 [] := by
  intro fk
  induction fk with
  | zero =>
    intro v3 v4 h
    have h : (none : Option Int32) = some r := h
    cases h
  | succ fk ih =>
    intro v3 v4 h
    have h : X4_power_5_b fu  pr v1 v2 (X4_power_5 fu  pr v1 v2 fk) v3 v4 = some r := h
    unfold X4_power_5_b at h
    refine w_iload C 4 rfl dX4_power_5 ?_
    refine w_iload_n C 2 rfl dX4_power_7 ?_
    refine w_icmp_ge (tgt := 24) C dX4_power_8 (by decide) (fun hb1 => ?_) (fun hb1 => ?_)
    · have h := if_t hb1 h
      refine w_iload_n C 3 rfl dX4_power_24 ?_
      cases h
      exact w_iret C ⟨rfl, rfl⟩ dX4_power_25
    · have h := if_f hb1 h
      refine w_aload_n C 0 rfl dX4_power_11 ?_
      refine w_iload_n C 3 rfl dX4_power_12 ?_
      refine w_iload_n C 1 rfl dX4_power_13 ?_
      obtain ⟨x2, hx2, h⟩ := bd_some h
      refine w_cVi (wr := []) (qc := (RX4, TX4, 10)) C (c_X4_by fu  hx2) pk_X4_by ml_X4_56 (As := [.int v3, .int v1]) (rest := []) (k9 := 0) rfl rfl ⟨⟨rfl, rfl⟩, Nat.le_of_ble_eq_true rfl, Nat.le_of_ble_eq_true rfl⟩ rfl ⟨(Nat.le_of_ble_eq_true rfl), (Nat.le_of_ble_eq_true rfl)⟩ (Nat.le_of_ble_eq_true rfl) rfl rfl (List.nil_append _) dX4_power_14 ?_
      refine w_istore_n C (Nat.le_of_ble_eq_true rfl) rfl dX4_power_17 ?_
      refine w_iinc (v := v4 + 1) (k := 4) C rfl rfl (Nat.le_of_ble_eq_true rfl) rfl dX4_power_18 ?_
      refine w_goto (tgt := 5) C dX4_power_21 (by decide) ?_
      refine w_lv [2, 3, 4, 1, 0] rfl ?_
      exact ih _ _ h
set_option maxRecDepth 20000 in
set_option maxHeartbeats 4000000 in
theorem w_X4_power {ma : Nat → Nat} {th : Int32} {tr : Int64} {kq : Int32} {kp : Int32} {su : Nat → Int32} {ms : Nat → Int32} {ro : Nat → Int32} {be : Nat → Int32} {di : Nat → Int32} {fu : Nat}  {pr : Nat → Int32} {v1 : Int32} {v2 : Int32} {r : Int32} (C : Cx p s m args meth c G A RX4 cX4_power 5 ((some .int)))   (h : X4_power fu  pr v1 v2 = some r) : Wd p l e rm_X4_power s m args below meth c G A 5 0 0 (QQ G A (fun o w => o = some (.int r) ∧ w = (mw G ma th tr kq kp su pr ms ro be di)) below args s 0 0) (mw G ma th tr kq kp su pr ms ro be di) [(0, .ref (ma 0)), (1, .int v1), (2, .int v2)] 0 [] := by
  unfold X4_power at h
  refine w_iconst (v := 1) C dX4_power_0 (by decide) ?_
  refine w_istore_n C (Nat.le_of_ble_eq_true rfl) rfl dX4_power_1 ?_
  refine w_iconst (v := 0) C dX4_power_2 (by decide) ?_
  refine w_istore C (Nat.le_of_ble_eq_true rfl) rfl dX4_power_3 ?_
  refine w_lv [2, 3, 4, 1, 0] rfl ?_
  exact w_X4_power_5 C    _ _ _ h
theorem c_X4_power {l : Launch} {G : GG} {ma : Nat → Nat} {th : Int32} {tr : Int64} {kq : Int32} {kp : Int32} {su : Nat → Int32} {pr : Nat → Int32} {ms : Nat → Int32} {ro : Nat → Int32} {be : Nat → Int32} {di : Nat → Int32} (fu : Nat) {v1 : Int32} {v2 : Int32} {r : Int32} (h : X4_power fu pr v1 v2 = some r) : Ct l yX4_power cX4_power 5 ((some .int)) G rm_X4_power [.ref (ma 0), .int v1, .int v2] (mw G ma th tr kq kp su pr ms ro be di) (fun o w => o = some (.int r) ∧ w = (mw G ma th tr kq kp su pr ms ro be di)) 0 0 := Ct.of (by decide) (Nat.le_of_ble_eq_true rfl) (fun p e s m args below meth c A C _ => w_X4_power C h)
abbrev rm_X4_field : Room := { frames := 2, cells := 0, slots := 0, locals := 49 }
theorem pk_X4_field : PkV RX4 yX4_field cX4_field 3 ((some .int)) 1 := ⟨rfl, co_X4_field, ini_RX4, im_X4_field, se_X4_field, by decide +kernel⟩
set_option maxRecDepth 20000 in
set_option maxHeartbeats 4000000 in
theorem w_X4_field_45 {ma : Nat → Nat} {tr : Int64} {ro : Nat → Int32} {be : Nat → Int32} {fu : Nat}  {th : Int32} {kq : Int32} {kp : Int32} {su : Nat → Int32} {pr : Nat → Int32} {ms : Nat → Int32} {di : Nat → Int32} {v1 : Int32} {r : Int32 × Int32 × Int32 × Int32 × (Nat → Int32) × (Nat → Int32) × (Nat → Int32) × (Nat → Int32)} (C : Cx p s m args meth c G A RX4 cX4_field 3 ((some .int)))   (h : X4_field_45 fu  th kq kp su pr ms di v1 = some r) : Wd p l e rm_X4_field s m args below meth c G A 3 0 0 (QQ G A (fun o w => o = some (.int r.1) ∧ w = (mw G ma r.2.1 tr r.2.2.1 r.2.2.2.1 r.2.2.2.2.1 r.2.2.2.2.2.1 r.2.2.2.2.2.2.1 ro be r.2.2.2.2.2.2.2)) below args s 0 0) (mw G ma th tr kq kp su pr ms ro be di) [(0, .ref (ma 0)), (1, .int v1)] 45 [] := by
  unfold X4_field_45 at h
  refine w_aload_n C 0 rfl dX4_field_45 ?_
  refine gt_X4_39 C dX4_field_46 ?_
  refine w_istore_n C (Nat.le_of_ble_eq_true rfl) rfl dX4_field_49 ?_
  refine w_aload_n C 1 rfl dX4_field_50 ?_
  refine w_iload_n C 2 rfl dX4_field_51 ?_
  obtain ⟨x3, hx3, h⟩ := bd_some h
  refine w_cVv (wr := []) (qc := (RX4, TX4, 10)) C (c_X4_begins fu  hx3) pk_X4_begins ml_X4_28 (As := [.int v1]) (rest := []) (k9 := 0) rfl rfl ⟨⟨rfl, rfl⟩, Nat.le_of_ble_eq_true rfl, Nat.le_of_ble_eq_true rfl⟩ rfl ⟨(Nat.le_of_ble_eq_true rfl), (Nat.le_of_ble_eq_true rfl)⟩ (Nat.le_of_ble_eq_true rfl) rfl rfl (List.nil_append _) dX4_field_52 ?_
  refine w_iload_n C 0 rfl dX4_field_55 ?_
  cases h
  exact w_iret C ⟨rfl, rfl⟩ dX4_field_56
set_option maxRecDepth 20000 in
set_option maxHeartbeats 4000000 in
theorem w_X4_field {ma : Nat → Nat} {tr : Int64} {ro : Nat → Int32} {be : Nat → Int32} {fu : Nat}  {th : Int32} {kq : Int32} {kp : Int32} {su : Nat → Int32} {pr : Nat → Int32} {ms : Nat → Int32} {di : Nat → Int32} {v1 : Int32} {r : Int32 × Int32 × Int32 × Int32 × (Nat → Int32) × (Nat → Int32) × (Nat → Int32) × (Nat → Int32)} (C : Cx p s m args meth c G A RX4 cX4_field 3 ((some .int)))   (h : X4_field fu  th kq kp su pr ms di v1 = some r) : Wd p l e rm_X4_field s m args below meth c G A 3 0 0 (QQ G A (fun o w => o = some (.int r.1) ∧ w = (mw G ma r.2.1 tr r.2.2.1 r.2.2.2.1 r.2.2.2.2.1 r.2.2.2.2.2.1 r.2.2.2.2.2.2.1 ro be r.2.2.2.2.2.2.2)) below args s 0 0) (mw G ma th tr kq kp su pr ms ro be di) [(0, .ref (ma 0)), (1, .int v1)] 0 [] := by
  unfold X4_field at h
  refine w_aload_n C 0 rfl dX4_field_0 ?_
  refine w_iconst (v := 0) C dX4_field_1 (by decide) ?_
  refine pt_X4_32 C dX4_field_2 ?_
  refine w_iload_n C 1 rfl dX4_field_5 ?_
  refine w_iconst (v := 2) C dX4_field_6 (by decide) ?_
  refine w_iconst (v := 5) C dX4_field_7 (by decide) ?_
  obtain ⟨x1, hx1, h⟩ := bd_some h
  refine w_cSi C (c_X4_in fu  hx1) pk_X4_in ml_X4_52 (As := [.int v1, .int 2, .int 5]) (rest := []) ⟨⟨rfl, rfl⟩, Nat.le_of_ble_eq_true rfl, Nat.le_of_ble_eq_true rfl⟩ rfl ⟨(Nat.le_of_ble_eq_true rfl), (Nat.le_of_ble_eq_true rfl)⟩ (Nat.le_of_ble_eq_true rfl) rfl (List.append_nil _).symm (List.append_nil _) dX4_field_8 ?_
  refine w_if_ne (tgt := 45) C dX4_field_11 (by decide) (fun hb2 => ?_) (fun hb2 => ?_)
  · have h := if_f hb2 h
    refine w_lv [0, 1] rfl ?_
    exact w_X4_field_45 C    h
  · have h := if_t hb2 h
    refine w_iload_n C 1 rfl dX4_field_14 ?_
    refine w_bipush (v := 7) C dX4_field_15 (by decide) ?_
    refine w_bipush (v := 9) C dX4_field_17 (by decide) ?_
    obtain ⟨x4, hx4, h⟩ := bd_some h
    refine w_cSi C (c_X4_in fu  hx4) pk_X4_in ml_X4_52 (As := [.int v1, .int 7, .int 9]) (rest := []) ⟨⟨rfl, rfl⟩, Nat.le_of_ble_eq_true rfl, Nat.le_of_ble_eq_true rfl⟩ rfl ⟨(Nat.le_of_ble_eq_true rfl), (Nat.le_of_ble_eq_true rfl)⟩ (Nat.le_of_ble_eq_true rfl) rfl (List.append_nil _).symm (List.append_nil _) dX4_field_19 ?_
    refine w_if_ne (tgt := 45) C dX4_field_22 (by decide) (fun hb5 => ?_) (fun hb5 => ?_)
    · have h := if_f hb5 h
      refine w_lv [0, 1] rfl ?_
      exact w_X4_field_45 C    h
    · have h := if_t hb5 h
      refine w_iload_n C 1 rfl dX4_field_25 ?_
      refine w_bipush (v := 11) C dX4_field_26 (by decide) ?_
      refine w_icmp_eq (tgt := 45) C dX4_field_28 (by decide) (fun hb6 => ?_) (fun hb6 => ?_)
      · have h := if_t hb6 h
        refine w_lv [0, 1] rfl ?_
        exact w_X4_field_45 C    h
      · have h := if_f hb6 h
        refine w_iload_n C 1 rfl dX4_field_31 ?_
        refine w_bipush (v := 13) C dX4_field_32 (by decide) ?_
        refine w_icmp_eq (tgt := 45) C dX4_field_34 (by decide) (fun hb7 => ?_) (fun hb7 => ?_)
        · have h := if_t hb7 h
          refine w_lv [0, 1] rfl ?_
          exact w_X4_field_45 C    h
        · have h := if_f hb7 h
          refine w_iload_n C 1 rfl dX4_field_37 ?_
          refine w_bipush (v := 16) C dX4_field_38 (by decide) ?_
          refine w_icmp_eq (tgt := 45) C dX4_field_40 (by decide) (fun hb8 => ?_) (fun hb8 => ?_)
          · have h := if_t hb8 h
            refine w_lv [0, 1] rfl ?_
            exact w_X4_field_45 C    h
          · have h := if_f hb8 h
            refine w_iconst (v := (-1)) C dX4_field_43 (by decide) ?_
            cases h
            exact w_iret C ⟨rfl, rfl⟩ dX4_field_44
theorem c_X4_field {l : Launch} {G : GG} {ma : Nat → Nat} {th : Int32} {tr : Int64} {kq : Int32} {kp : Int32} {su : Nat → Int32} {pr : Nat → Int32} {ms : Nat → Int32} {ro : Nat → Int32} {be : Nat → Int32} {di : Nat → Int32} (fu : Nat) {v1 : Int32} {r : Int32 × Int32 × Int32 × Int32 × (Nat → Int32) × (Nat → Int32) × (Nat → Int32) × (Nat → Int32)} (h : X4_field fu th kq kp su pr ms di v1 = some r) : Ct l yX4_field cX4_field 3 ((some .int)) G rm_X4_field [.ref (ma 0), .int v1] (mw G ma th tr kq kp su pr ms ro be di) (fun o w => o = some (.int r.1) ∧ w = (mw G ma r.2.1 tr r.2.2.1 r.2.2.2.1 r.2.2.2.2.1 r.2.2.2.2.2.1 r.2.2.2.2.2.2.1 ro be r.2.2.2.2.2.2.2)) 0 0 := Ct.of (by decide) (Nat.le_of_ble_eq_true rfl) (fun p e s m args below meth c A C _ => w_X4_field C h)
abbrev rm_X4_plus : Room := { frames := 2, cells := 0, slots := 0, locals := 43 }
theorem pk_X4_plus : PkV RX4 yX4_plus cX4_plus 3 ((some .int)) 2 := ⟨rfl, co_X4_plus, ini_RX4, im_X4_plus, se_X4_plus, by decide +kernel⟩
set_option maxRecDepth 20000 in
set_option maxHeartbeats 4000000 in
theorem w_X4_plus {ma : Nat → Nat} {tr : Int64} {kp : Int32} {pr : Nat → Int32} {ms : Nat → Int32} {ro : Nat → Int32} {be : Nat → Int32} {di : Nat → Int32} {fu : Nat}  {th : Int32} {kq : Int32} {su : Nat → Int32} {v1 : Int32} {v2 : Int32} {r : Int32 × Int32} (C : Cx p s m args meth c G A RX4 cX4_plus 3 ((some .int)))   (h : X4_plus fu  th kq su v1 v2 = some r) : Wd p l e rm_X4_plus s m args below meth c G A 3 0 0 (QQ G A (fun o w => o = some (.int r.1) ∧ w = (mw G ma r.2 tr kq kp su pr ms ro be di)) below args s 0 0) (mw G ma th tr kq kp su pr ms ro be di) [(0, .ref (ma 0)), (1, .int v1), (2, .int v2)] 0 [] := by
  unfold X4_plus at h
  refine w_aload_n C 0 rfl dX4_plus_0 ?_
  refine w_iconst (v := 0) C dX4_plus_1 (by decide) ?_
  refine pt_X4_32 C dX4_plus_2 ?_
  refine w_aload_n C 0 rfl dX4_plus_5 ?_
  refine w_iload_n C 1 rfl dX4_plus_6 ?_
  obtain ⟨x1, hx1, h⟩ := bd_some h
  refine w_cVi (wr := []) (qc := (RX4, TX4, 10)) C (c_X4_isNumber fu  hx1) pk_X4_isNumber ml_X4_59 (As := [.int v1]) (rest := []) (k9 := 0) rfl rfl ⟨⟨rfl, rfl⟩, Nat.le_of_ble_eq_true rfl, Nat.le_of_ble_eq_true rfl⟩ rfl ⟨(Nat.le_of_ble_eq_true rfl), (Nat.le_of_ble_eq_true rfl)⟩ (Nat.le_of_ble_eq_true rfl) rfl rfl (List.nil_append _) dX4_plus_7 ?_
  refine w_if_eq (tgt := 30) C dX4_plus_10 (by decide) (fun hb2 => ?_) (fun hb2 => ?_)
  · have h := if_t hb2 h
    refine w_iconst (v := (-1)) C dX4_plus_30 (by decide) ?_
    cases h
    exact w_iret C ⟨rfl, rfl⟩ dX4_plus_31
  · have h := if_f hb2 h
    refine w_aload_n C 0 rfl dX4_plus_13 ?_
    refine w_iload_n C 2 rfl dX4_plus_14 ?_
    obtain ⟨x3, hx3, h⟩ := bd_some h
    refine w_cVi (wr := []) (qc := (RX4, TX4, 10)) C (c_X4_isNumber fu  hx3) pk_X4_isNumber ml_X4_59 (As := [.int v2]) (rest := []) (k9 := 0) rfl rfl ⟨⟨rfl, rfl⟩, Nat.le_of_ble_eq_true rfl, Nat.le_of_ble_eq_true rfl⟩ rfl ⟨(Nat.le_of_ble_eq_true rfl), (Nat.le_of_ble_eq_true rfl)⟩ (Nat.le_of_ble_eq_true rfl) rfl rfl (List.nil_append _) dX4_plus_15 ?_
    refine w_if_eq (tgt := 30) C dX4_plus_18 (by decide) (fun hb4 => ?_) (fun hb4 => ?_)
    · have h := if_t hb4 h
      refine w_iconst (v := (-1)) C dX4_plus_30 (by decide) ?_
      cases h
      exact w_iret C ⟨rfl, rfl⟩ dX4_plus_31
    · have h := if_f hb4 h
      refine w_aload_n C 0 rfl dX4_plus_21 ?_
      refine w_iload_n C 1 rfl dX4_plus_22 ?_
      refine w_iload_n C 2 rfl dX4_plus_23 ?_
      obtain ⟨x5, hx5, h⟩ := bd_some h
      refine w_cVi (wr := []) (qc := (RX4, TX4, 10)) C (c_X4_add fu  hx5) pk_X4_add ml_X4_49 (As := [.int v1, .int v2]) (rest := []) (k9 := 0) rfl rfl ⟨⟨rfl, rfl⟩, Nat.le_of_ble_eq_true rfl, Nat.le_of_ble_eq_true rfl⟩ rfl ⟨(Nat.le_of_ble_eq_true rfl), (Nat.le_of_ble_eq_true rfl)⟩ (Nat.le_of_ble_eq_true rfl) rfl rfl (List.nil_append _) dX4_plus_24 ?_
      refine w_goto (tgt := 31) C dX4_plus_27 (by decide) ?_
      cases h
      exact w_iret C ⟨rfl, rfl⟩ dX4_plus_31
theorem c_X4_plus {l : Launch} {G : GG} {ma : Nat → Nat} {th : Int32} {tr : Int64} {kq : Int32} {kp : Int32} {su : Nat → Int32} {pr : Nat → Int32} {ms : Nat → Int32} {ro : Nat → Int32} {be : Nat → Int32} {di : Nat → Int32} (fu : Nat) {v1 : Int32} {v2 : Int32} {r : Int32 × Int32} (h : X4_plus fu th kq su v1 v2 = some r) : Ct l yX4_plus cX4_plus 3 ((some .int)) G rm_X4_plus [.ref (ma 0), .int v1, .int v2] (mw G ma th tr kq kp su pr ms ro be di) (fun o w => o = some (.int r.1) ∧ w = (mw G ma r.2 tr kq kp su pr ms ro be di)) 0 0 := Ct.of (by decide) (Nat.le_of_ble_eq_true rfl) (fun p e s m args below meth c A C _ => w_X4_plus C h)
end
