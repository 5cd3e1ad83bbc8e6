section
variable {p : Program} {l : Launch} {e : Env} {s : State} {m : MethodId} {args : Array Value} {below : List Frame} {meth : Method} {c : Code} {G : GG} {A : Nat → Prop}
abbrev rm_X4_difference : Room := { frames := 2, cells := 0, slots := 0, locals := 47 }
theorem pk_X4_difference : PkV RX4 yX4_difference cX4_difference 4 ((some .int)) 3 := ⟨rfl, co_X4_difference, ini_RX4, im_X4_difference, se_X4_difference, by decide +kernel⟩
set_option maxRecDepth 20000 in
set_option maxHeartbeats 4000000 in
theorem w_X4_difference {ma : Nat → Nat} {tr : Int64} {kp : Int32} {pr : Nat → Int32} {ro : Nat → Int32} {be : Nat → Int32} {di : Nat → Int32} {fu : Nat}  {th : Int32} {kq : Int32} {su : Nat → Int32} {ms : Nat → Int32} {v1 : Int32} {v2 : Int32} {v3 : Int32} {r : Int32 × Int32} (C : Cx p s m args meth c G A RX4 cX4_difference 4 ((some .int)))   (h : X4_difference fu  th kq su ms v1 v2 v3 = some r) : Wd p l e rm_X4_difference s m args below meth c G A 4 0 0 (QQ G A (fun o w => o = some (.int r.1) ∧ w = (mw G ma r.2 tr kq kp su pr ms ro be di)) below args s 0 0) (mw G ma th tr kq kp su pr ms ro be di) [(0, .ref (ma 0)), (1, .int v1), (2, .int v2), (3, .int v3)] 0 [] := by
  unfold X4_difference at h
  refine w_aload_n C 0 rfl dX4_difference_0 ?_
  refine w_iconst (v := 0) C dX4_difference_1 (by decide) ?_
  refine pt_X4_32 C dX4_difference_2 ?_
  refine w_iload_n C 1 rfl dX4_difference_5 ?_
  obtain ⟨x1, hx1, h⟩ := bd_some h
  refine w_cSi C (c_X4_isMap fu  hx1) pk_X4_isMap ml_X4_63 (As := [.int v1]) (rest := []) ⟨⟨rfl, rfl⟩, Nat.le_of_ble_eq_true rfl, Nat.le_of_ble_eq_true rfl⟩ rfl ⟨(Nat.le_of_ble_eq_true rfl), (Nat.le_of_ble_eq_true rfl)⟩ (Nat.le_of_ble_eq_true rfl) rfl (List.append_nil _).symm (List.append_nil _) dX4_difference_6 ?_
  refine w_if_eq (tgt := 44) C dX4_difference_9 (by decide) (fun hb2 => ?_) (fun hb2 => ?_)
  · have h := if_t hb2 h
    refine w_iconst (v := (-1)) C dX4_difference_44 (by decide) ?_
    cases h
    exact w_iret C ⟨rfl, rfl⟩ dX4_difference_45
  · have h := if_f hb2 h
    refine w_iload_n C 2 rfl dX4_difference_12 ?_
    refine w_iconst (v := 1) C dX4_difference_13 (by decide) ?_
    refine w_aload_n C 0 rfl dX4_difference_14 ?_
    refine gt_X4_39 C dX4_difference_15 ?_
    refine w_iconst (v := 1) C dX4_difference_18 (by decide) ?_
    refine w_isub C dX4_difference_19 ?_
    obtain ⟨x3, hx3, h⟩ := bd_some h
    refine w_cSi C (c_X4_in fu  hx3) pk_X4_in ml_X4_52 (As := [.int v2, .int 1, .int (kq - 1)]) (rest := []) ⟨⟨rfl, rfl⟩, Nat.le_of_ble_eq_true rfl, Nat.le_of_ble_eq_true rfl⟩ rfl ⟨(Nat.le_of_ble_eq_true rfl), (Nat.le_of_ble_eq_true rfl)⟩ (Nat.le_of_ble_eq_true rfl) rfl (List.append_nil _).symm (List.append_nil _) dX4_difference_20 ?_
    refine w_if_eq (tgt := 44) C dX4_difference_23 (by decide) (fun hb4 => ?_) (fun hb4 => ?_)
    · have h := if_t hb4 h
      refine w_iconst (v := (-1)) C dX4_difference_44 (by decide) ?_
      cases h
      exact w_iret C ⟨rfl, rfl⟩ dX4_difference_45
    · have h := if_f hb4 h
      refine w_aload_n C 0 rfl dX4_difference_26 ?_
      refine w_iload_n C 3 rfl dX4_difference_27 ?_
      obtain ⟨x5, hx5, h⟩ := bd_some h
      refine w_cVi (wr := []) (qc := (RX4, TX4, 10)) C (c_X4_isNumber fu  hx5) pk_X4_isNumber ml_X4_59 (As := [.int v3]) (rest := []) (k9 := 0) rfl rfl ⟨⟨rfl, rfl⟩, Nat.le_of_ble_eq_true rfl, Nat.le_of_ble_eq_true rfl⟩ rfl ⟨(Nat.le_of_ble_eq_true rfl), (Nat.le_of_ble_eq_true rfl)⟩ (Nat.le_of_ble_eq_true rfl) rfl rfl (List.nil_append _) dX4_difference_28 ?_
      refine w_if_eq (tgt := 44) C dX4_difference_31 (by decide) (fun hb6 => ?_) (fun hb6 => ?_)
      · have h := if_t hb6 h
        refine w_iconst (v := (-1)) C dX4_difference_44 (by decide) ?_
        cases h
        exact w_iret C ⟨rfl, rfl⟩ dX4_difference_45
      · have h := if_f hb6 h
        refine w_aload_n C 0 rfl dX4_difference_34 ?_
        refine w_iload_n C 1 rfl dX4_difference_35 ?_
        refine w_iload_n C 2 rfl dX4_difference_36 ?_
        refine w_iload_n C 3 rfl dX4_difference_37 ?_
        obtain ⟨x7, hx7, h⟩ := bd_some h
        refine w_cVi (wr := []) (qc := (RX4, TX4, 10)) C (c_X4_differenceOf fu  hx7) pk_X4_differenceOf ml_X4_105 (As := [.int v1, .int v2, .int v3]) (rest := []) (k9 := 0) rfl rfl ⟨⟨rfl, rfl⟩, Nat.le_of_ble_eq_true rfl, Nat.le_of_ble_eq_true rfl⟩ rfl ⟨(Nat.le_of_ble_eq_true rfl), (Nat.le_of_ble_eq_true rfl)⟩ (Nat.le_of_ble_eq_true rfl) rfl rfl (List.nil_append _) dX4_difference_38 ?_
        refine w_goto (tgt := 45) C dX4_difference_41 (by decide) ?_
        cases h
        exact w_iret C ⟨rfl, rfl⟩ dX4_difference_45
theorem c_X4_difference {l : Launch} {G : GG} {ma : Nat → Nat} {th : Int32} {tr : Int64} {kq : Int32} {kp : Int32} {su : Nat → Int32} {pr : Nat → Int32} {ms : Nat → Int32} {ro : Nat → Int32} {be : Nat → Int32} {di : Nat → Int32} (fu : Nat) {v1 : Int32} {v2 : Int32} {v3 : Int32} {r : Int32 × Int32} (h : X4_difference fu th kq su ms v1 v2 v3 = some r) : Ct l yX4_difference cX4_difference 4 ((some .int)) G rm_X4_difference [.ref (ma 0), .int v1, .int v2, .int v3] (mw G ma th tr kq kp su pr ms ro be di) (fun o w => o = some (.int r.1) ∧ w = (mw G ma r.2 tr kq kp su pr ms ro be di)) 0 0 := Ct.of (by decide) (Nat.le_of_ble_eq_true rfl) (fun p e s m args below meth c A C _ => w_X4_difference C h)
abbrev rm_X4_spreadOf : Room := { frames := 2, cells := 0, slots := 0, locals := 47 }
theorem pk_X4_spreadOf : PkV RX4 yX4_spreadOf cX4_spreadOf 6 ((some .int)) 1 := ⟨rfl, co_X4_spreadOf, ini_RX4, im_X4_spreadOf, se_X4_spreadOf, by decide +kernel⟩
set_option maxRecDepth 20000 in
set_option maxHeartbeats 4000000 in
theorem w_X4_spreadOf_46 {ma : Nat → Nat} {th : Int32} {tr : Int64} {kp : Int32} {pr : Nat → Int32} {ro : Nat → Int32} {be : Nat → Int32} {di : Nat → Int32} {fu : Nat} {rc4 : Int32 → Int32 → Option Int32} {rc15 : Int32 → Int32 → Option Int32} {kq : Int32} {su : Nat → Int32} {ms : Nat → Int32} {s0 : Int32} {v1 : Int32} {v3 : Int32} {v4 : Int32} {r : Int32} (C : Cx p s m args meth c G A RX4 cX4_spreadOf 6 ((some .int)))  (hrc4 : ∀ (v2 : Int32) (v3 : Int32), rc4 v2 v3 = some r → Wd p l e rm_X4_spreadOf s m args below meth c G A 6 0 0 (QQ G A (fun o w => o = some (.int r) ∧ w = (mw G ma th tr kq kp su pr ms ro be di)) below args s 0 0) (mw G ma th tr kq kp su pr ms ro be di) [(0, .ref (ma 0)), (1, .int v1), (2, .int v2), (3, .int v3)] 4 []) (hrc15 : ∀ (v2 : Int32) (v4 : Int32), rc15 v2 v4 = some r → Wd p l e rm_X4_spreadOf s m args below meth c G A 6 0 0 (QQ G A (fun o w => o = some (.int r) ∧ w = (mw G ma th tr kq kp su pr ms ro be di)) below args s 0 0) (mw G ma th tr kq kp su pr ms ro be di) [(0, .ref (ma 0)), (1, .int v1), (2, .int v2), (3, .int v3), (4, .int v4)] 15 []) (h : X4_spreadOf_46 fu rc4 rc15 kq su ms s0 v1 v3 v4 = some r) : Wd p l e rm_X4_spreadOf s m args below meth c G A 6 0 0 (QQ G A (fun o w => o = some (.int r) ∧ w = (mw G ma th tr kq kp su pr ms ro be di)) below args s 0 0) (mw G ma th tr kq kp su pr ms ro be di) [(0, .ref (ma 0)), (1, .int v1), (3, .int v3), (4, .int v4)] 46 [.int s0] := by
  unfold X4_spreadOf_46 at h
  refine w_istore_n C (Nat.le_of_ble_eq_true rfl) rfl dX4_spreadOf_46 ?_
  refine w_iinc (v := v4 + 1) (k := 4) C rfl rfl (Nat.le_of_ble_eq_true rfl) rfl dX4_spreadOf_47 ?_
  refine w_goto (tgt := 15) C dX4_spreadOf_50 (by decide) ?_
  refine w_lv [2, 3, 1, 4, 0] rfl ?_
  exact hrc15 _ _ h
set_option maxRecDepth 20000 in
set_option maxHeartbeats 4000000 in
theorem w_X4_spreadOf_15 {ma : Nat → Nat} {th : Int32} {tr : Int64} {kp : Int32} {pr : Nat → Int32} {ro : Nat → Int32} {be : Nat → Int32} {di : Nat → Int32} {kq : Int32} {su : Nat → Int32} {ms : Nat → Int32} {v1 : Int32} {v3 : Int32} {fu : Nat} {rc4 : Int32 → Int32 → Option Int32} {r : Int32} (C : Cx p s m args meth c G A RX4 cX4_spreadOf 6 ((some .int)))  (hrc4 : ∀ (v2 : Int32) (v3 : Int32), rc4 v2 v3 = some r → Wd p l e rm_X4_spreadOf s m args below meth c G A 6 0 0 (QQ G A (fun o w => o = some (.int r) ∧ w = (mw G ma th tr kq kp su pr ms ro be di)) below args s 0 0) (mw G ma th tr kq kp su pr ms ro be di) [(0, .ref (ma 0)), (1, .int v1), (2, .int v2), (3, .int v3)] 4 []) : ∀ (fk : Nat) (v2 : Int32) (v4 : Int32), X4_spreadOf_15 fu rc4 kq su ms v1 v3 fk v2 v4 = some r → Wd p l e rm_X4_spreadOf s m args below meth c G A 6 0 0 (QQ G A (fun o w => o = some (.int r) ∧ w = (mw G ma th tr kq kp su pr ms ro be di)) below args s 0 0) (mw G ma th tr kq kp su pr ms ro be di) [(0, .ref (ma 0)), (1, .int v1), (2, .int v2), (3, .int v3), (4, .int v4)] 15 [] := by
  intro fk
  induction fk with
  | zero =>
    intro v2 v4 h
    have h : (none : Option Int32) = some r := h
    cases h
  | succ fk ih =>
    intro v2 v4 h
    have h : X4_spreadOf_15_b fu rc4 kq su ms v1 v3 (X4_spreadOf_15 fu rc4 kq su ms v1 v3 fk) v2 v4 = some r := h
    unfold X4_spreadOf_15_b at h
    refine w_iload C 4 rfl dX4_spreadOf_15 ?_
    refine w_aload_n C 0 rfl dX4_spreadOf_17 ?_
    refine gt_X4_39 C dX4_spreadOf_18 ?_
    refine w_icmp_ge (tgt := 53) C dX4_spreadOf_21 (by decide) (fun hb2 => ?_) (fun hb2 => ?_)
    · have h := if_t hb2 h
      refine w_iinc (v := v3 + 1) (k := 3) C rfl rfl (Nat.le_of_ble_eq_true rfl) rfl dX4_spreadOf_53 ?_
      refine w_goto (tgt := 4) C dX4_spreadOf_56 (by decide) ?_
      refine w_lv [1, 2, 3, 0] rfl ?_
      exact hrc4 _ _ h
    · have h := if_f hb2 h
      refine w_aload_n C 0 rfl dX4_spreadOf_24 ?_
      refine w_iload_n C 1 rfl dX4_spreadOf_25 ?_
      refine w_iload_n C 3 rfl dX4_spreadOf_26 ?_
      refine w_iload C 4 rfl dX4_spreadOf_27 ?_
      obtain ⟨x3, hx3, h⟩ := bd_some h
      refine w_cVi (wr := []) (qc := (RX4, TX4, 10)) C (c_X4_differenceOf fu  hx3) pk_X4_differenceOf ml_X4_105 (As := [.int v1, .int v3, .int v4]) (rest := []) (k9 := 0) rfl rfl ⟨⟨rfl, rfl⟩, Nat.le_of_ble_eq_true rfl, Nat.le_of_ble_eq_true rfl⟩ rfl ⟨(Nat.le_of_ble_eq_true rfl), (Nat.le_of_ble_eq_true rfl)⟩ (Nat.le_of_ble_eq_true rfl) rfl rfl (List.nil_append _) dX4_spreadOf_29 ?_
      refine w_istore C (Nat.le_of_ble_eq_true rfl) rfl dX4_spreadOf_32 ?_
      refine w_iload C 0 rfl dX4_spreadOf_34 ?_
      refine w_iload_n C 3 rfl dX4_spreadOf_36 ?_
      refine w_icmp_le (tgt := 45) C dX4_spreadOf_37 (by decide) (fun hb4 => ?_) (fun hb4 => ?_)
      · have h := if_t hb4 h
        refine w_iload_n C 3 rfl dX4_spreadOf_45 ?_
        refine w_lv [1, 2, 4, 5] rfl ?_
        exact w_X4_spreadOf_46 C   hrc4 ih h
      · have h := if_f hb4 h
        refine w_iload C 0 rfl dX4_spreadOf_40 ?_
        refine w_goto (tgt := 46) C dX4_spreadOf_42 (by decide) ?_
        refine w_lv [1, 2, 4, 5] rfl ?_
        exact w_X4_spreadOf_46 C   hrc4 ih h
set_option maxRecDepth 20000 in
set_option maxHeartbeats 4000000 in
theorem w_X4_spreadOf_4 {ma : Nat → Nat} {th : Int32} {tr : Int64} {kp : Int32} {pr : Nat → Int32} {ro : Nat → Int32} {be : Nat → Int32} {di : Nat → Int32} {kq : Int32} {su : Nat → Int32} {ms : Nat → Int32} {v1 : Int32} {fu : Nat}  {r : Int32} (C : Cx p s m args meth c G A RX4 cX4_spreadOf 6 ((some .int)))   : ∀ (fk : Nat) (v2 : Int32) (v3 : Int32), X4_spreadOf_4 fu  kq su ms v1 fk v2 v3 = some r → Wd p l e rm_X4_spreadOf s m args below meth c G A 6 0 0 (QQ G A (fun o w => o = some (.int r) ∧ w = (mw G ma th tr kq kp su pr ms ro be di)) below args s 0 0) (mw G ma th tr kq kp su pr ms ro be di) [(0, .ref (ma 0)), (1, .int v1), (2, .int v2), (3, .int v3)] 4 [] := by
  intro fk
  induction fk with
  | zero =>
    intro v2 v3 h
    have h : (none : Option Int32) = some r := h
    cases h
  | succ fk ih =>
    intro v2 v3 h
    have h : X4_spreadOf_4_b fu  kq su ms v1 (X4_spreadOf_4 fu  kq su ms v1 fk) v2 v3 = some r := h
    unfold X4_spreadOf_4_b at h
    refine w_iload_n C 3 rfl dX4_spreadOf_4 ?_
    refine w_aload_n C 0 rfl dX4_spreadOf_5 ?_
    refine gt_X4_39 C dX4_spreadOf_6 ?_
    refine w_icmp_ge (tgt := 59) C dX4_spreadOf_9 (by decide) (fun hb1 => ?_) (fun hb1 => ?_)
    · have h := if_t hb1 h
      refine w_iload_n C 2 rfl dX4_spreadOf_59 ?_
      cases h
      exact w_iret C ⟨rfl, rfl⟩ dX4_spreadOf_60
    · have h := if_f hb1 h
      refine w_iconst (v := 0) C dX4_spreadOf_12 (by decide) ?_
      refine w_istore C (Nat.le_of_ble_eq_true rfl) rfl dX4_spreadOf_13 ?_
      refine w_lv [1, 2, 3, 4, 0] rfl ?_
      exact w_X4_spreadOf_15 C   ih _ _ _ h
set_option maxRecDepth 20000 in
set_option maxHeartbeats 4000000 in
theorem w_X4_spreadOf {ma : Nat → Nat} {th : Int32} {tr : Int64} {kp : Int32} {pr : Nat → Int32} {ro : Nat → Int32} {be : Nat → Int32} {di : Nat → Int32} {fu : Nat}  {kq : Int32} {su : Nat → Int32} {ms : Nat → Int32} {v1 : Int32} {r : Int32} (C : Cx p s m args meth c G A RX4 cX4_spreadOf 6 ((some .int)))   (h : X4_spreadOf fu  kq su ms v1 = some r) : Wd p l e rm_X4_spreadOf s m args below meth c G A 6 0 0 (QQ G A (fun o w => o = some (.int r) ∧ w = (mw G ma th tr kq kp su pr ms ro be di)) below args s 0 0) (mw G ma th tr kq kp su pr ms ro be di) [(0, .ref (ma 0)), (1, .int v1)] 0 [] := by
  unfold X4_spreadOf at h
  refine w_iconst (v := 0) C dX4_spreadOf_0 (by decide) ?_
  refine w_istore_n C (Nat.le_of_ble_eq_true rfl) rfl dX4_spreadOf_1 ?_
  refine w_iconst (v := 1) C dX4_spreadOf_2 (by decide) ?_
  refine w_istore_n C (Nat.le_of_ble_eq_true rfl) rfl dX4_spreadOf_3 ?_
  refine w_lv [2, 3, 1, 0] rfl ?_
  exact w_X4_spreadOf_4 C    _ _ _ h
theorem c_X4_spreadOf {l : Launch} {G : GG} {ma : Nat → Nat} {th : Int32} {tr : Int64} {kq : Int32} {kp : Int32} {su : Nat → Int32} {pr : Nat → Int32} {ms : Nat → Int32} {ro : Nat → Int32} {be : Nat → Int32} {di : Nat → Int32} (fu : Nat) {v1 : Int32} {r : Int32} (h : X4_spreadOf fu kq su ms v1 = some r) : Ct l yX4_spreadOf cX4_spreadOf 6 ((some .int)) G rm_X4_spreadOf [.ref (ma 0), .int v1] (mw G ma th tr kq kp su pr ms ro be di) (fun o w => o = some (.int r) ∧ w = (mw G ma th tr kq kp su pr ms ro be di)) 0 0 := Ct.of (by decide) (Nat.le_of_ble_eq_true rfl) (fun p e s m args below meth c A C _ => w_X4_spreadOf C h)
abbrev rm_X4_spread : Room := { frames := 3, cells := 0, slots := 0, locals := 72 }
theorem pk_X4_spread : PkV RX4 yX4_spread cX4_spread 2 ((some .int)) 1 := ⟨rfl, co_X4_spread, ini_RX4, im_X4_spread, se_X4_spread, by decide +kernel⟩
set_option maxRecDepth 20000 in
set_option maxHeartbeats 4000000 in
theorem w_X4_spread {ma : Nat → Nat} {tr : Int64} {kp : Int32} {pr : Nat → Int32} {ro : Nat → Int32} {be : Nat → Int32} {di : Nat → Int32} {fu : Nat}  {th : Int32} {kq : Int32} {su : Nat → Int32} {ms : Nat → Int32} {v1 : Int32} {r : Int32 × Int32} (C : Cx p s m args meth c G A RX4 cX4_spread 2 ((some .int)))   (h : X4_spread fu  th kq su ms v1 = some r) : Wd p l e rm_X4_spread s m args below meth c G A 2 0 0 (QQ G A (fun o w => o = some (.int r.1) ∧ w = (mw G ma r.2 tr kq kp su pr ms ro be di)) below args s 0 0) (mw G ma th tr kq kp su pr ms ro be di) [(0, .ref (ma 0)), (1, .int v1)] 0 [] := by
  unfold X4_spread at h
  refine w_aload_n C 0 rfl dX4_spread_0 ?_
  refine w_iconst (v := 0) C dX4_spread_1 (by decide) ?_
  refine pt_X4_32 C dX4_spread_2 ?_
  refine w_iload_n C 1 rfl dX4_spread_5 ?_
  obtain ⟨x1, hx1, h⟩ := bd_some h
  refine w_cSi C (c_X4_isMap fu  hx1) pk_X4_isMap ml_X4_63 (As := [.int v1]) (rest := []) ⟨⟨rfl, rfl⟩, Nat.le_of_ble_eq_true rfl, Nat.le_of_ble_eq_true rfl⟩ rfl ⟨(Nat.le_of_ble_eq_true rfl), (Nat.le_of_ble_eq_true rfl)⟩ (Nat.le_of_ble_eq_true rfl) rfl (List.append_nil _).symm (List.append_nil _) dX4_spread_6 ?_
  refine w_if_eq (tgt := 20) C dX4_spread_9 (by decide) (fun hb2 => ?_) (fun hb2 => ?_)
  · have h := if_t hb2 h
    refine w_iconst (v := (-1)) C dX4_spread_20 (by decide) ?_
    cases h
    exact w_iret C ⟨rfl, rfl⟩ dX4_spread_21
  · have h := if_f hb2 h
    refine w_aload_n C 0 rfl dX4_spread_12 ?_
    refine w_iload_n C 1 rfl dX4_spread_13 ?_
    obtain ⟨x3, hx3, h⟩ := bd_some h
    refine w_cVi (wr := []) (qc := (RX4, TX4, 10)) C (c_X4_spreadOf fu  hx3) pk_X4_spreadOf ml_X4_109 (As := [.int v1]) (rest := []) (k9 := 0) rfl rfl ⟨⟨rfl, rfl⟩, Nat.le_of_ble_eq_true rfl, Nat.le_of_ble_eq_true rfl⟩ rfl ⟨(Nat.le_of_ble_eq_true rfl), (Nat.le_of_ble_eq_true rfl)⟩ (Nat.le_of_ble_eq_true rfl) rfl rfl (List.nil_append _) dX4_spread_14 ?_
    refine w_goto (tgt := 21) C dX4_spread_17 (by decide) ?_
    cases h
    exact w_iret C ⟨rfl, rfl⟩ dX4_spread_21
theorem c_X4_spread {l : Launch} {G : GG} {ma : Nat → Nat} {th : Int32} {tr : Int64} {kq : Int32} {kp : Int32} {su : Nat → Int32} {pr : Nat → Int32} {ms : Nat → Int32} {ro : Nat → Int32} {be : Nat → Int32} {di : Nat → Int32} (fu : Nat) {v1 : Int32} {r : Int32 × Int32} (h : X4_spread fu th kq su ms v1 = some r) : Ct l yX4_spread cX4_spread 2 ((some .int)) G rm_X4_spread [.ref (ma 0), .int v1] (mw G ma th tr kq kp su pr ms ro be di) (fun o w => o = some (.int r.1) ∧ w = (mw G ma r.2 tr kq kp su pr ms ro be di)) 0 0 := Ct.of (by decide) (Nat.le_of_ble_eq_true rfl) (fun p e s m args below meth c A C _ => w_X4_spread C h)
abbrev rm_X4_planar : Room := { frames := 3, cells := 0, slots := 0, locals := 72 }
theorem pk_X4_planar : PkV RX4 yX4_planar cX4_planar 2 ((some .int)) 1 := ⟨rfl, co_X4_planar, ini_RX4, im_X4_planar, se_X4_planar, by decide +kernel⟩
set_option maxRecDepth 20000 in
set_option maxHeartbeats 4000000 in
theorem w_X4_planar {ma : Nat → Nat} {tr : Int64} {kp : Int32} {pr : Nat → Int32} {ro : Nat → Int32} {be : Nat → Int32} {di : Nat → Int32} {fu : Nat}  {th : Int32} {kq : Int32} {su : Nat → Int32} {ms : Nat → Int32} {v1 : Int32} {r : Int32 × Int32} (C : Cx p s m args meth c G A RX4 cX4_planar 2 ((some .int)))   (h : X4_planar fu  th kq su ms v1 = some r) : Wd p l e rm_X4_planar s m args below meth c G A 2 0 0 (QQ G A (fun o w => o = some (.int r.1) ∧ w = (mw G ma r.2 tr kq kp su pr ms ro be di)) below args s 0 0) (mw G ma th tr kq kp su pr ms ro be di) [(0, .ref (ma 0)), (1, .int v1)] 0 [] := by
  unfold X4_planar at h
  refine w_aload_n C 0 rfl dX4_planar_0 ?_
  refine w_iconst (v := 0) C dX4_planar_1 (by decide) ?_
  refine pt_X4_32 C dX4_planar_2 ?_
  refine w_iload_n C 1 rfl dX4_planar_5 ?_
  obtain ⟨x1, hx1, h⟩ := bd_some h
  refine w_cSi C (c_X4_isMap fu  hx1) pk_X4_isMap ml_X4_63 (As := [.int v1]) (rest := []) ⟨⟨rfl, rfl⟩, Nat.le_of_ble_eq_true rfl, Nat.le_of_ble_eq_true rfl⟩ rfl ⟨(Nat.le_of_ble_eq_true rfl), (Nat.le_of_ble_eq_true rfl)⟩ (Nat.le_of_ble_eq_true rfl) rfl (List.append_nil _).symm (List.append_nil _) dX4_planar_6 ?_
  refine w_if_ne (tgt := 16) C dX4_planar_9 (by decide) (fun hb2 => ?_) (fun hb2 => ?_)
  · have h := if_f hb2 h
    refine w_aload_n C 0 rfl dX4_planar_16 ?_
    refine w_iload_n C 1 rfl dX4_planar_17 ?_
    obtain ⟨x3, hx3, h⟩ := bd_some h
    refine w_cVi (wr := []) (qc := (RX4, TX4, 10)) C (c_X4_spreadOf fu  hx3) pk_X4_spreadOf ml_X4_109 (As := [.int v1]) (rest := []) (k9 := 0) rfl rfl ⟨⟨rfl, rfl⟩, Nat.le_of_ble_eq_true rfl, Nat.le_of_ble_eq_true rfl⟩ rfl ⟨(Nat.le_of_ble_eq_true rfl), (Nat.le_of_ble_eq_true rfl)⟩ (Nat.le_of_ble_eq_true rfl) rfl rfl (List.nil_append _) dX4_planar_18 ?_
    refine w_iconst (v := 1) C dX4_planar_21 (by decide) ?_
    refine w_icmp_ne (tgt := 29) C dX4_planar_22 (by decide) (fun hb4 => ?_) (fun hb4 => ?_)
    · have h := if_f hb4 h
      refine w_iconst (v := 0) C dX4_planar_29 (by decide) ?_
      cases h
      exact w_iret C ⟨rfl, rfl⟩ dX4_planar_30
    · have h := if_t hb4 h
      refine w_iconst (v := 1) C dX4_planar_25 (by decide) ?_
      refine w_goto (tgt := 30) C dX4_planar_26 (by decide) ?_
      cases h
      exact w_iret C ⟨rfl, rfl⟩ dX4_planar_30
  · have h := if_t hb2 h
    refine w_iconst (v := (-1)) C dX4_planar_12 (by decide) ?_
    refine w_goto (tgt := 30) C dX4_planar_13 (by decide) ?_
    cases h
    exact w_iret C ⟨rfl, rfl⟩ dX4_planar_30
theorem c_X4_planar {l : Launch} {G : GG} {ma : Nat → Nat} {th : Int32} {tr : Int64} {kq : Int32} {kp : Int32} {su : Nat → Int32} {pr : Nat → Int32} {ms : Nat → Int32} {ro : Nat → Int32} {be : Nat → Int32} {di : Nat → Int32} (fu : Nat) {v1 : Int32} {r : Int32 × Int32} (h : X4_planar fu th kq su ms v1 = some r) : Ct l yX4_planar cX4_planar 2 ((some .int)) G rm_X4_planar [.ref (ma 0), .int v1] (mw G ma th tr kq kp su pr ms ro be di) (fun o w => o = some (.int r.1) ∧ w = (mw G ma r.2 tr kq kp su pr ms ro be di)) 0 0 := Ct.of (by decide) (Nat.le_of_ble_eq_true rfl) (fun p e s m args below meth c A C _ => w_X4_planar C h)
abbrev rm_X4_isTwos : Room := { frames := 0, cells := 0, slots := 0, locals := 0 }
theorem pk_X4_isTwos : PkV RX4 yX4_isTwos cX4_isTwos 1 ((some .boolean)) 0 := ⟨rfl, co_X4_isTwos, ini_RX4, im_X4_isTwos, se_X4_isTwos, by decide +kernel⟩
set_option maxRecDepth 20000 in
set_option maxHeartbeats 4000000 in
theorem w_X4_isTwos {ma : Nat → Nat} {th : Int32} {tr : Int64} {kq : Int32} {su : Nat → Int32} {pr : Nat → Int32} {ms : Nat → Int32} {ro : Nat → Int32} {be : Nat → Int32} {di : Nat → Int32} {fu : Nat}  {kp : Int32} {r : Int32} (C : Cx p s m args meth c G A RX4 cX4_isTwos 1 ((some .boolean)))   (h : X4_isTwos fu  kp = some r) : Wd p l e rm_X4_isTwos s m args below meth c G A 1 0 0 (QQ G A (fun o w => o = some (.int r) ∧ w = (mw G ma th tr kq kp su pr ms ro be di)) below args s 0 0) (mw G ma th tr kq kp su pr ms ro be di) [(0, .ref (ma 0))] 0 [] := by
  unfold X4_isTwos at h
  refine w_aload_n C 0 rfl dX4_isTwos_0 ?_
  refine gt_X4_36 C dX4_isTwos_1 ?_
  refine w_iconst (v := 2) C dX4_isTwos_4 (by decide) ?_
  refine w_icmp_ne (tgt := 12) C dX4_isTwos_5 (by decide) (fun hb1 => ?_) (fun hb1 => ?_)
  · have h := if_f hb1 h
    refine w_iconst (v := 0) C dX4_isTwos_12 (by decide) ?_
    cases h
    exact w_zret C rfl ⟨rfl, rfl⟩ dX4_isTwos_13
  · have h := if_t hb1 h
    refine w_iconst (v := 1) C dX4_isTwos_8 (by decide) ?_
    refine w_goto (tgt := 13) C dX4_isTwos_9 (by decide) ?_
    cases h
    exact w_zret C rfl ⟨rfl, rfl⟩ dX4_isTwos_13
theorem c_X4_isTwos {l : Launch} {G : GG} {ma : Nat → Nat} {th : Int32} {tr : Int64} {kq : Int32} {kp : Int32} {su : Nat → Int32} {pr : Nat → Int32} {ms : Nat → Int32} {ro : Nat → Int32} {be : Nat → Int32} {di : Nat → Int32} (fu : Nat)  {r : Int32} (h : X4_isTwos fu kp  = some r) : Ct l yX4_isTwos cX4_isTwos 1 ((some .boolean)) G rm_X4_isTwos [.ref (ma 0)] (mw G ma th tr kq kp su pr ms ro be di) (fun o w => o = some (.int r) ∧ w = (mw G ma th tr kq kp su pr ms ro be di)) 0 0 := Ct.of (by decide) (Nat.le_of_ble_eq_true rfl) (fun p e s m args below meth c A C _ => w_X4_isTwos C h)
abbrev rm_X4_odd : Room := { frames := 0, cells := 0, slots := 0, locals := 0 }
theorem pk_X4_odd : PkS yX4_odd cX4_odd 1 ((some .int)) 1 := ⟨co_X4_odd, ini_RX4, st_X4_odd, by decide +kernel⟩
set_option maxRecDepth 20000 in
set_option maxHeartbeats 4000000 in
theorem w_X4_odd  {fu : Nat}  {v0 : Int32} {r : Int32} (C : Cx p s m args meth c G A RX4 cX4_odd 1 ((some .int)))   (h : X4_odd fu  v0 = some r) : Wd p l e rm_X4_odd s m args below meth c G A 1 0 0 (QQ G A (fun o w => o = some (.int r) ∧ w = []) below args s 0 0) [] [(0, .int v0)] 0 [] := by
  unfold X4_odd at h
  refine w_iload_n C 0 rfl dX4_odd_0 ?_
  refine w_iload_n C 0 rfl dX4_odd_1 ?_
  refine w_iconst (v := 1) C dX4_odd_2 (by decide) ?_
  refine w_ishr C dX4_odd_3 ?_
  refine w_ixor C dX4_odd_4 ?_
  refine w_iload_n C 0 rfl dX4_odd_5 ?_
  refine w_iconst (v := 2) C dX4_odd_6 (by decide) ?_
  refine w_ishr C dX4_odd_7 ?_
  refine w_ixor C dX4_odd_8 ?_
  refine w_iload_n C 0 rfl dX4_odd_9 ?_
  refine w_iconst (v := 3) C dX4_odd_10 (by decide) ?_
  refine w_ishr C dX4_odd_11 ?_
  refine w_ixor C dX4_odd_12 ?_
  refine w_iconst (v := 1) C dX4_odd_13 (by decide) ?_
  refine w_iand C dX4_odd_14 ?_
  cases h
  exact w_iret C ⟨rfl, rfl⟩ dX4_odd_15
theorem c_X4_odd {l : Launch} {G : GG}  (fu : Nat) {v0 : Int32} {r : Int32} (h : X4_odd fu  v0 = some r) : Ct l yX4_odd cX4_odd 1 ((some .int)) G rm_X4_odd [.int v0] [] (fun o w => o = some (.int r) ∧ w = []) 0 0 := Ct.of (by decide) (Nat.le_of_ble_eq_true rfl) (fun p e s m args below meth c A C _ => w_X4_odd C h)
abbrev rm_X4_walkOf : Room := { frames := 1, cells := 0, slots := 0, locals := 20 }
theorem pk_X4_walkOf : PkV RX4 yX4_walkOf cX4_walkOf 6 ((some .int)) 3 := ⟨rfl, co_X4_walkOf, ini_RX4, im_X4_walkOf, se_X4_walkOf, by decide +kernel⟩
set_option maxRecDepth 20000 in
set_option maxHeartbeats 4000000 in
theorem w_X4_walkOf_49 {ma : Nat → Nat} {th : Int32} {tr : Int64} {kp : Int32} {su : Nat → Int32} {pr : Nat → Int32} {ro : Nat → Int32} {be : Nat → Int32} {di : Nat → Int32} {fu : Nat} {rc6 : Int32 → Int32 → Option Int32} {kq : Int32} {ms : Nat → Int32} {s0 : Int32} {s1 : Int32} {v1 : Int32} {v2 : Int32} {v3 : Int32} {v5 : Int32} {r : Int32} (C : Cx p s m args meth c G A RX4 cX4_walkOf 6 ((some .int)))  (hrc6 : ∀ (v4 : Int32) (v5 : Int32), rc6 v4 v5 = some r → Wd p l e rm_X4_walkOf s m args below meth c G A 6 0 0 (QQ G A (fun o w => o = some (.int r) ∧ w = (mw G ma th tr kq kp su pr ms ro be di)) below args s 0 0) (mw G ma th tr kq kp su pr ms ro be di) [(0, .ref (ma 0)), (1, .int v1), (2, .int v2), (3, .int v3), (4, .int v4), (5, .int v5)] 6 []) (h : X4_walkOf_49 fu rc6 kq ms s0 s1 v1 v2 v3 v5 = some r) : Wd p l e rm_X4_walkOf s m args below meth c G A 6 0 0 (QQ G A (fun o w => o = some (.int r) ∧ w = (mw G ma th tr kq kp su pr ms ro be di)) below args s 0 0) (mw G ma th tr kq kp su pr ms ro be di) [(0, .ref (ma 0)), (1, .int v1), (2, .int v2), (3, .int v3), (5, .int v5)] 49 [.int s0, .int s1] := by
  unfold X4_walkOf_49 at h
  refine w_iadd C dX4_walkOf_49 ?_
  refine w_istore C (Nat.le_of_ble_eq_true rfl) rfl dX4_walkOf_50 ?_
  refine w_iinc (v := v5 + 1) (k := 5) C rfl rfl (Nat.le_of_ble_eq_true rfl) rfl dX4_walkOf_52 ?_
  refine w_goto (tgt := 6) C dX4_walkOf_55 (by decide) ?_
  refine w_lv [2, 3, 4, 5, 1, 0] rfl ?_
  exact hrc6 _ _ h
set_option maxRecDepth 20000 in
set_option maxHeartbeats 4000000 in
theorem w_X4_walkOf_6 {ma : Nat → Nat} {th : Int32} {tr : Int64} {kp : Int32} {su : Nat → Int32} {pr : Nat → Int32} {ro : Nat → Int32} {be : Nat → Int32} {di : Nat → Int32} {kq : Int32} {ms : Nat → Int32} {v1 : Int32} {v2 : Int32} {v3 : Int32} {fu : Nat}  {r : Int32} (C : Cx p s m args meth c G A RX4 cX4_walkOf 6 ((some .int)))   : ∀ (fk : Nat) (v4 : Int32) (v5 : Int32), X4_walkOf_6 fu  kq ms v1 v2 v3 fk v4 v5 = some r → Wd p l e rm_X4_walkOf s m args below meth c G A 6 0 0 (QQ G A (fun o w => o = some (.int r) ∧ w = (mw G ma th tr kq kp su pr ms ro be di)) below args s 0 0) (mw G ma th tr kq kp su pr ms ro be di) [(0, .ref (ma 0)), (1, .int v1), (2, .int v2), (3, .int v3), (4, .int v4), (5, .int v5)] 6 [] := by
  intro fk
  induction fk with
  | zero =>
    intro v4 v5 h
    have h : (none : Option Int32) = some r := h
    cases h
  | succ fk ih =>
    intro v4 v5 h
    have h : X4_walkOf_6_b fu  kq ms v1 v2 v3 (X4_walkOf_6 fu  kq ms v1 v2 v3 fk) v4 v5 = some r := h
    unfold X4_walkOf_6_b at h
    refine w_iload C 5 rfl dX4_walkOf_6 ?_
    refine w_aload_n C 0 rfl dX4_walkOf_8 ?_
    refine gt_X4_39 C dX4_walkOf_9 ?_
    refine w_icmp_ge (tgt := 58) C dX4_walkOf_12 (by decide) (fun hb1 => ?_) (fun hb1 => ?_)
    · have h := if_t hb1 h
      refine w_iload C 4 rfl dX4_walkOf_58 ?_
      cases h
      exact w_iret C ⟨rfl, rfl⟩ dX4_walkOf_60
    · have h := if_f hb1 h
      refine w_iload C 4 rfl dX4_walkOf_15 ?_
      refine w_iload_n C 2 rfl dX4_walkOf_17 ?_
      refine w_iload C 5 rfl dX4_walkOf_18 ?_
      refine w_iand C dX4_walkOf_20 ?_
      obtain ⟨x2, hx2, h⟩ := bd_some h
      refine w_cSi C (c_X4_odd fu  hx2) pk_X4_odd ml_X4_112 (As := [.int (v2 &&& v5)]) (rest := [.int v4]) ⟨⟨rfl, rfl⟩, Nat.le_of_ble_eq_true rfl, Nat.le_of_ble_eq_true rfl⟩ rfl ⟨(Nat.le_of_ble_eq_true rfl), (Nat.le_of_ble_eq_true rfl)⟩ (Nat.le_of_ble_eq_true rfl) rfl (List.append_nil _).symm (List.append_nil _) dX4_walkOf_21 ?_
      refine w_iload_n C 3 rfl dX4_walkOf_24 ?_
      refine w_aload_n C 0 rfl dX4_walkOf_25 ?_
      refine gt_X4_16 C dX4_walkOf_26 ?_
      refine w_bipush (v := 16) C dX4_walkOf_29 (by decide) ?_
      refine w_iload_n C 1 rfl dX4_walkOf_31 ?_
      refine w_imul C dX4_walkOf_32 ?_
      refine w_iload C 5 rfl dX4_walkOf_33 ?_
      refine w_iadd C dX4_walkOf_35 ?_
      obtain ⟨hi3, h⟩ := ckI_some h
      refine ld_ms C hi3 dX4_walkOf_36 ?_
      refine w_iand C dX4_walkOf_37 ?_
      obtain ⟨x4, hx4, h⟩ := bd_some h
      refine w_cSi C (c_X4_odd fu  hx4) pk_X4_odd ml_X4_112 (As := [.int (v3 &&& (ms ((16 * v1) + v5).toNatClampNeg))]) (rest := [.int x2, .int v4]) ⟨⟨rfl, rfl⟩, Nat.le_of_ble_eq_true rfl, Nat.le_of_ble_eq_true rfl⟩ rfl ⟨(Nat.le_of_ble_eq_true rfl), (Nat.le_of_ble_eq_true rfl)⟩ (Nat.le_of_ble_eq_true rfl) rfl (List.append_nil _).symm (List.append_nil _) dX4_walkOf_38 ?_
      refine w_icmp_ne (tgt := 48) C dX4_walkOf_41 (by decide) (fun hb5 => ?_) (fun hb5 => ?_)
      · have h := if_f hb5 h
        refine w_iconst (v := (-1)) C dX4_walkOf_48 (by decide) ?_
        refine w_lv [0, 1, 2, 3, 5] rfl ?_
        exact w_X4_walkOf_49 C   ih h
      · have h := if_t hb5 h
        refine w_iconst (v := 1) C dX4_walkOf_44 (by decide) ?_
        refine w_goto (tgt := 49) C dX4_walkOf_45 (by decide) ?_
        refine w_lv [0, 1, 2, 3, 5] rfl ?_
        exact w_X4_walkOf_49 C   ih h
set_option maxRecDepth 20000 in
set_option maxHeartbeats 4000000 in
theorem w_X4_walkOf {ma : Nat → Nat} {th : Int32} {tr : Int64} {kp : Int32} {su : Nat → Int32} {pr : Nat → Int32} {ro : Nat → Int32} {be : Nat → Int32} {di : Nat → Int32} {fu : Nat}  {kq : Int32} {ms : Nat → Int32} {v1 : Int32} {v2 : Int32} {v3 : Int32} {r : Int32} (C : Cx p s m args meth c G A RX4 cX4_walkOf 6 ((some .int)))   (h : X4_walkOf fu  kq ms v1 v2 v3 = some r) : Wd p l e rm_X4_walkOf s m args below meth c G A 6 0 0 (QQ G A (fun o w => o = some (.int r) ∧ w = (mw G ma th tr kq kp su pr ms ro be di)) below args s 0 0) (mw G ma th tr kq kp su pr ms ro be di) [(0, .ref (ma 0)), (1, .int v1), (2, .int v2), (3, .int v3)] 0 [] := by
  unfold X4_walkOf at h
  refine w_iconst (v := 0) C dX4_walkOf_0 (by decide) ?_
  refine w_istore C (Nat.le_of_ble_eq_true rfl) rfl dX4_walkOf_1 ?_
  refine w_iconst (v := 0) C dX4_walkOf_3 (by decide) ?_
  refine w_istore C (Nat.le_of_ble_eq_true rfl) rfl dX4_walkOf_4 ?_
  refine w_lv [2, 3, 4, 5, 1, 0] rfl ?_
  exact w_X4_walkOf_6 C    _ _ _ h
theorem c_X4_walkOf {l : Launch} {G : GG} {ma : Nat → Nat} {th : Int32} {tr : Int64} {kq : Int32} {kp : Int32} {su : Nat → Int32} {pr : Nat → Int32} {ms : Nat → Int32} {ro : Nat → Int32} {be : Nat → Int32} {di : Nat → Int32} (fu : Nat) {v1 : Int32} {v2 : Int32} {v3 : Int32} {r : Int32} (h : X4_walkOf fu kq ms v1 v2 v3 = some r) : Ct l yX4_walkOf cX4_walkOf 6 ((some .int)) G rm_X4_walkOf [.ref (ma 0), .int v1, .int v2, .int v3] (mw G ma th tr kq kp su pr ms ro be di) (fun o w => o = some (.int r) ∧ w = (mw G ma th tr kq kp su pr ms ro be di)) 0 0 := Ct.of (by decide) (Nat.le_of_ble_eq_true rfl) (fun p e s m args below meth c A C _ => w_X4_walkOf C h)
abbrev rm_X4_walk : Room := { frames := 2, cells := 0, slots := 0, locals := 45 }
theorem pk_X4_walk : PkV RX4 yX4_walk cX4_walk 4 ((some .int)) 3 := ⟨rfl, co_X4_walk, ini_RX4, im_X4_walk, se_X4_walk, by decide +kernel⟩
set_option maxRecDepth 20000 in
set_option maxHeartbeats 4000000 in
theorem w_X4_walk {ma : Nat → Nat} {tr : Int64} {su : Nat → Int32} {pr : Nat → Int32} {ro : Nat → Int32} {be : Nat → Int32} {di : Nat → Int32} {fu : Nat}  {th : Int32} {kq : Int32} {kp : Int32} {ms : Nat → Int32} {v1 : Int32} {v2 : Int32} {v3 : Int32} {r : Int32 × Int32} (C : Cx p s m args meth c G A RX4 cX4_walk 4 ((some .int)))   (h : X4_walk fu  th kq kp ms v1 v2 v3 = some r) : Wd p l e rm_X4_walk s m args below meth c G A 4 0 0 (QQ G A (fun o w => o = some (.int r.1) ∧ w = (mw G ma r.2 tr kq kp su pr ms ro be di)) below args s 0 0) (mw G ma th tr kq kp su pr ms ro be di) [(0, .ref (ma 0)), (1, .int v1), (2, .int v2), (3, .int v3)] 0 [] := by
  unfold X4_walk at h
  refine w_aload_n C 0 rfl dX4_walk_0 ?_
  refine w_iconst (v := 0) C dX4_walk_1 (by decide) ?_
  refine pt_X4_32 C dX4_walk_2 ?_
  refine w_iload_n C 1 rfl dX4_walk_5 ?_
  obtain ⟨x1, hx1, h⟩ := bd_some h
  refine w_cSi C (c_X4_isMap fu  hx1) pk_X4_isMap ml_X4_63 (As := [.int v1]) (rest := []) ⟨⟨rfl, rfl⟩, Nat.le_of_ble_eq_true rfl, Nat.le_of_ble_eq_true rfl⟩ rfl ⟨(Nat.le_of_ble_eq_true rfl), (Nat.le_of_ble_eq_true rfl)⟩ (Nat.le_of_ble_eq_true rfl) rfl (List.append_nil _).symm (List.append_nil _) dX4_walk_6 ?_
  refine w_if_eq (tgt := 45) C dX4_walk_9 (by decide) (fun hb2 => ?_) (fun hb2 => ?_)
  · have h := if_t hb2 h
    refine w_ldc C cs_X4_122 dX4_walk_45 ?_
    cases h
    exact w_iret C ⟨rfl, rfl⟩ dX4_walk_47
  · have h := if_f hb2 h
    refine w_aload_n C 0 rfl dX4_walk_12 ?_
    refine w_iload_n C 2 rfl dX4_walk_13 ?_
    obtain ⟨x3, hx3, h⟩ := bd_some h
    refine w_cVi (wr := []) (qc := (RX4, TX4, 10)) C (c_X4_isNumber fu  hx3) pk_X4_isNumber ml_X4_59 (As := [.int v2]) (rest := []) (k9 := 0) rfl rfl ⟨⟨rfl, rfl⟩, Nat.le_of_ble_eq_true rfl, Nat.le_of_ble_eq_true rfl⟩ rfl ⟨(Nat.le_of_ble_eq_true rfl), (Nat.le_of_ble_eq_true rfl)⟩ (Nat.le_of_ble_eq_true rfl) rfl rfl (List.nil_append _) dX4_walk_14 ?_
    refine w_if_eq (tgt := 45) C dX4_walk_17 (by decide) (fun hb4 => ?_) (fun hb4 => ?_)
    · have h := if_t hb4 h
      refine w_ldc C cs_X4_122 dX4_walk_45 ?_
      cases h
      exact w_iret C ⟨rfl, rfl⟩ dX4_walk_47
    · have h := if_f hb4 h
      refine w_aload_n C 0 rfl dX4_walk_20 ?_
      refine w_iload_n C 3 rfl dX4_walk_21 ?_
      obtain ⟨x5, hx5, h⟩ := bd_some h
      refine w_cVi (wr := []) (qc := (RX4, TX4, 10)) C (c_X4_isNumber fu  hx5) pk_X4_isNumber ml_X4_59 (As := [.int v3]) (rest := []) (k9 := 0) rfl rfl ⟨⟨rfl, rfl⟩, Nat.le_of_ble_eq_true rfl, Nat.le_of_ble_eq_true rfl⟩ rfl ⟨(Nat.le_of_ble_eq_true rfl), (Nat.le_of_ble_eq_true rfl)⟩ (Nat.le_of_ble_eq_true rfl) rfl rfl (List.nil_append _) dX4_walk_22 ?_
      refine w_if_eq (tgt := 45) C dX4_walk_25 (by decide) (fun hb6 => ?_) (fun hb6 => ?_)
      · have h := if_t hb6 h
        refine w_ldc C cs_X4_122 dX4_walk_45 ?_
        cases h
        exact w_iret C ⟨rfl, rfl⟩ dX4_walk_47
      · have h := if_f hb6 h
        refine w_aload_n C 0 rfl dX4_walk_28 ?_
        obtain ⟨x7, hx7, h⟩ := bd_some h
        refine w_cVi (wr := []) (qc := (RX4, TX4, 10)) C (c_X4_isTwos fu  hx7) pk_X4_isTwos ml_X4_115 (As := []) (rest := []) (k9 := 0) rfl rfl ⟨⟨rfl, rfl⟩, Nat.le_of_ble_eq_true rfl, Nat.le_of_ble_eq_true rfl⟩ rfl ⟨(Nat.le_of_ble_eq_true rfl), (Nat.le_of_ble_eq_true rfl)⟩ (Nat.le_of_ble_eq_true rfl) rfl rfl (List.nil_append _) dX4_walk_29 ?_
        refine w_if_eq (tgt := 45) C dX4_walk_32 (by decide) (fun hb8 => ?_) (fun hb8 => ?_)
        · have h := if_t hb8 h
          refine w_ldc C cs_X4_122 dX4_walk_45 ?_
          cases h
          exact w_iret C ⟨rfl, rfl⟩ dX4_walk_47
        · have h := if_f hb8 h
          refine w_aload_n C 0 rfl dX4_walk_35 ?_
          refine w_iload_n C 1 rfl dX4_walk_36 ?_
          refine w_iload_n C 2 rfl dX4_walk_37 ?_
          refine w_iload_n C 3 rfl dX4_walk_38 ?_
          obtain ⟨x9, hx9, h⟩ := bd_some h
          refine w_cVi (wr := []) (qc := (RX4, TX4, 10)) C (c_X4_walkOf fu  hx9) pk_X4_walkOf ml_X4_119 (As := [.int v1, .int v2, .int v3]) (rest := []) (k9 := 0) rfl rfl ⟨⟨rfl, rfl⟩, Nat.le_of_ble_eq_true rfl, Nat.le_of_ble_eq_true rfl⟩ rfl ⟨(Nat.le_of_ble_eq_true rfl), (Nat.le_of_ble_eq_true rfl)⟩ (Nat.le_of_ble_eq_true rfl) rfl rfl (List.nil_append _) dX4_walk_39 ?_
          refine w_goto (tgt := 47) C dX4_walk_42 (by decide) ?_
          cases h
          exact w_iret C ⟨rfl, rfl⟩ dX4_walk_47
theorem c_X4_walk {l : Launch} {G : GG} {ma : Nat → Nat} {th : Int32} {tr : Int64} {kq : Int32} {kp : Int32} {su : Nat → Int32} {pr : Nat → Int32} {ms : Nat → Int32} {ro : Nat → Int32} {be : Nat → Int32} {di : Nat → Int32} (fu : Nat) {v1 : Int32} {v2 : Int32} {v3 : Int32} {r : Int32 × Int32} (h : X4_walk fu th kq kp ms v1 v2 v3 = some r) : Ct l yX4_walk cX4_walk 4 ((some .int)) G rm_X4_walk [.ref (ma 0), .int v1, .int v2, .int v3] (mw G ma th tr kq kp su pr ms ro be di) (fun o w => o = some (.int r.1) ∧ w = (mw G ma r.2 tr kq kp su pr ms ro be di)) 0 0 := Ct.of (by decide) (Nat.le_of_ble_eq_true rfl) (fun p e s m args below meth c A C _ => w_X4_walk C h)
abbrev rm_X4_linear : Room := { frames := 2, cells := 0, slots := 0, locals := 45 }
theorem pk_X4_linear : PkV RX4 yX4_linear cX4_linear 6 ((some .int)) 1 := ⟨rfl, co_X4_linear, ini_RX4, im_X4_linear, se_X4_linear, by decide +kernel⟩
set_option maxRecDepth 20000 in
set_option maxHeartbeats 4000000 in
theorem w_X4_linear_85 {ma : Nat → Nat} {tr : Int64} {su : Nat → Int32} {pr : Nat → Int32} {ro : Nat → Int32} {be : Nat → Int32} {di : Nat → Int32} {fu : Nat} {rc28 : Int32 → Int32 → Option (Int32 × Int32)} {rc39 : Int32 → Int32 → Option (Int32 × Int32)} {th : Int32} {kq : Int32} {kp : Int32} {ms : Nat → Int32} {s0 : Int32} {v1 : Int32} {v3 : Int32} {v4 : Int32} {r : Int32 × Int32} (C : Cx p s m args meth c G A RX4 cX4_linear 6 ((some .int)))  (hrc28 : ∀ (v2 : Int32) (v3 : Int32), rc28 v2 v3 = some r → Wd p l e rm_X4_linear s m args below meth c G A 6 0 0 (QQ G A (fun o w => o = some (.int r.1) ∧ w = (mw G ma r.2 tr kq kp su pr ms ro be di)) below args s 0 0) (mw G ma th tr kq kp su pr ms ro be di) [(0, .ref (ma 0)), (1, .int v1), (2, .int v2), (3, .int v3)] 28 []) (hrc39 : ∀ (v2 : Int32) (v4 : Int32), rc39 v2 v4 = some r → Wd p l e rm_X4_linear s m args below meth c G A 6 0 0 (QQ G A (fun o w => o = some (.int r.1) ∧ w = (mw G ma r.2 tr kq kp su pr ms ro be di)) below args s 0 0) (mw G ma th tr kq kp su pr ms ro be di) [(0, .ref (ma 0)), (1, .int v1), (2, .int v2), (3, .int v3), (4, .int v4)] 39 []) (h : X4_linear_85 fu rc28 rc39 th kq kp ms s0 v1 v3 v4 = some r) : Wd p l e rm_X4_linear s m args below meth c G A 6 0 0 (QQ G A (fun o w => o = some (.int r.1) ∧ w = (mw G ma r.2 tr kq kp su pr ms ro be di)) below args s 0 0) (mw G ma th tr kq kp su pr ms ro be di) [(0, .ref (ma 0)), (1, .int v1), (3, .int v3), (4, .int v4)] 85 [.int s0] := by
  unfold X4_linear_85 at h
  refine w_istore_n C (Nat.le_of_ble_eq_true rfl) rfl dX4_linear_85 ?_
  refine w_iinc (v := v4 + 1) (k := 4) C rfl rfl (Nat.le_of_ble_eq_true rfl) rfl dX4_linear_86 ?_
  refine w_goto (tgt := 39) C dX4_linear_89 (by decide) ?_
  refine w_lv [2, 3, 1, 4, 0] rfl ?_
  exact hrc39 _ _ h
set_option maxRecDepth 20000 in
set_option maxHeartbeats 4000000 in
theorem w_X4_linear_71 {ma : Nat → Nat} {tr : Int64} {su : Nat → Int32} {pr : Nat → Int32} {ro : Nat → Int32} {be : Nat → Int32} {di : Nat → Int32} {fu : Nat} {rc28 : Int32 → Int32 → Option (Int32 × Int32)} {rc39 : Int32 → Int32 → Option (Int32 × Int32)} {th : Int32} {kq : Int32} {kp : Int32} {ms : Nat → Int32} {s0 : Int32} {v1 : Int32} {v2 : Int32} {v3 : Int32} {v4 : Int32} {r : Int32 × Int32} (C : Cx p s m args meth c G A RX4 cX4_linear 6 ((some .int)))  (hrc28 : ∀ (v2 : Int32) (v3 : Int32), rc28 v2 v3 = some r → Wd p l e rm_X4_linear s m args below meth c G A 6 0 0 (QQ G A (fun o w => o = some (.int r.1) ∧ w = (mw G ma r.2 tr kq kp su pr ms ro be di)) below args s 0 0) (mw G ma th tr kq kp su pr ms ro be di) [(0, .ref (ma 0)), (1, .int v1), (2, .int v2), (3, .int v3)] 28 []) (hrc39 : ∀ (v2 : Int32) (v4 : Int32), rc39 v2 v4 = some r → Wd p l e rm_X4_linear s m args below meth c G A 6 0 0 (QQ G A (fun o w => o = some (.int r.1) ∧ w = (mw G ma r.2 tr kq kp su pr ms ro be di)) below args s 0 0) (mw G ma th tr kq kp su pr ms ro be di) [(0, .ref (ma 0)), (1, .int v1), (2, .int v2), (3, .int v3), (4, .int v4)] 39 []) (h : X4_linear_71 fu rc28 rc39 th kq kp ms s0 v1 v2 v3 v4 = some r) : Wd p l e rm_X4_linear s m args below meth c G A 6 0 0 (QQ G A (fun o w => o = some (.int r.1) ∧ w = (mw G ma r.2 tr kq kp su pr ms ro be di)) below args s 0 0) (mw G ma th tr kq kp su pr ms ro be di) [(0, .ref (ma 0)), (1, .int v1), (2, .int v2), (3, .int v3), (4, .int v4)] 71 [.int s0] := by
  unfold X4_linear_71 at h
  refine w_istore C (Nat.le_of_ble_eq_true rfl) rfl dX4_linear_71 ?_
  refine w_iload C 0 rfl dX4_linear_73 ?_
  refine w_iload_n C 3 rfl dX4_linear_75 ?_
  refine w_icmp_le (tgt := 84) C dX4_linear_76 (by decide) (fun hb9 => ?_) (fun hb9 => ?_)
  · have h := if_t hb9 h
    refine w_iload_n C 3 rfl dX4_linear_84 ?_
    refine w_lv [1, 2, 4, 5] rfl ?_
    exact w_X4_linear_85 C   hrc28 hrc39 h
  · have h := if_f hb9 h
    refine w_iload C 0 rfl dX4_linear_79 ?_
    refine w_goto (tgt := 85) C dX4_linear_81 (by decide) ?_
    refine w_lv [1, 2, 4, 5] rfl ?_
    exact w_X4_linear_85 C   hrc28 hrc39 h
set_option maxRecDepth 20000 in
set_option maxHeartbeats 4000000 in
theorem w_X4_linear_39 {ma : Nat → Nat} {tr : Int64} {su : Nat → Int32} {pr : Nat → Int32} {ro : Nat → Int32} {be : Nat → Int32} {di : Nat → Int32} {th : Int32} {kq : Int32} {kp : Int32} {ms : Nat → Int32} {v1 : Int32} {v3 : Int32} {fu : Nat} {rc28 : Int32 → Int32 → Option (Int32 × Int32)} {r : Int32 × Int32} (C : Cx p s m args meth c G A RX4 cX4_linear 6 ((some .int)))  (hrc28 : ∀ (v2 : Int32) (v3 : Int32), rc28 v2 v3 = some r → Wd p l e rm_X4_linear s m args below meth c G A 6 0 0 (QQ G A (fun o w => o = some (.int r.1) ∧ w = (mw G ma r.2 tr kq kp su pr ms ro be di)) below args s 0 0) (mw G ma th tr kq kp su pr ms ro be di) [(0, .ref (ma 0)), (1, .int v1), (2, .int v2), (3, .int v3)] 28 []) : ∀ (fk : Nat) (v2 : Int32) (v4 : Int32), X4_linear_39 fu rc28 th kq kp ms v1 v3 fk v2 v4 = some r → Wd p l e rm_X4_linear s m args below meth c G A 6 0 0 (QQ G A (fun o w => o = some (.int r.1) ∧ w = (mw G ma r.2 tr kq kp su pr ms ro be di)) below args s 0 0) (mw G ma th tr kq kp su pr ms ro be di) [(0, .ref (ma 0)), (1, .int v1), (2, .int v2), (3, .int v3), (4, .int v4)] 39 [] := by
  intro fk
  induction fk with
  | zero =>
    intro v2 v4 h
    have h : (none : Option (Int32 × Int32)) = some r := h
    cases h
  | succ fk ih =>
    intro v2 v4 h
    have h : X4_linear_39_b fu rc28 th kq kp ms v1 v3 (X4_linear_39 fu rc28 th kq kp ms v1 v3 fk) v2 v4 = some r := h
    unfold X4_linear_39_b at h
    refine w_iload C 4 rfl dX4_linear_39 ?_
    refine w_aload_n C 0 rfl dX4_linear_41 ?_
    refine gt_X4_39 C dX4_linear_42 ?_
    refine w_icmp_ge (tgt := 92) C dX4_linear_45 (by decide) (fun hb6 => ?_) (fun hb6 => ?_)
    · have h := if_t hb6 h
      refine w_iinc (v := v3 + 1) (k := 3) C rfl rfl (Nat.le_of_ble_eq_true rfl) rfl dX4_linear_92 ?_
      refine w_goto (tgt := 28) C dX4_linear_95 (by decide) ?_
      refine w_lv [1, 2, 3, 0] rfl ?_
      exact hrc28 _ _ h
    · have h := if_f hb6 h
      refine w_aload_n C 0 rfl dX4_linear_48 ?_
      refine w_iload_n C 1 rfl dX4_linear_49 ?_
      refine w_iload_n C 3 rfl dX4_linear_50 ?_
      refine w_iload C 4 rfl dX4_linear_51 ?_
      obtain ⟨x7, hx7, h⟩ := bd_some h
      refine w_cVi (wr := []) (qc := (RX4, TX4, 10)) C (c_X4_walkOf fu  hx7) pk_X4_walkOf ml_X4_119 (As := [.int v1, .int v3, .int v4]) (rest := []) (k9 := 0) rfl rfl ⟨⟨rfl, rfl⟩, Nat.le_of_ble_eq_true rfl, Nat.le_of_ble_eq_true rfl⟩ rfl ⟨(Nat.le_of_ble_eq_true rfl), (Nat.le_of_ble_eq_true rfl)⟩ (Nat.le_of_ble_eq_true rfl) rfl rfl (List.nil_append _) dX4_linear_53 ?_
      refine w_istore C (Nat.le_of_ble_eq_true rfl) rfl dX4_linear_56 ?_
      refine w_iload C 0 rfl dX4_linear_58 ?_
      refine w_if_ge (tgt := 69) C dX4_linear_60 (by decide) (fun hb8 => ?_) (fun hb8 => ?_)
      · have h := if_t hb8 h
        refine w_iload C 0 rfl dX4_linear_69 ?_
        refine w_lv [1, 2, 3, 4, 5] rfl ?_
        exact w_X4_linear_71 C   hrc28 ih h
      · have h := if_f hb8 h
        refine w_iload C 0 rfl dX4_linear_63 ?_
        refine w_ineg C dX4_linear_65 ?_
        refine w_goto (tgt := 71) C dX4_linear_66 (by decide) ?_
        refine w_lv [1, 2, 3, 4, 5] rfl ?_
        exact w_X4_linear_71 C   hrc28 ih h
set_option maxRecDepth 20000 in
set_option maxHeartbeats 4000000 in
theorem w_X4_linear_28 {ma : Nat → Nat} {tr : Int64} {su : Nat → Int32} {pr : Nat → Int32} {ro : Nat → Int32} {be : Nat → Int32} {di : Nat → Int32} {th : Int32} {kq : Int32} {kp : Int32} {ms : Nat → Int32} {v1 : Int32} {fu : Nat}  {r : Int32 × Int32} (C : Cx p s m args meth c G A RX4 cX4_linear 6 ((some .int)))   : ∀ (fk : Nat) (v2 : Int32) (v3 : Int32), X4_linear_28 fu  th kq kp ms v1 fk v2 v3 = some r → Wd p l e rm_X4_linear s m args below meth c G A 6 0 0 (QQ G A (fun o w => o = some (.int r.1) ∧ w = (mw G ma r.2 tr kq kp su pr ms ro be di)) below args s 0 0) (mw G ma th tr kq kp su pr ms ro be di) [(0, .ref (ma 0)), (1, .int v1), (2, .int v2), (3, .int v3)] 28 [] := by
  intro fk
  induction fk with
  | zero =>
    intro v2 v3 h
    have h : (none : Option (Int32 × Int32)) = some r := h
    cases h
  | succ fk ih =>
    intro v2 v3 h
    have h : X4_linear_28_b fu  th kq kp ms v1 (X4_linear_28 fu  th kq kp ms v1 fk) v2 v3 = some r := h
    unfold X4_linear_28_b at h
    refine w_iload_n C 3 rfl dX4_linear_28 ?_
    refine w_aload_n C 0 rfl dX4_linear_29 ?_
    refine gt_X4_39 C dX4_linear_30 ?_
    refine w_icmp_ge (tgt := 98) C dX4_linear_33 (by decide) (fun hb5 => ?_) (fun hb5 => ?_)
    · have h := if_t hb5 h
      refine w_iload_n C 2 rfl dX4_linear_98 ?_
      cases h
      exact w_iret C ⟨rfl, rfl⟩ dX4_linear_99
    · have h := if_f hb5 h
      refine w_iconst (v := 1) C dX4_linear_36 (by decide) ?_
      refine w_istore C (Nat.le_of_ble_eq_true rfl) rfl dX4_linear_37 ?_
      refine w_lv [1, 2, 3, 4, 0] rfl ?_
      exact w_X4_linear_39 C   ih _ _ _ h
set_option maxRecDepth 20000 in
set_option maxHeartbeats 4000000 in
theorem w_X4_linear {ma : Nat → Nat} {tr : Int64} {su : Nat → Int32} {pr : Nat → Int32} {ro : Nat → Int32} {be : Nat → Int32} {di : Nat → Int32} {fu : Nat}  {th : Int32} {kq : Int32} {kp : Int32} {ms : Nat → Int32} {v1 : Int32} {r : Int32 × Int32} (C : Cx p s m args meth c G A RX4 cX4_linear 6 ((some .int)))   (h : X4_linear fu  th kq kp ms v1 = some r) : Wd p l e rm_X4_linear s m args below meth c G A 6 0 0 (QQ G A (fun o w => o = some (.int r.1) ∧ w = (mw G ma r.2 tr kq kp su pr ms ro be di)) below args s 0 0) (mw G ma th tr kq kp su pr ms ro be di) [(0, .ref (ma 0)), (1, .int v1)] 0 [] := by
  unfold X4_linear at h
  refine w_aload_n C 0 rfl dX4_linear_0 ?_
  refine w_iconst (v := 0) C dX4_linear_1 (by decide) ?_
  refine pt_X4_32 C dX4_linear_2 ?_
  refine w_iload_n C 1 rfl dX4_linear_5 ?_
  obtain ⟨x1, hx1, h⟩ := bd_some h
  refine w_cSi C (c_X4_isMap fu  hx1) pk_X4_isMap ml_X4_63 (As := [.int v1]) (rest := []) ⟨⟨rfl, rfl⟩, Nat.le_of_ble_eq_true rfl, Nat.le_of_ble_eq_true rfl⟩ rfl ⟨(Nat.le_of_ble_eq_true rfl), (Nat.le_of_ble_eq_true rfl)⟩ (Nat.le_of_ble_eq_true rfl) rfl (List.append_nil _).symm (List.append_nil _) dX4_linear_6 ?_
  refine w_if_ne (tgt := 14) C dX4_linear_9 (by decide) (fun hb2 => ?_) (fun hb2 => ?_)
  · have h := if_f hb2 h
    refine w_aload_n C 0 rfl dX4_linear_14 ?_
    obtain ⟨x3, hx3, h⟩ := bd_some h
    refine w_cVi (wr := []) (qc := (RX4, TX4, 10)) C (c_X4_isTwos fu  hx3) pk_X4_isTwos ml_X4_115 (As := []) (rest := []) (k9 := 0) rfl rfl ⟨⟨rfl, rfl⟩, Nat.le_of_ble_eq_true rfl, Nat.le_of_ble_eq_true rfl⟩ rfl ⟨(Nat.le_of_ble_eq_true rfl), (Nat.le_of_ble_eq_true rfl)⟩ (Nat.le_of_ble_eq_true rfl) rfl rfl (List.nil_append _) dX4_linear_15 ?_
    refine w_if_ne (tgt := 24) C dX4_linear_18 (by decide) (fun hb4 => ?_) (fun hb4 => ?_)
    · have h := if_f hb4 h
      refine w_iconst (v := 0) C dX4_linear_24 (by decide) ?_
      refine w_istore_n C (Nat.le_of_ble_eq_true rfl) rfl dX4_linear_25 ?_
      refine w_iconst (v := 0) C dX4_linear_26 (by decide) ?_
      refine w_istore_n C (Nat.le_of_ble_eq_true rfl) rfl dX4_linear_27 ?_
      refine w_lv [2, 3, 1, 0] rfl ?_
      exact w_X4_linear_28 C    _ _ _ h
    · have h := if_t hb4 h
      refine w_bipush (v := (-2)) C dX4_linear_21 (by decide) ?_
      cases h
      exact w_iret C ⟨rfl, rfl⟩ dX4_linear_23
  · have h := if_t hb2 h
    refine w_iconst (v := (-1)) C dX4_linear_12 (by decide) ?_
    cases h
    exact w_iret C ⟨rfl, rfl⟩ dX4_linear_13
theorem c_X4_linear {l : Launch} {G : GG} {ma : Nat → Nat} {th : Int32} {tr : Int64} {kq : Int32} {kp : Int32} {su : Nat → Int32} {pr : Nat → Int32} {ms : Nat → Int32} {ro : Nat → Int32} {be : Nat → Int32} {di : Nat → Int32} (fu : Nat) {v1 : Int32} {r : Int32 × Int32} (h : X4_linear fu th kq kp ms v1 = some r) : Ct l yX4_linear cX4_linear 6 ((some .int)) G rm_X4_linear [.ref (ma 0), .int v1] (mw G ma th tr kq kp su pr ms ro be di) (fun o w => o = some (.int r.1) ∧ w = (mw G ma r.2 tr kq kp su pr ms ro be di)) 0 0 := Ct.of (by decide) (Nat.le_of_ble_eq_true rfl) (fun p e s m args below meth c A C _ => w_X4_linear C h)
abbrev rm_X4_like : Room := { frames := 2, cells := 0, slots := 0, locals := 44 }
theorem pk_X4_like : PkV RX4 yX4_like cX4_like 9 ((some .int)) 2 := ⟨rfl, co_X4_like, ini_RX4, im_X4_like, se_X4_like, by decide +kernel⟩
set_option maxRecDepth 20000 in
set_option maxHeartbeats 4000000 in
theorem w_X4_like_174 {ma : Nat → Nat} {tr : Int64} {kp : Int32} {ro : Nat → Int32} {be : Nat → Int32} {di : Nat → Int32} {fu : Nat} {rc23 : Int32 → Option (Int32 × Int32)} {rc34 : Int32 → Option (Int32 × Int32)} {rc46 : Int32 → Option (Int32 × Int32)} {th : Int32} {kq : Int32} {su : Nat → Int32} {pr : Nat → Int32} {ms : Nat → Int32} {v1 : Int32} {v2 : Int32} {v3 : Int32} {v4 : Int32} {v5 : Int32} {v7 : Int32} {r : Int32 × Int32} (C : Cx p s m args meth c G A RX4 cX4_like 9 ((some .int)))  (hrc23 : ∀ (v3 : Int32), rc23 v3 = some r → Wd p l e rm_X4_like s m args below meth c G A 9 0 0 (QQ G A (fun o w => o = some (.int r.1) ∧ w = (mw G ma r.2 tr kq kp su pr ms ro be di)) below args s 0 0) (mw G ma th tr kq kp su pr ms ro be di) [(0, .ref (ma 0)), (1, .int v1), (2, .int v2), (3, .int v3)] 23 []) (hrc34 : ∀ (v4 : Int32), rc34 v4 = some r → Wd p l e rm_X4_like s m args below meth c G A 9 0 0 (QQ G A (fun o w => o = some (.int r.1) ∧ w = (mw G ma r.2 tr kq kp su pr ms ro be di)) below args s 0 0) (mw G ma th tr kq kp su pr ms ro be di) [(0, .ref (ma 0)), (1, .int v1), (2, .int v2), (3, .int v3), (4, .int v4)] 34 []) (hrc46 : ∀ (v5 : Int32), rc46 v5 = some r → Wd p l e rm_X4_like s m args below meth c G A 9 0 0 (QQ G A (fun o w => o = some (.int r.1) ∧ w = (mw G ma r.2 tr kq kp su pr ms ro be di)) below args s 0 0) (mw G ma th tr kq kp su pr ms ro be di) [(0, .ref (ma 0)), (1, .int v1), (2, .int v2), (3, .int v3), (4, .int v4), (5, .int v5)] 46 []) (h : X4_like_174 fu rc23 rc34 rc46 th kq su pr ms v1 v2 v3 v4 v5 v7 = some r) : Wd p l e rm_X4_like s m args below meth c G A 9 0 0 (QQ G A (fun o w => o = some (.int r.1) ∧ w = (mw G ma r.2 tr kq kp su pr ms ro be di)) below args s 0 0) (mw G ma th tr kq kp su pr ms ro be di) [(0, .ref (ma 0)), (1, .int v1), (2, .int v2), (3, .int v3), (4, .int v4), (5, .int v5), (7, .int v7)] 174 [] := by
  unfold X4_like_174 at h
  refine w_iload C 6 rfl dX4_like_174 ?_
  refine w_if_eq (tgt := 181) C dX4_like_176 (by decide) (fun hb14 => ?_) (fun hb14 => ?_)
  · have h := if_t hb14 h
    refine w_iinc (v := v5 + 1) (k := 5) C rfl rfl (Nat.le_of_ble_eq_true rfl) rfl dX4_like_181 ?_
    refine w_goto (tgt := 46) C dX4_like_184 (by decide) ?_
    refine w_lv [1, 2, 3, 4, 5, 0] rfl ?_
    exact hrc46 _ h
  · have h := if_f hb14 h
    refine w_iconst (v := 1) C dX4_like_179 (by decide) ?_
    cases h
    exact w_iret C ⟨rfl, rfl⟩ dX4_like_180
set_option maxRecDepth 20000 in
set_option maxHeartbeats 4000000 in
theorem w_X4_like_166 {ma : Nat → Nat} {tr : Int64} {kp : Int32} {ro : Nat → Int32} {be : Nat → Int32} {di : Nat → Int32} {fu : Nat} {rc23 : Int32 → Option (Int32 × Int32)} {rc34 : Int32 → Option (Int32 × Int32)} {rc46 : Int32 → Option (Int32 × Int32)} {rc97 : Int32 → Int32 → Option (Int32 × Int32)} {th : Int32} {kq : Int32} {su : Nat → Int32} {pr : Nat → Int32} {ms : Nat → Int32} {s0 : Int32} {v1 : Int32} {v2 : Int32} {v3 : Int32} {v4 : Int32} {v5 : Int32} {v6 : Int32} {v8 : Int32} {r : Int32 × Int32} (C : Cx p s m args meth c G A RX4 cX4_like 9 ((some .int)))  (hrc23 : ∀ (v3 : Int32), rc23 v3 = some r → Wd p l e rm_X4_like s m args below meth c G A 9 0 0 (QQ G A (fun o w => o = some (.int r.1) ∧ w = (mw G ma r.2 tr kq kp su pr ms ro be di)) below args s 0 0) (mw G ma th tr kq kp su pr ms ro be di) [(0, .ref (ma 0)), (1, .int v1), (2, .int v2), (3, .int v3)] 23 []) (hrc34 : ∀ (v4 : Int32), rc34 v4 = some r → Wd p l e rm_X4_like s m args below meth c G A 9 0 0 (QQ G A (fun o w => o = some (.int r.1) ∧ w = (mw G ma r.2 tr kq kp su pr ms ro be di)) below args s 0 0) (mw G ma th tr kq kp su pr ms ro be di) [(0, .ref (ma 0)), (1, .int v1), (2, .int v2), (3, .int v3), (4, .int v4)] 34 []) (hrc46 : ∀ (v5 : Int32), rc46 v5 = some r → Wd p l e rm_X4_like s m args below meth c G A 9 0 0 (QQ G A (fun o w => o = some (.int r.1) ∧ w = (mw G ma r.2 tr kq kp su pr ms ro be di)) below args s 0 0) (mw G ma th tr kq kp su pr ms ro be di) [(0, .ref (ma 0)), (1, .int v1), (2, .int v2), (3, .int v3), (4, .int v4), (5, .int v5)] 46 []) (hrc97 : ∀ (v7 : Int32) (v8 : Int32), rc97 v7 v8 = some r → Wd p l e rm_X4_like s m args below meth c G A 9 0 0 (QQ G A (fun o w => o = some (.int r.1) ∧ w = (mw G ma r.2 tr kq kp su pr ms ro be di)) below args s 0 0) (mw G ma th tr kq kp su pr ms ro be di) [(0, .ref (ma 0)), (1, .int v1), (2, .int v2), (3, .int v3), (4, .int v4), (5, .int v5), (6, .int v6), (7, .int v7), (8, .int v8)] 97 []) (h : X4_like_166 fu rc23 rc34 rc46 rc97 th kq su pr ms s0 v1 v2 v3 v4 v5 v6 v8 = some r) : Wd p l e rm_X4_like s m args below meth c G A 9 0 0 (QQ G A (fun o w => o = some (.int r.1) ∧ w = (mw G ma r.2 tr kq kp su pr ms ro be di)) below args s 0 0) (mw G ma th tr kq kp su pr ms ro be di) [(0, .ref (ma 0)), (1, .int v1), (2, .int v2), (3, .int v3), (4, .int v4), (5, .int v5), (6, .int v6), (8, .int v8)] 166 [.int s0] := by
  unfold X4_like_166 at h
  refine w_istore C (Nat.le_of_ble_eq_true rfl) rfl dX4_like_166 ?_
  refine w_iinc (v := v8 + 1) (k := 8) C rfl rfl (Nat.le_of_ble_eq_true rfl) rfl dX4_like_168 ?_
  refine w_goto (tgt := 97) C dX4_like_171 (by decide) ?_
  refine w_lv [2, 3, 4, 5, 6, 7, 8, 1, 0] rfl ?_
  exact hrc97 _ _ h
set_option maxRecDepth 20000 in
set_option maxHeartbeats 4000000 in
theorem w_X4_like_97 {ma : Nat → Nat} {tr : Int64} {kp : Int32} {ro : Nat → Int32} {be : Nat → Int32} {di : Nat → Int32} {th : Int32} {kq : Int32} {su : Nat → Int32} {pr : Nat → Int32} {ms : Nat → Int32} {v1 : Int32} {v2 : Int32} {v3 : Int32} {v4 : Int32} {v5 : Int32} {v6 : Int32} {fu : Nat} {rc23 : Int32 → Option (Int32 × Int32)} {rc34 : Int32 → Option (Int32 × Int32)} {rc46 : Int32 → Option (Int32 × Int32)} {r : Int32 × Int32} (C : Cx p s m args meth c G A RX4 cX4_like 9 ((some .int)))  (hrc23 : ∀ (v3 : Int32), rc23 v3 = some r → Wd p l e rm_X4_like s m args below meth c G A 9 0 0 (QQ G A (fun o w => o = some (.int r.1) ∧ w = (mw G ma r.2 tr kq kp su pr ms ro be di)) below args s 0 0) (mw G ma th tr kq kp su pr ms ro be di) [(0, .ref (ma 0)), (1, .int v1), (2, .int v2), (3, .int v3)] 23 []) (hrc34 : ∀ (v4 : Int32), rc34 v4 = some r → Wd p l e rm_X4_like s m args below meth c G A 9 0 0 (QQ G A (fun o w => o = some (.int r.1) ∧ w = (mw G ma r.2 tr kq kp su pr ms ro be di)) below args s 0 0) (mw G ma th tr kq kp su pr ms ro be di) [(0, .ref (ma 0)), (1, .int v1), (2, .int v2), (3, .int v3), (4, .int v4)] 34 []) (hrc46 : ∀ (v5 : Int32), rc46 v5 = some r → Wd p l e rm_X4_like s m args below meth c G A 9 0 0 (QQ G A (fun o w => o = some (.int r.1) ∧ w = (mw G ma r.2 tr kq kp su pr ms ro be di)) below args s 0 0) (mw G ma th tr kq kp su pr ms ro be di) [(0, .ref (ma 0)), (1, .int v1), (2, .int v2), (3, .int v3), (4, .int v4), (5, .int v5)] 46 []) : ∀ (fk : Nat) (v7 : Int32) (v8 : Int32), X4_like_97 fu rc23 rc34 rc46 th kq su pr ms v1 v2 v3 v4 v5 v6 fk v7 v8 = some r → Wd p l e rm_X4_like s m args below meth c G A 9 0 0 (QQ G A (fun o w => o = some (.int r.1) ∧ w = (mw G ma r.2 tr kq kp su pr ms ro be di)) below args s 0 0) (mw G ma th tr kq kp su pr ms ro be di) [(0, .ref (ma 0)), (1, .int v1), (2, .int v2), (3, .int v3), (4, .int v4), (5, .int v5), (6, .int v6), (7, .int v7), (8, .int v8)] 97 [] := by
  intro fk
  induction fk with
  | zero =>
    intro v7 v8 h
    have h : (none : Option (Int32 × Int32)) = some r := h
    cases h
  | succ fk ih =>
    intro v7 v8 h
    have h : X4_like_97_b fu rc23 rc34 rc46 th kq su pr ms v1 v2 v3 v4 v5 v6 (X4_like_97 fu rc23 rc34 rc46 th kq su pr ms v1 v2 v3 v4 v5 v6 fk) v7 v8 = some r := h
    unfold X4_like_97_b at h
    refine w_iload C 8 rfl dX4_like_97 ?_
    refine w_aload_n C 0 rfl dX4_like_99 ?_
    refine gt_X4_39 C dX4_like_100 ?_
    refine w_icmp_ge (tgt := 174) C dX4_like_103 (by decide) (fun hb13 => ?_) (fun hb13 => ?_)
    · have h := if_t hb13 h
      refine w_lv [0, 1, 2, 3, 4, 5, 7] rfl ?_
      exact w_X4_like_174 C   hrc23 hrc34 hrc46 h
    · have h := if_f hb13 h
      refine w_iload C 7 rfl dX4_like_106 ?_
      refine w_if_eq (tgt := 174) C dX4_like_108 (by decide) (fun hb15 => ?_) (fun hb15 => ?_)
      · have h := if_t hb15 h
        refine w_lv [0, 1, 2, 3, 4, 5, 7] rfl ?_
        exact w_X4_like_174 C   hrc23 hrc34 hrc46 h
      · have h := if_f hb15 h
        refine w_aload_n C 0 rfl dX4_like_111 ?_
        refine gt_X4_16 C dX4_like_112 ?_
        refine w_bipush (v := 16) C dX4_like_115 (by decide) ?_
        refine w_iload_n C 2 rfl dX4_like_117 ?_
        refine w_imul C dX4_like_118 ?_
        refine w_iload C 8 rfl dX4_like_119 ?_
        refine w_iadd C dX4_like_121 ?_
        obtain ⟨hi16, h⟩ := ckI_some h
        refine ld_ms C hi16 dX4_like_122 ?_
        refine w_aload_n C 0 rfl dX4_like_123 ?_
        refine w_aload_n C 0 rfl dX4_like_124 ?_
        refine w_iload_n C 3 rfl dX4_like_125 ?_
        refine w_aload_n C 0 rfl dX4_like_126 ?_
        refine gt_X4_16 C dX4_like_127 ?_
        refine w_bipush (v := 16) C dX4_like_130 (by decide) ?_
        refine w_iload_n C 1 rfl dX4_like_132 ?_
        refine w_imul C dX4_like_133 ?_
        refine w_aload_n C 0 rfl dX4_like_134 ?_
        refine w_aload_n C 0 rfl dX4_like_135 ?_
        refine w_iload C 4 rfl dX4_like_136 ?_
        refine w_iload C 8 rfl dX4_like_138 ?_
        obtain ⟨x17, hx17, h⟩ := bd_some h
        refine w_cVi (wr := []) (qc := (RX4, TX4, 10)) C (c_X4_by fu  hx17) pk_X4_by ml_X4_56 (As := [.int v4, .int v8]) (rest := [.ref (ma 0), .int (16 * v1), .ref (ma 3), .int v3, .ref (ma 0), .ref (ma 0), .int (ms ((16 * v2) + v8).toNatClampNeg)]) (k9 := 0) rfl rfl ⟨⟨rfl, rfl⟩, Nat.le_of_ble_eq_true rfl, Nat.le_of_ble_eq_true rfl⟩ rfl ⟨(Nat.le_of_ble_eq_true rfl), (Nat.le_of_ble_eq_true rfl)⟩ (Nat.le_of_ble_eq_true rfl) rfl rfl (List.nil_append _) dX4_like_140 ?_
        refine w_iload C 5 rfl dX4_like_143 ?_
        obtain ⟨x18, hx18, h⟩ := bd_some h
        refine w_cVi (wr := []) (qc := (RX4, TX4, 10)) C (c_X4_add fu  hx18) pk_X4_add ml_X4_49 (As := [.int x17, .int v5]) (rest := [.int (16 * v1), .ref (ma 3), .int v3, .ref (ma 0), .ref (ma 0), .int (ms ((16 * v2) + v8).toNatClampNeg)]) (k9 := 0) rfl rfl ⟨⟨rfl, rfl⟩, Nat.le_of_ble_eq_true rfl, Nat.le_of_ble_eq_true rfl⟩ rfl ⟨(Nat.le_of_ble_eq_true rfl), (Nat.le_of_ble_eq_true rfl)⟩ (Nat.le_of_ble_eq_true rfl) rfl rfl (List.nil_append _) dX4_like_145 ?_
        refine w_iadd C dX4_like_148 ?_
        obtain ⟨hi19, h⟩ := ckI_some h
        refine ld_ms C hi19 dX4_like_149 ?_
        obtain ⟨x20, hx20, h⟩ := bd_some h
        refine w_cVi (wr := []) (qc := (RX4, TX4, 10)) C (c_X4_by fu  hx20) pk_X4_by ml_X4_56 (As := [.int v3, .int (ms ((16 * v1) + x18).toNatClampNeg)]) (rest := [.ref (ma 0), .int (ms ((16 * v2) + v8).toNatClampNeg)]) (k9 := 0) rfl rfl ⟨⟨rfl, rfl⟩, Nat.le_of_ble_eq_true rfl, Nat.le_of_ble_eq_true rfl⟩ rfl ⟨(Nat.le_of_ble_eq_true rfl), (Nat.le_of_ble_eq_true rfl)⟩ (Nat.le_of_ble_eq_true rfl) rfl rfl (List.nil_append _) dX4_like_150 ?_
        refine w_iload C 6 rfl dX4_like_153 ?_
        obtain ⟨x21, hx21, h⟩ := bd_some h
        refine w_cVi (wr := []) (qc := (RX4, TX4, 10)) C (c_X4_add fu  hx21) pk_X4_add ml_X4_49 (As := [.int x20, .int v6]) (rest := [.int (ms ((16 * v2) + v8).toNatClampNeg)]) (k9 := 0) rfl rfl ⟨⟨rfl, rfl⟩, Nat.le_of_ble_eq_true rfl, Nat.le_of_ble_eq_true rfl⟩ rfl ⟨(Nat.le_of_ble_eq_true rfl), (Nat.le_of_ble_eq_true rfl)⟩ (Nat.le_of_ble_eq_true rfl) rfl rfl (List.nil_append _) dX4_like_155 ?_
        refine w_icmp_ne (tgt := 165) C dX4_like_158 (by decide) (fun hb22 => ?_) (fun hb22 => ?_)
        · have h := if_f hb22 h
          refine w_iconst (v := 0) C dX4_like_165 (by decide) ?_
          refine w_lv [0, 1, 2, 3, 4, 5, 6, 8] rfl ?_
          exact w_X4_like_166 C   hrc23 hrc34 hrc46 ih h
        · have h := if_t hb22 h
          refine w_iconst (v := 1) C dX4_like_161 (by decide) ?_
          refine w_goto (tgt := 166) C dX4_like_162 (by decide) ?_
          refine w_lv [0, 1, 2, 3, 4, 5, 6, 8] rfl ?_
          exact w_X4_like_166 C   hrc23 hrc34 hrc46 ih h
set_option maxRecDepth 20000 in
set_option maxHeartbeats 4000000 in
theorem w_X4_like_46 {ma : Nat → Nat} {tr : Int64} {kp : Int32} {ro : Nat → Int32} {be : Nat → Int32} {di : Nat → Int32} {th : Int32} {kq : Int32} {su : Nat → Int32} {pr : Nat → Int32} {ms : Nat → Int32} {v1 : Int32} {v2 : Int32} {v3 : Int32} {v4 : Int32} {fu : Nat} {rc23 : Int32 → Option (Int32 × Int32)} {rc34 : Int32 → Option (Int32 × Int32)} {r : Int32 × Int32} (C : Cx p s m args meth c G A RX4 cX4_like 9 ((some .int)))  (hrc23 : ∀ (v3 : Int32), rc23 v3 = some r → Wd p l e rm_X4_like s m args below meth c G A 9 0 0 (QQ G A (fun o w => o = some (.int r.1) ∧ w = (mw G ma r.2 tr kq kp su pr ms ro be di)) below args s 0 0) (mw G ma th tr kq kp su pr ms ro be di) [(0, .ref (ma 0)), (1, .int v1), (2, .int v2), (3, .int v3)] 23 []) (hrc34 : ∀ (v4 : Int32), rc34 v4 = some r → Wd p l e rm_X4_like s m args below meth c G A 9 0 0 (QQ G A (fun o w => o = some (.int r.1) ∧ w = (mw G ma r.2 tr kq kp su pr ms ro be di)) below args s 0 0) (mw G ma th tr kq kp su pr ms ro be di) [(0, .ref (ma 0)), (1, .int v1), (2, .int v2), (3, .int v3), (4, .int v4)] 34 []) : ∀ (fk : Nat) (v5 : Int32), X4_like_46 fu rc23 rc34 th kq su pr ms v1 v2 v3 v4 fk v5 = some r → Wd p l e rm_X4_like s m args below meth c G A 9 0 0 (QQ G A (fun o w => o = some (.int r.1) ∧ w = (mw G ma r.2 tr kq kp su pr ms ro be di)) below args s 0 0) (mw G ma th tr kq kp su pr ms ro be di) [(0, .ref (ma 0)), (1, .int v1), (2, .int v2), (3, .int v3), (4, .int v4), (5, .int v5)] 46 [] := by
  intro fk
  induction fk with
  | zero =>
    intro v5 h
    have h : (none : Option (Int32 × Int32)) = some r := h
    cases h
  | succ fk ih =>
    intro v5 h
    have h : X4_like_46_b fu rc23 rc34 th kq su pr ms v1 v2 v3 v4 (X4_like_46 fu rc23 rc34 th kq su pr ms v1 v2 v3 v4 fk) v5 = some r := h
    unfold X4_like_46_b at h
    refine w_iload C 5 rfl dX4_like_46 ?_
    refine w_aload_n C 0 rfl dX4_like_48 ?_
    refine gt_X4_39 C dX4_like_49 ?_
    refine w_icmp_ge (tgt := 187) C dX4_like_52 (by decide) (fun hb7 => ?_) (fun hb7 => ?_)
    · have h := if_t hb7 h
      refine w_iinc (v := v4 + 1) (k := 4) C rfl rfl (Nat.le_of_ble_eq_true rfl) rfl dX4_like_187 ?_
      refine w_goto (tgt := 34) C dX4_like_190 (by decide) ?_
      refine w_lv [1, 2, 3, 4, 0] rfl ?_
      exact hrc34 _ h
    · have h := if_f hb7 h
      refine w_aload_n C 0 rfl dX4_like_55 ?_
      refine w_aload_n C 0 rfl dX4_like_56 ?_
      refine gt_X4_16 C dX4_like_57 ?_
      refine w_bipush (v := 16) C dX4_like_60 (by decide) ?_
      refine w_iload_n C 2 rfl dX4_like_62 ?_
      refine w_imul C dX4_like_63 ?_
      obtain ⟨hi8, h⟩ := ckI_some h
      refine ld_ms C hi8 dX4_like_64 ?_
      refine w_aload_n C 0 rfl dX4_like_65 ?_
      refine w_aload_n C 0 rfl dX4_like_66 ?_
      refine w_iload_n C 3 rfl dX4_like_67 ?_
      refine w_aload_n C 0 rfl dX4_like_68 ?_
      refine gt_X4_16 C dX4_like_69 ?_
      refine w_bipush (v := 16) C dX4_like_72 (by decide) ?_
      refine w_iload_n C 1 rfl dX4_like_74 ?_
      refine w_imul C dX4_like_75 ?_
      refine w_iload C 5 rfl dX4_like_76 ?_
      refine w_iadd C dX4_like_78 ?_
      obtain ⟨hi9, h⟩ := ckI_some h
      refine ld_ms C hi9 dX4_like_79 ?_
      obtain ⟨x10, hx10, h⟩ := bd_some h
      refine w_cVi (wr := []) (qc := (RX4, TX4, 10)) C (c_X4_by fu  hx10) pk_X4_by ml_X4_56 (As := [.int v3, .int (ms ((16 * v1) + v5).toNatClampNeg)]) (rest := [.ref (ma 0), .int (ms (16 * v2).toNatClampNeg), .ref (ma 0)]) (k9 := 0) rfl rfl ⟨⟨rfl, rfl⟩, Nat.le_of_ble_eq_true rfl, Nat.le_of_ble_eq_true rfl⟩ rfl ⟨(Nat.le_of_ble_eq_true rfl), (Nat.le_of_ble_eq_true rfl)⟩ (Nat.le_of_ble_eq_true rfl) rfl rfl (List.nil_append _) dX4_like_80 ?_
      obtain ⟨x11, hx11, h⟩ := bd_some h
      refine w_cVi (wr := []) (qc := (RX4, TX4, 10)) C (c_X4_minus fu  hx11) pk_X4_minus ml_X4_69 (As := [.int x10]) (rest := [.int (ms (16 * v2).toNatClampNeg), .ref (ma 0)]) (k9 := 0) rfl rfl ⟨⟨rfl, rfl⟩, Nat.le_of_ble_eq_true rfl, Nat.le_of_ble_eq_true rfl⟩ rfl ⟨(Nat.le_of_ble_eq_true rfl), (Nat.le_of_ble_eq_true rfl)⟩ (Nat.le_of_ble_eq_true rfl) rfl rfl (List.nil_append _) dX4_like_83 ?_
      obtain ⟨x12, hx12, h⟩ := bd_some h
      refine w_cVi (wr := []) (qc := (RX4, TX4, 10)) C (c_X4_add fu  hx12) pk_X4_add ml_X4_49 (As := [.int (ms (16 * v2).toNatClampNeg), .int x11]) (rest := []) (k9 := 0) rfl rfl ⟨⟨rfl, rfl⟩, Nat.le_of_ble_eq_true rfl, Nat.le_of_ble_eq_true rfl⟩ rfl ⟨(Nat.le_of_ble_eq_true rfl), (Nat.le_of_ble_eq_true rfl)⟩ (Nat.le_of_ble_eq_true rfl) rfl rfl (List.nil_append _) dX4_like_86 ?_
      refine w_istore C (Nat.le_of_ble_eq_true rfl) rfl dX4_like_89 ?_
      refine w_iconst (v := 1) C dX4_like_91 (by decide) ?_
      refine w_istore C (Nat.le_of_ble_eq_true rfl) rfl dX4_like_92 ?_
      refine w_iconst (v := 0) C dX4_like_94 (by decide) ?_
      refine w_istore C (Nat.le_of_ble_eq_true rfl) rfl dX4_like_95 ?_
      refine w_lv [3, 4, 5, 6, 7, 8, 2, 1, 0] rfl ?_
      exact w_X4_like_97 C   hrc23 hrc34 ih _ _ _ h
set_option maxRecDepth 20000 in
set_option maxHeartbeats 4000000 in
theorem w_X4_like_34 {ma : Nat → Nat} {tr : Int64} {kp : Int32} {ro : Nat → Int32} {be : Nat → Int32} {di : Nat → Int32} {th : Int32} {kq : Int32} {su : Nat → Int32} {pr : Nat → Int32} {ms : Nat → Int32} {v1 : Int32} {v2 : Int32} {v3 : Int32} {fu : Nat} {rc23 : Int32 → Option (Int32 × Int32)} {r : Int32 × Int32} (C : Cx p s m args meth c G A RX4 cX4_like 9 ((some .int)))  (hrc23 : ∀ (v3 : Int32), rc23 v3 = some r → Wd p l e rm_X4_like s m args below meth c G A 9 0 0 (QQ G A (fun o w => o = some (.int r.1) ∧ w = (mw G ma r.2 tr kq kp su pr ms ro be di)) below args s 0 0) (mw G ma th tr kq kp su pr ms ro be di) [(0, .ref (ma 0)), (1, .int v1), (2, .int v2), (3, .int v3)] 23 []) : ∀ (fk : Nat) (v4 : Int32), X4_like_34 fu rc23 th kq su pr ms v1 v2 v3 fk v4 = some r → Wd p l e rm_X4_like s m args below meth c G A 9 0 0 (QQ G A (fun o w => o = some (.int r.1) ∧ w = (mw G ma r.2 tr kq kp su pr ms ro be di)) below args s 0 0) (mw G ma th tr kq kp su pr ms ro be di) [(0, .ref (ma 0)), (1, .int v1), (2, .int v2), (3, .int v3), (4, .int v4)] 34 [] := by
  intro fk
  induction fk with
  | zero =>
    intro v4 h
    have h : (none : Option (Int32 × Int32)) = some r := h
    cases h
  | succ fk ih =>
    intro v4 h
    have h : X4_like_34_b fu rc23 th kq su pr ms v1 v2 v3 (X4_like_34 fu rc23 th kq su pr ms v1 v2 v3 fk) v4 = some r := h
    unfold X4_like_34_b at h
    refine w_iload C 4 rfl dX4_like_34 ?_
    refine w_aload_n C 0 rfl dX4_like_36 ?_
    refine gt_X4_39 C dX4_like_37 ?_
    refine w_icmp_ge (tgt := 193) C dX4_like_40 (by decide) (fun hb6 => ?_) (fun hb6 => ?_)
    · have h := if_t hb6 h
      refine w_iinc (v := v3 + 1) (k := 3) C rfl rfl (Nat.le_of_ble_eq_true rfl) rfl dX4_like_193 ?_
      refine w_goto (tgt := 23) C dX4_like_196 (by decide) ?_
      refine w_lv [1, 2, 3, 0] rfl ?_
      exact hrc23 _ h
    · have h := if_f hb6 h
      refine w_iconst (v := 0) C dX4_like_43 (by decide) ?_
      refine w_istore C (Nat.le_of_ble_eq_true rfl) rfl dX4_like_44 ?_
      refine w_lv [1, 2, 3, 4, 5, 0] rfl ?_
      exact w_X4_like_46 C   hrc23 ih _ _ h
set_option maxRecDepth 20000 in
set_option maxHeartbeats 4000000 in
theorem w_X4_like_23 {ma : Nat → Nat} {tr : Int64} {kp : Int32} {ro : Nat → Int32} {be : Nat → Int32} {di : Nat → Int32} {th : Int32} {kq : Int32} {su : Nat → Int32} {pr : Nat → Int32} {ms : Nat → Int32} {v1 : Int32} {v2 : Int32} {fu : Nat}  {r : Int32 × Int32} (C : Cx p s m args meth c G A RX4 cX4_like 9 ((some .int)))   : ∀ (fk : Nat) (v3 : Int32), X4_like_23 fu  th kq su pr ms v1 v2 fk v3 = some r → Wd p l e rm_X4_like s m args below meth c G A 9 0 0 (QQ G A (fun o w => o = some (.int r.1) ∧ w = (mw G ma r.2 tr kq kp su pr ms ro be di)) below args s 0 0) (mw G ma th tr kq kp su pr ms ro be di) [(0, .ref (ma 0)), (1, .int v1), (2, .int v2), (3, .int v3)] 23 [] := by
  intro fk
  induction fk with
  | zero =>
    intro v3 h
    have h : (none : Option (Int32 × Int32)) = some r := h
    cases h
  | succ fk ih =>
    intro v3 h
    have h : X4_like_23_b fu  th kq su pr ms v1 v2 (X4_like_23 fu  th kq su pr ms v1 v2 fk) v3 = some r := h
    unfold X4_like_23_b at h
    refine w_iload_n C 3 rfl dX4_like_23 ?_
    refine w_aload_n C 0 rfl dX4_like_24 ?_
    refine gt_X4_39 C dX4_like_25 ?_
    refine w_icmp_ge (tgt := 199) C dX4_like_28 (by decide) (fun hb5 => ?_) (fun hb5 => ?_)
    · have h := if_t hb5 h
      refine w_iconst (v := 0) C dX4_like_199 (by decide) ?_
      cases h
      exact w_iret C ⟨rfl, rfl⟩ dX4_like_200
    · have h := if_f hb5 h
      refine w_iconst (v := 1) C dX4_like_31 (by decide) ?_
      refine w_istore C (Nat.le_of_ble_eq_true rfl) rfl dX4_like_32 ?_
      refine w_lv [1, 2, 3, 4, 0] rfl ?_
      exact w_X4_like_34 C   ih _ _ h
set_option maxRecDepth 20000 in
set_option maxHeartbeats 4000000 in
theorem w_X4_like {ma : Nat → Nat} {tr : Int64} {kp : Int32} {ro : Nat → Int32} {be : Nat → Int32} {di : Nat → Int32} {fu : Nat}  {th : Int32} {kq : Int32} {su : Nat → Int32} {pr : Nat → Int32} {ms : Nat → Int32} {v1 : Int32} {v2 : Int32} {r : Int32 × Int32} (C : Cx p s m args meth c G A RX4 cX4_like 9 ((some .int)))   (h : X4_like fu  th kq su pr ms v1 v2 = some r) : Wd p l e rm_X4_like s m args below meth c G A 9 0 0 (QQ G A (fun o w => o = some (.int r.1) ∧ w = (mw G ma r.2 tr kq kp su pr ms ro be di)) below args s 0 0) (mw G ma th tr kq kp su pr ms ro be di) [(0, .ref (ma 0)), (1, .int v1), (2, .int v2)] 0 [] := by
  unfold X4_like at h
  refine w_aload_n C 0 rfl dX4_like_0 ?_
  refine w_iconst (v := 0) C dX4_like_1 (by decide) ?_
  refine pt_X4_32 C dX4_like_2 ?_
  refine w_iload_n C 1 rfl dX4_like_5 ?_
  obtain ⟨x1, hx1, h⟩ := bd_some h
  refine w_cSi C (c_X4_isMap fu  hx1) pk_X4_isMap ml_X4_63 (As := [.int v1]) (rest := []) ⟨⟨rfl, rfl⟩, Nat.le_of_ble_eq_true rfl, Nat.le_of_ble_eq_true rfl⟩ rfl ⟨(Nat.le_of_ble_eq_true rfl), (Nat.le_of_ble_eq_true rfl)⟩ (Nat.le_of_ble_eq_true rfl) rfl (List.append_nil _).symm (List.append_nil _) dX4_like_6 ?_
  refine w_if_eq (tgt := 19) C dX4_like_9 (by decide) (fun hb2 => ?_) (fun hb2 => ?_)
  · have h := if_t hb2 h
    refine w_iconst (v := (-1)) C dX4_like_19 (by decide) ?_
    cases h
    exact w_iret C ⟨rfl, rfl⟩ dX4_like_20
  · have h := if_f hb2 h
    refine w_iload_n C 2 rfl dX4_like_12 ?_
    obtain ⟨x3, hx3, h⟩ := bd_some h
    refine w_cSi C (c_X4_isMap fu  hx3) pk_X4_isMap ml_X4_63 (As := [.int v2]) (rest := []) ⟨⟨rfl, rfl⟩, Nat.le_of_ble_eq_true rfl, Nat.le_of_ble_eq_true rfl⟩ rfl ⟨(Nat.le_of_ble_eq_true rfl), (Nat.le_of_ble_eq_true rfl)⟩ (Nat.le_of_ble_eq_true rfl) rfl (List.append_nil _).symm (List.append_nil _) dX4_like_13 ?_
    refine w_if_ne (tgt := 21) C dX4_like_16 (by decide) (fun hb4 => ?_) (fun hb4 => ?_)
    · have h := if_f hb4 h
      refine w_iconst (v := 1) C dX4_like_21 (by decide) ?_
      refine w_istore_n C (Nat.le_of_ble_eq_true rfl) rfl dX4_like_22 ?_
      refine w_lv [1, 2, 3, 0] rfl ?_
      exact w_X4_like_23 C    _ _ h
    · have h := if_t hb4 h
      refine w_iconst (v := (-1)) C dX4_like_19 (by decide) ?_
      cases h
      exact w_iret C ⟨rfl, rfl⟩ dX4_like_20
theorem c_X4_like {l : Launch} {G : GG} {ma : Nat → Nat} {th : Int32} {tr : Int64} {kq : Int32} {kp : Int32} {su : Nat → Int32} {pr : Nat → Int32} {ms : Nat → Int32} {ro : Nat → Int32} {be : Nat → Int32} {di : Nat → Int32} (fu : Nat) {v1 : Int32} {v2 : Int32} {r : Int32 × Int32} (h : X4_like fu th kq su pr ms v1 v2 = some r) : Ct l yX4_like cX4_like 9 ((some .int)) G rm_X4_like [.ref (ma 0), .int v1, .int v2] (mw G ma th tr kq kp su pr ms ro be di) (fun o w => o = some (.int r.1) ∧ w = (mw G ma r.2 tr kq kp su pr ms ro be di)) 0 0 := Ct.of (by decide) (Nat.le_of_ble_eq_true rfl) (fun p e s m args below meth c A C _ => w_X4_like C h)
end
