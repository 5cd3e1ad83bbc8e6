section
variable {p : Program} {l : Launch} {e : Env} {s : State} {m : MethodId} {args : Array Value} {below : List Frame} {meth : Method} {c : Code} {G : GG} {A : Nat → Prop}
abbrev rm_X4_lays : Room := { frames := 0, cells := 0, slots := 0, locals := 0 }
theorem pk_X4_lays : PkV RX4 yX4_lays cX4_lays 3 none 1 := ⟨rfl, co_X4_lays, ini_RX4, im_X4_lays, se_X4_lays, by decide +kernel⟩
set_option maxRecDepth 20000 in
set_option maxHeartbeats 4000000 in
theorem w_X4_lays_2 {ma : Nat → Nat} {th : Int32} {tr : Int64} {kp : Int32} {su : Nat → Int32} {pr : Nat → Int32} {be : Nat → Int32} {di : Nat → Int32} {kq : Int32} {ro : Nat → Int32} {v1 : Int32} {fu : Nat}  {r : (Nat → Int32)} (C : Cx p s m args meth c G A RX4 cX4_lays 3 none)   : ∀ (fk : Nat) (ms : Nat → Int32) (v2 : Int32), X4_lays_2 fu  kq ro v1 fk ms v2 = some r → Wd p l e rm_X4_lays s m args below meth c G A 3 0 0 (QQ G A (fun o w => o = none ∧ w = (mw G ma th tr kq kp su pr r ro be di)) below args s 0 0) (mw G ma th tr kq kp su pr ms ro be di) [(0, .ref (ma 0)), (1, .int v1), (2, .int v2)] 2 [] := by
  intro fk
  induction fk with
  | zero =>
    intro ms v2 h
    have h : (none : Option ((Nat → Int32))) = some r := h
    cases h
  | succ fk ih =>
    intro ms v2 h
    have h : X4_lays_2_b fu  kq ro v1 (X4_lays_2 fu  kq ro v1 fk) ms v2 = some r := h
    unfold X4_lays_2_b at h
    refine w_iload_n C 2 rfl dX4_lays_2 ?_
    refine w_aload_n C 0 rfl dX4_lays_3 ?_
    refine gt_X4_39 C dX4_lays_4 ?_
    refine w_icmp_ge (tgt := 33) C dX4_lays_7 (by decide) (fun hb1 => ?_) (fun hb1 => ?_)
    · have h := if_t hb1 h
      cases h
      exact w_vret C ⟨rfl, rfl⟩ dX4_lays_33
    · have h := if_f hb1 h
      refine w_aload_n C 0 rfl dX4_lays_10 ?_
      refine gt_X4_16 C dX4_lays_11 ?_
      refine w_bipush (v := 16) C dX4_lays_14 (by decide) ?_
      refine w_iload_n C 1 rfl dX4_lays_16 ?_
      refine w_imul C dX4_lays_17 ?_
      refine w_iload_n C 2 rfl dX4_lays_18 ?_
      refine w_iadd C dX4_lays_19 ?_
      refine w_aload_n C 0 rfl dX4_lays_20 ?_
      refine gt_X4_19 C dX4_lays_21 ?_
      refine w_iload_n C 2 rfl dX4_lays_24 ?_
      obtain ⟨hi2, h⟩ := ckI_some h
      refine ld_ro C hi2 dX4_lays_25 ?_
      obtain ⟨hi3, h⟩ := ckI_some h
      refine sr_ms C hi3 dX4_lays_26 ?_
      refine w_iinc (v := v2 + 1) (k := 2) C rfl rfl (Nat.le_of_ble_eq_true rfl) rfl dX4_lays_27 ?_
      refine w_goto (tgt := 2) C dX4_lays_30 (by decide) ?_
      refine w_lv [1, 2, 0] rfl ?_
      exact ih _ _ h
set_option maxRecDepth 20000 in
set_option maxHeartbeats 4000000 in
theorem w_X4_lays {ma : Nat → Nat} {th : Int32} {tr : Int64} {kp : Int32} {su : Nat → Int32} {pr : Nat → Int32} {be : Nat → Int32} {di : Nat → Int32} {fu : Nat}  {kq : Int32} {ms : Nat → Int32} {ro : Nat → Int32} {v1 : Int32} {r : (Nat → Int32)} (C : Cx p s m args meth c G A RX4 cX4_lays 3 none)   (h : X4_lays fu  kq ms ro v1 = some r) : Wd p l e rm_X4_lays s m args below meth c G A 3 0 0 (QQ G A (fun o w => o = none ∧ w = (mw G ma th tr kq kp su pr r ro be di)) below args s 0 0) (mw G ma th tr kq kp su pr ms ro be di) [(0, .ref (ma 0)), (1, .int v1)] 0 [] := by
  unfold X4_lays at h
  refine w_iconst (v := 0) C dX4_lays_0 (by decide) ?_
  refine w_istore_n C (Nat.le_of_ble_eq_true rfl) rfl dX4_lays_1 ?_
  refine w_lv [1, 2, 0] rfl ?_
  exact w_X4_lays_2 C    _ _ _ h
theorem c_X4_lays {l : Launch} {G : GG} {ma : Nat → Nat} {th : Int32} {tr : Int64} {kq : Int32} {kp : Int32} {su : Nat → Int32} {pr : Nat → Int32} {ms : Nat → Int32} {ro : Nat → Int32} {be : Nat → Int32} {di : Nat → Int32} (fu : Nat) {v1 : Int32} {r : (Nat → Int32)} (h : X4_lays fu kq ms ro v1 = some r) : Ct l yX4_lays cX4_lays 3 none G rm_X4_lays [.ref (ma 0), .int v1] (mw G ma th tr kq kp su pr ms ro be di) (fun o w => o = none ∧ w = (mw G ma th tr kq kp su pr r ro be di)) 0 0 := Ct.of (by decide) (Nat.le_of_ble_eq_true rfl) (fun p e s m args below meth c A C _ => w_X4_lays C h)
abbrev rm_X4_chain : Room := { frames := 2, cells := 0, slots := 0, locals := 42 }
theorem pk_X4_chain : PkV RX4 yX4_chain cX4_chain 5 ((some .int)) 3 := ⟨rfl, co_X4_chain, ini_RX4, im_X4_chain, se_X4_chain, by decide +kernel⟩
set_option maxRecDepth 20000 in
set_option maxHeartbeats 4000000 in
theorem w_X4_chain_31 {ma : Nat → Nat} {tr : Int64} {kp : Int32} {su : Nat → Int32} {pr : Nat → Int32} {be : Nat → Int32} {di : Nat → Int32} {th : Int32} {kq : Int32} {ms : Nat → Int32} {v1 : Int32} {v2 : Int32} {v3 : Int32} {fu : Nat}  {r : Int32 × Int32 × (Nat → Int32) × (Nat → Int32)} (C : Cx p s m args meth c G A RX4 cX4_chain 5 ((some .int)))   : ∀ (fk : Nat) (ro : Nat → Int32) (v4 : Int32), X4_chain_31 fu  th kq ms v1 v2 v3 fk ro v4 = some r → Wd p l e rm_X4_chain s m args below meth c G A 5 0 0 (QQ G A (fun o w => o = some (.int r.1) ∧ w = (mw G ma r.2.1 tr kq kp su pr r.2.2.1 r.2.2.2 be di)) below args s 0 0) (mw G ma th tr kq kp su pr ms ro be di) [(0, .ref (ma 0)), (1, .int v1), (2, .int v2), (3, .int v3), (4, .int v4)] 31 [] := by
  intro fk
  induction fk with
  | zero =>
    intro ro v4 h
    have h : (none : Option (Int32 × Int32 × (Nat → Int32) × (Nat → Int32))) = some r := h
    cases h
  | succ fk ih =>
    intro ro v4 h
    have h : X4_chain_31_b fu  th kq ms v1 v2 v3 (X4_chain_31 fu  th kq ms v1 v2 v3 fk) ro v4 = some r := h
    unfold X4_chain_31_b at h
    refine w_iload C 4 rfl dX4_chain_31 ?_
    refine w_aload_n C 0 rfl dX4_chain_33 ?_
    refine gt_X4_39 C dX4_chain_34 ?_
    refine w_icmp_ge (tgt := 75) C dX4_chain_37 (by decide) (fun hb7 => ?_) (fun hb7 => ?_)
    · have h := if_t hb7 h
      refine w_aload_n C 0 rfl dX4_chain_75 ?_
      refine w_iload_n C 1 rfl dX4_chain_76 ?_
      obtain ⟨x8, hx8, h⟩ := bd_some h
      refine w_cVv (wr := []) (qc := (RX4, TX4, 10)) C (c_X4_lays fu  hx8) pk_X4_lays ml_X4_96 (As := [.int v1]) (rest := []) (k9 := 0) rfl rfl ⟨⟨rfl, rfl⟩, Nat.le_of_ble_eq_true rfl, Nat.le_of_ble_eq_true rfl⟩ rfl ⟨(Nat.le_of_ble_eq_true rfl), (Nat.le_of_ble_eq_true rfl)⟩ (Nat.le_of_ble_eq_true rfl) rfl rfl (List.nil_append _) dX4_chain_77 ?_
      refine w_iconst (v := 1) C dX4_chain_80 (by decide) ?_
      cases h
      exact w_iret C ⟨rfl, rfl⟩ dX4_chain_81
    · have h := if_f hb7 h
      refine w_aload_n C 0 rfl dX4_chain_40 ?_
      refine gt_X4_19 C dX4_chain_41 ?_
      refine w_iload C 4 rfl dX4_chain_44 ?_
      refine w_aload_n C 0 rfl dX4_chain_46 ?_
      refine gt_X4_16 C dX4_chain_47 ?_
      refine w_bipush (v := 16) C dX4_chain_50 (by decide) ?_
      refine w_iload_n C 2 rfl dX4_chain_52 ?_
      refine w_imul C dX4_chain_53 ?_
      refine w_aload_n C 0 rfl dX4_chain_54 ?_
      refine gt_X4_16 C dX4_chain_55 ?_
      refine w_bipush (v := 16) C dX4_chain_58 (by decide) ?_
      refine w_iload_n C 3 rfl dX4_chain_60 ?_
      refine w_imul C dX4_chain_61 ?_
      refine w_iload C 4 rfl dX4_chain_62 ?_
      refine w_iadd C dX4_chain_64 ?_
      obtain ⟨hi9, h⟩ := ckI_some h
      refine ld_ms C hi9 dX4_chain_65 ?_
      refine w_iadd C dX4_chain_66 ?_
      obtain ⟨hi10, h⟩ := ckI_some h
      refine ld_ms C hi10 dX4_chain_67 ?_
      obtain ⟨hi11, h⟩ := ckI_some h
      refine sr_ro C hi11 dX4_chain_68 ?_
      refine w_iinc (v := v4 + 1) (k := 4) C rfl rfl (Nat.le_of_ble_eq_true rfl) rfl dX4_chain_69 ?_
      refine w_goto (tgt := 31) C dX4_chain_72 (by decide) ?_
      refine w_lv [1, 2, 3, 4, 0] rfl ?_
      exact ih _ _ h
set_option maxRecDepth 20000 in
set_option maxHeartbeats 4000000 in
theorem w_X4_chain {ma : Nat → Nat} {tr : Int64} {kp : Int32} {su : Nat → Int32} {pr : Nat → Int32} {be : Nat → Int32} {di : Nat → Int32} {fu : Nat}  {th : Int32} {kq : Int32} {ms : Nat → Int32} {ro : Nat → Int32} {v1 : Int32} {v2 : Int32} {v3 : Int32} {r : Int32 × Int32 × (Nat → Int32) × (Nat → Int32)} (C : Cx p s m args meth c G A RX4 cX4_chain 5 ((some .int)))   (h : X4_chain fu  th kq ms ro v1 v2 v3 = some r) : Wd p l e rm_X4_chain s m args below meth c G A 5 0 0 (QQ G A (fun o w => o = some (.int r.1) ∧ w = (mw G ma r.2.1 tr kq kp su pr r.2.2.1 r.2.2.2 be di)) below args s 0 0) (mw G ma th tr kq kp su pr ms ro be di) [(0, .ref (ma 0)), (1, .int v1), (2, .int v2), (3, .int v3)] 0 [] := by
  unfold X4_chain at h
  refine w_aload_n C 0 rfl dX4_chain_0 ?_
  refine w_iconst (v := 0) C dX4_chain_1 (by decide) ?_
  refine pt_X4_32 C dX4_chain_2 ?_
  refine w_iload_n C 1 rfl dX4_chain_5 ?_
  obtain ⟨x1, hx1, h⟩ := bd_some h
  refine w_cSi C (c_X4_isMap fu  hx1) pk_X4_isMap ml_X4_63 (As := [.int v1]) (rest := []) ⟨⟨rfl, rfl⟩, Nat.le_of_ble_eq_true rfl, Nat.le_of_ble_eq_true rfl⟩ rfl ⟨(Nat.le_of_ble_eq_true rfl), (Nat.le_of_ble_eq_true rfl)⟩ (Nat.le_of_ble_eq_true rfl) rfl (List.append_nil _).symm (List.append_nil _) dX4_chain_6 ?_
  refine w_if_eq (tgt := 26) C dX4_chain_9 (by decide) (fun hb2 => ?_) (fun hb2 => ?_)
  · have h := if_t hb2 h
    refine w_iconst (v := (-1)) C dX4_chain_26 (by decide) ?_
    cases h
    exact w_iret C ⟨rfl, rfl⟩ dX4_chain_27
  · have h := if_f hb2 h
    refine w_iload_n C 2 rfl dX4_chain_12 ?_
    obtain ⟨x3, hx3, h⟩ := bd_some h
    refine w_cSi C (c_X4_isMap fu  hx3) pk_X4_isMap ml_X4_63 (As := [.int v2]) (rest := []) ⟨⟨rfl, rfl⟩, Nat.le_of_ble_eq_true rfl, Nat.le_of_ble_eq_true rfl⟩ rfl ⟨(Nat.le_of_ble_eq_true rfl), (Nat.le_of_ble_eq_true rfl)⟩ (Nat.le_of_ble_eq_true rfl) rfl (List.append_nil _).symm (List.append_nil _) dX4_chain_13 ?_
    refine w_if_eq (tgt := 26) C dX4_chain_16 (by decide) (fun hb4 => ?_) (fun hb4 => ?_)
    · have h := if_t hb4 h
      refine w_iconst (v := (-1)) C dX4_chain_26 (by decide) ?_
      cases h
      exact w_iret C ⟨rfl, rfl⟩ dX4_chain_27
    · have h := if_f hb4 h
      refine w_iload_n C 3 rfl dX4_chain_19 ?_
      obtain ⟨x5, hx5, h⟩ := bd_some h
      refine w_cSi C (c_X4_isMap fu  hx5) pk_X4_isMap ml_X4_63 (As := [.int v3]) (rest := []) ⟨⟨rfl, rfl⟩, Nat.le_of_ble_eq_true rfl, Nat.le_of_ble_eq_true rfl⟩ rfl ⟨(Nat.le_of_ble_eq_true rfl), (Nat.le_of_ble_eq_true rfl)⟩ (Nat.le_of_ble_eq_true rfl) rfl (List.append_nil _).symm (List.append_nil _) dX4_chain_20 ?_
      refine w_if_ne (tgt := 28) C dX4_chain_23 (by decide) (fun hb6 => ?_) (fun hb6 => ?_)
      · have h := if_f hb6 h
        refine w_iconst (v := 0) C dX4_chain_28 (by decide) ?_
        refine w_istore C (Nat.le_of_ble_eq_true rfl) rfl dX4_chain_29 ?_
        refine w_lv [1, 2, 3, 4, 0] rfl ?_
        exact w_X4_chain_31 C    _ _ _ h
      · have h := if_t hb6 h
        refine w_iconst (v := (-1)) C dX4_chain_26 (by decide) ?_
        cases h
        exact w_iret C ⟨rfl, rfl⟩ dX4_chain_27
theorem c_X4_chain {l : Launch} {G : GG} {ma : Nat → Nat} {th : Int32} {tr : Int64} {kq : Int32} {kp : Int32} {su : Nat → Int32} {pr : Nat → Int32} {ms : Nat → Int32} {ro : Nat → Int32} {be : Nat → Int32} {di : Nat → Int32} (fu : Nat) {v1 : Int32} {v2 : Int32} {v3 : Int32} {r : Int32 × Int32 × (Nat → Int32) × (Nat → Int32)} (h : X4_chain fu th kq ms ro v1 v2 v3 = some r) : Ct l yX4_chain cX4_chain 5 ((some .int)) G rm_X4_chain [.ref (ma 0), .int v1, .int v2, .int v3] (mw G ma th tr kq kp su pr ms ro be di) (fun o w => o = some (.int r.1) ∧ w = (mw G ma r.2.1 tr kq kp su pr r.2.2.1 r.2.2.2 be di)) 0 0 := Ct.of (by decide) (Nat.le_of_ble_eq_true rfl) (fun p e s m args below meth c A C _ => w_X4_chain C h)
abbrev rm_X4_imageOf : Room := { frames := 0, cells := 0, slots := 0, locals := 0 }
theorem pk_X4_imageOf : PkV RX4 yX4_imageOf cX4_imageOf 5 ((some .int)) 1 := ⟨rfl, co_X4_imageOf, ini_RX4, im_X4_imageOf, se_X4_imageOf, by decide +kernel⟩
set_option maxRecDepth 20000 in
set_option maxHeartbeats 4000000 in
theorem w_X4_imageOf_39 {ma : Nat → Nat} {th : Int32} {tr : Int64} {kp : Int32} {su : Nat → Int32} {pr : Nat → Int32} {ro : Nat → Int32} {be : Nat → Int32} {di : Nat → Int32} {kq : Int32} {ms : Nat → Int32} {v2 : Int32} {fu : Nat}  {r : Int32} (C : Cx p s m args meth c G A RX4 cX4_imageOf 5 ((some .int)))   : ∀ (fk : Nat) (v3 : Int32) (v4 : Int32), X4_imageOf_39 fu  kq ms v2 fk v3 v4 = some r → Wd p l e rm_X4_imageOf s m args below meth c G A 5 0 0 (QQ G A (fun o w => o = some (.int r) ∧ w = (mw G ma th tr kq kp su pr ms ro be di)) below args s 0 0) (mw G ma th tr kq kp su pr ms ro be di) [(0, .ref (ma 0)), (2, .int v2), (3, .int v3), (4, .int v4)] 39 [] := by
  intro fk
  induction fk with
  | zero =>
    intro v3 v4 h
    have h : (none : Option Int32) = some r := h
    cases h
  | succ fk ih =>
    intro v3 v4 h
    have h : X4_imageOf_39_b fu  kq ms v2 (X4_imageOf_39 fu  kq ms v2 fk) v3 v4 = some r := h
    unfold X4_imageOf_39_b at h
    refine w_iload C 3 rfl dX4_imageOf_39 ?_
    refine w_aload_n C 0 rfl dX4_imageOf_41 ?_
    refine gt_X4_39 C dX4_imageOf_42 ?_
    refine w_icmp_ge (tgt := 63) C dX4_imageOf_45 (by decide) (fun hb2 => ?_) (fun hb2 => ?_)
    · have h := if_t hb2 h
      refine w_iload_n C 2 rfl dX4_imageOf_63 ?_
      cases h
      exact w_iret C ⟨rfl, rfl⟩ dX4_imageOf_64
    · have h := if_f hb2 h
      refine w_iload_n C 2 rfl dX4_imageOf_48 ?_
      refine w_iload_n C 1 rfl dX4_imageOf_49 ?_
      refine w_iload C 3 rfl dX4_imageOf_50 ?_
      refine w_ishr C dX4_imageOf_52 ?_
      refine w_iconst (v := 1) C dX4_imageOf_53 (by decide) ?_
      refine w_iand C dX4_imageOf_54 ?_
      refine w_iadd C dX4_imageOf_55 ?_
      refine w_istore_n C (Nat.le_of_ble_eq_true rfl) rfl dX4_imageOf_56 ?_
      refine w_iinc (v := v4 + 1) (k := 3) C rfl rfl (Nat.le_of_ble_eq_true rfl) rfl dX4_imageOf_57 ?_
      refine w_goto (tgt := 39) C dX4_imageOf_60 (by decide) ?_
      refine w_lv [2, 3, 1, 0] rfl ?_
      exact ih _ _ h
set_option maxRecDepth 20000 in
set_option maxHeartbeats 4000000 in
theorem w_X4_imageOf_4 {ma : Nat → Nat} {th : Int32} {tr : Int64} {kp : Int32} {su : Nat → Int32} {pr : Nat → Int32} {ro : Nat → Int32} {be : Nat → Int32} {di : Nat → Int32} {kq : Int32} {ms : Nat → Int32} {v1 : Int32} {fu : Nat}  {r : Int32} (C : Cx p s m args meth c G A RX4 cX4_imageOf 5 ((some .int)))   : ∀ (fk : Nat) (v2 : Int32) (v3 : Int32), X4_imageOf_4 fu  kq ms v1 fk v2 v3 = some r → Wd p l e rm_X4_imageOf s m args below meth c G A 5 0 0 (QQ G A (fun o w => o = some (.int r) ∧ w = (mw G ma th tr kq kp su pr ms ro be di)) below args s 0 0) (mw G ma th tr kq kp su pr ms ro be di) [(0, .ref (ma 0)), (1, .int v1), (2, .int v2), (3, .int v3)] 4 [] := by
  intro fk
  induction fk with
  | zero =>
    intro v2 v3 h
    have h : (none : Option Int32) = some r := h
    cases h
  | succ fk ih =>
    intro v2 v3 h
    have h : X4_imageOf_4_b fu  kq ms v1 (X4_imageOf_4 fu  kq ms v1 fk) v2 v3 = some r := h
    unfold X4_imageOf_4_b at h
    refine w_iload_n C 3 rfl dX4_imageOf_4 ?_
    refine w_aload_n C 0 rfl dX4_imageOf_5 ?_
    refine gt_X4_39 C dX4_imageOf_6 ?_
    refine w_icmp_ge (tgt := 34) C dX4_imageOf_9 (by decide) (fun hb1 => ?_) (fun hb1 => ?_)
    · have h := if_t hb1 h
      refine w_iconst (v := 0) C dX4_imageOf_34 (by decide) ?_
      refine w_istore_n C (Nat.le_of_ble_eq_true rfl) rfl dX4_imageOf_35 ?_
      refine w_iconst (v := 0) C dX4_imageOf_36 (by decide) ?_
      refine w_istore C (Nat.le_of_ble_eq_true rfl) rfl dX4_imageOf_37 ?_
      refine w_lv [2, 4, 1, 0] rfl ?_
      exact w_X4_imageOf_39 C    _ _ _ h
    · have h := if_f hb1 h
      refine w_iload_n C 2 rfl dX4_imageOf_12 ?_
      refine w_iconst (v := 1) C dX4_imageOf_13 (by decide) ?_
      refine w_aload_n C 0 rfl dX4_imageOf_14 ?_
      refine gt_X4_16 C dX4_imageOf_15 ?_
      refine w_bipush (v := 16) C dX4_imageOf_18 (by decide) ?_
      refine w_iload_n C 1 rfl dX4_imageOf_20 ?_
      refine w_imul C dX4_imageOf_21 ?_
      refine w_iload_n C 3 rfl dX4_imageOf_22 ?_
      refine w_iadd C dX4_imageOf_23 ?_
      obtain ⟨hi3, h⟩ := ckI_some h
      refine ld_ms C hi3 dX4_imageOf_24 ?_
      refine w_ishl C dX4_imageOf_25 ?_
      refine w_ior C dX4_imageOf_26 ?_
      refine w_istore_n C (Nat.le_of_ble_eq_true rfl) rfl dX4_imageOf_27 ?_
      refine w_iinc (v := v3 + 1) (k := 3) C rfl rfl (Nat.le_of_ble_eq_true rfl) rfl dX4_imageOf_28 ?_
      refine w_goto (tgt := 4) C dX4_imageOf_31 (by decide) ?_
      refine w_lv [2, 3, 1, 0] rfl ?_
      exact ih _ _ h
set_option maxRecDepth 20000 in
set_option maxHeartbeats 4000000 in
theorem w_X4_imageOf {ma : Nat → Nat} {th : Int32} {tr : Int64} {kp : Int32} {su : Nat → Int32} {pr : Nat → Int32} {ro : Nat → Int32} {be : Nat → Int32} {di : Nat → Int32} {fu : Nat}  {kq : Int32} {ms : Nat → Int32} {v1 : Int32} {r : Int32} (C : Cx p s m args meth c G A RX4 cX4_imageOf 5 ((some .int)))   (h : X4_imageOf fu  kq ms v1 = some r) : Wd p l e rm_X4_imageOf s m args below meth c G A 5 0 0 (QQ G A (fun o w => o = some (.int r) ∧ w = (mw G ma th tr kq kp su pr ms ro be di)) below args s 0 0) (mw G ma th tr kq kp su pr ms ro be di) [(0, .ref (ma 0)), (1, .int v1)] 0 [] := by
  unfold X4_imageOf at h
  refine w_iconst (v := 0) C dX4_imageOf_0 (by decide) ?_
  refine w_istore_n C (Nat.le_of_ble_eq_true rfl) rfl dX4_imageOf_1 ?_
  refine w_iconst (v := 0) C dX4_imageOf_2 (by decide) ?_
  refine w_istore_n C (Nat.le_of_ble_eq_true rfl) rfl dX4_imageOf_3 ?_
  refine w_lv [2, 3, 1, 0] rfl ?_
  exact w_X4_imageOf_4 C    _ _ _ h
theorem c_X4_imageOf {l : Launch} {G : GG} {ma : Nat → Nat} {th : Int32} {tr : Int64} {kq : Int32} {kp : Int32} {su : Nat → Int32} {pr : Nat → Int32} {ms : Nat → Int32} {ro : Nat → Int32} {be : Nat → Int32} {di : Nat → Int32} (fu : Nat) {v1 : Int32} {r : Int32} (h : X4_imageOf fu kq ms v1 = some r) : Ct l yX4_imageOf cX4_imageOf 5 ((some .int)) G rm_X4_imageOf [.ref (ma 0), .int v1] (mw G ma th tr kq kp su pr ms ro be di) (fun o w => o = some (.int r) ∧ w = (mw G ma th tr kq kp su pr ms ro be di)) 0 0 := Ct.of (by decide) (Nat.le_of_ble_eq_true rfl) (fun p e s m args below meth c A C _ => w_X4_imageOf C h)
abbrev rm_X4_isShuffle : Room := { frames := 1, cells := 0, slots := 0, locals := 24 }
theorem pk_X4_isShuffle : PkV RX4 yX4_isShuffle cX4_isShuffle 2 ((some .boolean)) 1 := ⟨rfl, co_X4_isShuffle, ini_RX4, im_X4_isShuffle, se_X4_isShuffle, by decide +kernel⟩
set_option maxRecDepth 20000 in
set_option maxHeartbeats 4000000 in
theorem w_X4_isShuffle {ma : Nat → Nat} {th : Int32} {tr : Int64} {kp : Int32} {su : Nat → Int32} {pr : Nat → Int32} {ro : Nat → Int32} {be : Nat → Int32} {di : Nat → Int32} {fu : Nat}  {kq : Int32} {ms : Nat → Int32} {v1 : Int32} {r : Int32} (C : Cx p s m args meth c G A RX4 cX4_isShuffle 2 ((some .boolean)))   (h : X4_isShuffle fu  kq ms v1 = some r) : Wd p l e rm_X4_isShuffle s m args below meth c G A 2 0 0 (QQ G A (fun o w => o = some (.int r) ∧ w = (mw G ma th tr kq kp su pr ms ro be di)) below args s 0 0) (mw G ma th tr kq kp su pr ms ro be di) [(0, .ref (ma 0)), (1, .int v1)] 0 [] := by
  unfold X4_isShuffle at h
  refine w_aload_n C 0 rfl dX4_isShuffle_0 ?_
  refine w_iload_n C 1 rfl dX4_isShuffle_1 ?_
  obtain ⟨x1, hx1, h⟩ := bd_some h
  refine w_cVi (wr := []) (qc := (RX4, TX4, 10)) C (c_X4_imageOf fu  hx1) pk_X4_imageOf ml_X4_99 (As := [.int v1]) (rest := []) (k9 := 0) rfl rfl ⟨⟨rfl, rfl⟩, Nat.le_of_ble_eq_true rfl, Nat.le_of_ble_eq_true rfl⟩ rfl ⟨(Nat.le_of_ble_eq_true rfl), (Nat.le_of_ble_eq_true rfl)⟩ (Nat.le_of_ble_eq_true rfl) rfl rfl (List.nil_append _) dX4_isShuffle_2 ?_
  refine w_aload_n C 0 rfl dX4_isShuffle_5 ?_
  refine gt_X4_39 C dX4_isShuffle_6 ?_
  refine w_icmp_ne (tgt := 16) C dX4_isShuffle_9 (by decide) (fun hb2 => ?_) (fun hb2 => ?_)
  · have h := if_f hb2 h
    refine w_iconst (v := 0) C dX4_isShuffle_16 (by decide) ?_
    cases h
    exact w_zret C rfl ⟨rfl, rfl⟩ dX4_isShuffle_17
  · have h := if_t hb2 h
    refine w_iconst (v := 1) C dX4_isShuffle_12 (by decide) ?_
    refine w_goto (tgt := 17) C dX4_isShuffle_13 (by decide) ?_
    cases h
    exact w_zret C rfl ⟨rfl, rfl⟩ dX4_isShuffle_17
theorem c_X4_isShuffle {l : Launch} {G : GG} {ma : Nat → Nat} {th : Int32} {tr : Int64} {kq : Int32} {kp : Int32} {su : Nat → Int32} {pr : Nat → Int32} {ms : Nat → Int32} {ro : Nat → Int32} {be : Nat → Int32} {di : Nat → Int32} (fu : Nat) {v1 : Int32} {r : Int32} (h : X4_isShuffle fu kq ms v1 = some r) : Ct l yX4_isShuffle cX4_isShuffle 2 ((some .boolean)) G rm_X4_isShuffle [.ref (ma 0), .int v1] (mw G ma th tr kq kp su pr ms ro be di) (fun o w => o = some (.int r) ∧ w = (mw G ma th tr kq kp su pr ms ro be di)) 0 0 := Ct.of (by decide) (Nat.le_of_ble_eq_true rfl) (fun p e s m args below meth c A C _ => w_X4_isShuffle C h)
abbrev rm_X4_shuffles : Room := { frames := 2, cells := 0, slots := 0, locals := 45 }
theorem pk_X4_shuffles : PkV RX4 yX4_shuffles cX4_shuffles 2 ((some .int)) 1 := ⟨rfl, co_X4_shuffles, ini_RX4, im_X4_shuffles, se_X4_shuffles, by decide +kernel⟩
set_option maxRecDepth 20000 in
set_option maxHeartbeats 4000000 in
theorem w_X4_shuffles {ma : Nat → Nat} {tr : Int64} {kp : Int32} {su : Nat → Int32} {pr : Nat → Int32} {ro : Nat → Int32} {be : Nat → Int32} {di : Nat → Int32} {fu : Nat}  {th : Int32} {kq : Int32} {ms : Nat → Int32} {v1 : Int32} {r : Int32 × Int32} (C : Cx p s m args meth c G A RX4 cX4_shuffles 2 ((some .int)))   (h : X4_shuffles fu  th kq ms v1 = some r) : Wd p l e rm_X4_shuffles s m args below meth c G A 2 0 0 (QQ G A (fun o w => o = some (.int r.1) ∧ w = (mw G ma r.2 tr kq kp su pr ms ro be di)) below args s 0 0) (mw G ma th tr kq kp su pr ms ro be di) [(0, .ref (ma 0)), (1, .int v1)] 0 [] := by
  unfold X4_shuffles at h
  refine w_aload_n C 0 rfl dX4_shuffles_0 ?_
  refine w_iconst (v := 0) C dX4_shuffles_1 (by decide) ?_
  refine pt_X4_32 C dX4_shuffles_2 ?_
  refine w_iload_n C 1 rfl dX4_shuffles_5 ?_
  obtain ⟨x1, hx1, h⟩ := bd_some h
  refine w_cSi C (c_X4_isMap fu  hx1) pk_X4_isMap ml_X4_63 (As := [.int v1]) (rest := []) ⟨⟨rfl, rfl⟩, Nat.le_of_ble_eq_true rfl, Nat.le_of_ble_eq_true rfl⟩ rfl ⟨(Nat.le_of_ble_eq_true rfl), (Nat.le_of_ble_eq_true rfl)⟩ (Nat.le_of_ble_eq_true rfl) rfl (List.append_nil _).symm (List.append_nil _) dX4_shuffles_6 ?_
  refine w_if_ne (tgt := 16) C dX4_shuffles_9 (by decide) (fun hb2 => ?_) (fun hb2 => ?_)
  · have h := if_f hb2 h
    refine w_aload_n C 0 rfl dX4_shuffles_16 ?_
    refine w_iload_n C 1 rfl dX4_shuffles_17 ?_
    obtain ⟨x3, hx3, h⟩ := bd_some h
    refine w_cVi (wr := []) (qc := (RX4, TX4, 10)) C (c_X4_isShuffle fu  hx3) pk_X4_isShuffle ml_X4_102 (As := [.int v1]) (rest := []) (k9 := 0) rfl rfl ⟨⟨rfl, rfl⟩, Nat.le_of_ble_eq_true rfl, Nat.le_of_ble_eq_true rfl⟩ rfl ⟨(Nat.le_of_ble_eq_true rfl), (Nat.le_of_ble_eq_true rfl)⟩ (Nat.le_of_ble_eq_true rfl) rfl rfl (List.nil_append _) dX4_shuffles_18 ?_
    refine w_if_eq (tgt := 28) C dX4_shuffles_21 (by decide) (fun hb4 => ?_) (fun hb4 => ?_)
    · have h := if_t hb4 h
      refine w_iconst (v := 0) C dX4_shuffles_28 (by decide) ?_
      cases h
      exact w_iret C ⟨rfl, rfl⟩ dX4_shuffles_29
    · have h := if_f hb4 h
      refine w_iconst (v := 1) C dX4_shuffles_24 (by decide) ?_
      refine w_goto (tgt := 29) C dX4_shuffles_25 (by decide) ?_
      cases h
      exact w_iret C ⟨rfl, rfl⟩ dX4_shuffles_29
  · have h := if_t hb2 h
    refine w_iconst (v := (-1)) C dX4_shuffles_12 (by decide) ?_
    refine w_goto (tgt := 29) C dX4_shuffles_13 (by decide) ?_
    cases h
    exact w_iret C ⟨rfl, rfl⟩ dX4_shuffles_29
theorem c_X4_shuffles {l : Launch} {G : GG} {ma : Nat → Nat} {th : Int32} {tr : Int64} {kq : Int32} {kp : Int32} {su : Nat → Int32} {pr : Nat → Int32} {ms : Nat → Int32} {ro : Nat → Int32} {be : Nat → Int32} {di : Nat → Int32} (fu : Nat) {v1 : Int32} {r : Int32 × Int32} (h : X4_shuffles fu th kq ms v1 = some r) : Ct l yX4_shuffles cX4_shuffles 2 ((some .int)) G rm_X4_shuffles [.ref (ma 0), .int v1] (mw G ma th tr kq kp su pr ms ro be di) (fun o w => o = some (.int r.1) ∧ w = (mw G ma r.2 tr kq kp su pr ms ro be di)) 0 0 := Ct.of (by decide) (Nat.le_of_ble_eq_true rfl) (fun p e s m args below meth c A C _ => w_X4_shuffles C h)
abbrev rm_X4_fails : Room := { frames := 2, cells := 0, slots := 0, locals := 46 }
theorem pk_X4_fails : PkV RX4 yX4_fails cX4_fails 5 ((some .int)) 1 := ⟨rfl, co_X4_fails, ini_RX4, im_X4_fails, se_X4_fails, by decide +kernel⟩
set_option maxRecDepth 20000 in
set_option maxHeartbeats 4000000 in
theorem w_X4_fails_113 {ma : Nat → Nat} {tr : Int64} {kp : Int32} {ro : Nat → Int32} {be : Nat → Int32} {di : Nat → Int32} {fu : Nat} {rc85 : Int32 → Int32 → Option (Int32 × Int32)} {th : Int32} {kq : Int32} {su : Nat → Int32} {pr : Nat → Int32} {ms : Nat → Int32} {s0 : Int32} {s1 : Int32} {v1 : Int32} {v3 : Int32} {r : Int32 × Int32} (C : Cx p s m args meth c G A RX4 cX4_fails 5 ((some .int)))  (hrc85 : ∀ (v2 : Int32) (v3 : Int32), rc85 v2 v3 = some r → Wd p l e rm_X4_fails s m args below meth c G A 5 0 0 (QQ G A (fun o w => o = some (.int r.1) ∧ w = (mw G ma r.2 tr kq kp su pr ms ro be di)) below args s 0 0) (mw G ma th tr kq kp su pr ms ro be di) [(0, .ref (ma 0)), (1, .int v1), (2, .int v2), (3, .int v3)] 85 []) (h : X4_fails_113 fu rc85 th kq su pr ms s0 s1 v1 v3 = some r) : Wd p l e rm_X4_fails s m args below meth c G A 5 0 0 (QQ G A (fun o w => o = some (.int r.1) ∧ w = (mw G ma r.2 tr kq kp su pr ms ro be di)) below args s 0 0) (mw G ma th tr kq kp su pr ms ro be di) [(0, .ref (ma 0)), (1, .int v1), (3, .int v3)] 113 [.int s0, .int s1] := by
  unfold X4_fails_113 at h
  refine w_iadd C dX4_fails_113 ?_
  refine w_istore_n C (Nat.le_of_ble_eq_true rfl) rfl dX4_fails_114 ?_
  refine w_iinc (v := v3 + 1) (k := 3) C rfl rfl (Nat.le_of_ble_eq_true rfl) rfl dX4_fails_115 ?_
  refine w_goto (tgt := 85) C dX4_fails_118 (by decide) ?_
  refine w_lv [2, 3, 1, 0] rfl ?_
  exact hrc85 _ _ h
set_option maxRecDepth 20000 in
set_option maxHeartbeats 4000000 in
theorem w_X4_fails_85 {ma : Nat → Nat} {tr : Int64} {kp : Int32} {ro : Nat → Int32} {be : Nat → Int32} {di : Nat → Int32} {th : Int32} {kq : Int32} {su : Nat → Int32} {pr : Nat → Int32} {ms : Nat → Int32} {v1 : Int32} {fu : Nat}  {r : Int32 × Int32} (C : Cx p s m args meth c G A RX4 cX4_fails 5 ((some .int)))   : ∀ (fk : Nat) (v2 : Int32) (v3 : Int32), X4_fails_85 fu  th kq su pr ms v1 fk v2 v3 = some r → Wd p l e rm_X4_fails s m args below meth c G A 5 0 0 (QQ G A (fun o w => o = some (.int r.1) ∧ w = (mw G ma r.2 tr kq kp su pr ms ro be di)) below args s 0 0) (mw G ma th tr kq kp su pr ms ro be di) [(0, .ref (ma 0)), (1, .int v1), (2, .int v2), (3, .int v3)] 85 [] := by
  intro fk
  induction fk with
  | zero =>
    intro v2 v3 h
    have h : (none : Option (Int32 × Int32)) = some r := h
    cases h
  | succ fk ih =>
    intro v2 v3 h
    have h : X4_fails_85_b fu  th kq su pr ms v1 (X4_fails_85 fu  th kq su pr ms v1 fk) v2 v3 = some r := h
    unfold X4_fails_85_b at h
    refine w_iload_n C 3 rfl dX4_fails_85 ?_
    refine w_aload_n C 0 rfl dX4_fails_86 ?_
    refine gt_X4_39 C dX4_fails_87 ?_
    refine w_icmp_ge (tgt := 121) C dX4_fails_90 (by decide) (fun hb4 => ?_) (fun hb4 => ?_)
    · have h := if_t hb4 h
      refine w_iload_n C 2 rfl dX4_fails_121 ?_
      refine w_iconst (v := 1) C dX4_fails_122 (by decide) ?_
      refine w_icmp_ne (tgt := 130) C dX4_fails_123 (by decide) (fun hb5 => ?_) (fun hb5 => ?_)
      · have h := if_f hb5 h
        refine w_aload_n C 0 rfl dX4_fails_130 ?_
        refine gt_X4_39 C dX4_fails_131 ?_
        refine w_iconst (v := 1) C dX4_fails_134 (by decide) ?_
        refine w_isub C dX4_fails_135 ?_
        cases h
        exact w_iret C ⟨rfl, rfl⟩ dX4_fails_136
      · have h := if_t hb5 h
        refine w_iconst (v := 0) C dX4_fails_126 (by decide) ?_
        refine w_goto (tgt := 136) C dX4_fails_127 (by decide) ?_
        cases h
        exact w_iret C ⟨rfl, rfl⟩ dX4_fails_136
    · have h := if_f hb4 h
      refine w_iload_n C 2 rfl dX4_fails_93 ?_
      refine w_aload_n C 0 rfl dX4_fails_94 ?_
      refine gt_X4_16 C dX4_fails_95 ?_
      refine w_bipush (v := 16) C dX4_fails_98 (by decide) ?_
      refine w_iload_n C 1 rfl dX4_fails_100 ?_
      refine w_imul C dX4_fails_101 ?_
      refine w_iload_n C 3 rfl dX4_fails_102 ?_
      refine w_iadd C dX4_fails_103 ?_
      obtain ⟨hi6, h⟩ := ckI_some h
      refine ld_ms C hi6 dX4_fails_104 ?_
      refine w_if_ne (tgt := 112) C dX4_fails_105 (by decide) (fun hb7 => ?_) (fun hb7 => ?_)
      · have h := if_f hb7 h
        refine w_iconst (v := 0) C dX4_fails_112 (by decide) ?_
        refine w_lv [0, 1, 3] rfl ?_
        exact w_X4_fails_113 C   ih h
      · have h := if_t hb7 h
        refine w_iconst (v := 1) C dX4_fails_108 (by decide) ?_
        refine w_goto (tgt := 113) C dX4_fails_109 (by decide) ?_
        refine w_lv [0, 1, 3] rfl ?_
        exact w_X4_fails_113 C   ih h
set_option maxRecDepth 20000 in
set_option maxHeartbeats 4000000 in
theorem w_X4_fails_31 {ma : Nat → Nat} {tr : Int64} {kp : Int32} {ro : Nat → Int32} {be : Nat → Int32} {di : Nat → Int32} {th : Int32} {kq : Int32} {su : Nat → Int32} {pr : Nat → Int32} {ms : Nat → Int32} {v1 : Int32} {v2 : Int32} {fu : Nat} {rc16 : Int32 → Option (Int32 × Int32)} {r : Int32 × Int32} (C : Cx p s m args meth c G A RX4 cX4_fails 5 ((some .int)))  (hrc16 : ∀ (v2 : Int32), rc16 v2 = some r → Wd p l e rm_X4_fails s m args below meth c G A 5 0 0 (QQ G A (fun o w => o = some (.int r.1) ∧ w = (mw G ma r.2 tr kq kp su pr ms ro be di)) below args s 0 0) (mw G ma th tr kq kp su pr ms ro be di) [(0, .ref (ma 0)), (1, .int v1), (2, .int v2)] 16 []) : ∀ (fk : Nat) (v3 : Int32) (v4 : Int32), X4_fails_31 fu rc16 th kq su pr ms v1 v2 fk v3 v4 = some r → Wd p l e rm_X4_fails s m args below meth c G A 5 0 0 (QQ G A (fun o w => o = some (.int r.1) ∧ w = (mw G ma r.2 tr kq kp su pr ms ro be di)) below args s 0 0) (mw G ma th tr kq kp su pr ms ro be di) [(0, .ref (ma 0)), (1, .int v1), (2, .int v2), (3, .int v3), (4, .int v4)] 31 [] := by
  intro fk
  induction fk with
  | zero =>
    intro v3 v4 h
    have h : (none : Option (Int32 × Int32)) = some r := h
    cases h
  | succ fk ih =>
    intro v3 v4 h
    have h : X4_fails_31_b fu rc16 th kq su pr ms v1 v2 (X4_fails_31 fu rc16 th kq su pr ms v1 v2 fk) v3 v4 = some r := h
    unfold X4_fails_31_b at h
    refine w_iload C 4 rfl dX4_fails_31 ?_
    refine w_aload_n C 0 rfl dX4_fails_33 ?_
    refine gt_X4_39 C dX4_fails_34 ?_
    refine w_icmp_ge (tgt := 69) C dX4_fails_37 (by decide) (fun hb8 => ?_) (fun hb8 => ?_)
    · have h := if_t hb8 h
      refine w_iload_n C 3 rfl dX4_fails_69 ?_
      refine w_if_eq (tgt := 75) C dX4_fails_70 (by decide) (fun hb9 => ?_) (fun hb9 => ?_)
      · have h := if_t hb9 h
        refine w_iinc (v := v2 + 1) (k := 2) C rfl rfl (Nat.le_of_ble_eq_true rfl) rfl dX4_fails_75 ?_
        refine w_goto (tgt := 16) C dX4_fails_78 (by decide) ?_
        refine w_lv [1, 2, 0] rfl ?_
        exact hrc16 _ h
      · have h := if_f hb9 h
        refine w_iload_n C 2 rfl dX4_fails_73 ?_
        cases h
        exact w_iret C ⟨rfl, rfl⟩ dX4_fails_74
    · have h := if_f hb8 h
      refine w_aload_n C 0 rfl dX4_fails_40 ?_
      refine w_iload_n C 3 rfl dX4_fails_41 ?_
      refine w_aload_n C 0 rfl dX4_fails_42 ?_
      refine w_aload_n C 0 rfl dX4_fails_43 ?_
      refine gt_X4_16 C dX4_fails_44 ?_
      refine w_bipush (v := 16) C dX4_fails_47 (by decide) ?_
      refine w_iload_n C 1 rfl dX4_fails_49 ?_
      refine w_imul C dX4_fails_50 ?_
      refine w_iload C 4 rfl dX4_fails_51 ?_
      refine w_iadd C dX4_fails_53 ?_
      obtain ⟨hi10, h⟩ := ckI_some h
      refine ld_ms C hi10 dX4_fails_54 ?_
      refine w_iload_n C 2 rfl dX4_fails_55 ?_
      obtain ⟨x11, hx11, h⟩ := bd_some h
      refine w_cVi (wr := []) (qc := (RX4, TX4, 10)) C (c_X4_power fu  hx11) pk_X4_power ml_X4_66 (As := [.int (ms ((16 * v1) + v4).toNatClampNeg), .int v2]) (rest := [.int v3, .ref (ma 0)]) (k9 := 0) rfl rfl ⟨⟨rfl, rfl⟩, Nat.le_of_ble_eq_true rfl, Nat.le_of_ble_eq_true rfl⟩ rfl ⟨(Nat.le_of_ble_eq_true rfl), (Nat.le_of_ble_eq_true rfl)⟩ (Nat.le_of_ble_eq_true rfl) rfl rfl (List.nil_append _) dX4_fails_56 ?_
      obtain ⟨x12, hx12, h⟩ := bd_some h
      refine w_cVi (wr := []) (qc := (RX4, TX4, 10)) C (c_X4_add fu  hx12) pk_X4_add ml_X4_49 (As := [.int v3, .int x11]) (rest := []) (k9 := 0) rfl rfl ⟨⟨rfl, rfl⟩, Nat.le_of_ble_eq_true rfl, Nat.le_of_ble_eq_true rfl⟩ rfl ⟨(Nat.le_of_ble_eq_true rfl), (Nat.le_of_ble_eq_true rfl)⟩ (Nat.le_of_ble_eq_true rfl) rfl rfl (List.nil_append _) dX4_fails_59 ?_
      refine w_istore_n C (Nat.le_of_ble_eq_true rfl) rfl dX4_fails_62 ?_
      refine w_iinc (v := v4 + 1) (k := 4) C rfl rfl (Nat.le_of_ble_eq_true rfl) rfl dX4_fails_63 ?_
      refine w_goto (tgt := 31) C dX4_fails_66 (by decide) ?_
      refine w_lv [2, 3, 4, 1, 0] rfl ?_
      exact ih _ _ h
set_option maxRecDepth 20000 in
set_option maxHeartbeats 4000000 in
theorem w_X4_fails_16 {ma : Nat → Nat} {tr : Int64} {kp : Int32} {ro : Nat → Int32} {be : Nat → Int32} {di : Nat → Int32} {th : Int32} {kq : Int32} {su : Nat → Int32} {pr : Nat → Int32} {ms : Nat → Int32} {v1 : Int32} {fu : Nat}  {r : Int32 × Int32} (C : Cx p s m args meth c G A RX4 cX4_fails 5 ((some .int)))   : ∀ (fk : Nat) (v2 : Int32), X4_fails_16 fu  th kq su pr ms v1 fk v2 = some r → Wd p l e rm_X4_fails s m args below meth c G A 5 0 0 (QQ G A (fun o w => o = some (.int r.1) ∧ w = (mw G ma r.2 tr kq kp su pr ms ro be di)) below args s 0 0) (mw G ma th tr kq kp su pr ms ro be di) [(0, .ref (ma 0)), (1, .int v1), (2, .int v2)] 16 [] := by
  intro fk
  induction fk with
  | zero =>
    intro v2 h
    have h : (none : Option (Int32 × Int32)) = some r := h
    cases h
  | succ fk ih =>
    intro v2 h
    have h : X4_fails_16_b fu  th kq su pr ms v1 (X4_fails_16 fu  th kq su pr ms v1 fk) v2 = some r := h
    unfold X4_fails_16_b at h
    refine w_iload_n C 2 rfl dX4_fails_16 ?_
    refine w_aload_n C 0 rfl dX4_fails_17 ?_
    refine gt_X4_39 C dX4_fails_18 ?_
    refine w_iconst (v := 1) C dX4_fails_21 (by decide) ?_
    refine w_isub C dX4_fails_22 ?_
    refine w_icmp_ge (tgt := 81) C dX4_fails_23 (by decide) (fun hb3 => ?_) (fun hb3 => ?_)
    · have h := if_t hb3 h
      refine w_iconst (v := 0) C dX4_fails_81 (by decide) ?_
      refine w_istore_n C (Nat.le_of_ble_eq_true rfl) rfl dX4_fails_82 ?_
      refine w_iconst (v := 0) C dX4_fails_83 (by decide) ?_
      refine w_istore_n C (Nat.le_of_ble_eq_true rfl) rfl dX4_fails_84 ?_
      refine w_lv [2, 3, 1, 0] rfl ?_
      exact w_X4_fails_85 C    _ _ _ h
    · have h := if_f hb3 h
      refine w_iconst (v := 0) C dX4_fails_26 (by decide) ?_
      refine w_istore_n C (Nat.le_of_ble_eq_true rfl) rfl dX4_fails_27 ?_
      refine w_iconst (v := 0) C dX4_fails_28 (by decide) ?_
      refine w_istore C (Nat.le_of_ble_eq_true rfl) rfl dX4_fails_29 ?_
      refine w_lv [2, 3, 4, 1, 0] rfl ?_
      exact w_X4_fails_31 C   ih _ _ _ h
set_option maxRecDepth 20000 in
set_option maxHeartbeats 4000000 in
theorem w_X4_fails {ma : Nat → Nat} {tr : Int64} {kp : Int32} {ro : Nat → Int32} {be : Nat → Int32} {di : Nat → Int32} {fu : Nat}  {th : Int32} {kq : Int32} {su : Nat → Int32} {pr : Nat → Int32} {ms : Nat → Int32} {v1 : Int32} {r : Int32 × Int32} (C : Cx p s m args meth c G A RX4 cX4_fails 5 ((some .int)))   (h : X4_fails fu  th kq su pr ms v1 = some r) : Wd p l e rm_X4_fails s m args below meth c G A 5 0 0 (QQ G A (fun o w => o = some (.int r.1) ∧ w = (mw G ma r.2 tr kq kp su pr ms ro be di)) below args s 0 0) (mw G ma th tr kq kp su pr ms ro be di) [(0, .ref (ma 0)), (1, .int v1)] 0 [] := by
  unfold X4_fails at h
  refine w_aload_n C 0 rfl dX4_fails_0 ?_
  refine w_iconst (v := 0) C dX4_fails_1 (by decide) ?_
  refine pt_X4_32 C dX4_fails_2 ?_
  refine w_iload_n C 1 rfl dX4_fails_5 ?_
  obtain ⟨x1, hx1, h⟩ := bd_some h
  refine w_cSi C (c_X4_isMap fu  hx1) pk_X4_isMap ml_X4_63 (As := [.int v1]) (rest := []) ⟨⟨rfl, rfl⟩, Nat.le_of_ble_eq_true rfl, Nat.le_of_ble_eq_true rfl⟩ rfl ⟨(Nat.le_of_ble_eq_true rfl), (Nat.le_of_ble_eq_true rfl)⟩ (Nat.le_of_ble_eq_true rfl) rfl (List.append_nil _).symm (List.append_nil _) dX4_fails_6 ?_
  refine w_if_ne (tgt := 14) C dX4_fails_9 (by decide) (fun hb2 => ?_) (fun hb2 => ?_)
  · have h := if_f hb2 h
    refine w_iconst (v := 1) C dX4_fails_14 (by decide) ?_
    refine w_istore_n C (Nat.le_of_ble_eq_true rfl) rfl dX4_fails_15 ?_
    refine w_lv [1, 2, 0] rfl ?_
    exact w_X4_fails_16 C    _ _ h
  · have h := if_t hb2 h
    refine w_iconst (v := (-1)) C dX4_fails_12 (by decide) ?_
    cases h
    exact w_iret C ⟨rfl, rfl⟩ dX4_fails_13
theorem c_X4_fails {l : Launch} {G : GG} {ma : Nat → Nat} {th : Int32} {tr : Int64} {kq : Int32} {kp : Int32} {su : Nat → Int32} {pr : Nat → Int32} {ms : Nat → Int32} {ro : Nat → Int32} {be : Nat → Int32} {di : Nat → Int32} (fu : Nat) {v1 : Int32} {r : Int32 × Int32} (h : X4_fails fu th kq su pr ms v1 = some r) : Ct l yX4_fails cX4_fails 5 ((some .int)) G rm_X4_fails [.ref (ma 0), .int v1] (mw G ma th tr kq kp su pr ms ro be di) (fun o w => o = some (.int r.1) ∧ w = (mw G ma r.2 tr kq kp su pr ms ro be di)) 0 0 := Ct.of (by decide) (Nat.le_of_ble_eq_true rfl) (fun p e s m args below meth c A C _ => w_X4_fails C h)
abbrev rm_X4_image : Room := { frames := 2, cells := 0, slots := 0, locals := 42 }
theorem pk_X4_image : PkV RX4 yX4_image cX4_image 2 ((some .int)) 1 := ⟨rfl, co_X4_image, ini_RX4, im_X4_image, se_X4_image, by decide +kernel⟩
set_option maxRecDepth 20000 in
set_option maxHeartbeats 4000000 in
theorem w_X4_image {ma : Nat → Nat} {tr : Int64} {kp : Int32} {su : Nat → Int32} {pr : Nat → Int32} {ro : Nat → Int32} {be : Nat → Int32} {di : Nat → Int32} {fu : Nat}  {th : Int32} {kq : Int32} {ms : Nat → Int32} {v1 : Int32} {r : Int32 × Int32} (C : Cx p s m args meth c G A RX4 cX4_image 2 ((some .int)))   (h : X4_image fu  th kq ms v1 = some r) : Wd p l e rm_X4_image s m args below meth c G A 2 0 0 (QQ G A (fun o w => o = some (.int r.1) ∧ w = (mw G ma r.2 tr kq kp su pr ms ro be di)) below args s 0 0) (mw G ma th tr kq kp su pr ms ro be di) [(0, .ref (ma 0)), (1, .int v1)] 0 [] := by
  unfold X4_image at h
  refine w_aload_n C 0 rfl dX4_image_0 ?_
  refine w_iconst (v := 0) C dX4_image_1 (by decide) ?_
  refine pt_X4_32 C dX4_image_2 ?_
  refine w_iload_n C 1 rfl dX4_image_5 ?_
  obtain ⟨x1, hx1, h⟩ := bd_some h
  refine w_cSi C (c_X4_isMap fu  hx1) pk_X4_isMap ml_X4_63 (As := [.int v1]) (rest := []) ⟨⟨rfl, rfl⟩, Nat.le_of_ble_eq_true rfl, Nat.le_of_ble_eq_true rfl⟩ rfl ⟨(Nat.le_of_ble_eq_true rfl), (Nat.le_of_ble_eq_true rfl)⟩ (Nat.le_of_ble_eq_true rfl) rfl (List.append_nil _).symm (List.append_nil _) dX4_image_6 ?_
  refine w_if_eq (tgt := 20) C dX4_image_9 (by decide) (fun hb2 => ?_) (fun hb2 => ?_)
  · have h := if_t hb2 h
    refine w_iconst (v := (-1)) C dX4_image_20 (by decide) ?_
    cases h
    exact w_iret C ⟨rfl, rfl⟩ dX4_image_21
  · have h := if_f hb2 h
    refine w_aload_n C 0 rfl dX4_image_12 ?_
    refine w_iload_n C 1 rfl dX4_image_13 ?_
    obtain ⟨x3, hx3, h⟩ := bd_some h
    refine w_cVi (wr := []) (qc := (RX4, TX4, 10)) C (c_X4_imageOf fu  hx3) pk_X4_imageOf ml_X4_99 (As := [.int v1]) (rest := []) (k9 := 0) rfl rfl ⟨⟨rfl, rfl⟩, Nat.le_of_ble_eq_true rfl, Nat.le_of_ble_eq_true rfl⟩ rfl ⟨(Nat.le_of_ble_eq_true rfl), (Nat.le_of_ble_eq_true rfl)⟩ (Nat.le_of_ble_eq_true rfl) rfl rfl (List.nil_append _) dX4_image_14 ?_
    refine w_goto (tgt := 21) C dX4_image_17 (by decide) ?_
    cases h
    exact w_iret C ⟨rfl, rfl⟩ dX4_image_21
theorem c_X4_image {l : Launch} {G : GG} {ma : Nat → Nat} {th : Int32} {tr : Int64} {kq : Int32} {kp : Int32} {su : Nat → Int32} {pr : Nat → Int32} {ms : Nat → Int32} {ro : Nat → Int32} {be : Nat → Int32} {di : Nat → Int32} (fu : Nat) {v1 : Int32} {r : Int32 × Int32} (h : X4_image fu th kq ms v1 = some r) : Ct l yX4_image cX4_image 2 ((some .int)) G rm_X4_image [.ref (ma 0), .int v1] (mw G ma th tr kq kp su pr ms ro be di) (fun o w => o = some (.int r.1) ∧ w = (mw G ma r.2 tr kq kp su pr ms ro be di)) 0 0 := Ct.of (by decide) (Nat.le_of_ble_eq_true rfl) (fun p e s m args below meth c A C _ => w_X4_image C h)
abbrev rm_X4_turn : Room := { frames := 2, cells := 0, slots := 0, locals := 45 }
theorem pk_X4_turn : PkV RX4 yX4_turn cX4_turn 3 ((some .int)) 1 := ⟨rfl, co_X4_turn, ini_RX4, im_X4_turn, se_X4_turn, by decide +kernel⟩
set_option maxRecDepth 20000 in
set_option maxHeartbeats 4000000 in
theorem w_X4_turn_27 {ma : Nat → Nat} {tr : Int64} {kp : Int32} {su : Nat → Int32} {pr : Nat → Int32} {be : Nat → Int32} {di : Nat → Int32} {th : Int32} {kq : Int32} {ms : Nat → Int32} {v1 : Int32} {fu : Nat}  {r : Int32 × Int32 × (Nat → Int32) × (Nat → Int32)} (C : Cx p s m args meth c G A RX4 cX4_turn 3 ((some .int)))   : ∀ (fk : Nat) (ro : Nat → Int32) (v2 : Int32), X4_turn_27 fu  th kq ms v1 fk ro v2 = some r → Wd p l e rm_X4_turn s m args below meth c G A 3 0 0 (QQ G A (fun o w => o = some (.int r.1) ∧ w = (mw G ma r.2.1 tr kq kp su pr r.2.2.1 r.2.2.2 be di)) below args s 0 0) (mw G ma th tr kq kp su pr ms ro be di) [(0, .ref (ma 0)), (1, .int v1), (2, .int v2)] 27 [] := by
  intro fk
  induction fk with
  | zero =>
    intro ro v2 h
    have h : (none : Option (Int32 × Int32 × (Nat → Int32) × (Nat → Int32))) = some r := h
    cases h
  | succ fk ih =>
    intro ro v2 h
    have h : X4_turn_27_b fu  th kq ms v1 (X4_turn_27 fu  th kq ms v1 fk) ro v2 = some r := h
    unfold X4_turn_27_b at h
    refine w_iload_n C 2 rfl dX4_turn_27 ?_
    refine w_aload_n C 0 rfl dX4_turn_28 ?_
    refine gt_X4_39 C dX4_turn_29 ?_
    refine w_icmp_ge (tgt := 58) C dX4_turn_32 (by decide) (fun hb5 => ?_) (fun hb5 => ?_)
    · have h := if_t hb5 h
      refine w_aload_n C 0 rfl dX4_turn_58 ?_
      refine w_iload_n C 1 rfl dX4_turn_59 ?_
      obtain ⟨x6, hx6, h⟩ := bd_some h
      refine w_cVv (wr := []) (qc := (RX4, TX4, 10)) C (c_X4_lays fu  hx6) pk_X4_lays ml_X4_96 (As := [.int v1]) (rest := []) (k9 := 0) rfl rfl ⟨⟨rfl, rfl⟩, Nat.le_of_ble_eq_true rfl, Nat.le_of_ble_eq_true rfl⟩ rfl ⟨(Nat.le_of_ble_eq_true rfl), (Nat.le_of_ble_eq_true rfl)⟩ (Nat.le_of_ble_eq_true rfl) rfl rfl (List.nil_append _) dX4_turn_60 ?_
      refine w_iconst (v := 1) C dX4_turn_63 (by decide) ?_
      cases h
      exact w_iret C ⟨rfl, rfl⟩ dX4_turn_64
    · have h := if_f hb5 h
      refine w_aload_n C 0 rfl dX4_turn_35 ?_
      refine gt_X4_19 C dX4_turn_36 ?_
      refine w_aload_n C 0 rfl dX4_turn_39 ?_
      refine gt_X4_16 C dX4_turn_40 ?_
      refine w_bipush (v := 16) C dX4_turn_43 (by decide) ?_
      refine w_iload_n C 1 rfl dX4_turn_45 ?_
      refine w_imul C dX4_turn_46 ?_
      refine w_iload_n C 2 rfl dX4_turn_47 ?_
      refine w_iadd C dX4_turn_48 ?_
      obtain ⟨hi7, h⟩ := ckI_some h
      refine ld_ms C hi7 dX4_turn_49 ?_
      refine w_iload_n C 2 rfl dX4_turn_50 ?_
      obtain ⟨hi8, h⟩ := ckI_some h
      refine sr_ro C hi8 dX4_turn_51 ?_
      refine w_iinc (v := v2 + 1) (k := 2) C rfl rfl (Nat.le_of_ble_eq_true rfl) rfl dX4_turn_52 ?_
      refine w_goto (tgt := 27) C dX4_turn_55 (by decide) ?_
      refine w_lv [1, 2, 0] rfl ?_
      exact ih _ _ h
set_option maxRecDepth 20000 in
set_option maxHeartbeats 4000000 in
theorem w_X4_turn {ma : Nat → Nat} {tr : Int64} {kp : Int32} {su : Nat → Int32} {pr : Nat → Int32} {be : Nat → Int32} {di : Nat → Int32} {fu : Nat}  {th : Int32} {kq : Int32} {ms : Nat → Int32} {ro : Nat → Int32} {v1 : Int32} {r : Int32 × Int32 × (Nat → Int32) × (Nat → Int32)} (C : Cx p s m args meth c G A RX4 cX4_turn 3 ((some .int)))   (h : X4_turn fu  th kq ms ro v1 = some r) : Wd p l e rm_X4_turn s m args below meth c G A 3 0 0 (QQ G A (fun o w => o = some (.int r.1) ∧ w = (mw G ma r.2.1 tr kq kp su pr r.2.2.1 r.2.2.2 be di)) below args s 0 0) (mw G ma th tr kq kp su pr ms ro be di) [(0, .ref (ma 0)), (1, .int v1)] 0 [] := by
  unfold X4_turn at h
  refine w_aload_n C 0 rfl dX4_turn_0 ?_
  refine w_iconst (v := 0) C dX4_turn_1 (by decide) ?_
  refine pt_X4_32 C dX4_turn_2 ?_
  refine w_iload_n C 1 rfl dX4_turn_5 ?_
  obtain ⟨x1, hx1, h⟩ := bd_some h
  refine w_cSi C (c_X4_isMap fu  hx1) pk_X4_isMap ml_X4_63 (As := [.int v1]) (rest := []) ⟨⟨rfl, rfl⟩, Nat.le_of_ble_eq_true rfl, Nat.le_of_ble_eq_true rfl⟩ rfl ⟨(Nat.le_of_ble_eq_true rfl), (Nat.le_of_ble_eq_true rfl)⟩ (Nat.le_of_ble_eq_true rfl) rfl (List.append_nil _).symm (List.append_nil _) dX4_turn_6 ?_
  refine w_if_ne (tgt := 14) C dX4_turn_9 (by decide) (fun hb2 => ?_) (fun hb2 => ?_)
  · have h := if_f hb2 h
    refine w_aload_n C 0 rfl dX4_turn_14 ?_
    refine w_iload_n C 1 rfl dX4_turn_15 ?_
    obtain ⟨x3, hx3, h⟩ := bd_some h
    refine w_cVi (wr := []) (qc := (RX4, TX4, 10)) C (c_X4_isShuffle fu  hx3) pk_X4_isShuffle ml_X4_102 (As := [.int v1]) (rest := []) (k9 := 0) rfl rfl ⟨⟨rfl, rfl⟩, Nat.le_of_ble_eq_true rfl, Nat.le_of_ble_eq_true rfl⟩ rfl ⟨(Nat.le_of_ble_eq_true rfl), (Nat.le_of_ble_eq_true rfl)⟩ (Nat.le_of_ble_eq_true rfl) rfl rfl (List.nil_append _) dX4_turn_16 ?_
    refine w_if_ne (tgt := 25) C dX4_turn_19 (by decide) (fun hb4 => ?_) (fun hb4 => ?_)
    · have h := if_f hb4 h
      refine w_iconst (v := 0) C dX4_turn_25 (by decide) ?_
      refine w_istore_n C (Nat.le_of_ble_eq_true rfl) rfl dX4_turn_26 ?_
      refine w_lv [1, 2, 0] rfl ?_
      exact w_X4_turn_27 C    _ _ _ h
    · have h := if_t hb4 h
      refine w_bipush (v := (-2)) C dX4_turn_22 (by decide) ?_
      cases h
      exact w_iret C ⟨rfl, rfl⟩ dX4_turn_24
  · have h := if_t hb2 h
    refine w_iconst (v := (-1)) C dX4_turn_12 (by decide) ?_
    cases h
    exact w_iret C ⟨rfl, rfl⟩ dX4_turn_13
theorem c_X4_turn {l : Launch} {G : GG} {ma : Nat → Nat} {th : Int32} {tr : Int64} {kq : Int32} {kp : Int32} {su : Nat → Int32} {pr : Nat → Int32} {ms : Nat → Int32} {ro : Nat → Int32} {be : Nat → Int32} {di : Nat → Int32} (fu : Nat) {v1 : Int32} {r : Int32 × Int32 × (Nat → Int32) × (Nat → Int32)} (h : X4_turn fu th kq ms ro v1 = some r) : Ct l yX4_turn cX4_turn 3 ((some .int)) G rm_X4_turn [.ref (ma 0), .int v1] (mw G ma th tr kq kp su pr ms ro be di) (fun o w => o = some (.int r.1) ∧ w = (mw G ma r.2.1 tr kq kp su pr r.2.2.1 r.2.2.2 be di)) 0 0 := Ct.of (by decide) (Nat.le_of_ble_eq_true rfl) (fun p e s m args below meth c A C _ => w_X4_turn C h)
abbrev rm_X4_order : Room := { frames := 2, cells := 0, slots := 0, locals := 45 }
theorem pk_X4_order : PkV RX4 yX4_order cX4_order 5 ((some .int)) 1 := ⟨rfl, co_X4_order, ini_RX4, im_X4_order, se_X4_order, by decide +kernel⟩
set_option maxRecDepth 20000 in
set_option maxHeartbeats 4000000 in
theorem w_X4_order_116 {ma : Nat → Nat} {tr : Int64} {kp : Int32} {su : Nat → Int32} {pr : Nat → Int32} {be : Nat → Int32} {di : Nat → Int32} {th : Int32} {kq : Int32} {ms : Nat → Int32} {v1 : Int32} {v2 : Int32} {v3 : Int32} {fu : Nat} {rc62 : (Nat → Int32) → Int32 → Int32 → Option (Int32 × Int32 × (Nat → Int32))} {r : Int32 × Int32 × (Nat → Int32)} (C : Cx p s m args meth c G A RX4 cX4_order 5 ((some .int)))  (hrc62 : ∀ (ro : Nat → Int32) (v2 : Int32) (v3 : Int32), rc62 ro v2 v3 = some r → Wd p l e rm_X4_order s m args below meth c G A 5 0 0 (QQ G A (fun o w => o = some (.int r.1) ∧ w = (mw G ma r.2.1 tr kq kp su pr ms r.2.2 be di)) below args s 0 0) (mw G ma th tr kq kp su pr ms ro be di) [(0, .ref (ma 0)), (1, .int v1), (2, .int v2), (3, .int v3)] 62 []) : ∀ (fk : Nat) (ro : Nat → Int32) (v4 : Int32), X4_order_116 fu rc62 th kq ms v1 v2 v3 fk ro v4 = some r → Wd p l e rm_X4_order s m args below meth c G A 5 0 0 (QQ G A (fun o w => o = some (.int r.1) ∧ w = (mw G ma r.2.1 tr kq kp su pr ms r.2.2 be di)) below args s 0 0) (mw G ma th tr kq kp su pr ms ro be di) [(0, .ref (ma 0)), (1, .int v1), (2, .int v2), (3, .int v3), (4, .int v4)] 116 [] := by
  intro fk
  induction fk with
  | zero =>
    intro ro v4 h
    have h : (none : Option (Int32 × Int32 × (Nat → Int32))) = some r := h
    cases h
  | succ fk ih =>
    intro ro v4 h
    have h : X4_order_116_b fu rc62 th kq ms v1 v2 v3 (X4_order_116 fu rc62 th kq ms v1 v2 v3 fk) ro v4 = some r := h
    unfold X4_order_116_b at h
    refine w_iload C 4 rfl dX4_order_116 ?_
    refine w_aload_n C 0 rfl dX4_order_118 ?_
    refine gt_X4_39 C dX4_order_119 ?_
    refine w_icmp_ge (tgt := 155) C dX4_order_122 (by decide) (fun hb9 => ?_) (fun hb9 => ?_)
    · have h := if_t hb9 h
      refine w_goto (tgt := 62) C dX4_order_155 (by decide) ?_
      refine w_lv [0, 1, 2, 3] rfl ?_
      exact hrc62 _ _ _ h
    · have h := if_f hb9 h
      refine w_aload_n C 0 rfl dX4_order_125 ?_
      refine gt_X4_19 C dX4_order_126 ?_
      refine w_iload C 4 rfl dX4_order_129 ?_
      refine w_aload_n C 0 rfl dX4_order_131 ?_
      refine gt_X4_16 C dX4_order_132 ?_
      refine w_bipush (v := 16) C dX4_order_135 (by decide) ?_
      refine w_iload_n C 1 rfl dX4_order_137 ?_
      refine w_imul C dX4_order_138 ?_
      refine w_aload_n C 0 rfl dX4_order_139 ?_
      refine gt_X4_19 C dX4_order_140 ?_
      refine w_iload C 4 rfl dX4_order_143 ?_
      obtain ⟨hi10, h⟩ := ckI_some h
      refine ld_ro C hi10 dX4_order_145 ?_
      refine w_iadd C dX4_order_146 ?_
      obtain ⟨hi11, h⟩ := ckI_some h
      refine ld_ms C hi11 dX4_order_147 ?_
      obtain ⟨hi12, h⟩ := ckI_some h
      refine sr_ro C hi12 dX4_order_148 ?_
      refine w_iinc (v := v4 + 1) (k := 4) C rfl rfl (Nat.le_of_ble_eq_true rfl) rfl dX4_order_149 ?_
      refine w_goto (tgt := 116) C dX4_order_152 (by decide) ?_
      refine w_lv [1, 2, 3, 4, 0] rfl ?_
      exact ih _ _ h
set_option maxRecDepth 20000 in
set_option maxHeartbeats 4000000 in
theorem w_X4_order_98 {ma : Nat → Nat} {tr : Int64} {kp : Int32} {su : Nat → Int32} {pr : Nat → Int32} {be : Nat → Int32} {di : Nat → Int32} {fu : Nat} {rc62 : (Nat → Int32) → Int32 → Int32 → Option (Int32 × Int32 × (Nat → Int32))} {rc71 : Int32 → Int32 → Option (Int32 × Int32 × (Nat → Int32))} {th : Int32} {kq : Int32} {ms : Nat → Int32} {ro : Nat → Int32} {s0 : Int32} {s1 : Int32} {v1 : Int32} {v2 : Int32} {v4 : Int32} {r : Int32 × Int32 × (Nat → Int32)} (C : Cx p s m args meth c G A RX4 cX4_order 5 ((some .int)))  (hrc62 : ∀ (ro : Nat → Int32) (v2 : Int32) (v3 : Int32), rc62 ro v2 v3 = some r → Wd p l e rm_X4_order s m args below meth c G A 5 0 0 (QQ G A (fun o w => o = some (.int r.1) ∧ w = (mw G ma r.2.1 tr kq kp su pr ms r.2.2 be di)) below args s 0 0) (mw G ma th tr kq kp su pr ms ro be di) [(0, .ref (ma 0)), (1, .int v1), (2, .int v2), (3, .int v3)] 62 []) (hrc71 : ∀ (v3 : Int32) (v4 : Int32), rc71 v3 v4 = some r → Wd p l e rm_X4_order s m args below meth c G A 5 0 0 (QQ G A (fun o w => o = some (.int r.1) ∧ w = (mw G ma r.2.1 tr kq kp su pr ms r.2.2 be di)) below args s 0 0) (mw G ma th tr kq kp su pr ms ro be di) [(0, .ref (ma 0)), (1, .int v1), (2, .int v2), (3, .int v3), (4, .int v4)] 71 []) (h : X4_order_98 fu rc62 rc71 th kq ms ro s0 s1 v1 v2 v4 = some r) : Wd p l e rm_X4_order s m args below meth c G A 5 0 0 (QQ G A (fun o w => o = some (.int r.1) ∧ w = (mw G ma r.2.1 tr kq kp su pr ms r.2.2 be di)) below args s 0 0) (mw G ma th tr kq kp su pr ms ro be di) [(0, .ref (ma 0)), (1, .int v1), (2, .int v2), (4, .int v4)] 98 [.int s0, .int s1] := by
  unfold X4_order_98 at h
  refine w_iand C dX4_order_98 ?_
  refine w_istore_n C (Nat.le_of_ble_eq_true rfl) rfl dX4_order_99 ?_
  refine w_iinc (v := v4 + 1) (k := 4) C rfl rfl (Nat.le_of_ble_eq_true rfl) rfl dX4_order_100 ?_
  refine w_goto (tgt := 71) C dX4_order_103 (by decide) ?_
  refine w_lv [2, 3, 4, 1, 0] rfl ?_
  exact hrc71 _ _ h
set_option maxRecDepth 20000 in
set_option maxHeartbeats 4000000 in
theorem w_X4_order_71 {ma : Nat → Nat} {tr : Int64} {kp : Int32} {su : Nat → Int32} {pr : Nat → Int32} {be : Nat → Int32} {di : Nat → Int32} {th : Int32} {kq : Int32} {ms : Nat → Int32} {ro : Nat → Int32} {v1 : Int32} {v2 : Int32} {fu : Nat} {rc62 : (Nat → Int32) → Int32 → Int32 → Option (Int32 × Int32 × (Nat → Int32))} {r : Int32 × Int32 × (Nat → Int32)} (C : Cx p s m args meth c G A RX4 cX4_order 5 ((some .int)))  (hrc62 : ∀ (ro : Nat → Int32) (v2 : Int32) (v3 : Int32), rc62 ro v2 v3 = some r → Wd p l e rm_X4_order s m args below meth c G A 5 0 0 (QQ G A (fun o w => o = some (.int r.1) ∧ w = (mw G ma r.2.1 tr kq kp su pr ms r.2.2 be di)) below args s 0 0) (mw G ma th tr kq kp su pr ms ro be di) [(0, .ref (ma 0)), (1, .int v1), (2, .int v2), (3, .int v3)] 62 []) : ∀ (fk : Nat) (v3 : Int32) (v4 : Int32), X4_order_71 fu rc62 th kq ms ro v1 v2 fk v3 v4 = some r → Wd p l e rm_X4_order s m args below meth c G A 5 0 0 (QQ G A (fun o w => o = some (.int r.1) ∧ w = (mw G ma r.2.1 tr kq kp su pr ms r.2.2 be di)) below args s 0 0) (mw G ma th tr kq kp su pr ms ro be di) [(0, .ref (ma 0)), (1, .int v1), (2, .int v2), (3, .int v3), (4, .int v4)] 71 [] := by
  intro fk
  induction fk with
  | zero =>
    intro v3 v4 h
    have h : (none : Option (Int32 × Int32 × (Nat → Int32))) = some r := h
    cases h
  | succ fk ih =>
    intro v3 v4 h
    have h : X4_order_71_b fu rc62 th kq ms ro v1 v2 (X4_order_71 fu rc62 th kq ms ro v1 v2 fk) v3 v4 = some r := h
    unfold X4_order_71_b at h
    refine w_iload C 4 rfl dX4_order_71 ?_
    refine w_aload_n C 0 rfl dX4_order_73 ?_
    refine gt_X4_39 C dX4_order_74 ?_
    refine w_icmp_ge (tgt := 106) C dX4_order_77 (by decide) (fun hb7 => ?_) (fun hb7 => ?_)
    · have h := if_t hb7 h
      refine w_iload_n C 3 rfl dX4_order_106 ?_
      refine w_if_ne (tgt := 62) C dX4_order_107 (by decide) (fun hb8 => ?_) (fun hb8 => ?_)
      · have h := if_f hb8 h
        refine w_lv [0, 1, 2, 3] rfl ?_
        exact hrc62 _ _ _ h
      · have h := if_t hb8 h
        refine w_iinc (v := v2 + 1) (k := 2) C rfl rfl (Nat.le_of_ble_eq_true rfl) rfl dX4_order_110 ?_
        refine w_iconst (v := 0) C dX4_order_113 (by decide) ?_
        refine w_istore C (Nat.le_of_ble_eq_true rfl) rfl dX4_order_114 ?_
        refine w_lv [2, 3, 1, 4, 0] rfl ?_
        exact w_X4_order_116 C   hrc62 _ _ _ h
    · have h := if_f hb7 h
      refine w_iload_n C 3 rfl dX4_order_80 ?_
      refine w_aload_n C 0 rfl dX4_order_81 ?_
      refine gt_X4_19 C dX4_order_82 ?_
      refine w_iload C 4 rfl dX4_order_85 ?_
      obtain ⟨hi13, h⟩ := ckI_some h
      refine ld_ro C hi13 dX4_order_87 ?_
      refine w_iload C 4 rfl dX4_order_88 ?_
      refine w_icmp_ne (tgt := 97) C dX4_order_90 (by decide) (fun hb14 => ?_) (fun hb14 => ?_)
      · have h := if_f hb14 h
        refine w_iconst (v := 0) C dX4_order_97 (by decide) ?_
        refine w_lv [0, 1, 2, 4] rfl ?_
        exact w_X4_order_98 C   hrc62 ih h
      · have h := if_t hb14 h
        refine w_iconst (v := 1) C dX4_order_93 (by decide) ?_
        refine w_goto (tgt := 98) C dX4_order_94 (by decide) ?_
        refine w_lv [0, 1, 2, 4] rfl ?_
        exact w_X4_order_98 C   hrc62 ih h
set_option maxRecDepth 20000 in
set_option maxHeartbeats 4000000 in
theorem w_X4_order_62 {ma : Nat → Nat} {tr : Int64} {kp : Int32} {su : Nat → Int32} {pr : Nat → Int32} {be : Nat → Int32} {di : Nat → Int32} {th : Int32} {kq : Int32} {ms : Nat → Int32} {v1 : Int32} {fu : Nat}  {r : Int32 × Int32 × (Nat → Int32)} (C : Cx p s m args meth c G A RX4 cX4_order 5 ((some .int)))   : ∀ (fk : Nat) (ro : Nat → Int32) (v2 : Int32) (v3 : Int32), X4_order_62 fu  th kq ms v1 fk ro v2 v3 = some r → Wd p l e rm_X4_order s m args below meth c G A 5 0 0 (QQ G A (fun o w => o = some (.int r.1) ∧ w = (mw G ma r.2.1 tr kq kp su pr ms r.2.2 be di)) below args s 0 0) (mw G ma th tr kq kp su pr ms ro be di) [(0, .ref (ma 0)), (1, .int v1), (2, .int v2), (3, .int v3)] 62 [] := by
  intro fk
  induction fk with
  | zero =>
    intro ro v2 v3 h
    have h : (none : Option (Int32 × Int32 × (Nat → Int32))) = some r := h
    cases h
  | succ fk ih =>
    intro ro v2 v3 h
    have h : X4_order_62_b fu  th kq ms v1 (X4_order_62 fu  th kq ms v1 fk) ro v2 v3 = some r := h
    unfold X4_order_62_b at h
    refine w_iload_n C 3 rfl dX4_order_62 ?_
    refine w_if_ne (tgt := 158) C dX4_order_63 (by decide) (fun hb6 => ?_) (fun hb6 => ?_)
    · have h := if_f hb6 h
      refine w_iload_n C 2 rfl dX4_order_158 ?_
      cases h
      exact w_iret C ⟨rfl, rfl⟩ dX4_order_159
    · have h := if_t hb6 h
      refine w_iconst (v := 1) C dX4_order_66 (by decide) ?_
      refine w_istore_n C (Nat.le_of_ble_eq_true rfl) rfl dX4_order_67 ?_
      refine w_iconst (v := 0) C dX4_order_68 (by decide) ?_
      refine w_istore C (Nat.le_of_ble_eq_true rfl) rfl dX4_order_69 ?_
      refine w_lv [2, 3, 4, 1, 0] rfl ?_
      exact w_X4_order_71 C   ih _ _ _ h
set_option maxRecDepth 20000 in
set_option maxHeartbeats 4000000 in
theorem w_X4_order_27 {ma : Nat → Nat} {tr : Int64} {kp : Int32} {su : Nat → Int32} {pr : Nat → Int32} {be : Nat → Int32} {di : Nat → Int32} {th : Int32} {kq : Int32} {ms : Nat → Int32} {v1 : Int32} {fu : Nat}  {r : Int32 × Int32 × (Nat → Int32)} (C : Cx p s m args meth c G A RX4 cX4_order 5 ((some .int)))   : ∀ (fk : Nat) (ro : Nat → Int32) (v2 : Int32), X4_order_27 fu  th kq ms v1 fk ro v2 = some r → Wd p l e rm_X4_order s m args below meth c G A 5 0 0 (QQ G A (fun o w => o = some (.int r.1) ∧ w = (mw G ma r.2.1 tr kq kp su pr ms r.2.2 be di)) below args s 0 0) (mw G ma th tr kq kp su pr ms ro be di) [(0, .ref (ma 0)), (1, .int v1), (2, .int v2)] 27 [] := by
  intro fk
  induction fk with
  | zero =>
    intro ro v2 h
    have h : (none : Option (Int32 × Int32 × (Nat → Int32))) = some r := h
    cases h
  | succ fk ih =>
    intro ro v2 h
    have h : X4_order_27_b fu  th kq ms v1 (X4_order_27 fu  th kq ms v1 fk) ro v2 = some r := h
    unfold X4_order_27_b at h
    refine w_iload_n C 2 rfl dX4_order_27 ?_
    refine w_aload_n C 0 rfl dX4_order_28 ?_
    refine gt_X4_39 C dX4_order_29 ?_
    refine w_icmp_ge (tgt := 58) C dX4_order_32 (by decide) (fun hb5 => ?_) (fun hb5 => ?_)
    · have h := if_t hb5 h
      refine w_iconst (v := 1) C dX4_order_58 (by decide) ?_
      refine w_istore_n C (Nat.le_of_ble_eq_true rfl) rfl dX4_order_59 ?_
      refine w_iconst (v := 0) C dX4_order_60 (by decide) ?_
      refine w_istore_n C (Nat.le_of_ble_eq_true rfl) rfl dX4_order_61 ?_
      refine w_lv [2, 3, 1, 0] rfl ?_
      exact w_X4_order_62 C    _ _ _ _ h
    · have h := if_f hb5 h
      refine w_aload_n C 0 rfl dX4_order_35 ?_
      refine gt_X4_19 C dX4_order_36 ?_
      refine w_iload_n C 2 rfl dX4_order_39 ?_
      refine w_aload_n C 0 rfl dX4_order_40 ?_
      refine gt_X4_16 C dX4_order_41 ?_
      refine w_bipush (v := 16) C dX4_order_44 (by decide) ?_
      refine w_iload_n C 1 rfl dX4_order_46 ?_
      refine w_imul C dX4_order_47 ?_
      refine w_iload_n C 2 rfl dX4_order_48 ?_
      refine w_iadd C dX4_order_49 ?_
      obtain ⟨hi15, h⟩ := ckI_some h
      refine ld_ms C hi15 dX4_order_50 ?_
      obtain ⟨hi16, h⟩ := ckI_some h
      refine sr_ro C hi16 dX4_order_51 ?_
      refine w_iinc (v := v2 + 1) (k := 2) C rfl rfl (Nat.le_of_ble_eq_true rfl) rfl dX4_order_52 ?_
      refine w_goto (tgt := 27) C dX4_order_55 (by decide) ?_
      refine w_lv [1, 2, 0] rfl ?_
      exact ih _ _ h
set_option maxRecDepth 20000 in
set_option maxHeartbeats 4000000 in
theorem w_X4_order {ma : Nat → Nat} {tr : Int64} {kp : Int32} {su : Nat → Int32} {pr : Nat → Int32} {be : Nat → Int32} {di : Nat → Int32} {fu : Nat}  {th : Int32} {kq : Int32} {ms : Nat → Int32} {ro : Nat → Int32} {v1 : Int32} {r : Int32 × Int32 × (Nat → Int32)} (C : Cx p s m args meth c G A RX4 cX4_order 5 ((some .int)))   (h : X4_order fu  th kq ms ro v1 = some r) : Wd p l e rm_X4_order s m args below meth c G A 5 0 0 (QQ G A (fun o w => o = some (.int r.1) ∧ w = (mw G ma r.2.1 tr kq kp su pr ms r.2.2 be di)) below args s 0 0) (mw G ma th tr kq kp su pr ms ro be di) [(0, .ref (ma 0)), (1, .int v1)] 0 [] := by
  unfold X4_order at h
  refine w_aload_n C 0 rfl dX4_order_0 ?_
  refine w_iconst (v := 0) C dX4_order_1 (by decide) ?_
  refine pt_X4_32 C dX4_order_2 ?_
  refine w_iload_n C 1 rfl dX4_order_5 ?_
  obtain ⟨x1, hx1, h⟩ := bd_some h
  refine w_cSi C (c_X4_isMap fu  hx1) pk_X4_isMap ml_X4_63 (As := [.int v1]) (rest := []) ⟨⟨rfl, rfl⟩, Nat.le_of_ble_eq_true rfl, Nat.le_of_ble_eq_true rfl⟩ rfl ⟨(Nat.le_of_ble_eq_true rfl), (Nat.le_of_ble_eq_true rfl)⟩ (Nat.le_of_ble_eq_true rfl) rfl (List.append_nil _).symm (List.append_nil _) dX4_order_6 ?_
  refine w_if_ne (tgt := 14) C dX4_order_9 (by decide) (fun hb2 => ?_) (fun hb2 => ?_)
  · have h := if_f hb2 h
    refine w_aload_n C 0 rfl dX4_order_14 ?_
    refine w_iload_n C 1 rfl dX4_order_15 ?_
    obtain ⟨x3, hx3, h⟩ := bd_some h
    refine w_cVi (wr := []) (qc := (RX4, TX4, 10)) C (c_X4_isShuffle fu  hx3) pk_X4_isShuffle ml_X4_102 (As := [.int v1]) (rest := []) (k9 := 0) rfl rfl ⟨⟨rfl, rfl⟩, Nat.le_of_ble_eq_true rfl, Nat.le_of_ble_eq_true rfl⟩ rfl ⟨(Nat.le_of_ble_eq_true rfl), (Nat.le_of_ble_eq_true rfl)⟩ (Nat.le_of_ble_eq_true rfl) rfl rfl (List.nil_append _) dX4_order_16 ?_
    refine w_if_ne (tgt := 25) C dX4_order_19 (by decide) (fun hb4 => ?_) (fun hb4 => ?_)
    · have h := if_f hb4 h
      refine w_iconst (v := 0) C dX4_order_25 (by decide) ?_
      refine w_istore_n C (Nat.le_of_ble_eq_true rfl) rfl dX4_order_26 ?_
      refine w_lv [1, 2, 0] rfl ?_
      exact w_X4_order_27 C    _ _ _ h
    · have h := if_t hb4 h
      refine w_bipush (v := (-2)) C dX4_order_22 (by decide) ?_
      cases h
      exact w_iret C ⟨rfl, rfl⟩ dX4_order_24
  · have h := if_t hb2 h
    refine w_iconst (v := (-1)) C dX4_order_12 (by decide) ?_
    cases h
    exact w_iret C ⟨rfl, rfl⟩ dX4_order_13
theorem c_X4_order {l : Launch} {G : GG} {ma : Nat → Nat} {th : Int32} {tr : Int64} {kq : Int32} {kp : Int32} {su : Nat → Int32} {pr : Nat → Int32} {ms : Nat → Int32} {ro : Nat → Int32} {be : Nat → Int32} {di : Nat → Int32} (fu : Nat) {v1 : Int32} {r : Int32 × Int32 × (Nat → Int32)} (h : X4_order fu th kq ms ro v1 = some r) : Ct l yX4_order cX4_order 5 ((some .int)) G rm_X4_order [.ref (ma 0), .int v1] (mw G ma th tr kq kp su pr ms ro be di) (fun o w => o = some (.int r.1) ∧ w = (mw G ma r.2.1 tr kq kp su pr ms r.2.2 be di)) 0 0 := Ct.of (by decide) (Nat.le_of_ble_eq_true rfl) (fun p e s m args below meth c A C _ => w_X4_order C h)
abbrev rm_X4_fixed : Room := { frames := 2, cells := 0, slots := 0, locals := 42 }
theorem pk_X4_fixed : PkV RX4 yX4_fixed cX4_fixed 4 ((some .int)) 1 := ⟨rfl, co_X4_fixed, ini_RX4, im_X4_fixed, se_X4_fixed, by decide +kernel⟩
set_option maxRecDepth 20000 in
set_option maxHeartbeats 4000000 in
theorem w_X4_fixed_47 {ma : Nat → Nat} {tr : Int64} {kp : Int32} {su : Nat → Int32} {pr : Nat → Int32} {ro : Nat → Int32} {be : Nat → Int32} {di : Nat → Int32} {fu : Nat} {rc18 : Int32 → Int32 → Option (Int32 × Int32)} {th : Int32} {kq : Int32} {ms : Nat → Int32} {s0 : Int32} {s1 : Int32} {v1 : Int32} {v3 : Int32} {r : Int32 × Int32} (C : Cx p s m args meth c G A RX4 cX4_fixed 4 ((some .int)))  (hrc18 : ∀ (v2 : Int32) (v3 : Int32), rc18 v2 v3 = some r → Wd p l e rm_X4_fixed s m args below meth c G A 4 0 0 (QQ G A (fun o w => o = some (.int r.1) ∧ w = (mw G ma r.2 tr kq kp su pr ms ro be di)) below args s 0 0) (mw G ma th tr kq kp su pr ms ro be di) [(0, .ref (ma 0)), (1, .int v1), (2, .int v2), (3, .int v3)] 18 []) (h : X4_fixed_47 fu rc18 th kq ms s0 s1 v1 v3 = some r) : Wd p l e rm_X4_fixed s m args below meth c G A 4 0 0 (QQ G A (fun o w => o = some (.int r.1) ∧ w = (mw G ma r.2 tr kq kp su pr ms ro be di)) below args s 0 0) (mw G ma th tr kq kp su pr ms ro be di) [(0, .ref (ma 0)), (1, .int v1), (3, .int v3)] 47 [.int s0, .int s1] := by
  unfold X4_fixed_47 at h
  refine w_iadd C dX4_fixed_47 ?_
  refine w_istore_n C (Nat.le_of_ble_eq_true rfl) rfl dX4_fixed_48 ?_
  refine w_iinc (v := v3 + 1) (k := 3) C rfl rfl (Nat.le_of_ble_eq_true rfl) rfl dX4_fixed_49 ?_
  refine w_goto (tgt := 18) C dX4_fixed_52 (by decide) ?_
  refine w_lv [2, 3, 1, 0] rfl ?_
  exact hrc18 _ _ h
set_option maxRecDepth 20000 in
set_option maxHeartbeats 4000000 in
theorem w_X4_fixed_18 {ma : Nat → Nat} {tr : Int64} {kp : Int32} {su : Nat → Int32} {pr : Nat → Int32} {ro : Nat → Int32} {be : Nat → Int32} {di : Nat → Int32} {th : Int32} {kq : Int32} {ms : Nat → Int32} {v1 : Int32} {fu : Nat}  {r : Int32 × Int32} (C : Cx p s m args meth c G A RX4 cX4_fixed 4 ((some .int)))   : ∀ (fk : Nat) (v2 : Int32) (v3 : Int32), X4_fixed_18 fu  th kq ms v1 fk v2 v3 = some r → Wd p l e rm_X4_fixed s m args below meth c G A 4 0 0 (QQ G A (fun o w => o = some (.int r.1) ∧ w = (mw G ma r.2 tr kq kp su pr ms ro be di)) below args s 0 0) (mw G ma th tr kq kp su pr ms ro be di) [(0, .ref (ma 0)), (1, .int v1), (2, .int v2), (3, .int v3)] 18 [] := by
  intro fk
  induction fk with
  | zero =>
    intro v2 v3 h
    have h : (none : Option (Int32 × Int32)) = some r := h
    cases h
  | succ fk ih =>
    intro v2 v3 h
    have h : X4_fixed_18_b fu  th kq ms v1 (X4_fixed_18 fu  th kq ms v1 fk) v2 v3 = some r := h
    unfold X4_fixed_18_b at h
    refine w_iload_n C 3 rfl dX4_fixed_18 ?_
    refine w_aload_n C 0 rfl dX4_fixed_19 ?_
    refine gt_X4_39 C dX4_fixed_20 ?_
    refine w_icmp_ge (tgt := 55) C dX4_fixed_23 (by decide) (fun hb3 => ?_) (fun hb3 => ?_)
    · have h := if_t hb3 h
      refine w_iload_n C 2 rfl dX4_fixed_55 ?_
      cases h
      exact w_iret C ⟨rfl, rfl⟩ dX4_fixed_56
    · have h := if_f hb3 h
      refine w_iload_n C 2 rfl dX4_fixed_26 ?_
      refine w_aload_n C 0 rfl dX4_fixed_27 ?_
      refine gt_X4_16 C dX4_fixed_28 ?_
      refine w_bipush (v := 16) C dX4_fixed_31 (by decide) ?_
      refine w_iload_n C 1 rfl dX4_fixed_33 ?_
      refine w_imul C dX4_fixed_34 ?_
      refine w_iload_n C 3 rfl dX4_fixed_35 ?_
      refine w_iadd C dX4_fixed_36 ?_
      obtain ⟨hi4, h⟩ := ckI_some h
      refine ld_ms C hi4 dX4_fixed_37 ?_
      refine w_iload_n C 3 rfl dX4_fixed_38 ?_
      refine w_icmp_ne (tgt := 46) C dX4_fixed_39 (by decide) (fun hb5 => ?_) (fun hb5 => ?_)
      · have h := if_f hb5 h
        refine w_iconst (v := 0) C dX4_fixed_46 (by decide) ?_
        refine w_lv [0, 1, 3] rfl ?_
        exact w_X4_fixed_47 C   ih h
      · have h := if_t hb5 h
        refine w_iconst (v := 1) C dX4_fixed_42 (by decide) ?_
        refine w_goto (tgt := 47) C dX4_fixed_43 (by decide) ?_
        refine w_lv [0, 1, 3] rfl ?_
        exact w_X4_fixed_47 C   ih h
set_option maxRecDepth 20000 in
set_option maxHeartbeats 4000000 in
theorem w_X4_fixed {ma : Nat → Nat} {tr : Int64} {kp : Int32} {su : Nat → Int32} {pr : Nat → Int32} {ro : Nat → Int32} {be : Nat → Int32} {di : Nat → Int32} {fu : Nat}  {th : Int32} {kq : Int32} {ms : Nat → Int32} {v1 : Int32} {r : Int32 × Int32} (C : Cx p s m args meth c G A RX4 cX4_fixed 4 ((some .int)))   (h : X4_fixed fu  th kq ms v1 = some r) : Wd p l e rm_X4_fixed s m args below meth c G A 4 0 0 (QQ G A (fun o w => o = some (.int r.1) ∧ w = (mw G ma r.2 tr kq kp su pr ms ro be di)) below args s 0 0) (mw G ma th tr kq kp su pr ms ro be di) [(0, .ref (ma 0)), (1, .int v1)] 0 [] := by
  unfold X4_fixed at h
  refine w_aload_n C 0 rfl dX4_fixed_0 ?_
  refine w_iconst (v := 0) C dX4_fixed_1 (by decide) ?_
  refine pt_X4_32 C dX4_fixed_2 ?_
  refine w_iload_n C 1 rfl dX4_fixed_5 ?_
  obtain ⟨x1, hx1, h⟩ := bd_some h
  refine w_cSi C (c_X4_isMap fu  hx1) pk_X4_isMap ml_X4_63 (As := [.int v1]) (rest := []) ⟨⟨rfl, rfl⟩, Nat.le_of_ble_eq_true rfl, Nat.le_of_ble_eq_true rfl⟩ rfl ⟨(Nat.le_of_ble_eq_true rfl), (Nat.le_of_ble_eq_true rfl)⟩ (Nat.le_of_ble_eq_true rfl) rfl (List.append_nil _).symm (List.append_nil _) dX4_fixed_6 ?_
  refine w_if_ne (tgt := 14) C dX4_fixed_9 (by decide) (fun hb2 => ?_) (fun hb2 => ?_)
  · have h := if_f hb2 h
    refine w_iconst (v := 0) C dX4_fixed_14 (by decide) ?_
    refine w_istore_n C (Nat.le_of_ble_eq_true rfl) rfl dX4_fixed_15 ?_
    refine w_iconst (v := 0) C dX4_fixed_16 (by decide) ?_
    refine w_istore_n C (Nat.le_of_ble_eq_true rfl) rfl dX4_fixed_17 ?_
    refine w_lv [2, 3, 1, 0] rfl ?_
    exact w_X4_fixed_18 C    _ _ _ h
  · have h := if_t hb2 h
    refine w_iconst (v := (-1)) C dX4_fixed_12 (by decide) ?_
    cases h
    exact w_iret C ⟨rfl, rfl⟩ dX4_fixed_13
theorem c_X4_fixed {l : Launch} {G : GG} {ma : Nat → Nat} {th : Int32} {tr : Int64} {kq : Int32} {kp : Int32} {su : Nat → Int32} {pr : Nat → Int32} {ms : Nat → Int32} {ro : Nat → Int32} {be : Nat → Int32} {di : Nat → Int32} (fu : Nat) {v1 : Int32} {r : Int32 × Int32} (h : X4_fixed fu th kq ms v1 = some r) : Ct l yX4_fixed cX4_fixed 4 ((some .int)) G rm_X4_fixed [.ref (ma 0), .int v1] (mw G ma th tr kq kp su pr ms ro be di) (fun o w => o = some (.int r.1) ∧ w = (mw G ma r.2 tr kq kp su pr ms ro be di)) 0 0 := Ct.of (by decide) (Nat.le_of_ble_eq_true rfl) (fun p e s m args below meth c A C _ => w_X4_fixed C h)
abbrev rm_X4_differenceOf : Room := { frames := 1, cells := 0, slots := 0, locals := 22 }
theorem pk_X4_differenceOf : PkV RX4 yX4_differenceOf cX4_differenceOf 6 ((some .int)) 3 := ⟨rfl, co_X4_differenceOf, ini_RX4, im_X4_differenceOf, se_X4_differenceOf, by decide +kernel⟩
set_option maxRecDepth 20000 in
set_option maxHeartbeats 4000000 in
theorem w_X4_differenceOf_59 {ma : Nat → Nat} {th : Int32} {tr : Int64} {kp : Int32} {pr : Nat → Int32} {ro : Nat → Int32} {be : Nat → Int32} {di : Nat → Int32} {fu : Nat} {rc6 : Int32 → Int32 → Option Int32} {kq : Int32} {su : Nat → Int32} {ms : Nat → Int32} {s0 : Int32} {s1 : Int32} {v1 : Int32} {v2 : Int32} {v3 : Int32} {v5 : Int32} {r : Int32} (C : Cx p s m args meth c G A RX4 cX4_differenceOf 6 ((some .int)))  (hrc6 : ∀ (v4 : Int32) (v5 : Int32), rc6 v4 v5 = some r → Wd p l e rm_X4_differenceOf s m args below meth c G A 6 0 0 (QQ G A (fun o w => o = some (.int r) ∧ w = (mw G ma th tr kq kp su pr ms ro be di)) below args s 0 0) (mw G ma th tr kq kp su pr ms ro be di) [(0, .ref (ma 0)), (1, .int v1), (2, .int v2), (3, .int v3), (4, .int v4), (5, .int v5)] 6 []) (h : X4_differenceOf_59 fu rc6 kq su ms s0 s1 v1 v2 v3 v5 = some r) : Wd p l e rm_X4_differenceOf s m args below meth c G A 6 0 0 (QQ G A (fun o w => o = some (.int r) ∧ w = (mw G ma th tr kq kp su pr ms ro be di)) below args s 0 0) (mw G ma th tr kq kp su pr ms ro be di) [(0, .ref (ma 0)), (1, .int v1), (2, .int v2), (3, .int v3), (5, .int v5)] 59 [.int s0, .int s1] := by
  unfold X4_differenceOf_59 at h
  refine w_iadd C dX4_differenceOf_59 ?_
  refine w_istore C (Nat.le_of_ble_eq_true rfl) rfl dX4_differenceOf_60 ?_
  refine w_iinc (v := v5 + 1) (k := 5) C rfl rfl (Nat.le_of_ble_eq_true rfl) rfl dX4_differenceOf_62 ?_
  refine w_goto (tgt := 6) C dX4_differenceOf_65 (by decide) ?_
  refine w_lv [2, 3, 4, 5, 1, 0] rfl ?_
  exact hrc6 _ _ h
set_option maxRecDepth 20000 in
set_option maxHeartbeats 4000000 in
theorem w_X4_differenceOf_6 {ma : Nat → Nat} {th : Int32} {tr : Int64} {kp : Int32} {pr : Nat → Int32} {ro : Nat → Int32} {be : Nat → Int32} {di : Nat → Int32} {kq : Int32} {su : Nat → Int32} {ms : Nat → Int32} {v1 : Int32} {v2 : Int32} {v3 : Int32} {fu : Nat}  {r : Int32} (C : Cx p s m args meth c G A RX4 cX4_differenceOf 6 ((some .int)))   : ∀ (fk : Nat) (v4 : Int32) (v5 : Int32), X4_differenceOf_6 fu  kq su ms v1 v2 v3 fk v4 v5 = some r → Wd p l e rm_X4_differenceOf s m args below meth c G A 6 0 0 (QQ G A (fun o w => o = some (.int r) ∧ w = (mw G ma th tr kq kp su pr ms ro be di)) below args s 0 0) (mw G ma th tr kq kp su pr ms ro be di) [(0, .ref (ma 0)), (1, .int v1), (2, .int v2), (3, .int v3), (4, .int v4), (5, .int v5)] 6 [] := by
  intro fk
  induction fk with
  | zero =>
    intro v4 v5 h
    have h : (none : Option Int32) = some r := h
    cases h
  | succ fk ih =>
    intro v4 v5 h
    have h : X4_differenceOf_6_b fu  kq su ms v1 v2 v3 (X4_differenceOf_6 fu  kq su ms v1 v2 v3 fk) v4 v5 = some r := h
    unfold X4_differenceOf_6_b at h
    refine w_iload C 5 rfl dX4_differenceOf_6 ?_
    refine w_aload_n C 0 rfl dX4_differenceOf_8 ?_
    refine gt_X4_39 C dX4_differenceOf_9 ?_
    refine w_icmp_ge (tgt := 68) C dX4_differenceOf_12 (by decide) (fun hb1 => ?_) (fun hb1 => ?_)
    · have h := if_t hb1 h
      refine w_iload C 4 rfl dX4_differenceOf_68 ?_
      cases h
      exact w_iret C ⟨rfl, rfl⟩ dX4_differenceOf_70
    · have h := if_f hb1 h
      refine w_iload C 4 rfl dX4_differenceOf_15 ?_
      refine w_aload_n C 0 rfl dX4_differenceOf_17 ?_
      refine gt_X4_16 C dX4_differenceOf_18 ?_
      refine w_bipush (v := 16) C dX4_differenceOf_21 (by decide) ?_
      refine w_iload_n C 1 rfl dX4_differenceOf_23 ?_
      refine w_imul C dX4_differenceOf_24 ?_
      refine w_aload_n C 0 rfl dX4_differenceOf_25 ?_
      refine w_iload C 5 rfl dX4_differenceOf_26 ?_
      refine w_iload_n C 2 rfl dX4_differenceOf_28 ?_
      obtain ⟨x2, hx2, h⟩ := bd_some h
      refine w_cVi (wr := []) (qc := (RX4, TX4, 10)) C (c_X4_add fu  hx2) pk_X4_add ml_X4_49 (As := [.int v5, .int v2]) (rest := [.int (16 * v1), .ref (ma 3), .int v4]) (k9 := 0) rfl rfl ⟨⟨rfl, rfl⟩, Nat.le_of_ble_eq_true rfl, Nat.le_of_ble_eq_true rfl⟩ rfl ⟨(Nat.le_of_ble_eq_true rfl), (Nat.le_of_ble_eq_true rfl)⟩ (Nat.le_of_ble_eq_true rfl) rfl rfl (List.nil_append _) dX4_differenceOf_29 ?_
      refine w_iadd C dX4_differenceOf_32 ?_
      obtain ⟨hi3, h⟩ := ckI_some h
      refine ld_ms C hi3 dX4_differenceOf_33 ?_
      refine w_aload_n C 0 rfl dX4_differenceOf_34 ?_
      refine w_aload_n C 0 rfl dX4_differenceOf_35 ?_
      refine gt_X4_16 C dX4_differenceOf_36 ?_
      refine w_bipush (v := 16) C dX4_differenceOf_39 (by decide) ?_
      refine w_iload_n C 1 rfl dX4_differenceOf_41 ?_
      refine w_imul C dX4_differenceOf_42 ?_
      refine w_iload C 5 rfl dX4_differenceOf_43 ?_
      refine w_iadd C dX4_differenceOf_45 ?_
      obtain ⟨hi4, h⟩ := ckI_some h
      refine ld_ms C hi4 dX4_differenceOf_46 ?_
      refine w_iload_n C 3 rfl dX4_differenceOf_47 ?_
      obtain ⟨x5, hx5, h⟩ := bd_some h
      refine w_cVi (wr := []) (qc := (RX4, TX4, 10)) C (c_X4_add fu  hx5) pk_X4_add ml_X4_49 (As := [.int (ms ((16 * v1) + v5).toNatClampNeg), .int v3]) (rest := [.int (ms ((16 * v1) + x2).toNatClampNeg), .int v4]) (k9 := 0) rfl rfl ⟨⟨rfl, rfl⟩, Nat.le_of_ble_eq_true rfl, Nat.le_of_ble_eq_true rfl⟩ rfl ⟨(Nat.le_of_ble_eq_true rfl), (Nat.le_of_ble_eq_true rfl)⟩ (Nat.le_of_ble_eq_true rfl) rfl rfl (List.nil_append _) dX4_differenceOf_48 ?_
      refine w_icmp_ne (tgt := 58) C dX4_differenceOf_51 (by decide) (fun hb6 => ?_) (fun hb6 => ?_)
      · have h := if_f hb6 h
        refine w_iconst (v := 0) C dX4_differenceOf_58 (by decide) ?_
        refine w_lv [0, 1, 2, 3, 5] rfl ?_
        exact w_X4_differenceOf_59 C   ih h
      · have h := if_t hb6 h
        refine w_iconst (v := 1) C dX4_differenceOf_54 (by decide) ?_
        refine w_goto (tgt := 59) C dX4_differenceOf_55 (by decide) ?_
        refine w_lv [0, 1, 2, 3, 5] rfl ?_
        exact w_X4_differenceOf_59 C   ih h
set_option maxRecDepth 20000 in
set_option maxHeartbeats 4000000 in
theorem w_X4_differenceOf {ma : Nat → Nat} {th : Int32} {tr : Int64} {kp : Int32} {pr : Nat → Int32} {ro : Nat → Int32} {be : Nat → Int32} {di : Nat → Int32} {fu : Nat}  {kq : Int32} {su : Nat → Int32} {ms : Nat → Int32} {v1 : Int32} {v2 : Int32} {v3 : Int32} {r : Int32} (C : Cx p s m args meth c G A RX4 cX4_differenceOf 6 ((some .int)))   (h : X4_differenceOf fu  kq su ms v1 v2 v3 = some r) : Wd p l e rm_X4_differenceOf s m args below meth c G A 6 0 0 (QQ G A (fun o w => o = some (.int r) ∧ w = (mw G ma th tr kq kp su pr ms ro be di)) below args s 0 0) (mw G ma th tr kq kp su pr ms ro be di) [(0, .ref (ma 0)), (1, .int v1), (2, .int v2), (3, .int v3)] 0 [] := by
  unfold X4_differenceOf at h
  refine w_iconst (v := 0) C dX4_differenceOf_0 (by decide) ?_
  refine w_istore C (Nat.le_of_ble_eq_true rfl) rfl dX4_differenceOf_1 ?_
  refine w_iconst (v := 0) C dX4_differenceOf_3 (by decide) ?_
  refine w_istore C (Nat.le_of_ble_eq_true rfl) rfl dX4_differenceOf_4 ?_
  refine w_lv [2, 3, 4, 5, 1, 0] rfl ?_
  exact w_X4_differenceOf_6 C    _ _ _ h
theorem c_X4_differenceOf {l : Launch} {G : GG} {ma : Nat → Nat} {th : Int32} {tr : Int64} {kq : Int32} {kp : Int32} {su : Nat → Int32} {pr : Nat → Int32} {ms : Nat → Int32} {ro : Nat → Int32} {be : Nat → Int32} {di : Nat → Int32} (fu : Nat) {v1 : Int32} {v2 : Int32} {v3 : Int32} {r : Int32} (h : X4_differenceOf fu kq su ms v1 v2 v3 = some r) : Ct l yX4_differenceOf cX4_differenceOf 6 ((some .int)) G rm_X4_differenceOf [.ref (ma 0), .int v1, .int v2, .int v3] (mw G ma th tr kq kp su pr ms ro be di) (fun o w => o = some (.int r) ∧ w = (mw G ma th tr kq kp su pr ms ro be di)) 0 0 := Ct.of (by decide) (Nat.le_of_ble_eq_true rfl) (fun p e s m args below meth c A C _ => w_X4_differenceOf C h)
end
