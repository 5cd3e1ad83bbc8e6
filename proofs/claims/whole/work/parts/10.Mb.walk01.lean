section
variable {p : Program} {l : Launch} {e : Env} {s : State} {m : MethodId} {args : Array Value} {below : List Frame} {meth : Method} {c : Code} {G : GG} {A : Nat → Prop}
abbrev rm_X4_times : Room := { frames := 2, cells := 0, slots := 0, locals := 43 }
theorem pk_X4_times : PkV RX4 yX4_times cX4_times 3 ((some .int)) 2 := ⟨rfl, co_X4_times, ini_RX4, im_X4_times, se_X4_times, by decide +kernel⟩
set_option maxRecDepth 20000 in
set_option maxHeartbeats 4000000 in
theorem w_X4_times {ma : Nat → Nat} {tr : Int64} {kp : Int32} {su : Nat → Int32} {ms : Nat → Int32} {ro : Nat → Int32} {be : Nat → Int32} {di : Nat → Int32} {fu : Nat}  {th : Int32} {kq : Int32} {pr : Nat → Int32} {v1 : Int32} {v2 : Int32} {r : Int32 × Int32} (C : Cx p s m args meth c G A RX4 cX4_times 3 ((some .int)))   (h : X4_times fu  th kq pr v1 v2 = some r) : Wd p l e rm_X4_times s m args below meth c G A 3 0 0 (QQ G A (fun o w => o = some (.int r.1) ∧ w = (mw G ma r.2 tr kq kp su pr ms ro be di)) below args s 0 0) (mw G ma th tr kq kp su pr ms ro be di) [(0, .ref (ma 0)), (1, .int v1), (2, .int v2)] 0 [] := by
  unfold X4_times at h
  refine w_aload_n C 0 rfl dX4_times_0 ?_
  refine w_iconst (v := 0) C dX4_times_1 (by decide) ?_
  refine pt_X4_32 C dX4_times_2 ?_
  refine w_aload_n C 0 rfl dX4_times_5 ?_
  refine w_iload_n C 1 rfl dX4_times_6 ?_
  obtain ⟨x1, hx1, h⟩ := bd_some h
  refine w_cVi (wr := []) (qc := (RX4, TX4, 10)) C (c_X4_isNumber fu  hx1) pk_X4_isNumber ml_X4_59 (As := [.int v1]) (rest := []) (k9 := 0) rfl rfl ⟨⟨rfl, rfl⟩, Nat.le_of_ble_eq_true rfl, Nat.le_of_ble_eq_true rfl⟩ rfl ⟨(Nat.le_of_ble_eq_true rfl), (Nat.le_of_ble_eq_true rfl)⟩ (Nat.le_of_ble_eq_true rfl) rfl rfl (List.nil_append _) dX4_times_7 ?_
  refine w_if_eq (tgt := 30) C dX4_times_10 (by decide) (fun hb2 => ?_) (fun hb2 => ?_)
  · have h := if_t hb2 h
    refine w_iconst (v := (-1)) C dX4_times_30 (by decide) ?_
    cases h
    exact w_iret C ⟨rfl, rfl⟩ dX4_times_31
  · have h := if_f hb2 h
    refine w_aload_n C 0 rfl dX4_times_13 ?_
    refine w_iload_n C 2 rfl dX4_times_14 ?_
    obtain ⟨x3, hx3, h⟩ := bd_some h
    refine w_cVi (wr := []) (qc := (RX4, TX4, 10)) C (c_X4_isNumber fu  hx3) pk_X4_isNumber ml_X4_59 (As := [.int v2]) (rest := []) (k9 := 0) rfl rfl ⟨⟨rfl, rfl⟩, Nat.le_of_ble_eq_true rfl, Nat.le_of_ble_eq_true rfl⟩ rfl ⟨(Nat.le_of_ble_eq_true rfl), (Nat.le_of_ble_eq_true rfl)⟩ (Nat.le_of_ble_eq_true rfl) rfl rfl (List.nil_append _) dX4_times_15 ?_
    refine w_if_eq (tgt := 30) C dX4_times_18 (by decide) (fun hb4 => ?_) (fun hb4 => ?_)
    · have h := if_t hb4 h
      refine w_iconst (v := (-1)) C dX4_times_30 (by decide) ?_
      cases h
      exact w_iret C ⟨rfl, rfl⟩ dX4_times_31
    · have h := if_f hb4 h
      refine w_aload_n C 0 rfl dX4_times_21 ?_
      refine w_iload_n C 1 rfl dX4_times_22 ?_
      refine w_iload_n C 2 rfl dX4_times_23 ?_
      obtain ⟨x5, hx5, h⟩ := bd_some h
      refine w_cVi (wr := []) (qc := (RX4, TX4, 10)) C (c_X4_by fu  hx5) pk_X4_by ml_X4_56 (As := [.int v1, .int v2]) (rest := []) (k9 := 0) rfl rfl ⟨⟨rfl, rfl⟩, Nat.le_of_ble_eq_true rfl, Nat.le_of_ble_eq_true rfl⟩ rfl ⟨(Nat.le_of_ble_eq_true rfl), (Nat.le_of_ble_eq_true rfl)⟩ (Nat.le_of_ble_eq_true rfl) rfl rfl (List.nil_append _) dX4_times_24 ?_
      refine w_goto (tgt := 31) C dX4_times_27 (by decide) ?_
      cases h
      exact w_iret C ⟨rfl, rfl⟩ dX4_times_31
theorem c_X4_times {l : Launch} {G : GG} {ma : Nat → Nat} {th : Int32} {tr : Int64} {kq : Int32} {kp : Int32} {su : Nat → Int32} {pr : Nat → Int32} {ms : Nat → Int32} {ro : Nat → Int32} {be : Nat → Int32} {di : Nat → Int32} (fu : Nat) {v1 : Int32} {v2 : Int32} {r : Int32 × Int32} (h : X4_times fu th kq pr v1 v2 = some r) : Ct l yX4_times cX4_times 3 ((some .int)) G rm_X4_times [.ref (ma 0), .int v1, .int v2] (mw G ma th tr kq kp su pr ms ro be di) (fun o w => o = some (.int r.1) ∧ w = (mw G ma r.2 tr kq kp su pr ms ro be di)) 0 0 := Ct.of (by decide) (Nat.le_of_ble_eq_true rfl) (fun p e s m args below meth c A C _ => w_X4_times C h)
abbrev rm_X4_over : Room := { frames := 2, cells := 0, slots := 0, locals := 43 }
theorem pk_X4_over : PkV RX4 yX4_over cX4_over 3 ((some .int)) 1 := ⟨rfl, co_X4_over, ini_RX4, im_X4_over, se_X4_over, by decide +kernel⟩
set_option maxRecDepth 20000 in
set_option maxHeartbeats 4000000 in
theorem w_X4_over_24 {ma : Nat → Nat} {tr : Int64} {kp : Int32} {su : Nat → Int32} {ms : Nat → Int32} {ro : Nat → Int32} {be : Nat → Int32} {di : Nat → Int32} {th : Int32} {kq : Int32} {pr : Nat → Int32} {v1 : Int32} {fu : Nat}  {r : Int32 × Int32} (C : Cx p s m args meth c G A RX4 cX4_over 3 ((some .int)))   : ∀ (fk : Nat) (v2 : Int32), X4_over_24 fu  th kq pr v1 fk v2 = some r → Wd p l e rm_X4_over s m args below meth c G A 3 0 0 (QQ G A (fun o w => o = some (.int r.1) ∧ w = (mw G ma r.2 tr kq kp su pr ms ro be di)) below args s 0 0) (mw G ma th tr kq kp su pr ms ro be di) [(0, .ref (ma 0)), (1, .int v1), (2, .int v2)] 24 [] := by
  intro fk
  induction fk with
  | zero =>
    intro v2 h
    have h : (none : Option (Int32 × Int32)) = some r := h
    cases h
  | succ fk ih =>
    intro v2 h
    have h : X4_over_24_b fu  th kq pr v1 (X4_over_24 fu  th kq pr v1 fk) v2 = some r := h
    unfold X4_over_24_b at h
    refine w_aload_n C 0 rfl dX4_over_24 ?_
    refine w_iload_n C 1 rfl dX4_over_25 ?_
    refine w_iload_n C 2 rfl dX4_over_26 ?_
    obtain ⟨x4, hx4, h⟩ := bd_some h
    refine w_cVi (wr := []) (qc := (RX4, TX4, 10)) C (c_X4_by fu  hx4) pk_X4_by ml_X4_56 (As := [.int v1, .int v2]) (rest := []) (k9 := 0) rfl rfl ⟨⟨rfl, rfl⟩, Nat.le_of_ble_eq_true rfl, Nat.le_of_ble_eq_true rfl⟩ rfl ⟨(Nat.le_of_ble_eq_true rfl), (Nat.le_of_ble_eq_true rfl)⟩ (Nat.le_of_ble_eq_true rfl) rfl rfl (List.nil_append _) dX4_over_27 ?_
    refine w_iconst (v := 1) C dX4_over_30 (by decide) ?_
    refine w_icmp_eq (tgt := 40) C dX4_over_31 (by decide) (fun hb5 => ?_) (fun hb5 => ?_)
    · have h := if_t hb5 h
      refine w_iload_n C 2 rfl dX4_over_40 ?_
      cases h
      exact w_iret C ⟨rfl, rfl⟩ dX4_over_41
    · have h := if_f hb5 h
      refine w_iinc (v := v2 + 1) (k := 2) C rfl rfl (Nat.le_of_ble_eq_true rfl) rfl dX4_over_34 ?_
      refine w_goto (tgt := 24) C dX4_over_37 (by decide) ?_
      refine w_lv [1, 2, 0] rfl ?_
      exact ih _ h
set_option maxRecDepth 20000 in
set_option maxHeartbeats 4000000 in
theorem w_X4_over {ma : Nat → Nat} {tr : Int64} {kp : Int32} {su : Nat → Int32} {ms : Nat → Int32} {ro : Nat → Int32} {be : Nat → Int32} {di : Nat → Int32} {fu : Nat}  {th : Int32} {kq : Int32} {pr : Nat → Int32} {v1 : Int32} {r : Int32 × Int32} (C : Cx p s m args meth c G A RX4 cX4_over 3 ((some .int)))   (h : X4_over fu  th kq pr v1 = some r) : Wd p l e rm_X4_over s m args below meth c G A 3 0 0 (QQ G A (fun o w => o = some (.int r.1) ∧ w = (mw G ma r.2 tr kq kp su pr ms ro be di)) below args s 0 0) (mw G ma th tr kq kp su pr ms ro be di) [(0, .ref (ma 0)), (1, .int v1)] 0 [] := by
  unfold X4_over at h
  refine w_aload_n C 0 rfl dX4_over_0 ?_
  refine w_iconst (v := 0) C dX4_over_1 (by decide) ?_
  refine pt_X4_32 C dX4_over_2 ?_
  refine w_aload_n C 0 rfl dX4_over_5 ?_
  refine w_iload_n C 1 rfl dX4_over_6 ?_
  obtain ⟨x1, hx1, h⟩ := bd_some h
  refine w_cVi (wr := []) (qc := (RX4, TX4, 10)) C (c_X4_isNumber fu  hx1) pk_X4_isNumber ml_X4_59 (As := [.int v1]) (rest := []) (k9 := 0) rfl rfl ⟨⟨rfl, rfl⟩, Nat.le_of_ble_eq_true rfl, Nat.le_of_ble_eq_true rfl⟩ rfl ⟨(Nat.le_of_ble_eq_true rfl), (Nat.le_of_ble_eq_true rfl)⟩ (Nat.le_of_ble_eq_true rfl) rfl rfl (List.nil_append _) dX4_over_7 ?_
  refine w_if_ne (tgt := 15) C dX4_over_10 (by decide) (fun hb2 => ?_) (fun hb2 => ?_)
  · have h := if_f hb2 h
    refine w_iload_n C 1 rfl dX4_over_15 ?_
    refine w_if_ne (tgt := 22) C dX4_over_16 (by decide) (fun hb3 => ?_) (fun hb3 => ?_)
    · have h := if_f hb3 h
      refine w_iconst (v := 1) C dX4_over_22 (by decide) ?_
      refine w_istore_n C (Nat.le_of_ble_eq_true rfl) rfl dX4_over_23 ?_
      refine w_lv [1, 2, 0] rfl ?_
      exact w_X4_over_24 C    _ _ h
    · have h := if_t hb3 h
      refine w_bipush (v := (-2)) C dX4_over_19 (by decide) ?_
      cases h
      exact w_iret C ⟨rfl, rfl⟩ dX4_over_21
  · have h := if_t hb2 h
    refine w_iconst (v := (-1)) C dX4_over_13 (by decide) ?_
    cases h
    exact w_iret C ⟨rfl, rfl⟩ dX4_over_14
theorem c_X4_over {l : Launch} {G : GG} {ma : Nat → Nat} {th : Int32} {tr : Int64} {kq : Int32} {kp : Int32} {su : Nat → Int32} {pr : Nat → Int32} {ms : Nat → Int32} {ro : Nat → Int32} {be : Nat → Int32} {di : Nat → Int32} (fu : Nat) {v1 : Int32} {r : Int32 × Int32} (h : X4_over fu th kq pr v1 = some r) : Ct l yX4_over cX4_over 3 ((some .int)) G rm_X4_over [.ref (ma 0), .int v1] (mw G ma th tr kq kp su pr ms ro be di) (fun o w => o = some (.int r.1) ∧ w = (mw G ma r.2 tr kq kp su pr ms ro be di)) 0 0 := Ct.of (by decide) (Nat.le_of_ble_eq_true rfl) (fun p e s m args below meth c A C _ => w_X4_over C h)
abbrev rm_X4_set : Room := { frames := 2, cells := 0, slots := 0, locals := 43 }
theorem pk_X4_set : PkV RX4 yX4_set cX4_set 5 ((some .int)) 3 := ⟨rfl, co_X4_set, ini_RX4, im_X4_set, se_X4_set, by decide +kernel⟩
set_option maxRecDepth 20000 in
set_option maxHeartbeats 4000000 in
theorem w_X4_set {ma : Nat → Nat} {tr : Int64} {kp : Int32} {su : Nat → Int32} {pr : Nat → Int32} {ro : Nat → Int32} {be : Nat → Int32} {di : Nat → Int32} {fu : Nat}  {th : Int32} {kq : Int32} {ms : Nat → Int32} {v1 : Int32} {v2 : Int32} {v3 : Int32} {r : Int32 × Int32 × (Nat → Int32)} (C : Cx p s m args meth c G A RX4 cX4_set 5 ((some .int)))   (h : X4_set fu  th kq ms v1 v2 v3 = some r) : Wd p l e rm_X4_set s m args below meth c G A 5 0 0 (QQ G A (fun o w => o = some (.int r.1) ∧ w = (mw G ma r.2.1 tr kq kp su pr r.2.2 ro be di)) below args s 0 0) (mw G ma th tr kq kp su pr ms ro be di) [(0, .ref (ma 0)), (1, .int v1), (2, .int v2), (3, .int v3)] 0 [] := by
  unfold X4_set at h
  refine w_aload_n C 0 rfl dX4_set_0 ?_
  refine w_iconst (v := 0) C dX4_set_1 (by decide) ?_
  refine pt_X4_32 C dX4_set_2 ?_
  refine w_iload_n C 1 rfl dX4_set_5 ?_
  obtain ⟨x1, hx1, h⟩ := bd_some h
  refine w_cSi C (c_X4_isMap fu  hx1) pk_X4_isMap ml_X4_63 (As := [.int v1]) (rest := []) ⟨⟨rfl, rfl⟩, Nat.le_of_ble_eq_true rfl, Nat.le_of_ble_eq_true rfl⟩ rfl ⟨(Nat.le_of_ble_eq_true rfl), (Nat.le_of_ble_eq_true rfl)⟩ (Nat.le_of_ble_eq_true rfl) rfl (List.append_nil _).symm (List.append_nil _) dX4_set_6 ?_
  refine w_if_eq (tgt := 28) C dX4_set_9 (by decide) (fun hb2 => ?_) (fun hb2 => ?_)
  · have h := if_t hb2 h
    refine w_iconst (v := (-1)) C dX4_set_28 (by decide) ?_
    cases h
    exact w_iret C ⟨rfl, rfl⟩ dX4_set_29
  · have h := if_f hb2 h
    refine w_aload_n C 0 rfl dX4_set_12 ?_
    refine w_iload_n C 2 rfl dX4_set_13 ?_
    obtain ⟨x3, hx3, h⟩ := bd_some h
    refine w_cVi (wr := []) (qc := (RX4, TX4, 10)) C (c_X4_isNumber fu  hx3) pk_X4_isNumber ml_X4_59 (As := [.int v2]) (rest := []) (k9 := 0) rfl rfl ⟨⟨rfl, rfl⟩, Nat.le_of_ble_eq_true rfl, Nat.le_of_ble_eq_true rfl⟩ rfl ⟨(Nat.le_of_ble_eq_true rfl), (Nat.le_of_ble_eq_true rfl)⟩ (Nat.le_of_ble_eq_true rfl) rfl rfl (List.nil_append _) dX4_set_14 ?_
    refine w_if_eq (tgt := 28) C dX4_set_17 (by decide) (fun hb4 => ?_) (fun hb4 => ?_)
    · have h := if_t hb4 h
      refine w_iconst (v := (-1)) C dX4_set_28 (by decide) ?_
      cases h
      exact w_iret C ⟨rfl, rfl⟩ dX4_set_29
    · have h := if_f hb4 h
      refine w_aload_n C 0 rfl dX4_set_20 ?_
      refine w_iload_n C 3 rfl dX4_set_21 ?_
      obtain ⟨x5, hx5, h⟩ := bd_some h
      refine w_cVi (wr := []) (qc := (RX4, TX4, 10)) C (c_X4_isNumber fu  hx5) pk_X4_isNumber ml_X4_59 (As := [.int v3]) (rest := []) (k9 := 0) rfl rfl ⟨⟨rfl, rfl⟩, Nat.le_of_ble_eq_true rfl, Nat.le_of_ble_eq_true rfl⟩ rfl ⟨(Nat.le_of_ble_eq_true rfl), (Nat.le_of_ble_eq_true rfl)⟩ (Nat.le_of_ble_eq_true rfl) rfl rfl (List.nil_append _) dX4_set_22 ?_
      refine w_if_ne (tgt := 30) C dX4_set_25 (by decide) (fun hb6 => ?_) (fun hb6 => ?_)
      · have h := if_f hb6 h
        refine w_aload_n C 0 rfl dX4_set_30 ?_
        refine gt_X4_16 C dX4_set_31 ?_
        refine w_bipush (v := 16) C dX4_set_34 (by decide) ?_
        refine w_iload_n C 1 rfl dX4_set_36 ?_
        refine w_imul C dX4_set_37 ?_
        refine w_iload_n C 2 rfl dX4_set_38 ?_
        refine w_iadd C dX4_set_39 ?_
        obtain ⟨hi7, h⟩ := ckI_some h
        refine ld_ms C hi7 dX4_set_40 ?_
        refine w_istore C (Nat.le_of_ble_eq_true rfl) rfl dX4_set_41 ?_
        refine w_aload_n C 1 rfl dX4_set_43 ?_
        refine gt_X4_16 C dX4_set_44 ?_
        refine w_bipush (v := 16) C dX4_set_47 (by decide) ?_
        refine w_iload_n C 2 rfl dX4_set_49 ?_
        refine w_imul C dX4_set_50 ?_
        refine w_iload_n C 3 rfl dX4_set_51 ?_
        refine w_iadd C dX4_set_52 ?_
        refine w_iload_n C 4 rfl dX4_set_53 ?_
        obtain ⟨hi8, h⟩ := ckI_some h
        refine sr_ms C hi8 dX4_set_54 ?_
        refine w_iload C 0 rfl dX4_set_55 ?_
        cases h
        exact w_iret C ⟨rfl, rfl⟩ dX4_set_57
      · have h := if_t hb6 h
        refine w_iconst (v := (-1)) C dX4_set_28 (by decide) ?_
        cases h
        exact w_iret C ⟨rfl, rfl⟩ dX4_set_29
theorem c_X4_set {l : Launch} {G : GG} {ma : Nat → Nat} {th : Int32} {tr : Int64} {kq : Int32} {kp : Int32} {su : Nat → Int32} {pr : Nat → Int32} {ms : Nat → Int32} {ro : Nat → Int32} {be : Nat → Int32} {di : Nat → Int32} (fu : Nat) {v1 : Int32} {v2 : Int32} {v3 : Int32} {r : Int32 × Int32 × (Nat → Int32)} (h : X4_set fu th kq ms v1 v2 v3 = some r) : Ct l yX4_set cX4_set 5 ((some .int)) G rm_X4_set [.ref (ma 0), .int v1, .int v2, .int v3] (mw G ma th tr kq kp su pr ms ro be di) (fun o w => o = some (.int r.1) ∧ w = (mw G ma r.2.1 tr kq kp su pr r.2.2 ro be di)) 0 0 := Ct.of (by decide) (Nat.le_of_ble_eq_true rfl) (fun p e s m args below meth c A C _ => w_X4_set C h)
abbrev rm_X4_at : Room := { frames := 2, cells := 0, slots := 0, locals := 43 }
theorem pk_X4_at : PkV RX4 yX4_at cX4_at 3 ((some .int)) 2 := ⟨rfl, co_X4_at, ini_RX4, im_X4_at, se_X4_at, by decide +kernel⟩
set_option maxRecDepth 20000 in
set_option maxHeartbeats 4000000 in
theorem w_X4_at {ma : Nat → Nat} {tr : Int64} {kp : Int32} {su : Nat → Int32} {pr : Nat → Int32} {ro : Nat → Int32} {be : Nat → Int32} {di : Nat → Int32} {fu : Nat}  {th : Int32} {kq : Int32} {ms : Nat → Int32} {v1 : Int32} {v2 : Int32} {r : Int32 × Int32} (C : Cx p s m args meth c G A RX4 cX4_at 3 ((some .int)))   (h : X4_at fu  th kq ms v1 v2 = some r) : Wd p l e rm_X4_at s m args below meth c G A 3 0 0 (QQ G A (fun o w => o = some (.int r.1) ∧ w = (mw G ma r.2 tr kq kp su pr ms ro be di)) below args s 0 0) (mw G ma th tr kq kp su pr ms ro be di) [(0, .ref (ma 0)), (1, .int v1), (2, .int v2)] 0 [] := by
  unfold X4_at at h
  refine w_aload_n C 0 rfl dX4_at_0 ?_
  refine w_iconst (v := 0) C dX4_at_1 (by decide) ?_
  refine pt_X4_32 C dX4_at_2 ?_
  refine w_iload_n C 1 rfl dX4_at_5 ?_
  obtain ⟨x1, hx1, h⟩ := bd_some h
  refine w_cSi C (c_X4_isMap fu  hx1) pk_X4_isMap ml_X4_63 (As := [.int v1]) (rest := []) ⟨⟨rfl, rfl⟩, Nat.le_of_ble_eq_true rfl, Nat.le_of_ble_eq_true rfl⟩ rfl ⟨(Nat.le_of_ble_eq_true rfl), (Nat.le_of_ble_eq_true rfl)⟩ (Nat.le_of_ble_eq_true rfl) rfl (List.append_nil _).symm (List.append_nil _) dX4_at_6 ?_
  refine w_if_eq (tgt := 34) C dX4_at_9 (by decide) (fun hb2 => ?_) (fun hb2 => ?_)
  · have h := if_t hb2 h
    refine w_iconst (v := (-1)) C dX4_at_34 (by decide) ?_
    cases h
    exact w_iret C ⟨rfl, rfl⟩ dX4_at_35
  · have h := if_f hb2 h
    refine w_aload_n C 0 rfl dX4_at_12 ?_
    refine w_iload_n C 2 rfl dX4_at_13 ?_
    obtain ⟨x3, hx3, h⟩ := bd_some h
    refine w_cVi (wr := []) (qc := (RX4, TX4, 10)) C (c_X4_isNumber fu  hx3) pk_X4_isNumber ml_X4_59 (As := [.int v2]) (rest := []) (k9 := 0) rfl rfl ⟨⟨rfl, rfl⟩, Nat.le_of_ble_eq_true rfl, Nat.le_of_ble_eq_true rfl⟩ rfl ⟨(Nat.le_of_ble_eq_true rfl), (Nat.le_of_ble_eq_true rfl)⟩ (Nat.le_of_ble_eq_true rfl) rfl rfl (List.nil_append _) dX4_at_14 ?_
    refine w_if_eq (tgt := 34) C dX4_at_17 (by decide) (fun hb4 => ?_) (fun hb4 => ?_)
    · have h := if_t hb4 h
      refine w_iconst (v := (-1)) C dX4_at_34 (by decide) ?_
      cases h
      exact w_iret C ⟨rfl, rfl⟩ dX4_at_35
    · have h := if_f hb4 h
      refine w_aload_n C 0 rfl dX4_at_20 ?_
      refine gt_X4_16 C dX4_at_21 ?_
      refine w_bipush (v := 16) C dX4_at_24 (by decide) ?_
      refine w_iload_n C 1 rfl dX4_at_26 ?_
      refine w_imul C dX4_at_27 ?_
      refine w_iload_n C 2 rfl dX4_at_28 ?_
      refine w_iadd C dX4_at_29 ?_
      obtain ⟨hi5, h⟩ := ckI_some h
      refine ld_ms C hi5 dX4_at_30 ?_
      refine w_goto (tgt := 35) C dX4_at_31 (by decide) ?_
      cases h
      exact w_iret C ⟨rfl, rfl⟩ dX4_at_35
theorem c_X4_at {l : Launch} {G : GG} {ma : Nat → Nat} {th : Int32} {tr : Int64} {kq : Int32} {kp : Int32} {su : Nat → Int32} {pr : Nat → Int32} {ms : Nat → Int32} {ro : Nat → Int32} {be : Nat → Int32} {di : Nat → Int32} (fu : Nat) {v1 : Int32} {v2 : Int32} {r : Int32 × Int32} (h : X4_at fu th kq ms v1 v2 = some r) : Ct l yX4_at cX4_at 3 ((some .int)) G rm_X4_at [.ref (ma 0), .int v1, .int v2] (mw G ma th tr kq kp su pr ms ro be di) (fun o w => o = some (.int r.1) ∧ w = (mw G ma r.2 tr kq kp su pr ms ro be di)) 0 0 := Ct.of (by decide) (Nat.le_of_ble_eq_true rfl) (fun p e s m args below meth c A C _ => w_X4_at C h)
abbrev rm_X4_coefficientOf : Room := { frames := 2, cells := 0, slots := 0, locals := 46 }
theorem pk_X4_coefficientOf : PkV RX4 yX4_coefficientOf cX4_coefficientOf 5 ((some .int)) 2 := ⟨rfl, co_X4_coefficientOf, ini_RX4, im_X4_coefficientOf, se_X4_coefficientOf, by decide +kernel⟩
set_option maxRecDepth 20000 in
set_option maxHeartbeats 4000000 in
theorem w_X4_coefficientOf_19 {ma : Nat → Nat} {th : Int32} {tr : Int64} {kp : Int32} {ro : Nat → Int32} {be : Nat → Int32} {di : Nat → Int32} {kq : Int32} {su : Nat → Int32} {pr : Nat → Int32} {ms : Nat → Int32} {v1 : Int32} {v2 : Int32} {fu : Nat}  {r : Int32} (C : Cx p s m args meth c G A RX4 cX4_coefficientOf 5 ((some .int)))   : ∀ (fk : Nat) (v3 : Int32) (v4 : Int32), X4_coefficientOf_19 fu  kq su pr ms v1 v2 fk v3 v4 = some r → Wd p l e rm_X4_coefficientOf s m args below meth c G A 5 0 0 (QQ G A (fun o w => o = some (.int r) ∧ w = (mw G ma th tr kq kp su pr ms ro be di)) below args s 0 0) (mw G ma th tr kq kp su pr ms ro be di) [(0, .ref (ma 0)), (1, .int v1), (2, .int v2), (3, .int v3), (4, .int v4)] 19 [] := by
  intro fk
  induction fk with
  | zero =>
    intro v3 v4 h
    have h : (none : Option Int32) = some r := h
    cases h
  | succ fk ih =>
    intro v3 v4 h
    have h : X4_coefficientOf_19_b fu  kq su pr ms v1 v2 (X4_coefficientOf_19 fu  kq su pr ms v1 v2 fk) v3 v4 = some r := h
    unfold X4_coefficientOf_19_b at h
    refine w_iload C 4 rfl dX4_coefficientOf_19 ?_
    refine w_aload_n C 0 rfl dX4_coefficientOf_21 ?_
    refine gt_X4_39 C dX4_coefficientOf_22 ?_
    refine w_icmp_ge (tgt := 70) C dX4_coefficientOf_25 (by decide) (fun hb2 => ?_) (fun hb2 => ?_)
    · have h := if_t hb2 h
      refine w_aload_n C 0 rfl dX4_coefficientOf_70 ?_
      refine w_iload_n C 3 rfl dX4_coefficientOf_71 ?_
      obtain ⟨x3, hx3, h⟩ := bd_some h
      refine w_cVi (wr := []) (qc := (RX4, TX4, 10)) C (c_X4_minus fu  hx3) pk_X4_minus ml_X4_69 (As := [.int v3]) (rest := []) (k9 := 0) rfl rfl ⟨⟨rfl, rfl⟩, Nat.le_of_ble_eq_true rfl, Nat.le_of_ble_eq_true rfl⟩ rfl ⟨(Nat.le_of_ble_eq_true rfl), (Nat.le_of_ble_eq_true rfl)⟩ (Nat.le_of_ble_eq_true rfl) rfl rfl (List.nil_append _) dX4_coefficientOf_72 ?_
      cases h
      exact w_iret C ⟨rfl, rfl⟩ dX4_coefficientOf_75
    · have h := if_f hb2 h
      refine w_aload_n C 0 rfl dX4_coefficientOf_28 ?_
      refine w_iload_n C 3 rfl dX4_coefficientOf_29 ?_
      refine w_aload_n C 0 rfl dX4_coefficientOf_30 ?_
      refine w_aload_n C 0 rfl dX4_coefficientOf_31 ?_
      refine gt_X4_16 C dX4_coefficientOf_32 ?_
      refine w_bipush (v := 16) C dX4_coefficientOf_35 (by decide) ?_
      refine w_iload_n C 1 rfl dX4_coefficientOf_37 ?_
      refine w_imul C dX4_coefficientOf_38 ?_
      refine w_iload C 4 rfl dX4_coefficientOf_39 ?_
      refine w_iadd C dX4_coefficientOf_41 ?_
      obtain ⟨hi4, h⟩ := ckI_some h
      refine ld_ms C hi4 dX4_coefficientOf_42 ?_
      refine w_aload_n C 0 rfl dX4_coefficientOf_43 ?_
      refine w_iload C 4 rfl dX4_coefficientOf_44 ?_
      refine w_aload_n C 0 rfl dX4_coefficientOf_46 ?_
      refine gt_X4_39 C dX4_coefficientOf_47 ?_
      refine w_iconst (v := 1) C dX4_coefficientOf_50 (by decide) ?_
      refine w_isub C dX4_coefficientOf_51 ?_
      refine w_iload_n C 2 rfl dX4_coefficientOf_52 ?_
      refine w_isub C dX4_coefficientOf_53 ?_
      obtain ⟨x5, hx5, h⟩ := bd_some h
      refine w_cVi (wr := []) (qc := (RX4, TX4, 10)) C (c_X4_power fu  hx5) pk_X4_power ml_X4_66 (As := [.int v4, .int ((kq - 1) - v2)]) (rest := [.int (ms ((16 * v1) + v4).toNatClampNeg), .ref (ma 0), .int v3, .ref (ma 0)]) (k9 := 0) rfl rfl ⟨⟨rfl, rfl⟩, Nat.le_of_ble_eq_true rfl, Nat.le_of_ble_eq_true rfl⟩ rfl ⟨(Nat.le_of_ble_eq_true rfl), (Nat.le_of_ble_eq_true rfl)⟩ (Nat.le_of_ble_eq_true rfl) rfl rfl (List.nil_append _) dX4_coefficientOf_54 ?_
      obtain ⟨x6, hx6, h⟩ := bd_some h
      refine w_cVi (wr := []) (qc := (RX4, TX4, 10)) C (c_X4_by fu  hx6) pk_X4_by ml_X4_56 (As := [.int (ms ((16 * v1) + v4).toNatClampNeg), .int x5]) (rest := [.int v3, .ref (ma 0)]) (k9 := 0) rfl rfl ⟨⟨rfl, rfl⟩, Nat.le_of_ble_eq_true rfl, Nat.le_of_ble_eq_true rfl⟩ rfl ⟨(Nat.le_of_ble_eq_true rfl), (Nat.le_of_ble_eq_true rfl)⟩ (Nat.le_of_ble_eq_true rfl) rfl rfl (List.nil_append _) dX4_coefficientOf_57 ?_
      obtain ⟨x7, hx7, h⟩ := bd_some h
      refine w_cVi (wr := []) (qc := (RX4, TX4, 10)) C (c_X4_add fu  hx7) pk_X4_add ml_X4_49 (As := [.int v3, .int x6]) (rest := []) (k9 := 0) rfl rfl ⟨⟨rfl, rfl⟩, Nat.le_of_ble_eq_true rfl, Nat.le_of_ble_eq_true rfl⟩ rfl ⟨(Nat.le_of_ble_eq_true rfl), (Nat.le_of_ble_eq_true rfl)⟩ (Nat.le_of_ble_eq_true rfl) rfl rfl (List.nil_append _) dX4_coefficientOf_60 ?_
      refine w_istore_n C (Nat.le_of_ble_eq_true rfl) rfl dX4_coefficientOf_63 ?_
      refine w_iinc (v := v4 + 1) (k := 4) C rfl rfl (Nat.le_of_ble_eq_true rfl) rfl dX4_coefficientOf_64 ?_
      refine w_goto (tgt := 19) C dX4_coefficientOf_67 (by decide) ?_
      refine w_lv [2, 3, 4, 1, 0] rfl ?_
      exact ih _ _ h
set_option maxRecDepth 20000 in
set_option maxHeartbeats 4000000 in
theorem w_X4_coefficientOf {ma : Nat → Nat} {th : Int32} {tr : Int64} {kp : Int32} {ro : Nat → Int32} {be : Nat → Int32} {di : Nat → Int32} {fu : Nat}  {kq : Int32} {su : Nat → Int32} {pr : Nat → Int32} {ms : Nat → Int32} {v1 : Int32} {v2 : Int32} {r : Int32} (C : Cx p s m args meth c G A RX4 cX4_coefficientOf 5 ((some .int)))   (h : X4_coefficientOf fu  kq su pr ms v1 v2 = some r) : Wd p l e rm_X4_coefficientOf s m args below meth c G A 5 0 0 (QQ G A (fun o w => o = some (.int r) ∧ w = (mw G ma th tr kq kp su pr ms ro be di)) below args s 0 0) (mw G ma th tr kq kp su pr ms ro be di) [(0, .ref (ma 0)), (1, .int v1), (2, .int v2)] 0 [] := by
  unfold X4_coefficientOf at h
  refine w_iload_n C 2 rfl dX4_coefficientOf_0 ?_
  refine w_if_ne (tgt := 14) C dX4_coefficientOf_1 (by decide) (fun hb1 => ?_) (fun hb1 => ?_)
  · have h := if_f hb1 h
    refine w_iconst (v := 0) C dX4_coefficientOf_14 (by decide) ?_
    refine w_istore_n C (Nat.le_of_ble_eq_true rfl) rfl dX4_coefficientOf_15 ?_
    refine w_iconst (v := 0) C dX4_coefficientOf_16 (by decide) ?_
    refine w_istore C (Nat.le_of_ble_eq_true rfl) rfl dX4_coefficientOf_17 ?_
    refine w_lv [2, 3, 4, 1, 0] rfl ?_
    exact w_X4_coefficientOf_19 C    _ _ _ h
  · have h := if_t hb1 h
    refine w_aload_n C 0 rfl dX4_coefficientOf_4 ?_
    refine gt_X4_16 C dX4_coefficientOf_5 ?_
    refine w_bipush (v := 16) C dX4_coefficientOf_8 (by decide) ?_
    refine w_iload_n C 1 rfl dX4_coefficientOf_10 ?_
    refine w_imul C dX4_coefficientOf_11 ?_
    obtain ⟨hi8, h⟩ := ckI_some h
    refine ld_ms C hi8 dX4_coefficientOf_12 ?_
    cases h
    exact w_iret C ⟨rfl, rfl⟩ dX4_coefficientOf_13
theorem c_X4_coefficientOf {l : Launch} {G : GG} {ma : Nat → Nat} {th : Int32} {tr : Int64} {kq : Int32} {kp : Int32} {su : Nat → Int32} {pr : Nat → Int32} {ms : Nat → Int32} {ro : Nat → Int32} {be : Nat → Int32} {di : Nat → Int32} (fu : Nat) {v1 : Int32} {v2 : Int32} {r : Int32} (h : X4_coefficientOf fu kq su pr ms v1 v2 = some r) : Ct l yX4_coefficientOf cX4_coefficientOf 5 ((some .int)) G rm_X4_coefficientOf [.ref (ma 0), .int v1, .int v2] (mw G ma th tr kq kp su pr ms ro be di) (fun o w => o = some (.int r) ∧ w = (mw G ma th tr kq kp su pr ms ro be di)) 0 0 := Ct.of (by decide) (Nat.le_of_ble_eq_true rfl) (fun p e s m args below meth c A C _ => w_X4_coefficientOf C h)
abbrev rm_X4_coefficient : Room := { frames := 3, cells := 0, slots := 0, locals := 70 }
theorem pk_X4_coefficient : PkV RX4 yX4_coefficient cX4_coefficient 3 ((some .int)) 2 := ⟨rfl, co_X4_coefficient, ini_RX4, im_X4_coefficient, se_X4_coefficient, by decide +kernel⟩
set_option maxRecDepth 20000 in
set_option maxHeartbeats 4000000 in
theorem w_X4_coefficient {ma : Nat → Nat} {tr : Int64} {kp : Int32} {ro : Nat → Int32} {be : Nat → Int32} {di : Nat → Int32} {fu : Nat}  {th : Int32} {kq : Int32} {su : Nat → Int32} {pr : Nat → Int32} {ms : Nat → Int32} {v1 : Int32} {v2 : Int32} {r : Int32 × Int32} (C : Cx p s m args meth c G A RX4 cX4_coefficient 3 ((some .int)))   (h : X4_coefficient fu  th kq su pr ms v1 v2 = some r) : Wd p l e rm_X4_coefficient s m args below meth c G A 3 0 0 (QQ G A (fun o w => o = some (.int r.1) ∧ w = (mw G ma r.2 tr kq kp su pr ms ro be di)) below args s 0 0) (mw G ma th tr kq kp su pr ms ro be di) [(0, .ref (ma 0)), (1, .int v1), (2, .int v2)] 0 [] := by
  unfold X4_coefficient at h
  refine w_aload_n C 0 rfl dX4_coefficient_0 ?_
  refine w_iconst (v := 0) C dX4_coefficient_1 (by decide) ?_
  refine pt_X4_32 C dX4_coefficient_2 ?_
  refine w_iload_n C 1 rfl dX4_coefficient_5 ?_
  obtain ⟨x1, hx1, h⟩ := bd_some h
  refine w_cSi C (c_X4_isMap fu  hx1) pk_X4_isMap ml_X4_63 (As := [.int v1]) (rest := []) ⟨⟨rfl, rfl⟩, Nat.le_of_ble_eq_true rfl, Nat.le_of_ble_eq_true rfl⟩ rfl ⟨(Nat.le_of_ble_eq_true rfl), (Nat.le_of_ble_eq_true rfl)⟩ (Nat.le_of_ble_eq_true rfl) rfl (List.append_nil _).symm (List.append_nil _) dX4_coefficient_6 ?_
  refine w_if_eq (tgt := 29) C dX4_coefficient_9 (by decide) (fun hb2 => ?_) (fun hb2 => ?_)
  · have h := if_t hb2 h
    refine w_iconst (v := (-1)) C dX4_coefficient_29 (by decide) ?_
    cases h
    exact w_iret C ⟨rfl, rfl⟩ dX4_coefficient_30
  · have h := if_f hb2 h
    refine w_aload_n C 0 rfl dX4_coefficient_12 ?_
    refine w_iload_n C 2 rfl dX4_coefficient_13 ?_
    obtain ⟨x3, hx3, h⟩ := bd_some h
    refine w_cVi (wr := []) (qc := (RX4, TX4, 10)) C (c_X4_isNumber fu  hx3) pk_X4_isNumber ml_X4_59 (As := [.int v2]) (rest := []) (k9 := 0) rfl rfl ⟨⟨rfl, rfl⟩, Nat.le_of_ble_eq_true rfl, Nat.le_of_ble_eq_true rfl⟩ rfl ⟨(Nat.le_of_ble_eq_true rfl), (Nat.le_of_ble_eq_true rfl)⟩ (Nat.le_of_ble_eq_true rfl) rfl rfl (List.nil_append _) dX4_coefficient_14 ?_
    refine w_if_eq (tgt := 29) C dX4_coefficient_17 (by decide) (fun hb4 => ?_) (fun hb4 => ?_)
    · have h := if_t hb4 h
      refine w_iconst (v := (-1)) C dX4_coefficient_29 (by decide) ?_
      cases h
      exact w_iret C ⟨rfl, rfl⟩ dX4_coefficient_30
    · have h := if_f hb4 h
      refine w_aload_n C 0 rfl dX4_coefficient_20 ?_
      refine w_iload_n C 1 rfl dX4_coefficient_21 ?_
      refine w_iload_n C 2 rfl dX4_coefficient_22 ?_
      obtain ⟨x5, hx5, h⟩ := bd_some h
      refine w_cVi (wr := []) (qc := (RX4, TX4, 10)) C (c_X4_coefficientOf fu  hx5) pk_X4_coefficientOf ml_X4_73 (As := [.int v1, .int v2]) (rest := []) (k9 := 0) rfl rfl ⟨⟨rfl, rfl⟩, Nat.le_of_ble_eq_true rfl, Nat.le_of_ble_eq_true rfl⟩ rfl ⟨(Nat.le_of_ble_eq_true rfl), (Nat.le_of_ble_eq_true rfl)⟩ (Nat.le_of_ble_eq_true rfl) rfl rfl (List.nil_append _) dX4_coefficient_23 ?_
      refine w_goto (tgt := 30) C dX4_coefficient_26 (by decide) ?_
      cases h
      exact w_iret C ⟨rfl, rfl⟩ dX4_coefficient_30
theorem c_X4_coefficient {l : Launch} {G : GG} {ma : Nat → Nat} {th : Int32} {tr : Int64} {kq : Int32} {kp : Int32} {su : Nat → Int32} {pr : Nat → Int32} {ms : Nat → Int32} {ro : Nat → Int32} {be : Nat → Int32} {di : Nat → Int32} (fu : Nat) {v1 : Int32} {v2 : Int32} {r : Int32 × Int32} (h : X4_coefficient fu th kq su pr ms v1 v2 = some r) : Ct l yX4_coefficient cX4_coefficient 3 ((some .int)) G rm_X4_coefficient [.ref (ma 0), .int v1, .int v2] (mw G ma th tr kq kp su pr ms ro be di) (fun o w => o = some (.int r.1) ∧ w = (mw G ma r.2 tr kq kp su pr ms ro be di)) 0 0 := Ct.of (by decide) (Nat.le_of_ble_eq_true rfl) (fun p e s m args below meth c A C _ => w_X4_coefficient C h)
abbrev rm_X4_change : Room := { frames := 3, cells := 0, slots := 0, locals := 70 }
theorem pk_X4_change : PkV RX4 yX4_change cX4_change 7 ((some .int)) 3 := ⟨rfl, co_X4_change, ini_RX4, im_X4_change, se_X4_change, by decide +kernel⟩
set_option maxRecDepth 20000 in
set_option maxHeartbeats 4000000 in
theorem w_X4_change_54 {ma : Nat → Nat} {tr : Int64} {kp : Int32} {ro : Nat → Int32} {be : Nat → Int32} {di : Nat → Int32} {th : Int32} {kq : Int32} {su : Nat → Int32} {pr : Nat → Int32} {v1 : Int32} {v2 : Int32} {v4 : Int32} {v5 : Int32} {fu : Nat}  {r : Int32 × Int32 × (Nat → Int32)} (C : Cx p s m args meth c G A RX4 cX4_change 7 ((some .int)))   : ∀ (fk : Nat) (ms : Nat → Int32) (v6 : Int32), X4_change_54 fu  th kq su pr v1 v2 v4 v5 fk ms v6 = some r → Wd p l e rm_X4_change s m args below meth c G A 7 0 0 (QQ G A (fun o w => o = some (.int r.1) ∧ w = (mw G ma r.2.1 tr kq kp su pr r.2.2 ro be di)) below args s 0 0) (mw G ma th tr kq kp su pr ms ro be di) [(0, .ref (ma 0)), (1, .int v1), (2, .int v2), (4, .int v4), (5, .int v5), (6, .int v6)] 54 [] := by
  intro fk
  induction fk with
  | zero =>
    intro ms v6 h
    have h : (none : Option (Int32 × Int32 × (Nat → Int32))) = some r := h
    cases h
  | succ fk ih =>
    intro ms v6 h
    have h : X4_change_54_b fu  th kq su pr v1 v2 v4 v5 (X4_change_54 fu  th kq su pr v1 v2 v4 v5 fk) ms v6 = some r := h
    unfold X4_change_54_b at h
    refine w_iload C 5 rfl dX4_change_54 ?_
    refine w_aload_n C 0 rfl dX4_change_56 ?_
    refine gt_X4_39 C dX4_change_57 ?_
    refine w_icmp_ge (tgt := 110) C dX4_change_60 (by decide) (fun hb10 => ?_) (fun hb10 => ?_)
    · have h := if_t hb10 h
      refine w_iload C 3 rfl dX4_change_110 ?_
      cases h
      exact w_iret C ⟨rfl, rfl⟩ dX4_change_112
    · have h := if_f hb10 h
      refine w_aload_n C 0 rfl dX4_change_63 ?_
      refine gt_X4_16 C dX4_change_64 ?_
      refine w_bipush (v := 16) C dX4_change_67 (by decide) ?_
      refine w_iload_n C 1 rfl dX4_change_69 ?_
      refine w_imul C dX4_change_70 ?_
      refine w_iload C 5 rfl dX4_change_71 ?_
      refine w_iadd C dX4_change_73 ?_
      refine w_aload_n C 0 rfl dX4_change_74 ?_
      refine w_aload_n C 0 rfl dX4_change_75 ?_
      refine gt_X4_16 C dX4_change_76 ?_
      refine w_bipush (v := 16) C dX4_change_79 (by decide) ?_
      refine w_iload_n C 1 rfl dX4_change_81 ?_
      refine w_imul C dX4_change_82 ?_
      refine w_iload C 5 rfl dX4_change_83 ?_
      refine w_iadd C dX4_change_85 ?_
      obtain ⟨hi11, h⟩ := ckI_some h
      refine ld_ms C hi11 dX4_change_86 ?_
      refine w_aload_n C 0 rfl dX4_change_87 ?_
      refine w_iload C 4 rfl dX4_change_88 ?_
      refine w_aload_n C 0 rfl dX4_change_90 ?_
      refine w_iload C 5 rfl dX4_change_91 ?_
      refine w_iload_n C 2 rfl dX4_change_93 ?_
      obtain ⟨x12, hx12, h⟩ := bd_some h
      refine w_cVi (wr := []) (qc := (RX4, TX4, 10)) C (c_X4_power fu  hx12) pk_X4_power ml_X4_66 (As := [.int v6, .int v2]) (rest := [.int v5, .ref (ma 0), .int (ms ((16 * v1) + v6).toNatClampNeg), .ref (ma 0), .int ((16 * v1) + v6), .ref (ma 3)]) (k9 := 0) rfl rfl ⟨⟨rfl, rfl⟩, Nat.le_of_ble_eq_true rfl, Nat.le_of_ble_eq_true rfl⟩ rfl ⟨(Nat.le_of_ble_eq_true rfl), (Nat.le_of_ble_eq_true rfl)⟩ (Nat.le_of_ble_eq_true rfl) rfl rfl (List.nil_append _) dX4_change_94 ?_
      obtain ⟨x13, hx13, h⟩ := bd_some h
      refine w_cVi (wr := []) (qc := (RX4, TX4, 10)) C (c_X4_by fu  hx13) pk_X4_by ml_X4_56 (As := [.int v5, .int x12]) (rest := [.int (ms ((16 * v1) + v6).toNatClampNeg), .ref (ma 0), .int ((16 * v1) + v6), .ref (ma 3)]) (k9 := 0) rfl rfl ⟨⟨rfl, rfl⟩, Nat.le_of_ble_eq_true rfl, Nat.le_of_ble_eq_true rfl⟩ rfl ⟨(Nat.le_of_ble_eq_true rfl), (Nat.le_of_ble_eq_true rfl)⟩ (Nat.le_of_ble_eq_true rfl) rfl rfl (List.nil_append _) dX4_change_97 ?_
      obtain ⟨x14, hx14, h⟩ := bd_some h
      refine w_cVi (wr := []) (qc := (RX4, TX4, 10)) C (c_X4_add fu  hx14) pk_X4_add ml_X4_49 (As := [.int (ms ((16 * v1) + v6).toNatClampNeg), .int x13]) (rest := [.int ((16 * v1) + v6), .ref (ma 3)]) (k9 := 0) rfl rfl ⟨⟨rfl, rfl⟩, Nat.le_of_ble_eq_true rfl, Nat.le_of_ble_eq_true rfl⟩ rfl ⟨(Nat.le_of_ble_eq_true rfl), (Nat.le_of_ble_eq_true rfl)⟩ (Nat.le_of_ble_eq_true rfl) rfl rfl (List.nil_append _) dX4_change_100 ?_
      obtain ⟨hi15, h⟩ := ckI_some h
      refine sr_ms C hi15 dX4_change_103 ?_
      refine w_iinc (v := v6 + 1) (k := 5) C rfl rfl (Nat.le_of_ble_eq_true rfl) rfl dX4_change_104 ?_
      refine w_goto (tgt := 54) C dX4_change_107 (by decide) ?_
      refine w_lv [1, 2, 3, 4, 5, 0] rfl ?_
      exact ih _ _ h
set_option maxRecDepth 20000 in
set_option maxHeartbeats 4000000 in
theorem w_X4_change {ma : Nat → Nat} {tr : Int64} {kp : Int32} {ro : Nat → Int32} {be : Nat → Int32} {di : Nat → Int32} {fu : Nat}  {th : Int32} {kq : Int32} {su : Nat → Int32} {pr : Nat → Int32} {ms : Nat → Int32} {v1 : Int32} {v2 : Int32} {v3 : Int32} {r : Int32 × Int32 × (Nat → Int32)} (C : Cx p s m args meth c G A RX4 cX4_change 7 ((some .int)))   (h : X4_change fu  th kq su pr ms v1 v2 v3 = some r) : Wd p l e rm_X4_change s m args below meth c G A 7 0 0 (QQ G A (fun o w => o = some (.int r.1) ∧ w = (mw G ma r.2.1 tr kq kp su pr r.2.2 ro be di)) below args s 0 0) (mw G ma th tr kq kp su pr ms ro be di) [(0, .ref (ma 0)), (1, .int v1), (2, .int v2), (3, .int v3)] 0 [] := by
  unfold X4_change at h
  refine w_aload_n C 0 rfl dX4_change_0 ?_
  refine w_iconst (v := 0) C dX4_change_1 (by decide) ?_
  refine pt_X4_32 C dX4_change_2 ?_
  refine w_iload_n C 1 rfl dX4_change_5 ?_
  obtain ⟨x1, hx1, h⟩ := bd_some h
  refine w_cSi C (c_X4_isMap fu  hx1) pk_X4_isMap ml_X4_63 (As := [.int v1]) (rest := []) ⟨⟨rfl, rfl⟩, Nat.le_of_ble_eq_true rfl, Nat.le_of_ble_eq_true rfl⟩ rfl ⟨(Nat.le_of_ble_eq_true rfl), (Nat.le_of_ble_eq_true rfl)⟩ (Nat.le_of_ble_eq_true rfl) rfl (List.append_nil _).symm (List.append_nil _) dX4_change_6 ?_
  refine w_if_eq (tgt := 28) C dX4_change_9 (by decide) (fun hb2 => ?_) (fun hb2 => ?_)
  · have h := if_t hb2 h
    refine w_iconst (v := (-1)) C dX4_change_28 (by decide) ?_
    cases h
    exact w_iret C ⟨rfl, rfl⟩ dX4_change_29
  · have h := if_f hb2 h
    refine w_aload_n C 0 rfl dX4_change_12 ?_
    refine w_iload_n C 2 rfl dX4_change_13 ?_
    obtain ⟨x3, hx3, h⟩ := bd_some h
    refine w_cVi (wr := []) (qc := (RX4, TX4, 10)) C (c_X4_isNumber fu  hx3) pk_X4_isNumber ml_X4_59 (As := [.int v2]) (rest := []) (k9 := 0) rfl rfl ⟨⟨rfl, rfl⟩, Nat.le_of_ble_eq_true rfl, Nat.le_of_ble_eq_true rfl⟩ rfl ⟨(Nat.le_of_ble_eq_true rfl), (Nat.le_of_ble_eq_true rfl)⟩ (Nat.le_of_ble_eq_true rfl) rfl rfl (List.nil_append _) dX4_change_14 ?_
    refine w_if_eq (tgt := 28) C dX4_change_17 (by decide) (fun hb4 => ?_) (fun hb4 => ?_)
    · have h := if_t hb4 h
      refine w_iconst (v := (-1)) C dX4_change_28 (by decide) ?_
      cases h
      exact w_iret C ⟨rfl, rfl⟩ dX4_change_29
    · have h := if_f hb4 h
      refine w_aload_n C 0 rfl dX4_change_20 ?_
      refine w_iload_n C 3 rfl dX4_change_21 ?_
      obtain ⟨x5, hx5, h⟩ := bd_some h
      refine w_cVi (wr := []) (qc := (RX4, TX4, 10)) C (c_X4_isNumber fu  hx5) pk_X4_isNumber ml_X4_59 (As := [.int v3]) (rest := []) (k9 := 0) rfl rfl ⟨⟨rfl, rfl⟩, Nat.le_of_ble_eq_true rfl, Nat.le_of_ble_eq_true rfl⟩ rfl ⟨(Nat.le_of_ble_eq_true rfl), (Nat.le_of_ble_eq_true rfl)⟩ (Nat.le_of_ble_eq_true rfl) rfl rfl (List.nil_append _) dX4_change_22 ?_
      refine w_if_ne (tgt := 30) C dX4_change_25 (by decide) (fun hb6 => ?_) (fun hb6 => ?_)
      · have h := if_f hb6 h
        refine w_aload_n C 0 rfl dX4_change_30 ?_
        refine w_iload_n C 1 rfl dX4_change_31 ?_
        refine w_iload_n C 2 rfl dX4_change_32 ?_
        obtain ⟨x7, hx7, h⟩ := bd_some h
        refine w_cVi (wr := []) (qc := (RX4, TX4, 10)) C (c_X4_coefficientOf fu  hx7) pk_X4_coefficientOf ml_X4_73 (As := [.int v1, .int v2]) (rest := []) (k9 := 0) rfl rfl ⟨⟨rfl, rfl⟩, Nat.le_of_ble_eq_true rfl, Nat.le_of_ble_eq_true rfl⟩ rfl ⟨(Nat.le_of_ble_eq_true rfl), (Nat.le_of_ble_eq_true rfl)⟩ (Nat.le_of_ble_eq_true rfl) rfl rfl (List.nil_append _) dX4_change_33 ?_
        refine w_istore C (Nat.le_of_ble_eq_true rfl) rfl dX4_change_36 ?_
        refine w_aload_n C 1 rfl dX4_change_38 ?_
        refine w_iload_n C 4 rfl dX4_change_39 ?_
        refine w_aload_n C 1 rfl dX4_change_40 ?_
        refine w_iload C 0 rfl dX4_change_41 ?_
        obtain ⟨x8, hx8, h⟩ := bd_some h
        refine w_cVi (wr := []) (qc := (RX4, TX4, 10)) C (c_X4_minus fu  hx8) pk_X4_minus ml_X4_69 (As := [.int x7]) (rest := [.int v3, .ref (ma 0)]) (k9 := 0) rfl rfl ⟨⟨rfl, rfl⟩, Nat.le_of_ble_eq_true rfl, Nat.le_of_ble_eq_true rfl⟩ rfl ⟨(Nat.le_of_ble_eq_true rfl), (Nat.le_of_ble_eq_true rfl)⟩ (Nat.le_of_ble_eq_true rfl) rfl rfl (List.nil_append _) dX4_change_43 ?_
        obtain ⟨x9, hx9, h⟩ := bd_some h
        refine w_cVi (wr := []) (qc := (RX4, TX4, 10)) C (c_X4_add fu  hx9) pk_X4_add ml_X4_49 (As := [.int v3, .int x8]) (rest := []) (k9 := 0) rfl rfl ⟨⟨rfl, rfl⟩, Nat.le_of_ble_eq_true rfl, Nat.le_of_ble_eq_true rfl⟩ rfl ⟨(Nat.le_of_ble_eq_true rfl), (Nat.le_of_ble_eq_true rfl)⟩ (Nat.le_of_ble_eq_true rfl) rfl rfl (List.nil_append _) dX4_change_46 ?_
        refine w_istore C (Nat.le_of_ble_eq_true rfl) rfl dX4_change_49 ?_
        refine w_iconst (v := 0) C dX4_change_51 (by decide) ?_
        refine w_istore C (Nat.le_of_ble_eq_true rfl) rfl dX4_change_52 ?_
        refine w_lv [3, 4, 5, 2, 1, 0] rfl ?_
        exact w_X4_change_54 C    _ _ _ h
      · have h := if_t hb6 h
        refine w_iconst (v := (-1)) C dX4_change_28 (by decide) ?_
        cases h
        exact w_iret C ⟨rfl, rfl⟩ dX4_change_29
theorem c_X4_change {l : Launch} {G : GG} {ma : Nat → Nat} {th : Int32} {tr : Int64} {kq : Int32} {kp : Int32} {su : Nat → Int32} {pr : Nat → Int32} {ms : Nat → Int32} {ro : Nat → Int32} {be : Nat → Int32} {di : Nat → Int32} (fu : Nat) {v1 : Int32} {v2 : Int32} {v3 : Int32} {r : Int32 × Int32 × (Nat → Int32)} (h : X4_change fu th kq su pr ms v1 v2 v3 = some r) : Ct l yX4_change cX4_change 7 ((some .int)) G rm_X4_change [.ref (ma 0), .int v1, .int v2, .int v3] (mw G ma th tr kq kp su pr ms ro be di) (fun o w => o = some (.int r.1) ∧ w = (mw G ma r.2.1 tr kq kp su pr r.2.2 ro be di)) 0 0 := Ct.of (by decide) (Nat.le_of_ble_eq_true rfl) (fun p e s m args below meth c A C _ => w_X4_change C h)
abbrev rm_X4_degree : Room := { frames := 3, cells := 0, slots := 0, locals := 70 }
theorem pk_X4_degree : PkV RX4 yX4_degree cX4_degree 3 ((some .int)) 1 := ⟨rfl, co_X4_degree, ini_RX4, im_X4_degree, se_X4_degree, by decide +kernel⟩
set_option maxRecDepth 20000 in
set_option maxHeartbeats 4000000 in
theorem w_X4_degree_40 {ma : Nat → Nat} {tr : Int64} {kp : Int32} {ro : Nat → Int32} {be : Nat → Int32} {di : Nat → Int32} {fu : Nat}  {th : Int32} {kq : Int32} {su : Nat → Int32} {pr : Nat → Int32} {ms : Nat → Int32} {v2 : Int32} {r : Int32 × Int32} (C : Cx p s m args meth c G A RX4 cX4_degree 3 ((some .int)))   (h : X4_degree_40 fu  th kq su pr ms v2 = some r) : Wd p l e rm_X4_degree s m args below meth c G A 3 0 0 (QQ G A (fun o w => o = some (.int r.1) ∧ w = (mw G ma r.2 tr kq kp su pr ms ro be di)) below args s 0 0) (mw G ma th tr kq kp su pr ms ro be di) [(2, .int v2)] 40 [] := by
  unfold X4_degree_40 at h
  refine w_iload_n C 0 rfl dX4_degree_40 ?_
  refine w_if_ge (tgt := 49) C dX4_degree_41 (by decide) (fun hb4 => ?_) (fun hb4 => ?_)
  · have h := if_t hb4 h
    refine w_iload_n C 0 rfl dX4_degree_49 ?_
    cases h
    exact w_iret C ⟨rfl, rfl⟩ dX4_degree_50
  · have h := if_f hb4 h
    refine w_bipush (v := (-9)) C dX4_degree_44 (by decide) ?_
    refine w_goto (tgt := 50) C dX4_degree_46 (by decide) ?_
    cases h
    exact w_iret C ⟨rfl, rfl⟩ dX4_degree_50
set_option maxRecDepth 20000 in
set_option maxHeartbeats 4000000 in
theorem w_X4_degree_21 {ma : Nat → Nat} {tr : Int64} {kp : Int32} {ro : Nat → Int32} {be : Nat → Int32} {di : Nat → Int32} {th : Int32} {kq : Int32} {su : Nat → Int32} {pr : Nat → Int32} {ms : Nat → Int32} {v1 : Int32} {fu : Nat}  {r : Int32 × Int32} (C : Cx p s m args meth c G A RX4 cX4_degree 3 ((some .int)))   : ∀ (fk : Nat) (v2 : Int32), X4_degree_21 fu  th kq su pr ms v1 fk v2 = some r → Wd p l e rm_X4_degree s m args below meth c G A 3 0 0 (QQ G A (fun o w => o = some (.int r.1) ∧ w = (mw G ma r.2 tr kq kp su pr ms ro be di)) below args s 0 0) (mw G ma th tr kq kp su pr ms ro be di) [(0, .ref (ma 0)), (1, .int v1), (2, .int v2)] 21 [] := by
  intro fk
  induction fk with
  | zero =>
    intro v2 h
    have h : (none : Option (Int32 × Int32)) = some r := h
    cases h
  | succ fk ih =>
    intro v2 h
    have h : X4_degree_21_b fu  th kq su pr ms v1 (X4_degree_21 fu  th kq su pr ms v1 fk) v2 = some r := h
    unfold X4_degree_21_b at h
    refine w_iload_n C 2 rfl dX4_degree_21 ?_
    refine w_if_lt (tgt := 40) C dX4_degree_22 (by decide) (fun hb3 => ?_) (fun hb3 => ?_)
    · have h := if_t hb3 h
      refine w_lv [2] rfl ?_
      exact w_X4_degree_40 C    h
    · have h := if_f hb3 h
      refine w_aload_n C 0 rfl dX4_degree_25 ?_
      refine w_iload_n C 1 rfl dX4_degree_26 ?_
      refine w_iload_n C 2 rfl dX4_degree_27 ?_
      obtain ⟨x5, hx5, h⟩ := bd_some h
      refine w_cVi (wr := []) (qc := (RX4, TX4, 10)) C (c_X4_coefficientOf fu  hx5) pk_X4_coefficientOf ml_X4_73 (As := [.int v1, .int v2]) (rest := []) (k9 := 0) rfl rfl ⟨⟨rfl, rfl⟩, Nat.le_of_ble_eq_true rfl, Nat.le_of_ble_eq_true rfl⟩ rfl ⟨(Nat.le_of_ble_eq_true rfl), (Nat.le_of_ble_eq_true rfl)⟩ (Nat.le_of_ble_eq_true rfl) rfl rfl (List.nil_append _) dX4_degree_28 ?_
      refine w_if_ne (tgt := 40) C dX4_degree_31 (by decide) (fun hb6 => ?_) (fun hb6 => ?_)
      · have h := if_f hb6 h
        refine w_lv [2] rfl ?_
        exact w_X4_degree_40 C    h
      · have h := if_t hb6 h
        refine w_iinc (v := v2 + (-1)) (k := 2) C rfl (by rw [litm1]) (Nat.le_of_ble_eq_true rfl) rfl dX4_degree_34 ?_
        refine w_goto (tgt := 21) C dX4_degree_37 (by decide) ?_
        refine w_lv [1, 2, 0] rfl ?_
        exact ih _ h
set_option maxRecDepth 20000 in
set_option maxHeartbeats 4000000 in
theorem w_X4_degree {ma : Nat → Nat} {tr : Int64} {kp : Int32} {ro : Nat → Int32} {be : Nat → Int32} {di : Nat → Int32} {fu : Nat}  {th : Int32} {kq : Int32} {su : Nat → Int32} {pr : Nat → Int32} {ms : Nat → Int32} {v1 : Int32} {r : Int32 × Int32} (C : Cx p s m args meth c G A RX4 cX4_degree 3 ((some .int)))   (h : X4_degree fu  th kq su pr ms v1 = some r) : Wd p l e rm_X4_degree s m args below meth c G A 3 0 0 (QQ G A (fun o w => o = some (.int r.1) ∧ w = (mw G ma r.2 tr kq kp su pr ms ro be di)) below args s 0 0) (mw G ma th tr kq kp su pr ms ro be di) [(0, .ref (ma 0)), (1, .int v1)] 0 [] := by
  unfold X4_degree at h
  refine w_aload_n C 0 rfl dX4_degree_0 ?_
  refine w_iconst (v := 0) C dX4_degree_1 (by decide) ?_
  refine pt_X4_32 C dX4_degree_2 ?_
  refine w_iload_n C 1 rfl dX4_degree_5 ?_
  obtain ⟨x1, hx1, h⟩ := bd_some h
  refine w_cSi C (c_X4_isMap fu  hx1) pk_X4_isMap ml_X4_63 (As := [.int v1]) (rest := []) ⟨⟨rfl, rfl⟩, Nat.le_of_ble_eq_true rfl, Nat.le_of_ble_eq_true rfl⟩ rfl ⟨(Nat.le_of_ble_eq_true rfl), (Nat.le_of_ble_eq_true rfl)⟩ (Nat.le_of_ble_eq_true rfl) rfl (List.append_nil _).symm (List.append_nil _) dX4_degree_6 ?_
  refine w_if_ne (tgt := 14) C dX4_degree_9 (by decide) (fun hb2 => ?_) (fun hb2 => ?_)
  · have h := if_f hb2 h
    refine w_aload_n C 0 rfl dX4_degree_14 ?_
    refine gt_X4_39 C dX4_degree_15 ?_
    refine w_iconst (v := 1) C dX4_degree_18 (by decide) ?_
    refine w_isub C dX4_degree_19 ?_
    refine w_istore_n C (Nat.le_of_ble_eq_true rfl) rfl dX4_degree_20 ?_
    refine w_lv [1, 2, 0] rfl ?_
    exact w_X4_degree_21 C    _ _ h
  · have h := if_t hb2 h
    refine w_iconst (v := (-1)) C dX4_degree_12 (by decide) ?_
    cases h
    exact w_iret C ⟨rfl, rfl⟩ dX4_degree_13
theorem c_X4_degree {l : Launch} {G : GG} {ma : Nat → Nat} {th : Int32} {tr : Int64} {kq : Int32} {kp : Int32} {su : Nat → Int32} {pr : Nat → Int32} {ms : Nat → Int32} {ro : Nat → Int32} {be : Nat → Int32} {di : Nat → Int32} (fu : Nat) {v1 : Int32} {r : Int32 × Int32} (h : X4_degree fu th kq su pr ms v1 = some r) : Ct l yX4_degree cX4_degree 3 ((some .int)) G rm_X4_degree [.ref (ma 0), .int v1] (mw G ma th tr kq kp su pr ms ro be di) (fun o w => o = some (.int r.1) ∧ w = (mw G ma r.2 tr kq kp su pr ms ro be di)) 0 0 := Ct.of (by decide) (Nat.le_of_ble_eq_true rfl) (fun p e s m args below meth c A C _ => w_X4_degree C h)
abbrev rm_X4_isRecipe : Room := { frames := 2, cells := 0, slots := 0, locals := 43 }
theorem pk_X4_isRecipe : PkV RX4 yX4_isRecipe cX4_isRecipe 6 ((some .boolean)) 5 := ⟨rfl, co_X4_isRecipe, ini_RX4, im_X4_isRecipe, se_X4_isRecipe, by decide +kernel⟩
set_option maxRecDepth 20000 in
set_option maxHeartbeats 4000000 in
theorem w_X4_isRecipe {ma : Nat → Nat} {th : Int32} {tr : Int64} {kp : Int32} {su : Nat → Int32} {pr : Nat → Int32} {ms : Nat → Int32} {ro : Nat → Int32} {be : Nat → Int32} {di : Nat → Int32} {fu : Nat}  {kq : Int32} {v1 : Int32} {v2 : Int32} {v3 : Int32} {v4 : Int32} {v5 : Int32} {r : Int32} (C : Cx p s m args meth c G A RX4 cX4_isRecipe 6 ((some .boolean)))   (h : X4_isRecipe fu  kq v1 v2 v3 v4 v5 = some r) : Wd p l e rm_X4_isRecipe s m args below meth c G A 6 0 0 (QQ G A (fun o w => o = some (.int r) ∧ w = (mw G ma th tr kq kp su pr ms ro be di)) below args s 0 0) (mw G ma th tr kq kp su pr ms ro be di) [(0, .ref (ma 0)), (1, .int v1), (2, .int v2), (3, .int v3), (4, .int v4), (5, .int v5)] 0 [] := by
  unfold X4_isRecipe at h
  refine w_iload_n C 1 rfl dX4_isRecipe_0 ?_
  refine w_iconst (v := 0) C dX4_isRecipe_1 (by decide) ?_
  refine w_iconst (v := 2) C dX4_isRecipe_2 (by decide) ?_
  obtain ⟨x1, hx1, h⟩ := bd_some h
  refine w_cSi C (c_X4_in fu  hx1) pk_X4_in ml_X4_52 (As := [.int v1, .int 0, .int 2]) (rest := []) ⟨⟨rfl, rfl⟩, Nat.le_of_ble_eq_true rfl, Nat.le_of_ble_eq_true rfl⟩ rfl ⟨(Nat.le_of_ble_eq_true rfl), (Nat.le_of_ble_eq_true rfl)⟩ (Nat.le_of_ble_eq_true rfl) rfl (List.append_nil _).symm (List.append_nil _) dX4_isRecipe_3 ?_
  refine w_if_eq (tgt := 54) C dX4_isRecipe_6 (by decide) (fun hb2 => ?_) (fun hb2 => ?_)
  · have h := if_t hb2 h
    refine w_iconst (v := 0) C dX4_isRecipe_54 (by decide) ?_
    cases h
    exact w_zret C rfl ⟨rfl, rfl⟩ dX4_isRecipe_55
  · have h := if_f hb2 h
    refine w_iload_n C 2 rfl dX4_isRecipe_9 ?_
    refine w_iconst (v := 1) C dX4_isRecipe_10 (by decide) ?_
    refine w_sipush (v := 255) C dX4_isRecipe_11 (by decide) ?_
    obtain ⟨x3, hx3, h⟩ := bd_some h
    refine w_cSi C (c_X4_in fu  hx3) pk_X4_in ml_X4_52 (As := [.int v2, .int 1, .int 255]) (rest := []) ⟨⟨rfl, rfl⟩, Nat.le_of_ble_eq_true rfl, Nat.le_of_ble_eq_true rfl⟩ rfl ⟨(Nat.le_of_ble_eq_true rfl), (Nat.le_of_ble_eq_true rfl)⟩ (Nat.le_of_ble_eq_true rfl) rfl (List.append_nil _).symm (List.append_nil _) dX4_isRecipe_14 ?_
    refine w_if_eq (tgt := 54) C dX4_isRecipe_17 (by decide) (fun hb4 => ?_) (fun hb4 => ?_)
    · have h := if_t hb4 h
      refine w_iconst (v := 0) C dX4_isRecipe_54 (by decide) ?_
      cases h
      exact w_zret C rfl ⟨rfl, rfl⟩ dX4_isRecipe_55
    · have h := if_f hb4 h
      refine w_iload_n C 1 rfl dX4_isRecipe_20 ?_
      refine w_if_eq (tgt := 50) C dX4_isRecipe_21 (by decide) (fun hb5 => ?_) (fun hb5 => ?_)
      · have h := if_t hb5 h
        refine w_iconst (v := 1) C dX4_isRecipe_50 (by decide) ?_
        refine w_goto (tgt := 55) C dX4_isRecipe_51 (by decide) ?_
        cases h
        exact w_zret C rfl ⟨rfl, rfl⟩ dX4_isRecipe_55
      · have h := if_f hb5 h
        refine w_aload_n C 0 rfl dX4_isRecipe_24 ?_
        refine w_iload_n C 3 rfl dX4_isRecipe_25 ?_
        obtain ⟨x6, hx6, h⟩ := bd_some h
        refine w_cVi (wr := []) (qc := (RX4, TX4, 10)) C (c_X4_isNumber fu  hx6) pk_X4_isNumber ml_X4_59 (As := [.int v3]) (rest := []) (k9 := 0) rfl rfl ⟨⟨rfl, rfl⟩, Nat.le_of_ble_eq_true rfl, Nat.le_of_ble_eq_true rfl⟩ rfl ⟨(Nat.le_of_ble_eq_true rfl), (Nat.le_of_ble_eq_true rfl)⟩ (Nat.le_of_ble_eq_true rfl) rfl rfl (List.nil_append _) dX4_isRecipe_26 ?_
        refine w_if_eq (tgt := 54) C dX4_isRecipe_29 (by decide) (fun hb7 => ?_) (fun hb7 => ?_)
        · have h := if_t hb7 h
          refine w_iconst (v := 0) C dX4_isRecipe_54 (by decide) ?_
          cases h
          exact w_zret C rfl ⟨rfl, rfl⟩ dX4_isRecipe_55
        · have h := if_f hb7 h
          refine w_aload_n C 0 rfl dX4_isRecipe_32 ?_
          refine w_iload C 4 rfl dX4_isRecipe_33 ?_
          obtain ⟨x8, hx8, h⟩ := bd_some h
          refine w_cVi (wr := []) (qc := (RX4, TX4, 10)) C (c_X4_isNumber fu  hx8) pk_X4_isNumber ml_X4_59 (As := [.int v4]) (rest := []) (k9 := 0) rfl rfl ⟨⟨rfl, rfl⟩, Nat.le_of_ble_eq_true rfl, Nat.le_of_ble_eq_true rfl⟩ rfl ⟨(Nat.le_of_ble_eq_true rfl), (Nat.le_of_ble_eq_true rfl)⟩ (Nat.le_of_ble_eq_true rfl) rfl rfl (List.nil_append _) dX4_isRecipe_35 ?_
          refine w_if_eq (tgt := 54) C dX4_isRecipe_38 (by decide) (fun hb9 => ?_) (fun hb9 => ?_)
          · have h := if_t hb9 h
            refine w_iconst (v := 0) C dX4_isRecipe_54 (by decide) ?_
            cases h
            exact w_zret C rfl ⟨rfl, rfl⟩ dX4_isRecipe_55
          · have h := if_f hb9 h
            refine w_aload_n C 0 rfl dX4_isRecipe_41 ?_
            refine w_iload C 5 rfl dX4_isRecipe_42 ?_
            obtain ⟨x10, hx10, h⟩ := bd_some h
            refine w_cVi (wr := []) (qc := (RX4, TX4, 10)) C (c_X4_isNumber fu  hx10) pk_X4_isNumber ml_X4_59 (As := [.int v5]) (rest := []) (k9 := 0) rfl rfl ⟨⟨rfl, rfl⟩, Nat.le_of_ble_eq_true rfl, Nat.le_of_ble_eq_true rfl⟩ rfl ⟨(Nat.le_of_ble_eq_true rfl), (Nat.le_of_ble_eq_true rfl)⟩ (Nat.le_of_ble_eq_true rfl) rfl rfl (List.nil_append _) dX4_isRecipe_44 ?_
            refine w_if_eq (tgt := 54) C dX4_isRecipe_47 (by decide) (fun hb11 => ?_) (fun hb11 => ?_)
            · have h := if_t hb11 h
              refine w_iconst (v := 0) C dX4_isRecipe_54 (by decide) ?_
              cases h
              exact w_zret C rfl ⟨rfl, rfl⟩ dX4_isRecipe_55
            · have h := if_f hb11 h
              refine w_iconst (v := 1) C dX4_isRecipe_50 (by decide) ?_
              refine w_goto (tgt := 55) C dX4_isRecipe_51 (by decide) ?_
              cases h
              exact w_zret C rfl ⟨rfl, rfl⟩ dX4_isRecipe_55
theorem c_X4_isRecipe {l : Launch} {G : GG} {ma : Nat → Nat} {th : Int32} {tr : Int64} {kq : Int32} {kp : Int32} {su : Nat → Int32} {pr : Nat → Int32} {ms : Nat → Int32} {ro : Nat → Int32} {be : Nat → Int32} {di : Nat → Int32} (fu : Nat) {v1 : Int32} {v2 : Int32} {v3 : Int32} {v4 : Int32} {v5 : Int32} {r : Int32} (h : X4_isRecipe fu kq v1 v2 v3 v4 v5 = some r) : Ct l yX4_isRecipe cX4_isRecipe 6 ((some .boolean)) G rm_X4_isRecipe [.ref (ma 0), .int v1, .int v2, .int v3, .int v4, .int v5] (mw G ma th tr kq kp su pr ms ro be di) (fun o w => o = some (.int r) ∧ w = (mw G ma th tr kq kp su pr ms ro be di)) 0 0 := Ct.of (by decide) (Nat.le_of_ble_eq_true rfl) (fun p e s m args below meth c A C _ => w_X4_isRecipe C h)
abbrev rm_X4_dressed : Room := { frames := 2, cells := 0, slots := 0, locals := 46 }
theorem pk_X4_dressed : PkV RX4 yX4_dressed cX4_dressed 6 ((some .int)) 5 := ⟨rfl, co_X4_dressed, ini_RX4, im_X4_dressed, se_X4_dressed, by decide +kernel⟩
set_option maxRecDepth 20000 in
set_option maxHeartbeats 4000000 in
theorem w_X4_dressed {ma : Nat → Nat} {th : Int32} {tr : Int64} {kq : Int32} {kp : Int32} {ms : Nat → Int32} {ro : Nat → Int32} {be : Nat → Int32} {di : Nat → Int32} {fu : Nat}  {su : Nat → Int32} {pr : Nat → Int32} {v1 : Int32} {v2 : Int32} {v3 : Int32} {v4 : Int32} {v5 : Int32} {r : Int32} (C : Cx p s m args meth c G A RX4 cX4_dressed 6 ((some .int)))   (h : X4_dressed fu  su pr v1 v2 v3 v4 v5 = some r) : Wd p l e rm_X4_dressed s m args below meth c G A 6 0 0 (QQ G A (fun o w => o = some (.int r) ∧ w = (mw G ma th tr kq kp su pr ms ro be di)) below args s 0 0) (mw G ma th tr kq kp su pr ms ro be di) [(0, .ref (ma 0)), (1, .int v1), (2, .int v2), (3, .int v3), (4, .int v4), (5, .int v5)] 0 [] := by
  unfold X4_dressed at h
  refine w_aload_n C 0 rfl dX4_dressed_0 ?_
  refine w_aload_n C 0 rfl dX4_dressed_1 ?_
  refine w_iload_n C 2 rfl dX4_dressed_2 ?_
  refine w_aload_n C 0 rfl dX4_dressed_3 ?_
  refine w_aload_n C 0 rfl dX4_dressed_4 ?_
  refine w_iload C 5 rfl dX4_dressed_5 ?_
  refine w_iload_n C 3 rfl dX4_dressed_7 ?_
  obtain ⟨x1, hx1, h⟩ := bd_some h
  refine w_cVi (wr := []) (qc := (RX4, TX4, 10)) C (c_X4_add fu  hx1) pk_X4_add ml_X4_49 (As := [.int v5, .int v3]) (rest := [.ref (ma 0), .int v2, .ref (ma 0), .ref (ma 0)]) (k9 := 0) rfl rfl ⟨⟨rfl, rfl⟩, Nat.le_of_ble_eq_true rfl, Nat.le_of_ble_eq_true rfl⟩ rfl ⟨(Nat.le_of_ble_eq_true rfl), (Nat.le_of_ble_eq_true rfl)⟩ (Nat.le_of_ble_eq_true rfl) rfl rfl (List.nil_append _) dX4_dressed_8 ?_
  refine w_iload_n C 1 rfl dX4_dressed_11 ?_
  obtain ⟨x2, hx2, h⟩ := bd_some h
  refine w_cVi (wr := []) (qc := (RX4, TX4, 10)) C (c_X4_power fu  hx2) pk_X4_power ml_X4_66 (As := [.int x1, .int v1]) (rest := [.int v2, .ref (ma 0), .ref (ma 0)]) (k9 := 0) rfl rfl ⟨⟨rfl, rfl⟩, Nat.le_of_ble_eq_true rfl, Nat.le_of_ble_eq_true rfl⟩ rfl ⟨(Nat.le_of_ble_eq_true rfl), (Nat.le_of_ble_eq_true rfl)⟩ (Nat.le_of_ble_eq_true rfl) rfl rfl (List.nil_append _) dX4_dressed_12 ?_
  obtain ⟨x3, hx3, h⟩ := bd_some h
  refine w_cVi (wr := []) (qc := (RX4, TX4, 10)) C (c_X4_by fu  hx3) pk_X4_by ml_X4_56 (As := [.int v2, .int x2]) (rest := [.ref (ma 0)]) (k9 := 0) rfl rfl ⟨⟨rfl, rfl⟩, Nat.le_of_ble_eq_true rfl, Nat.le_of_ble_eq_true rfl⟩ rfl ⟨(Nat.le_of_ble_eq_true rfl), (Nat.le_of_ble_eq_true rfl)⟩ (Nat.le_of_ble_eq_true rfl) rfl rfl (List.nil_append _) dX4_dressed_15 ?_
  refine w_iload C 4 rfl dX4_dressed_18 ?_
  obtain ⟨x4, hx4, h⟩ := bd_some h
  refine w_cVi (wr := []) (qc := (RX4, TX4, 10)) C (c_X4_add fu  hx4) pk_X4_add ml_X4_49 (As := [.int x3, .int v4]) (rest := []) (k9 := 0) rfl rfl ⟨⟨rfl, rfl⟩, Nat.le_of_ble_eq_true rfl, Nat.le_of_ble_eq_true rfl⟩ rfl ⟨(Nat.le_of_ble_eq_true rfl), (Nat.le_of_ble_eq_true rfl)⟩ (Nat.le_of_ble_eq_true rfl) rfl rfl (List.nil_append _) dX4_dressed_20 ?_
  cases h
  exact w_iret C ⟨rfl, rfl⟩ dX4_dressed_23
theorem c_X4_dressed {l : Launch} {G : GG} {ma : Nat → Nat} {th : Int32} {tr : Int64} {kq : Int32} {kp : Int32} {su : Nat → Int32} {pr : Nat → Int32} {ms : Nat → Int32} {ro : Nat → Int32} {be : Nat → Int32} {di : Nat → Int32} (fu : Nat) {v1 : Int32} {v2 : Int32} {v3 : Int32} {v4 : Int32} {v5 : Int32} {r : Int32} (h : X4_dressed fu su pr v1 v2 v3 v4 v5 = some r) : Ct l yX4_dressed cX4_dressed 6 ((some .int)) G rm_X4_dressed [.ref (ma 0), .int v1, .int v2, .int v3, .int v4, .int v5] (mw G ma th tr kq kp su pr ms ro be di) (fun o w => o = some (.int r) ∧ w = (mw G ma th tr kq kp su pr ms ro be di)) 0 0 := Ct.of (by decide) (Nat.le_of_ble_eq_true rfl) (fun p e s m args below meth c A C _ => w_X4_dressed C h)
abbrev rm_X4_tasteOf : Room := { frames := 3, cells := 0, slots := 0, locals := 71 }
theorem pk_X4_tasteOf : PkV RX4 yX4_tasteOf cX4_tasteOf 8 ((some .int)) 6 := ⟨rfl, co_X4_tasteOf, ini_RX4, im_X4_tasteOf, se_X4_tasteOf, by decide +kernel⟩
set_option maxRecDepth 20000 in
set_option maxHeartbeats 4000000 in
theorem w_X4_tasteOf {ma : Nat → Nat} {th : Int32} {tr : Int64} {kq : Int32} {kp : Int32} {ms : Nat → Int32} {ro : Nat → Int32} {be : Nat → Int32} {di : Nat → Int32} {fu : Nat}  {su : Nat → Int32} {pr : Nat → Int32} {v1 : Int32} {v2 : Int32} {v3 : Int32} {v4 : Int32} {v5 : Int32} {v6 : Int32} {r : Int32} (C : Cx p s m args meth c G A RX4 cX4_tasteOf 8 ((some .int)))   (h : X4_tasteOf fu  su pr v1 v2 v3 v4 v5 v6 = some r) : Wd p l e rm_X4_tasteOf s m args below meth c G A 8 0 0 (QQ G A (fun o w => o = some (.int r) ∧ w = (mw G ma th tr kq kp su pr ms ro be di)) below args s 0 0) (mw G ma th tr kq kp su pr ms ro be di) [(0, .ref (ma 0)), (1, .int v1), (2, .int v2), (3, .int v3), (4, .int v4), (5, .int v5), (6, .int v6)] 0 [] := by
  unfold X4_tasteOf at h
  refine w_iload_n C 1 rfl dX4_tasteOf_0 ?_
  refine w_if_ne (tgt := 12) C dX4_tasteOf_1 (by decide) (fun hb1 => ?_) (fun hb1 => ?_)
  · have h := if_f hb1 h
    refine w_aload_n C 0 rfl dX4_tasteOf_12 ?_
    refine w_iload_n C 2 rfl dX4_tasteOf_13 ?_
    refine w_iload_n C 3 rfl dX4_tasteOf_14 ?_
    refine w_iload C 4 rfl dX4_tasteOf_15 ?_
    refine w_iload C 5 rfl dX4_tasteOf_17 ?_
    refine w_iload C 6 rfl dX4_tasteOf_19 ?_
    obtain ⟨x2, hx2, h⟩ := bd_some h
    refine w_cVi (wr := []) (qc := (RX4, TX4, 10)) C (c_X4_dressed fu  hx2) pk_X4_dressed ml_X4_76 (As := [.int v2, .int v3, .int v4, .int v5, .int v6]) (rest := []) (k9 := 0) rfl rfl ⟨⟨rfl, rfl⟩, Nat.le_of_ble_eq_true rfl, Nat.le_of_ble_eq_true rfl⟩ rfl ⟨(Nat.le_of_ble_eq_true rfl), (Nat.le_of_ble_eq_true rfl)⟩ (Nat.le_of_ble_eq_true rfl) rfl rfl (List.nil_append _) dX4_tasteOf_21 ?_
    refine w_istore C (Nat.le_of_ble_eq_true rfl) rfl dX4_tasteOf_24 ?_
    refine w_iload_n C 2 rfl dX4_tasteOf_26 ?_
    refine w_iconst (v := 1) C dX4_tasteOf_27 (by decide) ?_
    refine w_icmp_ne (tgt := 36) C dX4_tasteOf_28 (by decide) (fun hb3 => ?_) (fun hb3 => ?_)
    · have h := if_f hb3 h
      refine w_aload_n C 1 rfl dX4_tasteOf_36 ?_
      refine w_iload_n C 3 rfl dX4_tasteOf_37 ?_
      refine w_iload_n C 4 rfl dX4_tasteOf_38 ?_
      refine w_iload C 5 rfl dX4_tasteOf_39 ?_
      refine w_iload C 6 rfl dX4_tasteOf_41 ?_
      refine w_iload C 0 rfl dX4_tasteOf_43 ?_
      obtain ⟨x4, hx4, h⟩ := bd_some h
      refine w_cVi (wr := []) (qc := (RX4, TX4, 10)) C (c_X4_dressed fu  hx4) pk_X4_dressed ml_X4_76 (As := [.int v2, .int v3, .int v4, .int v5, .int x2]) (rest := []) (k9 := 0) rfl rfl ⟨⟨rfl, rfl⟩, Nat.le_of_ble_eq_true rfl, Nat.le_of_ble_eq_true rfl⟩ rfl ⟨(Nat.le_of_ble_eq_true rfl), (Nat.le_of_ble_eq_true rfl)⟩ (Nat.le_of_ble_eq_true rfl) rfl rfl (List.nil_append _) dX4_tasteOf_45 ?_
      cases h
      exact w_iret C ⟨rfl, rfl⟩ dX4_tasteOf_48
    · have h := if_t hb3 h
      refine w_iload C 0 rfl dX4_tasteOf_31 ?_
      refine w_goto (tgt := 48) C dX4_tasteOf_33 (by decide) ?_
      cases h
      exact w_iret C ⟨rfl, rfl⟩ dX4_tasteOf_48
  · have h := if_t hb1 h
    refine w_aload_n C 0 rfl dX4_tasteOf_4 ?_
    refine w_iload C 6 rfl dX4_tasteOf_5 ?_
    refine w_iload_n C 2 rfl dX4_tasteOf_7 ?_
    obtain ⟨x5, hx5, h⟩ := bd_some h
    refine w_cVi (wr := []) (qc := (RX4, TX4, 10)) C (c_X4_power fu  hx5) pk_X4_power ml_X4_66 (As := [.int v6, .int v2]) (rest := []) (k9 := 0) rfl rfl ⟨⟨rfl, rfl⟩, Nat.le_of_ble_eq_true rfl, Nat.le_of_ble_eq_true rfl⟩ rfl ⟨(Nat.le_of_ble_eq_true rfl), (Nat.le_of_ble_eq_true rfl)⟩ (Nat.le_of_ble_eq_true rfl) rfl rfl (List.nil_append _) dX4_tasteOf_8 ?_
    cases h
    exact w_iret C ⟨rfl, rfl⟩ dX4_tasteOf_11
theorem c_X4_tasteOf {l : Launch} {G : GG} {ma : Nat → Nat} {th : Int32} {tr : Int64} {kq : Int32} {kp : Int32} {su : Nat → Int32} {pr : Nat → Int32} {ms : Nat → Int32} {ro : Nat → Int32} {be : Nat → Int32} {di : Nat → Int32} (fu : Nat) {v1 : Int32} {v2 : Int32} {v3 : Int32} {v4 : Int32} {v5 : Int32} {v6 : Int32} {r : Int32} (h : X4_tasteOf fu su pr v1 v2 v3 v4 v5 v6 = some r) : Ct l yX4_tasteOf cX4_tasteOf 8 ((some .int)) G rm_X4_tasteOf [.ref (ma 0), .int v1, .int v2, .int v3, .int v4, .int v5, .int v6] (mw G ma th tr kq kp su pr ms ro be di) (fun o w => o = some (.int r) ∧ w = (mw G ma th tr kq kp su pr ms ro be di)) 0 0 := Ct.of (by decide) (Nat.le_of_ble_eq_true rfl) (fun p e s m args below meth c A C _ => w_X4_tasteOf C h)
abbrev rm_X4_make : Room := { frames := 4, cells := 0, slots := 0, locals := 98 }
theorem pk_X4_make : PkV RX4 yX4_make cX4_make 8 ((some .int)) 6 := ⟨rfl, co_X4_make, ini_RX4, im_X4_make, se_X4_make, by decide +kernel⟩
set_option maxRecDepth 20000 in
set_option maxHeartbeats 4000000 in
theorem w_X4_make_32 {ma : Nat → Nat} {tr : Int64} {kp : Int32} {ro : Nat → Int32} {be : Nat → Int32} {di : Nat → Int32} {th : Int32} {kq : Int32} {su : Nat → Int32} {pr : Nat → Int32} {v1 : Int32} {v2 : Int32} {v3 : Int32} {v4 : Int32} {v5 : Int32} {v6 : Int32} {fu : Nat}  {r : Int32 × Int32 × (Nat → Int32)} (C : Cx p s m args meth c G A RX4 cX4_make 8 ((some .int)))   : ∀ (fk : Nat) (ms : Nat → Int32) (v7 : Int32), X4_make_32 fu  th kq su pr v1 v2 v3 v4 v5 v6 fk ms v7 = some r → Wd p l e rm_X4_make s m args below meth c G A 8 0 0 (QQ G A (fun o w => o = some (.int r.1) ∧ w = (mw G ma r.2.1 tr kq kp su pr r.2.2 ro be di)) below args s 0 0) (mw G ma th tr kq kp su pr ms ro be di) [(0, .ref (ma 0)), (1, .int v1), (2, .int v2), (3, .int v3), (4, .int v4), (5, .int v5), (6, .int v6), (7, .int v7)] 32 [] := by
  intro fk
  induction fk with
  | zero =>
    intro ms v7 h
    have h : (none : Option (Int32 × Int32 × (Nat → Int32))) = some r := h
    cases h
  | succ fk ih =>
    intro ms v7 h
    have h : X4_make_32_b fu  th kq su pr v1 v2 v3 v4 v5 v6 (X4_make_32 fu  th kq su pr v1 v2 v3 v4 v5 v6 fk) ms v7 = some r := h
    unfold X4_make_32_b at h
    refine w_iload C 7 rfl dX4_make_32 ?_
    refine w_aload_n C 0 rfl dX4_make_34 ?_
    refine gt_X4_39 C dX4_make_35 ?_
    refine w_icmp_ge (tgt := 73) C dX4_make_38 (by decide) (fun hb5 => ?_) (fun hb5 => ?_)
    · have h := if_t hb5 h
      refine w_iconst (v := 1) C dX4_make_73 (by decide) ?_
      cases h
      exact w_iret C ⟨rfl, rfl⟩ dX4_make_74
    · have h := if_f hb5 h
      refine w_aload_n C 0 rfl dX4_make_41 ?_
      refine gt_X4_16 C dX4_make_42 ?_
      refine w_bipush (v := 16) C dX4_make_45 (by decide) ?_
      refine w_iload_n C 1 rfl dX4_make_47 ?_
      refine w_imul C dX4_make_48 ?_
      refine w_iload C 7 rfl dX4_make_49 ?_
      refine w_iadd C dX4_make_51 ?_
      refine w_aload_n C 0 rfl dX4_make_52 ?_
      refine w_iload_n C 2 rfl dX4_make_53 ?_
      refine w_iload_n C 3 rfl dX4_make_54 ?_
      refine w_iload C 4 rfl dX4_make_55 ?_
      refine w_iload C 5 rfl dX4_make_57 ?_
      refine w_iload C 6 rfl dX4_make_59 ?_
      refine w_iload C 7 rfl dX4_make_61 ?_
      obtain ⟨x6, hx6, h⟩ := bd_some h
      refine w_cVi (wr := []) (qc := (RX4, TX4, 10)) C (c_X4_tasteOf fu  hx6) pk_X4_tasteOf ml_X4_84 (As := [.int v2, .int v3, .int v4, .int v5, .int v6, .int v7]) (rest := [.int ((16 * v1) + v7), .ref (ma 3)]) (k9 := 0) rfl rfl ⟨⟨rfl, rfl⟩, Nat.le_of_ble_eq_true rfl, Nat.le_of_ble_eq_true rfl⟩ rfl ⟨(Nat.le_of_ble_eq_true rfl), (Nat.le_of_ble_eq_true rfl)⟩ (Nat.le_of_ble_eq_true rfl) rfl rfl (List.nil_append _) dX4_make_63 ?_
      obtain ⟨hi7, h⟩ := ckI_some h
      refine sr_ms C hi7 dX4_make_66 ?_
      refine w_iinc (v := v7 + 1) (k := 7) C rfl rfl (Nat.le_of_ble_eq_true rfl) rfl dX4_make_67 ?_
      refine w_goto (tgt := 32) C dX4_make_70 (by decide) ?_
      refine w_lv [1, 2, 3, 4, 5, 6, 7, 0] rfl ?_
      exact ih _ _ h
set_option maxRecDepth 20000 in
set_option maxHeartbeats 4000000 in
theorem w_X4_make {ma : Nat → Nat} {tr : Int64} {kp : Int32} {ro : Nat → Int32} {be : Nat → Int32} {di : Nat → Int32} {fu : Nat}  {th : Int32} {kq : Int32} {su : Nat → Int32} {pr : Nat → Int32} {ms : Nat → Int32} {v1 : Int32} {v2 : Int32} {v3 : Int32} {v4 : Int32} {v5 : Int32} {v6 : Int32} {r : Int32 × Int32 × (Nat → Int32)} (C : Cx p s m args meth c G A RX4 cX4_make 8 ((some .int)))   (h : X4_make fu  th kq su pr ms v1 v2 v3 v4 v5 v6 = some r) : Wd p l e rm_X4_make s m args below meth c G A 8 0 0 (QQ G A (fun o w => o = some (.int r.1) ∧ w = (mw G ma r.2.1 tr kq kp su pr r.2.2 ro be di)) below args s 0 0) (mw G ma th tr kq kp su pr ms ro be di) [(0, .ref (ma 0)), (1, .int v1), (2, .int v2), (3, .int v3), (4, .int v4), (5, .int v5), (6, .int v6)] 0 [] := by
  unfold X4_make at h
  refine w_aload_n C 0 rfl dX4_make_0 ?_
  refine w_iconst (v := 0) C dX4_make_1 (by decide) ?_
  refine pt_X4_32 C dX4_make_2 ?_
  refine w_iload_n C 1 rfl dX4_make_5 ?_
  obtain ⟨x1, hx1, h⟩ := bd_some h
  refine w_cSi C (c_X4_isMap fu  hx1) pk_X4_isMap ml_X4_63 (As := [.int v1]) (rest := []) ⟨⟨rfl, rfl⟩, Nat.le_of_ble_eq_true rfl, Nat.le_of_ble_eq_true rfl⟩ rfl ⟨(Nat.le_of_ble_eq_true rfl), (Nat.le_of_ble_eq_true rfl)⟩ (Nat.le_of_ble_eq_true rfl) rfl (List.append_nil _).symm (List.append_nil _) dX4_make_6 ?_
  refine w_if_eq (tgt := 27) C dX4_make_9 (by decide) (fun hb2 => ?_) (fun hb2 => ?_)
  · have h := if_t hb2 h
    refine w_iconst (v := (-1)) C dX4_make_27 (by decide) ?_
    cases h
    exact w_iret C ⟨rfl, rfl⟩ dX4_make_28
  · have h := if_f hb2 h
    refine w_aload_n C 0 rfl dX4_make_12 ?_
    refine w_iload_n C 2 rfl dX4_make_13 ?_
    refine w_iload_n C 3 rfl dX4_make_14 ?_
    refine w_iload C 4 rfl dX4_make_15 ?_
    refine w_iload C 5 rfl dX4_make_17 ?_
    refine w_iload C 6 rfl dX4_make_19 ?_
    obtain ⟨x3, hx3, h⟩ := bd_some h
    refine w_cVi (wr := []) (qc := (RX4, TX4, 10)) C (c_X4_isRecipe fu  hx3) pk_X4_isRecipe ml_X4_80 (As := [.int v2, .int v3, .int v4, .int v5, .int v6]) (rest := []) (k9 := 0) rfl rfl ⟨⟨rfl, rfl⟩, Nat.le_of_ble_eq_true rfl, Nat.le_of_ble_eq_true rfl⟩ rfl ⟨(Nat.le_of_ble_eq_true rfl), (Nat.le_of_ble_eq_true rfl)⟩ (Nat.le_of_ble_eq_true rfl) rfl rfl (List.nil_append _) dX4_make_21 ?_
    refine w_if_ne (tgt := 29) C dX4_make_24 (by decide) (fun hb4 => ?_) (fun hb4 => ?_)
    · have h := if_f hb4 h
      refine w_iconst (v := 0) C dX4_make_29 (by decide) ?_
      refine w_istore C (Nat.le_of_ble_eq_true rfl) rfl dX4_make_30 ?_
      refine w_lv [1, 2, 3, 4, 5, 6, 7, 0] rfl ?_
      exact w_X4_make_32 C    _ _ _ h
    · have h := if_t hb4 h
      refine w_iconst (v := (-1)) C dX4_make_27 (by decide) ?_
      cases h
      exact w_iret C ⟨rfl, rfl⟩ dX4_make_28
theorem c_X4_make {l : Launch} {G : GG} {ma : Nat → Nat} {th : Int32} {tr : Int64} {kq : Int32} {kp : Int32} {su : Nat → Int32} {pr : Nat → Int32} {ms : Nat → Int32} {ro : Nat → Int32} {be : Nat → Int32} {di : Nat → Int32} (fu : Nat) {v1 : Int32} {v2 : Int32} {v3 : Int32} {v4 : Int32} {v5 : Int32} {v6 : Int32} {r : Int32 × Int32 × (Nat → Int32)} (h : X4_make fu th kq su pr ms v1 v2 v3 v4 v5 v6 = some r) : Ct l yX4_make cX4_make 8 ((some .int)) G rm_X4_make [.ref (ma 0), .int v1, .int v2, .int v3, .int v4, .int v5, .int v6] (mw G ma th tr kq kp su pr ms ro be di) (fun o w => o = some (.int r.1) ∧ w = (mw G ma r.2.1 tr kq kp su pr r.2.2 ro be di)) 0 0 := Ct.of (by decide) (Nat.le_of_ble_eq_true rfl) (fun p e s m args below meth c A C _ => w_X4_make C h)
abbrev rm_X4_taste : Room := { frames := 4, cells := 0, slots := 0, locals := 98 }
theorem pk_X4_taste : PkV RX4 yX4_taste cX4_taste 7 ((some .int)) 6 := ⟨rfl, co_X4_taste, ini_RX4, im_X4_taste, se_X4_taste, by decide +kernel⟩
set_option maxRecDepth 20000 in
set_option maxHeartbeats 4000000 in
theorem w_X4_taste_57 {ma : Nat → Nat} {kp : Int32} {ms : Nat → Int32} {ro : Nat → Int32} {be : Nat → Int32} {di : Nat → Int32} {fu : Nat}  {th : Int32} {tr : Int64} {kq : Int32} {su : Nat → Int32} {pr : Nat → Int32} {s0 : Int64} {s1 : Int64} {v1 : Int32} {v2 : Int32} {v3 : Int32} {v4 : Int32} {v5 : Int32} {v6 : Int32} {r : Int32 × Int32 × Int64} (C : Cx p s m args meth c G A RX4 cX4_taste 7 ((some .int)))   (h : X4_taste_57 fu  th tr kq su pr s0 s1 v1 v2 v3 v4 v5 v6 = some r) : Wd p l e rm_X4_taste s m args below meth c G A 7 0 0 (QQ G A (fun o w => o = some (.int r.1) ∧ w = (mw G ma r.2.1 r.2.2 kq kp su pr ms ro be di)) below args s 0 0) (mw G ma th tr kq kp su pr ms ro be di) [(0, .ref (ma 0)), (1, .int v1), (2, .int v2), (3, .int v3), (4, .int v4), (5, .int v5), (6, .int v6)] 57 [.long s0, .long s1, .ref (ma 0)] := by
  unfold X4_taste_57 at h
  refine w_ladd C dX4_taste_57 ?_
  refine pt_X4_88 C dX4_taste_58 ?_
  refine w_aload_n C 0 rfl dX4_taste_61 ?_
  refine w_iload_n C 1 rfl dX4_taste_62 ?_
  refine w_iload_n C 2 rfl dX4_taste_63 ?_
  refine w_iload_n C 3 rfl dX4_taste_64 ?_
  refine w_iload C 4 rfl dX4_taste_65 ?_
  refine w_iload C 5 rfl dX4_taste_67 ?_
  refine w_iload C 6 rfl dX4_taste_69 ?_
  obtain ⟨x7, hx7, h⟩ := bd_some h
  refine w_cVi (wr := []) (qc := (RX4, TX4, 10)) C (c_X4_tasteOf fu  hx7) pk_X4_tasteOf ml_X4_84 (As := [.int v1, .int v2, .int v3, .int v4, .int v5, .int v6]) (rest := []) (k9 := 0) rfl rfl ⟨⟨rfl, rfl⟩, Nat.le_of_ble_eq_true rfl, Nat.le_of_ble_eq_true rfl⟩ rfl ⟨(Nat.le_of_ble_eq_true rfl), (Nat.le_of_ble_eq_true rfl)⟩ (Nat.le_of_ble_eq_true rfl) rfl rfl (List.nil_append _) dX4_taste_71 ?_
  cases h
  exact w_iret C ⟨rfl, rfl⟩ dX4_taste_74
set_option maxRecDepth 20000 in
set_option maxHeartbeats 4000000 in
theorem w_X4_taste {ma : Nat → Nat} {kp : Int32} {ms : Nat → Int32} {ro : Nat → Int32} {be : Nat → Int32} {di : Nat → Int32} {fu : Nat}  {th : Int32} {tr : Int64} {kq : Int32} {su : Nat → Int32} {pr : Nat → Int32} {v1 : Int32} {v2 : Int32} {v3 : Int32} {v4 : Int32} {v5 : Int32} {v6 : Int32} {r : Int32 × Int32 × Int64} (C : Cx p s m args meth c G A RX4 cX4_taste 7 ((some .int)))   (h : X4_taste fu  th tr kq su pr v1 v2 v3 v4 v5 v6 = some r) : Wd p l e rm_X4_taste s m args below meth c G A 7 0 0 (QQ G A (fun o w => o = some (.int r.1) ∧ w = (mw G ma r.2.1 r.2.2 kq kp su pr ms ro be di)) below args s 0 0) (mw G ma th tr kq kp su pr ms ro be di) [(0, .ref (ma 0)), (1, .int v1), (2, .int v2), (3, .int v3), (4, .int v4), (5, .int v5), (6, .int v6)] 0 [] := by
  unfold X4_taste at h
  refine w_aload_n C 0 rfl dX4_taste_0 ?_
  refine w_iconst (v := 0) C dX4_taste_1 (by decide) ?_
  refine pt_X4_32 C dX4_taste_2 ?_
  refine w_aload_n C 0 rfl dX4_taste_5 ?_
  refine w_iload_n C 1 rfl dX4_taste_6 ?_
  refine w_iload_n C 2 rfl dX4_taste_7 ?_
  refine w_iload_n C 3 rfl dX4_taste_8 ?_
  refine w_iload C 4 rfl dX4_taste_9 ?_
  refine w_iload C 5 rfl dX4_taste_11 ?_
  obtain ⟨x1, hx1, h⟩ := bd_some h
  refine w_cVi (wr := []) (qc := (RX4, TX4, 10)) C (c_X4_isRecipe fu  hx1) pk_X4_isRecipe ml_X4_80 (As := [.int v1, .int v2, .int v3, .int v4, .int v5]) (rest := []) (k9 := 0) rfl rfl ⟨⟨rfl, rfl⟩, Nat.le_of_ble_eq_true rfl, Nat.le_of_ble_eq_true rfl⟩ rfl ⟨(Nat.le_of_ble_eq_true rfl), (Nat.le_of_ble_eq_true rfl)⟩ (Nat.le_of_ble_eq_true rfl) rfl rfl (List.nil_append _) dX4_taste_13 ?_
  refine w_if_eq (tgt := 28) C dX4_taste_16 (by decide) (fun hb2 => ?_) (fun hb2 => ?_)
  · have h := if_t hb2 h
    refine w_iconst (v := (-1)) C dX4_taste_28 (by decide) ?_
    cases h
    exact w_iret C ⟨rfl, rfl⟩ dX4_taste_29
  · have h := if_f hb2 h
    refine w_aload_n C 0 rfl dX4_taste_19 ?_
    refine w_iload C 6 rfl dX4_taste_20 ?_
    obtain ⟨x3, hx3, h⟩ := bd_some h
    refine w_cVi (wr := []) (qc := (RX4, TX4, 10)) C (c_X4_isNumber fu  hx3) pk_X4_isNumber ml_X4_59 (As := [.int v6]) (rest := []) (k9 := 0) rfl rfl ⟨⟨rfl, rfl⟩, Nat.le_of_ble_eq_true rfl, Nat.le_of_ble_eq_true rfl⟩ rfl ⟨(Nat.le_of_ble_eq_true rfl), (Nat.le_of_ble_eq_true rfl)⟩ (Nat.le_of_ble_eq_true rfl) rfl rfl (List.nil_append _) dX4_taste_22 ?_
    refine w_if_ne (tgt := 30) C dX4_taste_25 (by decide) (fun hb4 => ?_) (fun hb4 => ?_)
    · have h := if_f hb4 h
      refine w_aload_n C 0 rfl dX4_taste_30 ?_
      refine w_dup C dX4_taste_31 rfl ?_
      refine gt_X4_88 C dX4_taste_32 ?_
      refine w_iload_n C 1 rfl dX4_taste_35 ?_
      refine w_if_ne (tgt := 43) C dX4_taste_36 (by decide) (fun hb5 => ?_) (fun hb5 => ?_)
      · have h := if_f hb5 h
        refine w_iload_n C 1 rfl dX4_taste_43 ?_
        refine w_iconst (v := 1) C dX4_taste_44 (by decide) ?_
        refine w_icmp_ne (tgt := 54) C dX4_taste_45 (by decide) (fun hb6 => ?_) (fun hb6 => ?_)
        · have h := if_f hb6 h
          refine w_ldc2 C cs_X4_94 dX4_taste_54 ?_
          refine w_lv [0, 1, 2, 3, 4, 5, 6] rfl ?_
          exact w_X4_taste_57 C    h
        · have h := if_t hb6 h
          refine w_ldc2 C cs_X4_92 dX4_taste_48 ?_
          refine w_goto (tgt := 57) C dX4_taste_51 (by decide) ?_
          refine w_lv [0, 1, 2, 3, 4, 5, 6] rfl ?_
          exact w_X4_taste_57 C    h
      · have h := if_t hb5 h
        refine w_lconst (v := 1) C dX4_taste_39 (by decide) ?_
        refine w_goto (tgt := 57) C dX4_taste_40 (by decide) ?_
        refine w_lv [0, 1, 2, 3, 4, 5, 6] rfl ?_
        exact w_X4_taste_57 C    h
    · have h := if_t hb4 h
      refine w_iconst (v := (-1)) C dX4_taste_28 (by decide) ?_
      cases h
      exact w_iret C ⟨rfl, rfl⟩ dX4_taste_29
theorem c_X4_taste {l : Launch} {G : GG} {ma : Nat → Nat} {th : Int32} {tr : Int64} {kq : Int32} {kp : Int32} {su : Nat → Int32} {pr : Nat → Int32} {ms : Nat → Int32} {ro : Nat → Int32} {be : Nat → Int32} {di : Nat → Int32} (fu : Nat) {v1 : Int32} {v2 : Int32} {v3 : Int32} {v4 : Int32} {v5 : Int32} {v6 : Int32} {r : Int32 × Int32 × Int64} (h : X4_taste fu th tr kq su pr v1 v2 v3 v4 v5 v6 = some r) : Ct l yX4_taste cX4_taste 7 ((some .int)) G rm_X4_taste [.ref (ma 0), .int v1, .int v2, .int v3, .int v4, .int v5, .int v6] (mw G ma th tr kq kp su pr ms ro be di) (fun o w => o = some (.int r.1) ∧ w = (mw G ma r.2.1 r.2.2 kq kp su pr ms ro be di)) 0 0 := Ct.of (by decide) (Nat.le_of_ble_eq_true rfl) (fun p e s m args below meth c A C _ => w_X4_taste C h)
end
