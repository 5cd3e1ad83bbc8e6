section
variable {p : Program} {l : Launch} {e : Env} {s : State} {m : MethodId} {args : Array Value} {below : List Frame} {meth : Method} {c : Code} {G : GG} {A : Nat → Prop}
abbrev rm_X4_least : Room := { frames := 2, cells := 0, slots := 0, locals := 44 }
theorem pk_X4_least : PkV RX4 yX4_least cX4_least 8 ((some .int)) 1 := ⟨rfl, co_X4_least, ini_RX4, im_X4_least, se_X4_least, by decide +kernel⟩
set_option maxRecDepth 20000 in
set_option maxHeartbeats 4000000 in
theorem w_X4_least_241 {ma : Nat → Nat} {tr : Int64} {kp : Int32} {di : Nat → Int32} {th : Int32} {kq : Int32} {su : Nat → Int32} {pr : Nat → Int32} {ms : Nat → Int32} {v1 : Int32} {fu : Nat}  {r : Int32 × Int32 × (Nat → Int32) × (Nat → Int32) × (Nat → Int32)} (C : Cx p s m args meth c G A RX4 cX4_least 8 ((some .int)))   : ∀ (fk : Nat) (ro : Nat → Int32) (be : Nat → Int32) (v2 : Int32), X4_least_241 fu  th kq su pr ms v1 fk ro be v2 = some r → Wd p l e rm_X4_least s m args below meth c G A 8 0 0 (QQ G A (fun o w => o = some (.int r.1) ∧ w = (mw G ma r.2.1 tr kq kp su pr r.2.2.1 r.2.2.2.1 r.2.2.2.2 di)) below args s 0 0) (mw G ma th tr kq kp su pr ms ro be di) [(0, .ref (ma 0)), (1, .int v1), (2, .int v2)] 241 [] := by
  intro fk
  induction fk with
  | zero =>
    intro ro be v2 h
    have h : (none : Option (Int32 × Int32 × (Nat → Int32) × (Nat → Int32) × (Nat → Int32))) = some r := h
    cases h
  | succ fk ih =>
    intro ro be v2 h
    have h : X4_least_241_b fu  th kq su pr ms v1 (X4_least_241 fu  th kq su pr ms v1 fk) ro be v2 = some r := h
    unfold X4_least_241_b at h
    refine w_iload_n C 2 rfl dX4_least_241 ?_
    refine w_aload_n C 0 rfl dX4_least_242 ?_
    refine gt_X4_39 C dX4_least_243 ?_
    refine w_icmp_ge (tgt := 267) C dX4_least_246 (by decide) (fun hb5 => ?_) (fun hb5 => ?_)
    · have h := if_t hb5 h
      refine w_aload_n C 0 rfl dX4_least_267 ?_
      refine w_iload_n C 1 rfl dX4_least_268 ?_
      obtain ⟨x6, hx6, h⟩ := bd_some h
      refine w_cVv (wr := []) (qc := (RX4, TX4, 10)) C (c_X4_lays fu  hx6) pk_X4_lays ml_X4_96 (As := [.int v1]) (rest := []) (k9 := 0) rfl rfl ⟨⟨rfl, rfl⟩, Nat.le_of_ble_eq_true rfl, Nat.le_of_ble_eq_true rfl⟩ rfl ⟨(Nat.le_of_ble_eq_true rfl), (Nat.le_of_ble_eq_true rfl)⟩ (Nat.le_of_ble_eq_true rfl) rfl rfl (List.nil_append _) dX4_least_269 ?_
      refine w_iconst (v := 1) C dX4_least_272 (by decide) ?_
      cases h
      exact w_iret C ⟨rfl, rfl⟩ dX4_least_273
    · have h := if_f hb5 h
      refine w_aload_n C 0 rfl dX4_least_249 ?_
      refine gt_X4_19 C dX4_least_250 ?_
      refine w_iload_n C 2 rfl dX4_least_253 ?_
      refine w_aload_n C 0 rfl dX4_least_254 ?_
      refine gt_X4_22 C dX4_least_255 ?_
      refine w_iload_n C 2 rfl dX4_least_258 ?_
      obtain ⟨hi7, h⟩ := ckI_some h
      refine ld_be C hi7 dX4_least_259 ?_
      obtain ⟨hi8, h⟩ := ckI_some h
      refine sr_ro C hi8 dX4_least_260 ?_
      refine w_iinc (v := v2 + 1) (k := 2) C rfl rfl (Nat.le_of_ble_eq_true rfl) rfl dX4_least_261 ?_
      refine w_goto (tgt := 241) C dX4_least_264 (by decide) ?_
      refine w_lv [1, 2, 0] rfl ?_
      exact ih _ _ _ h
set_option maxRecDepth 20000 in
set_option maxHeartbeats 4000000 in
theorem w_X4_least_221 {ma : Nat → Nat} {tr : Int64} {kp : Int32} {di : Nat → Int32} {fu : Nat} {rc42 : (Nat → Int32) → (Nat → Int32) → Int32 → Option (Int32 × Int32 × (Nat → Int32) × (Nat → Int32) × (Nat → Int32))} {rc52 : (Nat → Int32) → (Nat → Int32) → Int32 → Option (Int32 × Int32 × (Nat → Int32) × (Nat → Int32) × (Nat → Int32))} {rc63 : (Nat → Int32) → (Nat → Int32) → Int32 → Option (Int32 × Int32 × (Nat → Int32) × (Nat → Int32) × (Nat → Int32))} {th : Int32} {kq : Int32} {su : Nat → Int32} {pr : Nat → Int32} {ms : Nat → Int32} {ro : Nat → Int32} {be : Nat → Int32} {v1 : Int32} {v2 : Int32} {v3 : Int32} {v4 : Int32} {r : Int32 × Int32 × (Nat → Int32) × (Nat → Int32) × (Nat → Int32)} (C : Cx p s m args meth c G A RX4 cX4_least 8 ((some .int)))  (hrc42 : ∀ (ro : Nat → Int32) (be : Nat → Int32) (v2 : Int32), rc42 ro be v2 = some r → Wd p l e rm_X4_least s m args below meth c G A 8 0 0 (QQ G A (fun o w => o = some (.int r.1) ∧ w = (mw G ma r.2.1 tr kq kp su pr r.2.2.1 r.2.2.2.1 r.2.2.2.2 di)) below args s 0 0) (mw G ma th tr kq kp su pr ms ro be di) [(0, .ref (ma 0)), (1, .int v1), (2, .int v2)] 42 []) (hrc52 : ∀ (ro : Nat → Int32) (be : Nat → Int32) (v3 : Int32), rc52 ro be v3 = some r → Wd p l e rm_X4_least s m args below meth c G A 8 0 0 (QQ G A (fun o w => o = some (.int r.1) ∧ w = (mw G ma r.2.1 tr kq kp su pr r.2.2.1 r.2.2.2.1 r.2.2.2.2 di)) below args s 0 0) (mw G ma th tr kq kp su pr ms ro be di) [(0, .ref (ma 0)), (1, .int v1), (2, .int v2), (3, .int v3)] 52 []) (hrc63 : ∀ (ro : Nat → Int32) (be : Nat → Int32) (v4 : Int32), rc63 ro be v4 = some r → Wd p l e rm_X4_least s m args below meth c G A 8 0 0 (QQ G A (fun o w => o = some (.int r.1) ∧ w = (mw G ma r.2.1 tr kq kp su pr r.2.2.1 r.2.2.2.1 r.2.2.2.2 di)) below args s 0 0) (mw G ma th tr kq kp su pr ms ro be di) [(0, .ref (ma 0)), (1, .int v1), (2, .int v2), (3, .int v3), (4, .int v4)] 63 []) (h : X4_least_221 fu rc42 rc52 rc63 th kq su pr ms ro be v1 v2 v3 v4 = some r) : Wd p l e rm_X4_least s m args below meth c G A 8 0 0 (QQ G A (fun o w => o = some (.int r.1) ∧ w = (mw G ma r.2.1 tr kq kp su pr r.2.2.1 r.2.2.2.1 r.2.2.2.2 di)) below args s 0 0) (mw G ma th tr kq kp su pr ms ro be di) [(0, .ref (ma 0)), (1, .int v1), (2, .int v2), (3, .int v3), (4, .int v4)] 221 [] := by
  unfold X4_least_221 at h
  refine w_iinc (v := v4 + 1) (k := 4) C rfl rfl (Nat.le_of_ble_eq_true rfl) rfl dX4_least_221 ?_
  refine w_goto (tgt := 63) C dX4_least_224 (by decide) ?_
  refine w_lv [1, 2, 3, 4, 0] rfl ?_
  exact hrc63 _ _ _ h
set_option maxRecDepth 20000 in
set_option maxHeartbeats 4000000 in
theorem w_X4_least_187 {ma : Nat → Nat} {tr : Int64} {kp : Int32} {di : Nat → Int32} {th : Int32} {kq : Int32} {su : Nat → Int32} {pr : Nat → Int32} {ms : Nat → Int32} {v1 : Int32} {v2 : Int32} {v3 : Int32} {v4 : Int32} {v6 : Int32} {fu : Nat} {rc42 : (Nat → Int32) → (Nat → Int32) → Int32 → Option (Int32 × Int32 × (Nat → Int32) × (Nat → Int32) × (Nat → Int32))} {rc52 : (Nat → Int32) → (Nat → Int32) → Int32 → Option (Int32 × Int32 × (Nat → Int32) × (Nat → Int32) × (Nat → Int32))} {rc63 : (Nat → Int32) → (Nat → Int32) → Int32 → Option (Int32 × Int32 × (Nat → Int32) × (Nat → Int32) × (Nat → Int32))} {r : Int32 × Int32 × (Nat → Int32) × (Nat → Int32) × (Nat → Int32)} (C : Cx p s m args meth c G A RX4 cX4_least 8 ((some .int)))  (hrc42 : ∀ (ro : Nat → Int32) (be : Nat → Int32) (v2 : Int32), rc42 ro be v2 = some r → Wd p l e rm_X4_least s m args below meth c G A 8 0 0 (QQ G A (fun o w => o = some (.int r.1) ∧ w = (mw G ma r.2.1 tr kq kp su pr r.2.2.1 r.2.2.2.1 r.2.2.2.2 di)) below args s 0 0) (mw G ma th tr kq kp su pr ms ro be di) [(0, .ref (ma 0)), (1, .int v1), (2, .int v2)] 42 []) (hrc52 : ∀ (ro : Nat → Int32) (be : Nat → Int32) (v3 : Int32), rc52 ro be v3 = some r → Wd p l e rm_X4_least s m args below meth c G A 8 0 0 (QQ G A (fun o w => o = some (.int r.1) ∧ w = (mw G ma r.2.1 tr kq kp su pr r.2.2.1 r.2.2.2.1 r.2.2.2.2 di)) below args s 0 0) (mw G ma th tr kq kp su pr ms ro be di) [(0, .ref (ma 0)), (1, .int v1), (2, .int v2), (3, .int v3)] 52 []) (hrc63 : ∀ (ro : Nat → Int32) (be : Nat → Int32) (v4 : Int32), rc63 ro be v4 = some r → Wd p l e rm_X4_least s m args below meth c G A 8 0 0 (QQ G A (fun o w => o = some (.int r.1) ∧ w = (mw G ma r.2.1 tr kq kp su pr r.2.2.1 r.2.2.2.1 r.2.2.2.2 di)) below args s 0 0) (mw G ma th tr kq kp su pr ms ro be di) [(0, .ref (ma 0)), (1, .int v1), (2, .int v2), (3, .int v3), (4, .int v4)] 63 []) : ∀ (fk : Nat) (ro : Nat → Int32) (be : Nat → Int32) (v7 : Int32), X4_least_187 fu rc42 rc52 rc63 th kq su pr ms v1 v2 v3 v4 v6 fk ro be v7 = some r → Wd p l e rm_X4_least s m args below meth c G A 8 0 0 (QQ G A (fun o w => o = some (.int r.1) ∧ w = (mw G ma r.2.1 tr kq kp su pr r.2.2.1 r.2.2.2.1 r.2.2.2.2 di)) below args s 0 0) (mw G ma th tr kq kp su pr ms ro be di) [(0, .ref (ma 0)), (1, .int v1), (2, .int v2), (3, .int v3), (4, .int v4), (6, .int v6), (7, .int v7)] 187 [] := by
  intro fk
  induction fk with
  | zero =>
    intro ro be v7 h
    have h : (none : Option (Int32 × Int32 × (Nat → Int32) × (Nat → Int32) × (Nat → Int32))) = some r := h
    cases h
  | succ fk ih =>
    intro ro be v7 h
    have h : X4_least_187_b fu rc42 rc52 rc63 th kq su pr ms v1 v2 v3 v4 v6 (X4_least_187 fu rc42 rc52 rc63 th kq su pr ms v1 v2 v3 v4 v6 fk) ro be v7 = some r := h
    unfold X4_least_187_b at h
    refine w_iload C 6 rfl dX4_least_187 ?_
    refine w_aload_n C 0 rfl dX4_least_189 ?_
    refine gt_X4_39 C dX4_least_190 ?_
    refine w_icmp_ge (tgt := 221) C dX4_least_193 (by decide) (fun hb15 => ?_) (fun hb15 => ?_)
    · have h := if_t hb15 h
      refine w_lv [0, 1, 2, 3, 4] rfl ?_
      exact w_X4_least_221 C   hrc42 hrc52 hrc63 h
    · have h := if_f hb15 h
      refine w_iload C 5 rfl dX4_least_196 ?_
      refine w_if_ge (tgt := 221) C dX4_least_198 (by decide) (fun hb16 => ?_) (fun hb16 => ?_)
      · have h := if_t hb16 h
        refine w_lv [0, 1, 2, 3, 4] rfl ?_
        exact w_X4_least_221 C   hrc42 hrc52 hrc63 h
      · have h := if_f hb16 h
        refine w_aload_n C 0 rfl dX4_least_201 ?_
        refine gt_X4_22 C dX4_least_202 ?_
        refine w_iload C 6 rfl dX4_least_205 ?_
        refine w_aload_n C 0 rfl dX4_least_207 ?_
        refine gt_X4_19 C dX4_least_208 ?_
        refine w_iload C 6 rfl dX4_least_211 ?_
        obtain ⟨hi17, h⟩ := ckI_some h
        refine ld_ro C hi17 dX4_least_213 ?_
        obtain ⟨hi18, h⟩ := ckI_some h
        refine sr_be C hi18 dX4_least_214 ?_
        refine w_iinc (v := v7 + 1) (k := 6) C rfl rfl (Nat.le_of_ble_eq_true rfl) rfl dX4_least_215 ?_
        refine w_goto (tgt := 187) C dX4_least_218 (by decide) ?_
        refine w_lv [1, 2, 3, 4, 5, 6, 0] rfl ?_
        exact ih _ _ _ h
set_option maxRecDepth 20000 in
set_option maxHeartbeats 4000000 in
theorem w_X4_least_176 {ma : Nat → Nat} {tr : Int64} {kp : Int32} {di : Nat → Int32} {fu : Nat} {rc42 : (Nat → Int32) → (Nat → Int32) → Int32 → Option (Int32 × Int32 × (Nat → Int32) × (Nat → Int32) × (Nat → Int32))} {rc52 : (Nat → Int32) → (Nat → Int32) → Int32 → Option (Int32 × Int32 × (Nat → Int32) × (Nat → Int32) × (Nat → Int32))} {rc63 : (Nat → Int32) → (Nat → Int32) → Int32 → Option (Int32 × Int32 × (Nat → Int32) × (Nat → Int32) × (Nat → Int32))} {rc101 : (Nat → Int32) → (Nat → Int32) → Int32 → Int32 → Option (Int32 × Int32 × (Nat → Int32) × (Nat → Int32) × (Nat → Int32))} {th : Int32} {kq : Int32} {su : Nat → Int32} {pr : Nat → Int32} {ms : Nat → Int32} {ro : Nat → Int32} {be : Nat → Int32} {s0 : Int32} {v1 : Int32} {v2 : Int32} {v3 : Int32} {v4 : Int32} {v5 : Int32} {v7 : Int32} {r : Int32 × Int32 × (Nat → Int32) × (Nat → Int32) × (Nat → Int32)} (C : Cx p s m args meth c G A RX4 cX4_least 8 ((some .int)))  (hrc42 : ∀ (ro : Nat → Int32) (be : Nat → Int32) (v2 : Int32), rc42 ro be v2 = some r → Wd p l e rm_X4_least s m args below meth c G A 8 0 0 (QQ G A (fun o w => o = some (.int r.1) ∧ w = (mw G ma r.2.1 tr kq kp su pr r.2.2.1 r.2.2.2.1 r.2.2.2.2 di)) below args s 0 0) (mw G ma th tr kq kp su pr ms ro be di) [(0, .ref (ma 0)), (1, .int v1), (2, .int v2)] 42 []) (hrc52 : ∀ (ro : Nat → Int32) (be : Nat → Int32) (v3 : Int32), rc52 ro be v3 = some r → Wd p l e rm_X4_least s m args below meth c G A 8 0 0 (QQ G A (fun o w => o = some (.int r.1) ∧ w = (mw G ma r.2.1 tr kq kp su pr r.2.2.1 r.2.2.2.1 r.2.2.2.2 di)) below args s 0 0) (mw G ma th tr kq kp su pr ms ro be di) [(0, .ref (ma 0)), (1, .int v1), (2, .int v2), (3, .int v3)] 52 []) (hrc63 : ∀ (ro : Nat → Int32) (be : Nat → Int32) (v4 : Int32), rc63 ro be v4 = some r → Wd p l e rm_X4_least s m args below meth c G A 8 0 0 (QQ G A (fun o w => o = some (.int r.1) ∧ w = (mw G ma r.2.1 tr kq kp su pr r.2.2.1 r.2.2.2.1 r.2.2.2.2 di)) below args s 0 0) (mw G ma th tr kq kp su pr ms ro be di) [(0, .ref (ma 0)), (1, .int v1), (2, .int v2), (3, .int v3), (4, .int v4)] 63 []) (hrc101 : ∀ (ro : Nat → Int32) (be : Nat → Int32) (v6 : Int32) (v7 : Int32), rc101 ro be v6 v7 = some r → Wd p l e rm_X4_least s m args below meth c G A 8 0 0 (QQ G A (fun o w => o = some (.int r.1) ∧ w = (mw G ma r.2.1 tr kq kp su pr r.2.2.1 r.2.2.2.1 r.2.2.2.2 di)) below args s 0 0) (mw G ma th tr kq kp su pr ms ro be di) [(0, .ref (ma 0)), (1, .int v1), (2, .int v2), (3, .int v3), (4, .int v4), (5, .int v5), (6, .int v6), (7, .int v7)] 101 []) (h : X4_least_176 fu rc42 rc52 rc63 rc101 th kq su pr ms ro be s0 v1 v2 v3 v4 v5 v7 = some r) : Wd p l e rm_X4_least s m args below meth c G A 8 0 0 (QQ G A (fun o w => o = some (.int r.1) ∧ w = (mw G ma r.2.1 tr kq kp su pr r.2.2.1 r.2.2.2.1 r.2.2.2.2 di)) below args s 0 0) (mw G ma th tr kq kp su pr ms ro be di) [(0, .ref (ma 0)), (1, .int v1), (2, .int v2), (3, .int v3), (4, .int v4), (5, .int v5), (7, .int v7)] 176 [.int s0] := by
  unfold X4_least_176 at h
  refine w_istore C (Nat.le_of_ble_eq_true rfl) rfl dX4_least_176 ?_
  refine w_iinc (v := v7 + 1) (k := 7) C rfl rfl (Nat.le_of_ble_eq_true rfl) rfl dX4_least_178 ?_
  refine w_goto (tgt := 101) C dX4_least_181 (by decide) ?_
  refine w_lv [2, 3, 4, 5, 6, 7, 1, 0] rfl ?_
  exact hrc101 _ _ _ _ h
set_option maxRecDepth 20000 in
set_option maxHeartbeats 4000000 in
theorem w_X4_least_101 {ma : Nat → Nat} {tr : Int64} {kp : Int32} {di : Nat → Int32} {th : Int32} {kq : Int32} {su : Nat → Int32} {pr : Nat → Int32} {ms : Nat → Int32} {v1 : Int32} {v2 : Int32} {v3 : Int32} {v4 : Int32} {v5 : Int32} {fu : Nat} {rc42 : (Nat → Int32) → (Nat → Int32) → Int32 → Option (Int32 × Int32 × (Nat → Int32) × (Nat → Int32) × (Nat → Int32))} {rc52 : (Nat → Int32) → (Nat → Int32) → Int32 → Option (Int32 × Int32 × (Nat → Int32) × (Nat → Int32) × (Nat → Int32))} {rc63 : (Nat → Int32) → (Nat → Int32) → Int32 → Option (Int32 × Int32 × (Nat → Int32) × (Nat → Int32) × (Nat → Int32))} {r : Int32 × Int32 × (Nat → Int32) × (Nat → Int32) × (Nat → Int32)} (C : Cx p s m args meth c G A RX4 cX4_least 8 ((some .int)))  (hrc42 : ∀ (ro : Nat → Int32) (be : Nat → Int32) (v2 : Int32), rc42 ro be v2 = some r → Wd p l e rm_X4_least s m args below meth c G A 8 0 0 (QQ G A (fun o w => o = some (.int r.1) ∧ w = (mw G ma r.2.1 tr kq kp su pr r.2.2.1 r.2.2.2.1 r.2.2.2.2 di)) below args s 0 0) (mw G ma th tr kq kp su pr ms ro be di) [(0, .ref (ma 0)), (1, .int v1), (2, .int v2)] 42 []) (hrc52 : ∀ (ro : Nat → Int32) (be : Nat → Int32) (v3 : Int32), rc52 ro be v3 = some r → Wd p l e rm_X4_least s m args below meth c G A 8 0 0 (QQ G A (fun o w => o = some (.int r.1) ∧ w = (mw G ma r.2.1 tr kq kp su pr r.2.2.1 r.2.2.2.1 r.2.2.2.2 di)) below args s 0 0) (mw G ma th tr kq kp su pr ms ro be di) [(0, .ref (ma 0)), (1, .int v1), (2, .int v2), (3, .int v3)] 52 []) (hrc63 : ∀ (ro : Nat → Int32) (be : Nat → Int32) (v4 : Int32), rc63 ro be v4 = some r → Wd p l e rm_X4_least s m args below meth c G A 8 0 0 (QQ G A (fun o w => o = some (.int r.1) ∧ w = (mw G ma r.2.1 tr kq kp su pr r.2.2.1 r.2.2.2.1 r.2.2.2.2 di)) below args s 0 0) (mw G ma th tr kq kp su pr ms ro be di) [(0, .ref (ma 0)), (1, .int v1), (2, .int v2), (3, .int v3), (4, .int v4)] 63 []) : ∀ (fk : Nat) (ro : Nat → Int32) (be : Nat → Int32) (v6 : Int32) (v7 : Int32), X4_least_101 fu rc42 rc52 rc63 th kq su pr ms v1 v2 v3 v4 v5 fk ro be v6 v7 = some r → Wd p l e rm_X4_least s m args below meth c G A 8 0 0 (QQ G A (fun o w => o = some (.int r.1) ∧ w = (mw G ma r.2.1 tr kq kp su pr r.2.2.1 r.2.2.2.1 r.2.2.2.2 di)) below args s 0 0) (mw G ma th tr kq kp su pr ms ro be di) [(0, .ref (ma 0)), (1, .int v1), (2, .int v2), (3, .int v3), (4, .int v4), (5, .int v5), (6, .int v6), (7, .int v7)] 101 [] := by
  intro fk
  induction fk with
  | zero =>
    intro ro be v6 v7 h
    have h : (none : Option (Int32 × Int32 × (Nat → Int32) × (Nat → Int32) × (Nat → Int32))) = some r := h
    cases h
  | succ fk ih =>
    intro ro be v6 v7 h
    have h : X4_least_101_b fu rc42 rc52 rc63 th kq su pr ms v1 v2 v3 v4 v5 (X4_least_101 fu rc42 rc52 rc63 th kq su pr ms v1 v2 v3 v4 v5 fk) ro be v6 v7 = some r := h
    unfold X4_least_101_b at h
    refine w_iload C 7 rfl dX4_least_101 ?_
    refine w_aload_n C 0 rfl dX4_least_103 ?_
    refine gt_X4_39 C dX4_least_104 ?_
    refine w_icmp_ge (tgt := 184) C dX4_least_107 (by decide) (fun hb14 => ?_) (fun hb14 => ?_)
    · have h := if_t hb14 h
      refine w_iconst (v := 0) C dX4_least_184 (by decide) ?_
      refine w_istore C (Nat.le_of_ble_eq_true rfl) rfl dX4_least_185 ?_
      refine w_lv [1, 2, 3, 4, 5, 7, 0] rfl ?_
      exact w_X4_least_187 C   hrc42 hrc52 hrc63 _ _ _ _ h
    · have h := if_f hb14 h
      refine w_aload_n C 0 rfl dX4_least_110 ?_
      refine gt_X4_19 C dX4_least_111 ?_
      refine w_iload C 7 rfl dX4_least_114 ?_
      refine w_aload_n C 0 rfl dX4_least_116 ?_
      refine w_aload_n C 0 rfl dX4_least_117 ?_
      refine w_iload_n C 2 rfl dX4_least_118 ?_
      refine w_aload_n C 0 rfl dX4_least_119 ?_
      refine gt_X4_16 C dX4_least_120 ?_
      refine w_bipush (v := 16) C dX4_least_123 (by decide) ?_
      refine w_iload_n C 1 rfl dX4_least_125 ?_
      refine w_imul C dX4_least_126 ?_
      refine w_aload_n C 0 rfl dX4_least_127 ?_
      refine w_aload_n C 0 rfl dX4_least_128 ?_
      refine w_iload_n C 3 rfl dX4_least_129 ?_
      refine w_iload C 7 rfl dX4_least_130 ?_
      obtain ⟨x19, hx19, h⟩ := bd_some h
      refine w_cVi (wr := []) (qc := (RX4, TX4, 10)) C (c_X4_by fu  hx19) pk_X4_by ml_X4_56 (As := [.int v3, .int v7]) (rest := [.ref (ma 0), .int (16 * v1), .ref (ma 3), .int v2, .ref (ma 0), .ref (ma 0), .int v7, .ref (ma 4)]) (k9 := 0) rfl rfl ⟨⟨rfl, rfl⟩, Nat.le_of_ble_eq_true rfl, Nat.le_of_ble_eq_true rfl⟩ rfl ⟨(Nat.le_of_ble_eq_true rfl), (Nat.le_of_ble_eq_true rfl)⟩ (Nat.le_of_ble_eq_true rfl) rfl rfl (List.nil_append _) dX4_least_132 ?_
      refine w_iload C 4 rfl dX4_least_135 ?_
      obtain ⟨x20, hx20, h⟩ := bd_some h
      refine w_cVi (wr := []) (qc := (RX4, TX4, 10)) C (c_X4_add fu  hx20) pk_X4_add ml_X4_49 (As := [.int x19, .int v4]) (rest := [.int (16 * v1), .ref (ma 3), .int v2, .ref (ma 0), .ref (ma 0), .int v7, .ref (ma 4)]) (k9 := 0) rfl rfl ⟨⟨rfl, rfl⟩, Nat.le_of_ble_eq_true rfl, Nat.le_of_ble_eq_true rfl⟩ rfl ⟨(Nat.le_of_ble_eq_true rfl), (Nat.le_of_ble_eq_true rfl)⟩ (Nat.le_of_ble_eq_true rfl) rfl rfl (List.nil_append _) dX4_least_137 ?_
      refine w_iadd C dX4_least_140 ?_
      obtain ⟨hi21, h⟩ := ckI_some h
      refine ld_ms C hi21 dX4_least_141 ?_
      obtain ⟨x22, hx22, h⟩ := bd_some h
      refine w_cVi (wr := []) (qc := (RX4, TX4, 10)) C (c_X4_by fu  hx22) pk_X4_by ml_X4_56 (As := [.int v2, .int (ms ((16 * v1) + x20).toNatClampNeg)]) (rest := [.ref (ma 0), .int v7, .ref (ma 4)]) (k9 := 0) rfl rfl ⟨⟨rfl, rfl⟩, Nat.le_of_ble_eq_true rfl, Nat.le_of_ble_eq_true rfl⟩ rfl ⟨(Nat.le_of_ble_eq_true rfl), (Nat.le_of_ble_eq_true rfl)⟩ (Nat.le_of_ble_eq_true rfl) rfl rfl (List.nil_append _) dX4_least_142 ?_
      refine w_iload C 5 rfl dX4_least_145 ?_
      obtain ⟨x23, hx23, h⟩ := bd_some h
      refine w_cVi (wr := []) (qc := (RX4, TX4, 10)) C (c_X4_add fu  hx23) pk_X4_add ml_X4_49 (As := [.int x22, .int v5]) (rest := [.int v7, .ref (ma 4)]) (k9 := 0) rfl rfl ⟨⟨rfl, rfl⟩, Nat.le_of_ble_eq_true rfl, Nat.le_of_ble_eq_true rfl⟩ rfl ⟨(Nat.le_of_ble_eq_true rfl), (Nat.le_of_ble_eq_true rfl)⟩ (Nat.le_of_ble_eq_true rfl) rfl rfl (List.nil_append _) dX4_least_147 ?_
      obtain ⟨hi24, h⟩ := ckI_some h
      refine sr_ro C hi24 dX4_least_150 ?_
      refine w_iload C 6 rfl dX4_least_151 ?_
      refine w_if_ne (tgt := 174) C dX4_least_153 (by decide) (fun hb25 => ?_) (fun hb25 => ?_)
      · have h := if_f hb25 h
        refine w_iload C 6 rfl dX4_least_174 ?_
        refine w_lv [0, 1, 2, 3, 4, 5, 7] rfl ?_
        exact w_X4_least_176 C   hrc42 hrc52 hrc63 ih h
      · have h := if_t hb25 h
        refine w_aload_n C 0 rfl dX4_least_156 ?_
        refine gt_X4_19 C dX4_least_157 ?_
        refine w_iload C 7 rfl dX4_least_160 ?_
        obtain ⟨hi26, h⟩ := ckI_some h
        refine ld_ro C hi26 dX4_least_162 ?_
        refine w_aload_n C 0 rfl dX4_least_163 ?_
        refine gt_X4_22 C dX4_least_164 ?_
        refine w_iload C 7 rfl dX4_least_167 ?_
        obtain ⟨hi27, h⟩ := ckI_some h
        refine ld_be C hi27 dX4_least_169 ?_
        refine w_isub C dX4_least_170 ?_
        refine w_goto (tgt := 176) C dX4_least_171 (by decide) ?_
        refine w_lv [0, 1, 2, 3, 4, 5, 7] rfl ?_
        exact w_X4_least_176 C   hrc42 hrc52 hrc63 ih h
set_option maxRecDepth 20000 in
set_option maxHeartbeats 4000000 in
theorem w_X4_least_63 {ma : Nat → Nat} {tr : Int64} {kp : Int32} {di : Nat → Int32} {th : Int32} {kq : Int32} {su : Nat → Int32} {pr : Nat → Int32} {ms : Nat → Int32} {v1 : Int32} {v2 : Int32} {v3 : Int32} {fu : Nat} {rc42 : (Nat → Int32) → (Nat → Int32) → Int32 → Option (Int32 × Int32 × (Nat → Int32) × (Nat → Int32) × (Nat → Int32))} {rc52 : (Nat → Int32) → (Nat → Int32) → Int32 → Option (Int32 × Int32 × (Nat → Int32) × (Nat → Int32) × (Nat → Int32))} {r : Int32 × Int32 × (Nat → Int32) × (Nat → Int32) × (Nat → Int32)} (C : Cx p s m args meth c G A RX4 cX4_least 8 ((some .int)))  (hrc42 : ∀ (ro : Nat → Int32) (be : Nat → Int32) (v2 : Int32), rc42 ro be v2 = some r → Wd p l e rm_X4_least s m args below meth c G A 8 0 0 (QQ G A (fun o w => o = some (.int r.1) ∧ w = (mw G ma r.2.1 tr kq kp su pr r.2.2.1 r.2.2.2.1 r.2.2.2.2 di)) below args s 0 0) (mw G ma th tr kq kp su pr ms ro be di) [(0, .ref (ma 0)), (1, .int v1), (2, .int v2)] 42 []) (hrc52 : ∀ (ro : Nat → Int32) (be : Nat → Int32) (v3 : Int32), rc52 ro be v3 = some r → Wd p l e rm_X4_least s m args below meth c G A 8 0 0 (QQ G A (fun o w => o = some (.int r.1) ∧ w = (mw G ma r.2.1 tr kq kp su pr r.2.2.1 r.2.2.2.1 r.2.2.2.2 di)) below args s 0 0) (mw G ma th tr kq kp su pr ms ro be di) [(0, .ref (ma 0)), (1, .int v1), (2, .int v2), (3, .int v3)] 52 []) : ∀ (fk : Nat) (ro : Nat → Int32) (be : Nat → Int32) (v4 : Int32), X4_least_63 fu rc42 rc52 th kq su pr ms v1 v2 v3 fk ro be v4 = some r → Wd p l e rm_X4_least s m args below meth c G A 8 0 0 (QQ G A (fun o w => o = some (.int r.1) ∧ w = (mw G ma r.2.1 tr kq kp su pr r.2.2.1 r.2.2.2.1 r.2.2.2.2 di)) below args s 0 0) (mw G ma th tr kq kp su pr ms ro be di) [(0, .ref (ma 0)), (1, .int v1), (2, .int v2), (3, .int v3), (4, .int v4)] 63 [] := by
  intro fk
  induction fk with
  | zero =>
    intro ro be v4 h
    have h : (none : Option (Int32 × Int32 × (Nat → Int32) × (Nat → Int32) × (Nat → Int32))) = some r := h
    cases h
  | succ fk ih =>
    intro ro be v4 h
    have h : X4_least_63_b fu rc42 rc52 th kq su pr ms v1 v2 v3 (X4_least_63 fu rc42 rc52 th kq su pr ms v1 v2 v3 fk) ro be v4 = some r := h
    unfold X4_least_63_b at h
    refine w_iload C 4 rfl dX4_least_63 ?_
    refine w_aload_n C 0 rfl dX4_least_65 ?_
    refine gt_X4_39 C dX4_least_66 ?_
    refine w_icmp_ge (tgt := 227) C dX4_least_69 (by decide) (fun hb10 => ?_) (fun hb10 => ?_)
    · have h := if_t hb10 h
      refine w_iinc (v := v3 + 1) (k := 3) C rfl rfl (Nat.le_of_ble_eq_true rfl) rfl dX4_least_227 ?_
      refine w_goto (tgt := 52) C dX4_least_230 (by decide) ?_
      refine w_lv [1, 2, 3, 0] rfl ?_
      exact hrc52 _ _ _ h
    · have h := if_f hb10 h
      refine w_aload_n C 0 rfl dX4_least_72 ?_
      refine w_aload_n C 0 rfl dX4_least_73 ?_
      refine w_iload_n C 2 rfl dX4_least_74 ?_
      refine w_aload_n C 0 rfl dX4_least_75 ?_
      refine gt_X4_16 C dX4_least_76 ?_
      refine w_bipush (v := 16) C dX4_least_79 (by decide) ?_
      refine w_iload_n C 1 rfl dX4_least_81 ?_
      refine w_imul C dX4_least_82 ?_
      refine w_iload C 4 rfl dX4_least_83 ?_
      refine w_iadd C dX4_least_85 ?_
      obtain ⟨hi11, h⟩ := ckI_some h
      refine ld_ms C hi11 dX4_least_86 ?_
      obtain ⟨x12, hx12, h⟩ := bd_some h
      refine w_cVi (wr := []) (qc := (RX4, TX4, 10)) C (c_X4_by fu  hx12) pk_X4_by ml_X4_56 (As := [.int v2, .int (ms ((16 * v1) + v4).toNatClampNeg)]) (rest := [.ref (ma 0)]) (k9 := 0) rfl rfl ⟨⟨rfl, rfl⟩, Nat.le_of_ble_eq_true rfl, Nat.le_of_ble_eq_true rfl⟩ rfl ⟨(Nat.le_of_ble_eq_true rfl), (Nat.le_of_ble_eq_true rfl)⟩ (Nat.le_of_ble_eq_true rfl) rfl rfl (List.nil_append _) dX4_least_87 ?_
      obtain ⟨x13, hx13, h⟩ := bd_some h
      refine w_cVi (wr := []) (qc := (RX4, TX4, 10)) C (c_X4_minus fu  hx13) pk_X4_minus ml_X4_69 (As := [.int x12]) (rest := []) (k9 := 0) rfl rfl ⟨⟨rfl, rfl⟩, Nat.le_of_ble_eq_true rfl, Nat.le_of_ble_eq_true rfl⟩ rfl ⟨(Nat.le_of_ble_eq_true rfl), (Nat.le_of_ble_eq_true rfl)⟩ (Nat.le_of_ble_eq_true rfl) rfl rfl (List.nil_append _) dX4_least_90 ?_
      refine w_istore C (Nat.le_of_ble_eq_true rfl) rfl dX4_least_93 ?_
      refine w_iconst (v := 0) C dX4_least_95 (by decide) ?_
      refine w_istore C (Nat.le_of_ble_eq_true rfl) rfl dX4_least_96 ?_
      refine w_iconst (v := 0) C dX4_least_98 (by decide) ?_
      refine w_istore C (Nat.le_of_ble_eq_true rfl) rfl dX4_least_99 ?_
      refine w_lv [3, 4, 5, 6, 7, 2, 1, 0] rfl ?_
      exact w_X4_least_101 C   hrc42 hrc52 ih _ _ _ _ _ h
set_option maxRecDepth 20000 in
set_option maxHeartbeats 4000000 in
theorem w_X4_least_52 {ma : Nat → Nat} {tr : Int64} {kp : Int32} {di : Nat → Int32} {th : Int32} {kq : Int32} {su : Nat → Int32} {pr : Nat → Int32} {ms : Nat → Int32} {v1 : Int32} {v2 : Int32} {fu : Nat} {rc42 : (Nat → Int32) → (Nat → Int32) → Int32 → Option (Int32 × Int32 × (Nat → Int32) × (Nat → Int32) × (Nat → Int32))} {r : Int32 × Int32 × (Nat → Int32) × (Nat → Int32) × (Nat → Int32)} (C : Cx p s m args meth c G A RX4 cX4_least 8 ((some .int)))  (hrc42 : ∀ (ro : Nat → Int32) (be : Nat → Int32) (v2 : Int32), rc42 ro be v2 = some r → Wd p l e rm_X4_least s m args below meth c G A 8 0 0 (QQ G A (fun o w => o = some (.int r.1) ∧ w = (mw G ma r.2.1 tr kq kp su pr r.2.2.1 r.2.2.2.1 r.2.2.2.2 di)) below args s 0 0) (mw G ma th tr kq kp su pr ms ro be di) [(0, .ref (ma 0)), (1, .int v1), (2, .int v2)] 42 []) : ∀ (fk : Nat) (ro : Nat → Int32) (be : Nat → Int32) (v3 : Int32), X4_least_52 fu rc42 th kq su pr ms v1 v2 fk ro be v3 = some r → Wd p l e rm_X4_least s m args below meth c G A 8 0 0 (QQ G A (fun o w => o = some (.int r.1) ∧ w = (mw G ma r.2.1 tr kq kp su pr r.2.2.1 r.2.2.2.1 r.2.2.2.2 di)) below args s 0 0) (mw G ma th tr kq kp su pr ms ro be di) [(0, .ref (ma 0)), (1, .int v1), (2, .int v2), (3, .int v3)] 52 [] := by
  intro fk
  induction fk with
  | zero =>
    intro ro be v3 h
    have h : (none : Option (Int32 × Int32 × (Nat → Int32) × (Nat → Int32) × (Nat → Int32))) = some r := h
    cases h
  | succ fk ih =>
    intro ro be v3 h
    have h : X4_least_52_b fu rc42 th kq su pr ms v1 v2 (X4_least_52 fu rc42 th kq su pr ms v1 v2 fk) ro be v3 = some r := h
    unfold X4_least_52_b at h
    refine w_iload_n C 3 rfl dX4_least_52 ?_
    refine w_aload_n C 0 rfl dX4_least_53 ?_
    refine gt_X4_39 C dX4_least_54 ?_
    refine w_icmp_ge (tgt := 233) C dX4_least_57 (by decide) (fun hb9 => ?_) (fun hb9 => ?_)
    · have h := if_t hb9 h
      refine w_iinc (v := v2 + 1) (k := 2) C rfl rfl (Nat.le_of_ble_eq_true rfl) rfl dX4_least_233 ?_
      refine w_goto (tgt := 42) C dX4_least_236 (by decide) ?_
      refine w_lv [1, 2, 0] rfl ?_
      exact hrc42 _ _ _ h
    · have h := if_f hb9 h
      refine w_iconst (v := 0) C dX4_least_60 (by decide) ?_
      refine w_istore C (Nat.le_of_ble_eq_true rfl) rfl dX4_least_61 ?_
      refine w_lv [1, 2, 3, 4, 0] rfl ?_
      exact w_X4_least_63 C   hrc42 ih _ _ _ _ h
set_option maxRecDepth 20000 in
set_option maxHeartbeats 4000000 in
theorem w_X4_least_42 {ma : Nat → Nat} {tr : Int64} {kp : Int32} {di : Nat → Int32} {th : Int32} {kq : Int32} {su : Nat → Int32} {pr : Nat → Int32} {ms : Nat → Int32} {v1 : Int32} {fu : Nat}  {r : Int32 × Int32 × (Nat → Int32) × (Nat → Int32) × (Nat → Int32)} (C : Cx p s m args meth c G A RX4 cX4_least 8 ((some .int)))   : ∀ (fk : Nat) (ro : Nat → Int32) (be : Nat → Int32) (v2 : Int32), X4_least_42 fu  th kq su pr ms v1 fk ro be v2 = some r → Wd p l e rm_X4_least s m args below meth c G A 8 0 0 (QQ G A (fun o w => o = some (.int r.1) ∧ w = (mw G ma r.2.1 tr kq kp su pr r.2.2.1 r.2.2.2.1 r.2.2.2.2 di)) below args s 0 0) (mw G ma th tr kq kp su pr ms ro be di) [(0, .ref (ma 0)), (1, .int v1), (2, .int v2)] 42 [] := by
  intro fk
  induction fk with
  | zero =>
    intro ro be v2 h
    have h : (none : Option (Int32 × Int32 × (Nat → Int32) × (Nat → Int32) × (Nat → Int32))) = some r := h
    cases h
  | succ fk ih =>
    intro ro be v2 h
    have h : X4_least_42_b fu  th kq su pr ms v1 (X4_least_42 fu  th kq su pr ms v1 fk) ro be v2 = some r := h
    unfold X4_least_42_b at h
    refine w_iload_n C 2 rfl dX4_least_42 ?_
    refine w_aload_n C 0 rfl dX4_least_43 ?_
    refine gt_X4_39 C dX4_least_44 ?_
    refine w_icmp_ge (tgt := 239) C dX4_least_47 (by decide) (fun hb4 => ?_) (fun hb4 => ?_)
    · have h := if_t hb4 h
      refine w_iconst (v := 0) C dX4_least_239 (by decide) ?_
      refine w_istore_n C (Nat.le_of_ble_eq_true rfl) rfl dX4_least_240 ?_
      refine w_lv [1, 2, 0] rfl ?_
      exact w_X4_least_241 C    _ _ _ _ h
    · have h := if_f hb4 h
      refine w_iconst (v := 1) C dX4_least_50 (by decide) ?_
      refine w_istore_n C (Nat.le_of_ble_eq_true rfl) rfl dX4_least_51 ?_
      refine w_lv [1, 2, 3, 0] rfl ?_
      exact w_X4_least_52 C   ih _ _ _ _ h
set_option maxRecDepth 20000 in
set_option maxHeartbeats 4000000 in
theorem w_X4_least_16 {ma : Nat → Nat} {tr : Int64} {kp : Int32} {di : Nat → Int32} {th : Int32} {kq : Int32} {su : Nat → Int32} {pr : Nat → Int32} {ms : Nat → Int32} {v1 : Int32} {fu : Nat}  {r : Int32 × Int32 × (Nat → Int32) × (Nat → Int32) × (Nat → Int32)} (C : Cx p s m args meth c G A RX4 cX4_least 8 ((some .int)))   : ∀ (fk : Nat) (ro : Nat → Int32) (be : Nat → Int32) (v2 : Int32), X4_least_16 fu  th kq su pr ms v1 fk ro be v2 = some r → Wd p l e rm_X4_least s m args below meth c G A 8 0 0 (QQ G A (fun o w => o = some (.int r.1) ∧ w = (mw G ma r.2.1 tr kq kp su pr r.2.2.1 r.2.2.2.1 r.2.2.2.2 di)) below args s 0 0) (mw G ma th tr kq kp su pr ms ro be di) [(0, .ref (ma 0)), (1, .int v1), (2, .int v2)] 16 [] := by
  intro fk
  induction fk with
  | zero =>
    intro ro be v2 h
    have h : (none : Option (Int32 × Int32 × (Nat → Int32) × (Nat → Int32) × (Nat → Int32))) = some r := h
    cases h
  | succ fk ih =>
    intro ro be v2 h
    have h : X4_least_16_b fu  th kq su pr ms v1 (X4_least_16 fu  th kq su pr ms v1 fk) ro be v2 = some r := h
    unfold X4_least_16_b at h
    refine w_iload_n C 2 rfl dX4_least_16 ?_
    refine w_aload_n C 0 rfl dX4_least_17 ?_
    refine gt_X4_39 C dX4_least_18 ?_
    refine w_icmp_ge (tgt := 40) C dX4_least_21 (by decide) (fun hb3 => ?_) (fun hb3 => ?_)
    · have h := if_t hb3 h
      refine w_iconst (v := 1) C dX4_least_40 (by decide) ?_
      refine w_istore_n C (Nat.le_of_ble_eq_true rfl) rfl dX4_least_41 ?_
      refine w_lv [1, 2, 0] rfl ?_
      exact w_X4_least_42 C    _ _ _ _ h
    · have h := if_f hb3 h
      refine w_aload_n C 0 rfl dX4_least_24 ?_
      refine gt_X4_22 C dX4_least_25 ?_
      refine w_iload_n C 2 rfl dX4_least_28 ?_
      refine w_aload_n C 0 rfl dX4_least_29 ?_
      refine gt_X4_39 C dX4_least_30 ?_
      obtain ⟨hi28, h⟩ := ckI_some h
      refine sr_be C hi28 dX4_least_33 ?_
      refine w_iinc (v := v2 + 1) (k := 2) C rfl rfl (Nat.le_of_ble_eq_true rfl) rfl dX4_least_34 ?_
      refine w_goto (tgt := 16) C dX4_least_37 (by decide) ?_
      refine w_lv [1, 2, 0] rfl ?_
      exact ih _ _ _ h
set_option maxRecDepth 20000 in
set_option maxHeartbeats 4000000 in
theorem w_X4_least {ma : Nat → Nat} {tr : Int64} {kp : Int32} {di : Nat → Int32} {fu : Nat}  {th : Int32} {kq : Int32} {su : Nat → Int32} {pr : Nat → Int32} {ms : Nat → Int32} {ro : Nat → Int32} {be : Nat → Int32} {v1 : Int32} {r : Int32 × Int32 × (Nat → Int32) × (Nat → Int32) × (Nat → Int32)} (C : Cx p s m args meth c G A RX4 cX4_least 8 ((some .int)))   (h : X4_least fu  th kq su pr ms ro be v1 = some r) : Wd p l e rm_X4_least s m args below meth c G A 8 0 0 (QQ G A (fun o w => o = some (.int r.1) ∧ w = (mw G ma r.2.1 tr kq kp su pr r.2.2.1 r.2.2.2.1 r.2.2.2.2 di)) below args s 0 0) (mw G ma th tr kq kp su pr ms ro be di) [(0, .ref (ma 0)), (1, .int v1)] 0 [] := by
  unfold X4_least at h
  refine w_aload_n C 0 rfl dX4_least_0 ?_
  refine w_iconst (v := 0) C dX4_least_1 (by decide) ?_
  refine pt_X4_32 C dX4_least_2 ?_
  refine w_iload_n C 1 rfl dX4_least_5 ?_
  obtain ⟨x1, hx1, h⟩ := bd_some h
  refine w_cSi C (c_X4_isMap fu  hx1) pk_X4_isMap ml_X4_63 (As := [.int v1]) (rest := []) ⟨⟨rfl, rfl⟩, Nat.le_of_ble_eq_true rfl, Nat.le_of_ble_eq_true rfl⟩ rfl ⟨(Nat.le_of_ble_eq_true rfl), (Nat.le_of_ble_eq_true rfl)⟩ (Nat.le_of_ble_eq_true rfl) rfl (List.append_nil _).symm (List.append_nil _) dX4_least_6 ?_
  refine w_if_ne (tgt := 14) C dX4_least_9 (by decide) (fun hb2 => ?_) (fun hb2 => ?_)
  · have h := if_f hb2 h
    refine w_iconst (v := 0) C dX4_least_14 (by decide) ?_
    refine w_istore_n C (Nat.le_of_ble_eq_true rfl) rfl dX4_least_15 ?_
    refine w_lv [1, 2, 0] rfl ?_
    exact w_X4_least_16 C    _ _ _ _ h
  · have h := if_t hb2 h
    refine w_iconst (v := (-1)) C dX4_least_12 (by decide) ?_
    cases h
    exact w_iret C ⟨rfl, rfl⟩ dX4_least_13
theorem c_X4_least {l : Launch} {G : GG} {ma : Nat → Nat} {th : Int32} {tr : Int64} {kq : Int32} {kp : Int32} {su : Nat → Int32} {pr : Nat → Int32} {ms : Nat → Int32} {ro : Nat → Int32} {be : Nat → Int32} {di : Nat → Int32} (fu : Nat) {v1 : Int32} {r : Int32 × Int32 × (Nat → Int32) × (Nat → Int32) × (Nat → Int32)} (h : X4_least fu th kq su pr ms ro be v1 = some r) : Ct l yX4_least cX4_least 8 ((some .int)) G rm_X4_least [.ref (ma 0), .int v1] (mw G ma th tr kq kp su pr ms ro be di) (fun o w => o = some (.int r.1) ∧ w = (mw G ma r.2.1 tr kq kp su pr r.2.2.1 r.2.2.2.1 r.2.2.2.2 di)) 0 0 := Ct.of (by decide) (Nat.le_of_ble_eq_true rfl) (fun p e s m args below meth c A C _ => w_X4_least C h)
abbrev rm_X4_allOf : Room := { frames := 0, cells := 0, slots := 0, locals := 0 }
theorem pk_X4_allOf : PkV RX4 yX4_allOf cX4_allOf 4 ((some .int)) 1 := ⟨rfl, co_X4_allOf, ini_RX4, im_X4_allOf, se_X4_allOf, by decide +kernel⟩
set_option maxRecDepth 20000 in
set_option maxHeartbeats 4000000 in
theorem w_X4_allOf_25 {ma : Nat → Nat} {th : Int32} {tr : Int64} {kp : Int32} {su : Nat → Int32} {pr : Nat → Int32} {ms : Nat → Int32} {ro : Nat → Int32} {be : Nat → Int32} {di : Nat → Int32} {fu : Nat} {rc4 : Int32 → Int32 → Option Int32} {kq : Int32} {s0 : Int32} {s1 : Int32} {v1 : Int32} {v3 : Int32} {r : Int32} (C : Cx p s m args meth c G A RX4 cX4_allOf 4 ((some .int)))  (hrc4 : ∀ (v2 : Int32) (v3 : Int32), rc4 v2 v3 = some r → Wd p l e rm_X4_allOf s m args below meth c G A 4 0 0 (QQ G A (fun o w => o = some (.int r) ∧ w = (mw G ma th tr kq kp su pr ms ro be di)) below args s 0 0) (mw G ma th tr kq kp su pr ms ro be di) [(0, .ref (ma 0)), (1, .int v1), (2, .int v2), (3, .int v3)] 4 []) (h : X4_allOf_25 fu rc4 kq s0 s1 v1 v3 = some r) : Wd p l e rm_X4_allOf s m args below meth c G A 4 0 0 (QQ G A (fun o w => o = some (.int r) ∧ w = (mw G ma th tr kq kp su pr ms ro be di)) below args s 0 0) (mw G ma th tr kq kp su pr ms ro be di) [(0, .ref (ma 0)), (1, .int v1), (3, .int v3)] 25 [.int s0, .int s1] := by
  unfold X4_allOf_25 at h
  refine w_imul C dX4_allOf_25 ?_
  refine w_istore_n C (Nat.le_of_ble_eq_true rfl) rfl dX4_allOf_26 ?_
  refine w_iinc (v := v3 + 1) (k := 3) C rfl rfl (Nat.le_of_ble_eq_true rfl) rfl dX4_allOf_27 ?_
  refine w_goto (tgt := 4) C dX4_allOf_30 (by decide) ?_
  refine w_lv [2, 3, 1, 0] rfl ?_
  exact hrc4 _ _ h
set_option maxRecDepth 20000 in
set_option maxHeartbeats 4000000 in
theorem w_X4_allOf_4 {ma : Nat → Nat} {th : Int32} {tr : Int64} {kp : Int32} {su : Nat → Int32} {pr : Nat → Int32} {ms : Nat → Int32} {ro : Nat → Int32} {be : Nat → Int32} {di : Nat → Int32} {kq : Int32} {v1 : Int32} {fu : Nat}  {r : Int32} (C : Cx p s m args meth c G A RX4 cX4_allOf 4 ((some .int)))   : ∀ (fk : Nat) (v2 : Int32) (v3 : Int32), X4_allOf_4 fu  kq v1 fk v2 v3 = some r → Wd p l e rm_X4_allOf s m args below meth c G A 4 0 0 (QQ G A (fun o w => o = some (.int r) ∧ w = (mw G ma th tr kq kp su pr ms ro be di)) below args s 0 0) (mw G ma th tr kq kp su pr ms ro be di) [(0, .ref (ma 0)), (1, .int v1), (2, .int v2), (3, .int v3)] 4 [] := by
  intro fk
  induction fk with
  | zero =>
    intro v2 v3 h
    have h : (none : Option Int32) = some r := h
    cases h
  | succ fk ih =>
    intro v2 v3 h
    have h : X4_allOf_4_b fu  kq v1 (X4_allOf_4 fu  kq v1 fk) v2 v3 = some r := h
    unfold X4_allOf_4_b at h
    refine w_iload_n C 3 rfl dX4_allOf_4 ?_
    refine w_iload_n C 1 rfl dX4_allOf_5 ?_
    refine w_icmp_ge (tgt := 33) C dX4_allOf_6 (by decide) (fun hb1 => ?_) (fun hb1 => ?_)
    · have h := if_t hb1 h
      refine w_iload_n C 2 rfl dX4_allOf_33 ?_
      cases h
      exact w_iret C ⟨rfl, rfl⟩ dX4_allOf_34
    · have h := if_f hb1 h
      refine w_iload_n C 2 rfl dX4_allOf_9 ?_
      refine w_iload_n C 2 rfl dX4_allOf_10 ?_
      refine w_sipush (v := 5000) C dX4_allOf_11 (by decide) ?_
      refine w_icmp_le (tgt := 21) C dX4_allOf_14 (by decide) (fun hb2 => ?_) (fun hb2 => ?_)
      · have h := if_t hb2 h
        refine w_aload_n C 0 rfl dX4_allOf_21 ?_
        refine gt_X4_39 C dX4_allOf_22 ?_
        refine w_lv [0, 1, 3] rfl ?_
        exact w_X4_allOf_25 C   ih h
      · have h := if_f hb2 h
        refine w_iconst (v := 1) C dX4_allOf_17 (by decide) ?_
        refine w_goto (tgt := 25) C dX4_allOf_18 (by decide) ?_
        refine w_lv [0, 1, 3] rfl ?_
        exact w_X4_allOf_25 C   ih h
set_option maxRecDepth 20000 in
set_option maxHeartbeats 4000000 in
theorem w_X4_allOf {ma : Nat → Nat} {th : Int32} {tr : Int64} {kp : Int32} {su : Nat → Int32} {pr : Nat → Int32} {ms : Nat → Int32} {ro : Nat → Int32} {be : Nat → Int32} {di : Nat → Int32} {fu : Nat}  {kq : Int32} {v1 : Int32} {r : Int32} (C : Cx p s m args meth c G A RX4 cX4_allOf 4 ((some .int)))   (h : X4_allOf fu  kq v1 = some r) : Wd p l e rm_X4_allOf s m args below meth c G A 4 0 0 (QQ G A (fun o w => o = some (.int r) ∧ w = (mw G ma th tr kq kp su pr ms ro be di)) below args s 0 0) (mw G ma th tr kq kp su pr ms ro be di) [(0, .ref (ma 0)), (1, .int v1)] 0 [] := by
  unfold X4_allOf at h
  refine w_iconst (v := 1) C dX4_allOf_0 (by decide) ?_
  refine w_istore_n C (Nat.le_of_ble_eq_true rfl) rfl dX4_allOf_1 ?_
  refine w_iconst (v := 1) C dX4_allOf_2 (by decide) ?_
  refine w_istore_n C (Nat.le_of_ble_eq_true rfl) rfl dX4_allOf_3 ?_
  refine w_lv [2, 3, 1, 0] rfl ?_
  exact w_X4_allOf_4 C    _ _ _ h
theorem c_X4_allOf {l : Launch} {G : GG} {ma : Nat → Nat} {th : Int32} {tr : Int64} {kq : Int32} {kp : Int32} {su : Nat → Int32} {pr : Nat → Int32} {ms : Nat → Int32} {ro : Nat → Int32} {be : Nat → Int32} {di : Nat → Int32} (fu : Nat) {v1 : Int32} {r : Int32} (h : X4_allOf fu kq v1 = some r) : Ct l yX4_allOf cX4_allOf 4 ((some .int)) G rm_X4_allOf [.ref (ma 0), .int v1] (mw G ma th tr kq kp su pr ms ro be di) (fun o w => o = some (.int r) ∧ w = (mw G ma th tr kq kp su pr ms ro be di)) 0 0 := Ct.of (by decide) (Nat.le_of_ble_eq_true rfl) (fun p e s m args below meth c A C _ => w_X4_allOf C h)
abbrev rm_X4_shufflesAt : Room := { frames := 2, cells := 0, slots := 0, locals := 46 }
theorem pk_X4_shufflesAt : PkV RX4 yX4_shufflesAt cX4_shufflesAt 9 ((some .boolean)) 2 := ⟨rfl, co_X4_shufflesAt, ini_RX4, im_X4_shufflesAt, se_X4_shufflesAt, by decide +kernel⟩
set_option maxRecDepth 20000 in
set_option maxHeartbeats 4000000 in
theorem w_X4_shufflesAt_32 {ma : Nat → Nat} {th : Int32} {tr : Int64} {kp : Int32} {ms : Nat → Int32} {be : Nat → Int32} {di : Nat → Int32} {kq : Int32} {su : Nat → Int32} {pr : Nat → Int32} {ro : Nat → Int32} {v1 : Int32} {v2 : Int32} {v3 : Int32} {v4 : Int32} {v5 : Int32} {fu : Nat} {rc8 : (Nat → Int32) → Int32 → Int32 → Int32 → Option (Int32 × (Nat → Int32))} {r : Int32 × (Nat → Int32)} (C : Cx p s m args meth c G A RX4 cX4_shufflesAt 9 ((some .boolean)))  (hrc8 : ∀ (ro : Nat → Int32) (v3 : Int32) (v4 : Int32) (v5 : Int32), rc8 ro v3 v4 v5 = some r → Wd p l e rm_X4_shufflesAt s m args below meth c G A 9 0 0 (QQ G A (fun o w => o = some (.int r.1) ∧ w = (mw G ma th tr kq kp su pr ms r.2 be di)) below args s 0 0) (mw G ma th tr kq kp su pr ms ro be di) [(0, .ref (ma 0)), (1, .int v1), (2, .int v2), (3, .int v3), (4, .int v4), (5, .int v5)] 8 []) : ∀ (fk : Nat) (v6 : Int32) (v7 : Int32) (v8 : Int32), X4_shufflesAt_32 fu rc8 kq su pr ro v1 v2 v3 v4 v5 fk v6 v7 v8 = some r → Wd p l e rm_X4_shufflesAt s m args below meth c G A 9 0 0 (QQ G A (fun o w => o = some (.int r.1) ∧ w = (mw G ma th tr kq kp su pr ms r.2 be di)) below args s 0 0) (mw G ma th tr kq kp su pr ms ro be di) [(0, .ref (ma 0)), (1, .int v1), (2, .int v2), (3, .int v3), (4, .int v4), (5, .int v5), (6, .int v6), (7, .int v7), (8, .int v8)] 32 [] := by
  intro fk
  induction fk with
  | zero =>
    intro v6 v7 v8 h
    have h : (none : Option (Int32 × (Nat → Int32))) = some r := h
    cases h
  | succ fk ih =>
    intro v6 v7 v8 h
    have h : X4_shufflesAt_32_b fu rc8 kq su pr ro v1 v2 v3 v4 v5 (X4_shufflesAt_32 fu rc8 kq su pr ro v1 v2 v3 v4 v5 fk) v6 v7 v8 = some r := h
    unfold X4_shufflesAt_32_b at h
    refine w_iload C 8 rfl dX4_shufflesAt_32 ?_
    refine w_iload_n C 1 rfl dX4_shufflesAt_34 ?_
    refine w_icmp_ge (tgt := 80) C dX4_shufflesAt_35 (by decide) (fun hb4 => ?_) (fun hb4 => ?_)
    · have h := if_t hb4 h
      refine w_aload_n C 0 rfl dX4_shufflesAt_80 ?_
      refine gt_X4_19 C dX4_shufflesAt_81 ?_
      refine w_iload C 5 rfl dX4_shufflesAt_84 ?_
      refine w_iload C 6 rfl dX4_shufflesAt_86 ?_
      obtain ⟨hi5, h⟩ := ckI_some h
      refine sr_ro C hi5 dX4_shufflesAt_88 ?_
      refine w_iload C 4 rfl dX4_shufflesAt_89 ?_
      refine w_iload_n C 3 rfl dX4_shufflesAt_91 ?_
      refine w_iload C 6 rfl dX4_shufflesAt_92 ?_
      refine w_ishr C dX4_shufflesAt_94 ?_
      refine w_iconst (v := 1) C dX4_shufflesAt_95 (by decide) ?_
      refine w_iand C dX4_shufflesAt_96 ?_
      refine w_iadd C dX4_shufflesAt_97 ?_
      refine w_istore C (Nat.le_of_ble_eq_true rfl) rfl dX4_shufflesAt_98 ?_
      refine w_iload_n C 4 rfl dX4_shufflesAt_100 ?_
      refine w_iconst (v := 1) C dX4_shufflesAt_101 (by decide) ?_
      refine w_iload C 6 rfl dX4_shufflesAt_102 ?_
      refine w_ishl C dX4_shufflesAt_104 ?_
      refine w_ior C dX4_shufflesAt_105 ?_
      refine w_istore_n C (Nat.le_of_ble_eq_true rfl) rfl dX4_shufflesAt_106 ?_
      refine w_iinc (v := v5 + 1) (k := 5) C rfl rfl (Nat.le_of_ble_eq_true rfl) rfl dX4_shufflesAt_107 ?_
      refine w_goto (tgt := 8) C dX4_shufflesAt_110 (by decide) ?_
      refine w_lv [3, 4, 5, 1, 2, 0] rfl ?_
      exact hrc8 _ _ _ _ h
    · have h := if_f hb4 h
      refine w_aload_n C 0 rfl dX4_shufflesAt_38 ?_
      refine w_iload C 6 rfl dX4_shufflesAt_39 ?_
      refine w_aload_n C 0 rfl dX4_shufflesAt_41 ?_
      refine w_iload C 7 rfl dX4_shufflesAt_42 ?_
      refine w_aload_n C 0 rfl dX4_shufflesAt_44 ?_
      refine gt_X4_39 C dX4_shufflesAt_45 ?_
      obtain ⟨hz6, h⟩ := ckZ_some h
      refine w_irem C hz6 dX4_shufflesAt_48 ?_
      refine w_aload_n C 0 rfl dX4_shufflesAt_49 ?_
      refine w_iload C 5 rfl dX4_shufflesAt_50 ?_
      refine w_iload C 8 rfl dX4_shufflesAt_52 ?_
      obtain ⟨x7, hx7, h⟩ := bd_some h
      refine w_cVi (wr := []) (qc := (RX4, TX4, 10)) C (c_X4_power fu  hx7) pk_X4_power ml_X4_66 (As := [.int v5, .int v8]) (rest := [.int (v7 - v7 / kq * kq), .ref (ma 0), .int v6, .ref (ma 0)]) (k9 := 0) rfl rfl ⟨⟨rfl, rfl⟩, Nat.le_of_ble_eq_true rfl, Nat.le_of_ble_eq_true rfl⟩ rfl ⟨(Nat.le_of_ble_eq_true rfl), (Nat.le_of_ble_eq_true rfl)⟩ (Nat.le_of_ble_eq_true rfl) rfl rfl (List.nil_append _) dX4_shufflesAt_54 ?_
      obtain ⟨x8, hx8, h⟩ := bd_some h
      refine w_cVi (wr := []) (qc := (RX4, TX4, 10)) C (c_X4_by fu  hx8) pk_X4_by ml_X4_56 (As := [.int (v7 - v7 / kq * kq), .int x7]) (rest := [.int v6, .ref (ma 0)]) (k9 := 0) rfl rfl ⟨⟨rfl, rfl⟩, Nat.le_of_ble_eq_true rfl, Nat.le_of_ble_eq_true rfl⟩ rfl ⟨(Nat.le_of_ble_eq_true rfl), (Nat.le_of_ble_eq_true rfl)⟩ (Nat.le_of_ble_eq_true rfl) rfl rfl (List.nil_append _) dX4_shufflesAt_57 ?_
      obtain ⟨x9, hx9, h⟩ := bd_some h
      refine w_cVi (wr := []) (qc := (RX4, TX4, 10)) C (c_X4_add fu  hx9) pk_X4_add ml_X4_49 (As := [.int v6, .int x8]) (rest := []) (k9 := 0) rfl rfl ⟨⟨rfl, rfl⟩, Nat.le_of_ble_eq_true rfl, Nat.le_of_ble_eq_true rfl⟩ rfl ⟨(Nat.le_of_ble_eq_true rfl), (Nat.le_of_ble_eq_true rfl)⟩ (Nat.le_of_ble_eq_true rfl) rfl rfl (List.nil_append _) dX4_shufflesAt_60 ?_
      refine w_istore C (Nat.le_of_ble_eq_true rfl) rfl dX4_shufflesAt_63 ?_
      refine w_iload C 7 rfl dX4_shufflesAt_65 ?_
      refine w_aload_n C 1 rfl dX4_shufflesAt_67 ?_
      refine gt_X4_39 C dX4_shufflesAt_68 ?_
      obtain ⟨hz10, h⟩ := ckZ_some h
      refine w_idiv C hz10 dX4_shufflesAt_71 ?_
      refine w_istore C (Nat.le_of_ble_eq_true rfl) rfl dX4_shufflesAt_72 ?_
      refine w_iinc (v := v8 + 1) (k := 8) C rfl rfl (Nat.le_of_ble_eq_true rfl) rfl dX4_shufflesAt_74 ?_
      refine w_goto (tgt := 32) C dX4_shufflesAt_77 (by decide) ?_
      refine w_lv [3, 4, 5, 6, 7, 8, 2, 1, 0] rfl ?_
      exact ih _ _ _ h
set_option maxRecDepth 20000 in
set_option maxHeartbeats 4000000 in
theorem w_X4_shufflesAt_8 {ma : Nat → Nat} {th : Int32} {tr : Int64} {kp : Int32} {ms : Nat → Int32} {be : Nat → Int32} {di : Nat → Int32} {kq : Int32} {su : Nat → Int32} {pr : Nat → Int32} {v1 : Int32} {v2 : Int32} {fu : Nat}  {r : Int32 × (Nat → Int32)} (C : Cx p s m args meth c G A RX4 cX4_shufflesAt 9 ((some .boolean)))   : ∀ (fk : Nat) (ro : Nat → Int32) (v3 : Int32) (v4 : Int32) (v5 : Int32), X4_shufflesAt_8 fu  kq su pr v1 v2 fk ro v3 v4 v5 = some r → Wd p l e rm_X4_shufflesAt s m args below meth c G A 9 0 0 (QQ G A (fun o w => o = some (.int r.1) ∧ w = (mw G ma th tr kq kp su pr ms r.2 be di)) below args s 0 0) (mw G ma th tr kq kp su pr ms ro be di) [(0, .ref (ma 0)), (1, .int v1), (2, .int v2), (3, .int v3), (4, .int v4), (5, .int v5)] 8 [] := by
  intro fk
  induction fk with
  | zero =>
    intro ro v3 v4 v5 h
    have h : (none : Option (Int32 × (Nat → Int32))) = some r := h
    cases h
  | succ fk ih =>
    intro ro v3 v4 v5 h
    have h : X4_shufflesAt_8_b fu  kq su pr v1 v2 (X4_shufflesAt_8 fu  kq su pr v1 v2 fk) ro v3 v4 v5 = some r := h
    unfold X4_shufflesAt_8_b at h
    refine w_iload C 5 rfl dX4_shufflesAt_8 ?_
    refine w_aload_n C 0 rfl dX4_shufflesAt_10 ?_
    refine gt_X4_39 C dX4_shufflesAt_11 ?_
    refine w_icmp_ge (tgt := 113) C dX4_shufflesAt_14 (by decide) (fun hb1 => ?_) (fun hb1 => ?_)
    · have h := if_t hb1 h
      refine w_iload C 4 rfl dX4_shufflesAt_113 ?_
      refine w_if_ne (tgt := 122) C dX4_shufflesAt_115 (by decide) (fun hb2 => ?_) (fun hb2 => ?_)
      · have h := if_f hb2 h
        refine w_iconst (v := 0) C dX4_shufflesAt_122 (by decide) ?_
        cases h
        exact w_zret C rfl ⟨rfl, rfl⟩ dX4_shufflesAt_123
      · have h := if_t hb2 h
        refine w_iconst (v := 1) C dX4_shufflesAt_118 (by decide) ?_
        refine w_goto (tgt := 123) C dX4_shufflesAt_119 (by decide) ?_
        cases h
        exact w_zret C rfl ⟨rfl, rfl⟩ dX4_shufflesAt_123
    · have h := if_f hb1 h
      refine w_aload_n C 0 rfl dX4_shufflesAt_17 ?_
      refine w_iload C 5 rfl dX4_shufflesAt_18 ?_
      refine w_iload_n C 1 rfl dX4_shufflesAt_20 ?_
      obtain ⟨x3, hx3, h⟩ := bd_some h
      refine w_cVi (wr := []) (qc := (RX4, TX4, 10)) C (c_X4_power fu  hx3) pk_X4_power ml_X4_66 (As := [.int v5, .int v1]) (rest := []) (k9 := 0) rfl rfl ⟨⟨rfl, rfl⟩, Nat.le_of_ble_eq_true rfl, Nat.le_of_ble_eq_true rfl⟩ rfl ⟨(Nat.le_of_ble_eq_true rfl), (Nat.le_of_ble_eq_true rfl)⟩ (Nat.le_of_ble_eq_true rfl) rfl rfl (List.nil_append _) dX4_shufflesAt_21 ?_
      refine w_istore C (Nat.le_of_ble_eq_true rfl) rfl dX4_shufflesAt_24 ?_
      refine w_iload_n C 3 rfl dX4_shufflesAt_26 ?_
      refine w_istore C (Nat.le_of_ble_eq_true rfl) rfl dX4_shufflesAt_27 ?_
      refine w_iconst (v := 1) C dX4_shufflesAt_29 (by decide) ?_
      refine w_istore C (Nat.le_of_ble_eq_true rfl) rfl dX4_shufflesAt_30 ?_
      refine w_lv [3, 4, 5, 6, 7, 8, 2, 1, 0] rfl ?_
      exact w_X4_shufflesAt_32 C   ih _ _ _ _ h
set_option maxRecDepth 20000 in
set_option maxHeartbeats 4000000 in
theorem w_X4_shufflesAt {ma : Nat → Nat} {th : Int32} {tr : Int64} {kp : Int32} {ms : Nat → Int32} {be : Nat → Int32} {di : Nat → Int32} {fu : Nat}  {kq : Int32} {su : Nat → Int32} {pr : Nat → Int32} {ro : Nat → Int32} {v1 : Int32} {v2 : Int32} {r : Int32 × (Nat → Int32)} (C : Cx p s m args meth c G A RX4 cX4_shufflesAt 9 ((some .boolean)))   (h : X4_shufflesAt fu  kq su pr ro v1 v2 = some r) : Wd p l e rm_X4_shufflesAt s m args below meth c G A 9 0 0 (QQ G A (fun o w => o = some (.int r.1) ∧ w = (mw G ma th tr kq kp su pr ms r.2 be di)) below args s 0 0) (mw G ma th tr kq kp su pr ms ro be di) [(0, .ref (ma 0)), (1, .int v1), (2, .int v2)] 0 [] := by
  unfold X4_shufflesAt at h
  refine w_iconst (v := 0) C dX4_shufflesAt_0 (by decide) ?_
  refine w_istore_n C (Nat.le_of_ble_eq_true rfl) rfl dX4_shufflesAt_1 ?_
  refine w_iconst (v := 0) C dX4_shufflesAt_2 (by decide) ?_
  refine w_istore C (Nat.le_of_ble_eq_true rfl) rfl dX4_shufflesAt_3 ?_
  refine w_iconst (v := 0) C dX4_shufflesAt_5 (by decide) ?_
  refine w_istore C (Nat.le_of_ble_eq_true rfl) rfl dX4_shufflesAt_6 ?_
  refine w_lv [3, 4, 5, 2, 1, 0] rfl ?_
  exact w_X4_shufflesAt_8 C    _ _ _ _ _ h
theorem c_X4_shufflesAt {l : Launch} {G : GG} {ma : Nat → Nat} {th : Int32} {tr : Int64} {kq : Int32} {kp : Int32} {su : Nat → Int32} {pr : Nat → Int32} {ms : Nat → Int32} {ro : Nat → Int32} {be : Nat → Int32} {di : Nat → Int32} (fu : Nat) {v1 : Int32} {v2 : Int32} {r : Int32 × (Nat → Int32)} (h : X4_shufflesAt fu kq su pr ro v1 v2 = some r) : Ct l yX4_shufflesAt cX4_shufflesAt 9 ((some .boolean)) G rm_X4_shufflesAt [.ref (ma 0), .int v1, .int v2] (mw G ma th tr kq kp su pr ms ro be di) (fun o w => o = some (.int r.1) ∧ w = (mw G ma th tr kq kp su pr ms r.2 be di)) 0 0 := Ct.of (by decide) (Nat.le_of_ble_eq_true rfl) (fun p e s m args below meth c A C _ => w_X4_shufflesAt C h)
abbrev rm_X4_many : Room := { frames := 3, cells := 0, slots := 0, locals := 74 }
theorem pk_X4_many : PkV RX4 yX4_many cX4_many 5 ((some .int)) 1 := ⟨rfl, co_X4_many, ini_RX4, im_X4_many, se_X4_many, by decide +kernel⟩
set_option maxRecDepth 20000 in
set_option maxHeartbeats 4000000 in
theorem w_X4_many_59 {ma : Nat → Nat} {tr : Int64} {kp : Int32} {ms : Nat → Int32} {be : Nat → Int32} {di : Nat → Int32} {fu : Nat} {rc37 : (Nat → Int32) → Int32 → Int32 → Option (Int32 × Int32 × (Nat → Int32))} {th : Int32} {kq : Int32} {su : Nat → Int32} {pr : Nat → Int32} {ro : Nat → Int32} {s0 : Int32} {s1 : Int32} {v1 : Int32} {v2 : Int32} {v4 : Int32} {r : Int32 × Int32 × (Nat → Int32)} (C : Cx p s m args meth c G A RX4 cX4_many 5 ((some .int)))  (hrc37 : ∀ (ro : Nat → Int32) (v3 : Int32) (v4 : Int32), rc37 ro v3 v4 = some r → Wd p l e rm_X4_many s m args below meth c G A 5 0 0 (QQ G A (fun o w => o = some (.int r.1) ∧ w = (mw G ma r.2.1 tr kq kp su pr ms r.2.2 be di)) below args s 0 0) (mw G ma th tr kq kp su pr ms ro be di) [(0, .ref (ma 0)), (1, .int v1), (2, .int v2), (3, .int v3), (4, .int v4)] 37 []) (h : X4_many_59 fu rc37 th kq su pr ro s0 s1 v1 v2 v4 = some r) : Wd p l e rm_X4_many s m args below meth c G A 5 0 0 (QQ G A (fun o w => o = some (.int r.1) ∧ w = (mw G ma r.2.1 tr kq kp su pr ms r.2.2 be di)) below args s 0 0) (mw G ma th tr kq kp su pr ms ro be di) [(0, .ref (ma 0)), (1, .int v1), (2, .int v2), (4, .int v4)] 59 [.int s0, .int s1] := by
  unfold X4_many_59 at h
  refine w_iadd C dX4_many_59 ?_
  refine w_istore_n C (Nat.le_of_ble_eq_true rfl) rfl dX4_many_60 ?_
  refine w_iinc (v := v4 + 1) (k := 4) C rfl rfl (Nat.le_of_ble_eq_true rfl) rfl dX4_many_61 ?_
  refine w_goto (tgt := 37) C dX4_many_64 (by decide) ?_
  refine w_lv [2, 3, 4, 1, 0] rfl ?_
  exact hrc37 _ _ _ h
set_option maxRecDepth 20000 in
set_option maxHeartbeats 4000000 in
theorem w_X4_many_37 {ma : Nat → Nat} {tr : Int64} {kp : Int32} {ms : Nat → Int32} {be : Nat → Int32} {di : Nat → Int32} {th : Int32} {kq : Int32} {su : Nat → Int32} {pr : Nat → Int32} {v1 : Int32} {v2 : Int32} {fu : Nat}  {r : Int32 × Int32 × (Nat → Int32)} (C : Cx p s m args meth c G A RX4 cX4_many 5 ((some .int)))   : ∀ (fk : Nat) (ro : Nat → Int32) (v3 : Int32) (v4 : Int32), X4_many_37 fu  th kq su pr v1 v2 fk ro v3 v4 = some r → Wd p l e rm_X4_many s m args below meth c G A 5 0 0 (QQ G A (fun o w => o = some (.int r.1) ∧ w = (mw G ma r.2.1 tr kq kp su pr ms r.2.2 be di)) below args s 0 0) (mw G ma th tr kq kp su pr ms ro be di) [(0, .ref (ma 0)), (1, .int v1), (2, .int v2), (3, .int v3), (4, .int v4)] 37 [] := by
  intro fk
  induction fk with
  | zero =>
    intro ro v3 v4 h
    have h : (none : Option (Int32 × Int32 × (Nat → Int32))) = some r := h
    cases h
  | succ fk ih =>
    intro ro v3 v4 h
    have h : X4_many_37_b fu  th kq su pr v1 v2 (X4_many_37 fu  th kq su pr v1 v2 fk) ro v3 v4 = some r := h
    unfold X4_many_37_b at h
    refine w_iload C 4 rfl dX4_many_37 ?_
    refine w_iload_n C 2 rfl dX4_many_39 ?_
    refine w_icmp_ge (tgt := 67) C dX4_many_40 (by decide) (fun hb5 => ?_) (fun hb5 => ?_)
    · have h := if_t hb5 h
      refine w_iload_n C 3 rfl dX4_many_67 ?_
      cases h
      exact w_iret C ⟨rfl, rfl⟩ dX4_many_68
    · have h := if_f hb5 h
      refine w_iload_n C 3 rfl dX4_many_43 ?_
      refine w_aload_n C 0 rfl dX4_many_44 ?_
      refine w_iload_n C 1 rfl dX4_many_45 ?_
      refine w_iload C 4 rfl dX4_many_46 ?_
      obtain ⟨x6, hx6, h⟩ := bd_some h
      refine w_cVi (wr := []) (qc := (RX4, TX4, 10)) C (c_X4_shufflesAt fu  hx6) pk_X4_shufflesAt ml_X4_126 (As := [.int v1, .int v4]) (rest := [.int v3]) (k9 := 0) rfl rfl ⟨⟨rfl, rfl⟩, Nat.le_of_ble_eq_true rfl, Nat.le_of_ble_eq_true rfl⟩ rfl ⟨(Nat.le_of_ble_eq_true rfl), (Nat.le_of_ble_eq_true rfl)⟩ (Nat.le_of_ble_eq_true rfl) rfl rfl (List.nil_append _) dX4_many_48 ?_
      refine w_if_eq (tgt := 58) C dX4_many_51 (by decide) (fun hb7 => ?_) (fun hb7 => ?_)
      · have h := if_t hb7 h
        refine w_iconst (v := 0) C dX4_many_58 (by decide) ?_
        refine w_lv [0, 1, 2, 4] rfl ?_
        exact w_X4_many_59 C   ih h
      · have h := if_f hb7 h
        refine w_iconst (v := 1) C dX4_many_54 (by decide) ?_
        refine w_goto (tgt := 59) C dX4_many_55 (by decide) ?_
        refine w_lv [0, 1, 2, 4] rfl ?_
        exact w_X4_many_59 C   ih h
set_option maxRecDepth 20000 in
set_option maxHeartbeats 4000000 in
theorem w_X4_many {ma : Nat → Nat} {tr : Int64} {kp : Int32} {ms : Nat → Int32} {be : Nat → Int32} {di : Nat → Int32} {fu : Nat}  {th : Int32} {kq : Int32} {su : Nat → Int32} {pr : Nat → Int32} {ro : Nat → Int32} {v1 : Int32} {r : Int32 × Int32 × (Nat → Int32)} (C : Cx p s m args meth c G A RX4 cX4_many 5 ((some .int)))   (h : X4_many fu  th kq su pr ro v1 = some r) : Wd p l e rm_X4_many s m args below meth c G A 5 0 0 (QQ G A (fun o w => o = some (.int r.1) ∧ w = (mw G ma r.2.1 tr kq kp su pr ms r.2.2 be di)) below args s 0 0) (mw G ma th tr kq kp su pr ms ro be di) [(0, .ref (ma 0)), (1, .int v1)] 0 [] := by
  unfold X4_many at h
  refine w_aload_n C 0 rfl dX4_many_0 ?_
  refine w_iconst (v := 0) C dX4_many_1 (by decide) ?_
  refine pt_X4_32 C dX4_many_2 ?_
  refine w_iload_n C 1 rfl dX4_many_5 ?_
  refine w_iconst (v := 1) C dX4_many_6 (by decide) ?_
  refine w_iconst (v := 5) C dX4_many_7 (by decide) ?_
  obtain ⟨x1, hx1, h⟩ := bd_some h
  refine w_cSi C (c_X4_in fu  hx1) pk_X4_in ml_X4_52 (As := [.int v1, .int 1, .int 5]) (rest := []) ⟨⟨rfl, rfl⟩, Nat.le_of_ble_eq_true rfl, Nat.le_of_ble_eq_true rfl⟩ rfl ⟨(Nat.le_of_ble_eq_true rfl), (Nat.le_of_ble_eq_true rfl)⟩ (Nat.le_of_ble_eq_true rfl) rfl (List.append_nil _).symm (List.append_nil _) dX4_many_8 ?_
  refine w_if_ne (tgt := 16) C dX4_many_11 (by decide) (fun hb2 => ?_) (fun hb2 => ?_)
  · have h := if_f hb2 h
    refine w_aload_n C 0 rfl dX4_many_16 ?_
    refine w_iload_n C 1 rfl dX4_many_17 ?_
    obtain ⟨x3, hx3, h⟩ := bd_some h
    refine w_cVi (wr := []) (qc := (RX4, TX4, 10)) C (c_X4_allOf fu  hx3) pk_X4_allOf ml_X4_123 (As := [.int v1]) (rest := []) (k9 := 0) rfl rfl ⟨⟨rfl, rfl⟩, Nat.le_of_ble_eq_true rfl, Nat.le_of_ble_eq_true rfl⟩ rfl ⟨(Nat.le_of_ble_eq_true rfl), (Nat.le_of_ble_eq_true rfl)⟩ (Nat.le_of_ble_eq_true rfl) rfl rfl (List.nil_append _) dX4_many_18 ?_
    refine w_istore_n C (Nat.le_of_ble_eq_true rfl) rfl dX4_many_21 ?_
    refine w_iload_n C 0 rfl dX4_many_22 ?_
    refine w_sipush (v := 5000) C dX4_many_23 (by decide) ?_
    refine w_icmp_le (tgt := 32) C dX4_many_26 (by decide) (fun hb4 => ?_) (fun hb4 => ?_)
    · have h := if_t hb4 h
      refine w_iconst (v := 0) C dX4_many_32 (by decide) ?_
      refine w_istore_n C (Nat.le_of_ble_eq_true rfl) rfl dX4_many_33 ?_
      refine w_iconst (v := 0) C dX4_many_34 (by decide) ?_
      refine w_istore C (Nat.le_of_ble_eq_true rfl) rfl dX4_many_35 ?_
      refine w_lv [3, 4, 2, 1, 0] rfl ?_
      exact w_X4_many_37 C    _ _ _ _ h
    · have h := if_f hb4 h
      refine w_bipush (v := (-3)) C dX4_many_29 (by decide) ?_
      cases h
      exact w_iret C ⟨rfl, rfl⟩ dX4_many_31
  · have h := if_t hb2 h
    refine w_iconst (v := (-1)) C dX4_many_14 (by decide) ?_
    cases h
    exact w_iret C ⟨rfl, rfl⟩ dX4_many_15
theorem c_X4_many {l : Launch} {G : GG} {ma : Nat → Nat} {th : Int32} {tr : Int64} {kq : Int32} {kp : Int32} {su : Nat → Int32} {pr : Nat → Int32} {ms : Nat → Int32} {ro : Nat → Int32} {be : Nat → Int32} {di : Nat → Int32} (fu : Nat) {v1 : Int32} {r : Int32 × Int32 × (Nat → Int32)} (h : X4_many fu th kq su pr ro v1 = some r) : Ct l yX4_many cX4_many 5 ((some .int)) G rm_X4_many [.ref (ma 0), .int v1] (mw G ma th tr kq kp su pr ms ro be di) (fun o w => o = some (.int r.1) ∧ w = (mw G ma r.2.1 tr kq kp su pr ms r.2.2 be di)) 0 0 := Ct.of (by decide) (Nat.le_of_ble_eq_true rfl) (fun p e s m args below meth c A C _ => w_X4_many C h)
abbrev rm_X4_pick : Room := { frames := 3, cells := 0, slots := 0, locals := 74 }
theorem pk_X4_pick : PkV RX4 yX4_pick cX4_pick 7 ((some .int)) 3 := ⟨rfl, co_X4_pick, ini_RX4, im_X4_pick, se_X4_pick, by decide +kernel⟩
set_option maxRecDepth 20000 in
set_option maxHeartbeats 4000000 in
theorem w_X4_pick_85 {ma : Nat → Nat} {tr : Int64} {kp : Int32} {be : Nat → Int32} {di : Nat → Int32} {fu : Nat} {rc51 : (Nat → Int32) → Int32 → Int32 → Option (Int32 × Int32 × (Nat → Int32) × (Nat → Int32))} {th : Int32} {kq : Int32} {su : Nat → Int32} {pr : Nat → Int32} {ms : Nat → Int32} {ro : Nat → Int32} {v1 : Int32} {v2 : Int32} {v3 : Int32} {v4 : Int32} {v5 : Int32} {v6 : Int32} {r : Int32 × Int32 × (Nat → Int32) × (Nat → Int32)} (C : Cx p s m args meth c G A RX4 cX4_pick 7 ((some .int)))  (hrc51 : ∀ (ro : Nat → Int32) (v5 : Int32) (v6 : Int32), rc51 ro v5 v6 = some r → Wd p l e rm_X4_pick s m args below meth c G A 7 0 0 (QQ G A (fun o w => o = some (.int r.1) ∧ w = (mw G ma r.2.1 tr kq kp su pr r.2.2.1 r.2.2.2 be di)) below args s 0 0) (mw G ma th tr kq kp su pr ms ro be di) [(0, .ref (ma 0)), (1, .int v1), (2, .int v2), (3, .int v3), (4, .int v4), (5, .int v5), (6, .int v6)] 51 []) (h : X4_pick_85 fu rc51 th kq su pr ms ro v1 v2 v3 v4 v5 v6 = some r) : Wd p l e rm_X4_pick s m args below meth c G A 7 0 0 (QQ G A (fun o w => o = some (.int r.1) ∧ w = (mw G ma r.2.1 tr kq kp su pr r.2.2.1 r.2.2.2 be di)) below args s 0 0) (mw G ma th tr kq kp su pr ms ro be di) [(0, .ref (ma 0)), (1, .int v1), (2, .int v2), (3, .int v3), (4, .int v4), (5, .int v5), (6, .int v6)] 85 [] := by
  unfold X4_pick_85 at h
  refine w_iinc (v := v6 + 1) (k := 6) C rfl rfl (Nat.le_of_ble_eq_true rfl) rfl dX4_pick_85 ?_
  refine w_goto (tgt := 51) C dX4_pick_88 (by decide) ?_
  refine w_lv [1, 2, 3, 4, 5, 6, 0] rfl ?_
  exact hrc51 _ _ _ h
set_option maxRecDepth 20000 in
set_option maxHeartbeats 4000000 in
theorem w_X4_pick_51 {ma : Nat → Nat} {tr : Int64} {kp : Int32} {be : Nat → Int32} {di : Nat → Int32} {th : Int32} {kq : Int32} {su : Nat → Int32} {pr : Nat → Int32} {ms : Nat → Int32} {v1 : Int32} {v2 : Int32} {v3 : Int32} {v4 : Int32} {fu : Nat}  {r : Int32 × Int32 × (Nat → Int32) × (Nat → Int32)} (C : Cx p s m args meth c G A RX4 cX4_pick 7 ((some .int)))   : ∀ (fk : Nat) (ro : Nat → Int32) (v5 : Int32) (v6 : Int32), X4_pick_51 fu  th kq su pr ms v1 v2 v3 v4 fk ro v5 v6 = some r → Wd p l e rm_X4_pick s m args below meth c G A 7 0 0 (QQ G A (fun o w => o = some (.int r.1) ∧ w = (mw G ma r.2.1 tr kq kp su pr r.2.2.1 r.2.2.2 be di)) below args s 0 0) (mw G ma th tr kq kp su pr ms ro be di) [(0, .ref (ma 0)), (1, .int v1), (2, .int v2), (3, .int v3), (4, .int v4), (5, .int v5), (6, .int v6)] 51 [] := by
  intro fk
  induction fk with
  | zero =>
    intro ro v5 v6 h
    have h : (none : Option (Int32 × Int32 × (Nat → Int32) × (Nat → Int32))) = some r := h
    cases h
  | succ fk ih =>
    intro ro v5 v6 h
    have h : X4_pick_51_b fu  th kq su pr ms v1 v2 v3 v4 (X4_pick_51 fu  th kq su pr ms v1 v2 v3 v4 fk) ro v5 v6 = some r := h
    unfold X4_pick_51_b at h
    refine w_iload C 6 rfl dX4_pick_51 ?_
    refine w_iload C 4 rfl dX4_pick_53 ?_
    refine w_icmp_ge (tgt := 91) C dX4_pick_55 (by decide) (fun hb8 => ?_) (fun hb8 => ?_)
    · have h := if_t hb8 h
      refine w_iconst (v := (-1)) C dX4_pick_91 (by decide) ?_
      cases h
      exact w_iret C ⟨rfl, rfl⟩ dX4_pick_92
    · have h := if_f hb8 h
      refine w_aload_n C 0 rfl dX4_pick_58 ?_
      refine w_iload_n C 2 rfl dX4_pick_59 ?_
      refine w_iload C 6 rfl dX4_pick_60 ?_
      obtain ⟨x9, hx9, h⟩ := bd_some h
      refine w_cVi (wr := []) (qc := (RX4, TX4, 10)) C (c_X4_shufflesAt fu  hx9) pk_X4_shufflesAt ml_X4_126 (As := [.int v2, .int v6]) (rest := []) (k9 := 0) rfl rfl ⟨⟨rfl, rfl⟩, Nat.le_of_ble_eq_true rfl, Nat.le_of_ble_eq_true rfl⟩ rfl ⟨(Nat.le_of_ble_eq_true rfl), (Nat.le_of_ble_eq_true rfl)⟩ (Nat.le_of_ble_eq_true rfl) rfl rfl (List.nil_append _) dX4_pick_62 ?_
      refine w_if_eq (tgt := 85) C dX4_pick_65 (by decide) (fun hb10 => ?_) (fun hb10 => ?_)
      · have h := if_t hb10 h
        refine w_lv [0, 1, 2, 3, 4, 5, 6] rfl ?_
        exact w_X4_pick_85 C   ih h
      · have h := if_f hb10 h
        refine w_iload C 5 rfl dX4_pick_68 ?_
        refine w_iload_n C 3 rfl dX4_pick_70 ?_
        refine w_icmp_ne (tgt := 82) C dX4_pick_71 (by decide) (fun hb11 => ?_) (fun hb11 => ?_)
        · have h := if_f hb11 h
          refine w_iinc (v := v5 + 1) (k := 5) C rfl rfl (Nat.le_of_ble_eq_true rfl) rfl dX4_pick_82 ?_
          refine w_lv [1, 2, 3, 4, 5, 0, 6] rfl ?_
          exact w_X4_pick_85 C   ih h
        · have h := if_t hb11 h
          refine w_aload_n C 0 rfl dX4_pick_74 ?_
          refine w_iload_n C 1 rfl dX4_pick_75 ?_
          obtain ⟨x12, hx12, h⟩ := bd_some h
          refine w_cVv (wr := []) (qc := (RX4, TX4, 10)) C (c_X4_lays fu  hx12) pk_X4_lays ml_X4_96 (As := [.int v1]) (rest := []) (k9 := 0) rfl rfl ⟨⟨rfl, rfl⟩, Nat.le_of_ble_eq_true rfl, Nat.le_of_ble_eq_true rfl⟩ rfl ⟨(Nat.le_of_ble_eq_true rfl), (Nat.le_of_ble_eq_true rfl)⟩ (Nat.le_of_ble_eq_true rfl) rfl rfl (List.nil_append _) dX4_pick_76 ?_
          refine w_iload C 6 rfl dX4_pick_79 ?_
          cases h
          exact w_iret C ⟨rfl, rfl⟩ dX4_pick_81
set_option maxRecDepth 20000 in
set_option maxHeartbeats 4000000 in
theorem w_X4_pick {ma : Nat → Nat} {tr : Int64} {kp : Int32} {be : Nat → Int32} {di : Nat → Int32} {fu : Nat}  {th : Int32} {kq : Int32} {su : Nat → Int32} {pr : Nat → Int32} {ms : Nat → Int32} {ro : Nat → Int32} {v1 : Int32} {v2 : Int32} {v3 : Int32} {r : Int32 × Int32 × (Nat → Int32) × (Nat → Int32)} (C : Cx p s m args meth c G A RX4 cX4_pick 7 ((some .int)))   (h : X4_pick fu  th kq su pr ms ro v1 v2 v3 = some r) : Wd p l e rm_X4_pick s m args below meth c G A 7 0 0 (QQ G A (fun o w => o = some (.int r.1) ∧ w = (mw G ma r.2.1 tr kq kp su pr r.2.2.1 r.2.2.2 be di)) below args s 0 0) (mw G ma th tr kq kp su pr ms ro be di) [(0, .ref (ma 0)), (1, .int v1), (2, .int v2), (3, .int v3)] 0 [] := by
  unfold X4_pick at h
  refine w_aload_n C 0 rfl dX4_pick_0 ?_
  refine w_iconst (v := 0) C dX4_pick_1 (by decide) ?_
  refine pt_X4_32 C dX4_pick_2 ?_
  refine w_iload_n C 1 rfl dX4_pick_5 ?_
  obtain ⟨x1, hx1, h⟩ := bd_some h
  refine w_cSi C (c_X4_isMap fu  hx1) pk_X4_isMap ml_X4_63 (As := [.int v1]) (rest := []) ⟨⟨rfl, rfl⟩, Nat.le_of_ble_eq_true rfl, Nat.le_of_ble_eq_true rfl⟩ rfl ⟨(Nat.le_of_ble_eq_true rfl), (Nat.le_of_ble_eq_true rfl)⟩ (Nat.le_of_ble_eq_true rfl) rfl (List.append_nil _).symm (List.append_nil _) dX4_pick_6 ?_
  refine w_if_eq (tgt := 25) C dX4_pick_9 (by decide) (fun hb2 => ?_) (fun hb2 => ?_)
  · have h := if_t hb2 h
    refine w_iconst (v := (-1)) C dX4_pick_25 (by decide) ?_
    cases h
    exact w_iret C ⟨rfl, rfl⟩ dX4_pick_26
  · have h := if_f hb2 h
    refine w_iload_n C 2 rfl dX4_pick_12 ?_
    refine w_iconst (v := 1) C dX4_pick_13 (by decide) ?_
    refine w_iconst (v := 5) C dX4_pick_14 (by decide) ?_
    obtain ⟨x3, hx3, h⟩ := bd_some h
    refine w_cSi C (c_X4_in fu  hx3) pk_X4_in ml_X4_52 (As := [.int v2, .int 1, .int 5]) (rest := []) ⟨⟨rfl, rfl⟩, Nat.le_of_ble_eq_true rfl, Nat.le_of_ble_eq_true rfl⟩ rfl ⟨(Nat.le_of_ble_eq_true rfl), (Nat.le_of_ble_eq_true rfl)⟩ (Nat.le_of_ble_eq_true rfl) rfl (List.append_nil _).symm (List.append_nil _) dX4_pick_15 ?_
    refine w_if_eq (tgt := 25) C dX4_pick_18 (by decide) (fun hb4 => ?_) (fun hb4 => ?_)
    · have h := if_t hb4 h
      refine w_iconst (v := (-1)) C dX4_pick_25 (by decide) ?_
      cases h
      exact w_iret C ⟨rfl, rfl⟩ dX4_pick_26
    · have h := if_f hb4 h
      refine w_iload_n C 3 rfl dX4_pick_21 ?_
      refine w_if_ge (tgt := 27) C dX4_pick_22 (by decide) (fun hb5 => ?_) (fun hb5 => ?_)
      · have h := if_t hb5 h
        refine w_aload_n C 0 rfl dX4_pick_27 ?_
        refine w_iload_n C 2 rfl dX4_pick_28 ?_
        obtain ⟨x6, hx6, h⟩ := bd_some h
        refine w_cVi (wr := []) (qc := (RX4, TX4, 10)) C (c_X4_allOf fu  hx6) pk_X4_allOf ml_X4_123 (As := [.int v2]) (rest := []) (k9 := 0) rfl rfl ⟨⟨rfl, rfl⟩, Nat.le_of_ble_eq_true rfl, Nat.le_of_ble_eq_true rfl⟩ rfl ⟨(Nat.le_of_ble_eq_true rfl), (Nat.le_of_ble_eq_true rfl)⟩ (Nat.le_of_ble_eq_true rfl) rfl rfl (List.nil_append _) dX4_pick_29 ?_
        refine w_istore C (Nat.le_of_ble_eq_true rfl) rfl dX4_pick_32 ?_
        refine w_iload C 0 rfl dX4_pick_34 ?_
        refine w_sipush (v := 5000) C dX4_pick_36 (by decide) ?_
        refine w_icmp_le (tgt := 45) C dX4_pick_39 (by decide) (fun hb7 => ?_) (fun hb7 => ?_)
        · have h := if_t hb7 h
          refine w_iconst (v := 0) C dX4_pick_45 (by decide) ?_
          refine w_istore C (Nat.le_of_ble_eq_true rfl) rfl dX4_pick_46 ?_
          refine w_iconst (v := 0) C dX4_pick_48 (by decide) ?_
          refine w_istore C (Nat.le_of_ble_eq_true rfl) rfl dX4_pick_49 ?_
          refine w_lv [3, 4, 5, 6, 2, 1, 0] rfl ?_
          exact w_X4_pick_51 C    _ _ _ _ h
        · have h := if_f hb7 h
          refine w_bipush (v := (-3)) C dX4_pick_42 (by decide) ?_
          cases h
          exact w_iret C ⟨rfl, rfl⟩ dX4_pick_44
      · have h := if_f hb5 h
        refine w_iconst (v := (-1)) C dX4_pick_25 (by decide) ?_
        cases h
        exact w_iret C ⟨rfl, rfl⟩ dX4_pick_26
theorem c_X4_pick {l : Launch} {G : GG} {ma : Nat → Nat} {th : Int32} {tr : Int64} {kq : Int32} {kp : Int32} {su : Nat → Int32} {pr : Nat → Int32} {ms : Nat → Int32} {ro : Nat → Int32} {be : Nat → Int32} {di : Nat → Int32} (fu : Nat) {v1 : Int32} {v2 : Int32} {v3 : Int32} {r : Int32 × Int32 × (Nat → Int32) × (Nat → Int32)} (h : X4_pick fu th kq su pr ms ro v1 v2 v3 = some r) : Ct l yX4_pick cX4_pick 7 ((some .int)) G rm_X4_pick [.ref (ma 0), .int v1, .int v2, .int v3] (mw G ma th tr kq kp su pr ms ro be di) (fun o w => o = some (.int r.1) ∧ w = (mw G ma r.2.1 tr kq kp su pr r.2.2.1 r.2.2.2 be di)) 0 0 := Ct.of (by decide) (Nat.le_of_ble_eq_true rfl) (fun p e s m args below meth c A C _ => w_X4_pick C h)
abbrev rm_X4_count : Room := { frames := 2, cells := 0, slots := 0, locals := 45 }
theorem pk_X4_count : PkV RX4 yX4_count cX4_count 4 ((some .int)) 1 := ⟨rfl, co_X4_count, ini_RX4, im_X4_count, se_X4_count, by decide +kernel⟩
set_option maxRecDepth 20000 in
set_option maxHeartbeats 4000000 in
theorem w_X4_count_28 {ma : Nat → Nat} {tr : Int64} {su : Nat → Int32} {pr : Nat → Int32} {ro : Nat → Int32} {be : Nat → Int32} {di : Nat → Int32} {fu : Nat} {rc9 : Int32 → Int32 → Option (Int32 × Int32)} {th : Int32} {kq : Int32} {kp : Int32} {ms : Nat → Int32} {s0 : Int32} {s1 : Int32} {v1 : Int32} {v3 : Int32} {r : Int32 × Int32} (C : Cx p s m args meth c G A RX4 cX4_count 4 ((some .int)))  (hrc9 : ∀ (v2 : Int32) (v3 : Int32), rc9 v2 v3 = some r → Wd p l e rm_X4_count s m args below meth c G A 4 0 0 (QQ G A (fun o w => o = some (.int r.1) ∧ w = (mw G ma r.2 tr kq kp su pr ms ro be di)) below args s 0 0) (mw G ma th tr kq kp su pr ms ro be di) [(0, .ref (ma 0)), (1, .int v1), (2, .int v2), (3, .int v3)] 9 []) (h : X4_count_28 fu rc9 th kq kp ms s0 s1 v1 v3 = some r) : Wd p l e rm_X4_count s m args below meth c G A 4 0 0 (QQ G A (fun o w => o = some (.int r.1) ∧ w = (mw G ma r.2 tr kq kp su pr ms ro be di)) below args s 0 0) (mw G ma th tr kq kp su pr ms ro be di) [(0, .ref (ma 0)), (1, .int v1), (3, .int v3)] 28 [.int s0, .int s1] := by
  unfold X4_count_28 at h
  refine w_iadd C dX4_count_28 ?_
  refine w_istore_n C (Nat.le_of_ble_eq_true rfl) rfl dX4_count_29 ?_
  refine w_iinc (v := v3 + 1) (k := 3) C rfl rfl (Nat.le_of_ble_eq_true rfl) rfl dX4_count_30 ?_
  refine w_goto (tgt := 9) C dX4_count_33 (by decide) ?_
  refine w_lv [2, 3, 1, 0] rfl ?_
  exact hrc9 _ _ h
set_option maxRecDepth 20000 in
set_option maxHeartbeats 4000000 in
theorem w_X4_count_9 {ma : Nat → Nat} {tr : Int64} {su : Nat → Int32} {pr : Nat → Int32} {ro : Nat → Int32} {be : Nat → Int32} {di : Nat → Int32} {th : Int32} {kq : Int32} {kp : Int32} {ms : Nat → Int32} {v1 : Int32} {fu : Nat}  {r : Int32 × Int32} (C : Cx p s m args meth c G A RX4 cX4_count 4 ((some .int)))   : ∀ (fk : Nat) (v2 : Int32) (v3 : Int32), X4_count_9 fu  th kq kp ms v1 fk v2 v3 = some r → Wd p l e rm_X4_count s m args below meth c G A 4 0 0 (QQ G A (fun o w => o = some (.int r.1) ∧ w = (mw G ma r.2 tr kq kp su pr ms ro be di)) below args s 0 0) (mw G ma th tr kq kp su pr ms ro be di) [(0, .ref (ma 0)), (1, .int v1), (2, .int v2), (3, .int v3)] 9 [] := by
  intro fk
  induction fk with
  | zero =>
    intro v2 v3 h
    have h : (none : Option (Int32 × Int32)) = some r := h
    cases h
  | succ fk ih =>
    intro v2 v3 h
    have h : X4_count_9_b fu  th kq kp ms v1 (X4_count_9 fu  th kq kp ms v1 fk) v2 v3 = some r := h
    unfold X4_count_9_b at h
    refine w_iload_n C 3 rfl dX4_count_9 ?_
    refine w_iconst (v := 4) C dX4_count_10 (by decide) ?_
    refine w_icmp_ge (tgt := 36) C dX4_count_11 (by decide) (fun hb1 => ?_) (fun hb1 => ?_)
    · have h := if_t hb1 h
      refine w_iload_n C 1 rfl dX4_count_36 ?_
      refine w_if_ne (tgt := 47) C dX4_count_37 (by decide) (fun hb2 => ?_) (fun hb2 => ?_)
      · have h := if_f hb2 h
        refine w_iload_n C 1 rfl dX4_count_47 ?_
        refine w_iconst (v := 1) C dX4_count_48 (by decide) ?_
        refine w_icmp_ne (tgt := 59) C dX4_count_49 (by decide) (fun hb3 => ?_) (fun hb3 => ?_)
        · have h := if_f hb3 h
          refine w_iload_n C 1 rfl dX4_count_59 ?_
          refine w_iconst (v := 2) C dX4_count_60 (by decide) ?_
          refine w_icmp_ne (tgt := 68) C dX4_count_61 (by decide) (fun hb4 => ?_) (fun hb4 => ?_)
          · have h := if_f hb4 h
            refine w_iconst (v := (-1)) C dX4_count_68 (by decide) ?_
            cases h
            exact w_iret C ⟨rfl, rfl⟩ dX4_count_69
          · have h := if_t hb4 h
            refine w_iload_n C 2 rfl dX4_count_64 ?_
            refine w_goto (tgt := 69) C dX4_count_65 (by decide) ?_
            cases h
            exact w_iret C ⟨rfl, rfl⟩ dX4_count_69
        · have h := if_t hb3 h
          refine w_aload_n C 0 rfl dX4_count_52 ?_
          refine gt_X4_36 C dX4_count_53 ?_
          refine w_goto (tgt := 69) C dX4_count_56 (by decide) ?_
          cases h
          exact w_iret C ⟨rfl, rfl⟩ dX4_count_69
      · have h := if_t hb2 h
        refine w_aload_n C 0 rfl dX4_count_40 ?_
        refine gt_X4_39 C dX4_count_41 ?_
        refine w_goto (tgt := 69) C dX4_count_44 (by decide) ?_
        cases h
        exact w_iret C ⟨rfl, rfl⟩ dX4_count_69
    · have h := if_f hb1 h
      refine w_iload_n C 2 rfl dX4_count_14 ?_
      refine w_aload_n C 0 rfl dX4_count_15 ?_
      refine w_iload_n C 3 rfl dX4_count_16 ?_
      obtain ⟨x5, hx5, h⟩ := bd_some h
      refine w_cVi (wr := []) (qc := (RX4, TX4, 10)) C (c_X4_isShuffle fu  hx5) pk_X4_isShuffle ml_X4_102 (As := [.int v3]) (rest := [.int v2]) (k9 := 0) rfl rfl ⟨⟨rfl, rfl⟩, Nat.le_of_ble_eq_true rfl, Nat.le_of_ble_eq_true rfl⟩ rfl ⟨(Nat.le_of_ble_eq_true rfl), (Nat.le_of_ble_eq_true rfl)⟩ (Nat.le_of_ble_eq_true rfl) rfl rfl (List.nil_append _) dX4_count_17 ?_
      refine w_if_eq (tgt := 27) C dX4_count_20 (by decide) (fun hb6 => ?_) (fun hb6 => ?_)
      · have h := if_t hb6 h
        refine w_iconst (v := 0) C dX4_count_27 (by decide) ?_
        refine w_lv [0, 1, 3] rfl ?_
        exact w_X4_count_28 C   ih h
      · have h := if_f hb6 h
        refine w_iconst (v := 1) C dX4_count_23 (by decide) ?_
        refine w_goto (tgt := 28) C dX4_count_24 (by decide) ?_
        refine w_lv [0, 1, 3] rfl ?_
        exact w_X4_count_28 C   ih h
set_option maxRecDepth 20000 in
set_option maxHeartbeats 4000000 in
theorem w_X4_count {ma : Nat → Nat} {tr : Int64} {su : Nat → Int32} {pr : Nat → Int32} {ro : Nat → Int32} {be : Nat → Int32} {di : Nat → Int32} {fu : Nat}  {th : Int32} {kq : Int32} {kp : Int32} {ms : Nat → Int32} {v1 : Int32} {r : Int32 × Int32} (C : Cx p s m args meth c G A RX4 cX4_count 4 ((some .int)))   (h : X4_count fu  th kq kp ms v1 = some r) : Wd p l e rm_X4_count s m args below meth c G A 4 0 0 (QQ G A (fun o w => o = some (.int r.1) ∧ w = (mw G ma r.2 tr kq kp su pr ms ro be di)) below args s 0 0) (mw G ma th tr kq kp su pr ms ro be di) [(0, .ref (ma 0)), (1, .int v1)] 0 [] := by
  unfold X4_count at h
  refine w_aload_n C 0 rfl dX4_count_0 ?_
  refine w_iconst (v := 0) C dX4_count_1 (by decide) ?_
  refine pt_X4_32 C dX4_count_2 ?_
  refine w_iconst (v := 0) C dX4_count_5 (by decide) ?_
  refine w_istore_n C (Nat.le_of_ble_eq_true rfl) rfl dX4_count_6 ?_
  refine w_iconst (v := 0) C dX4_count_7 (by decide) ?_
  refine w_istore_n C (Nat.le_of_ble_eq_true rfl) rfl dX4_count_8 ?_
  refine w_lv [2, 3, 1, 0] rfl ?_
  exact w_X4_count_9 C    _ _ _ h
theorem c_X4_count {l : Launch} {G : GG} {ma : Nat → Nat} {th : Int32} {tr : Int64} {kq : Int32} {kp : Int32} {su : Nat → Int32} {pr : Nat → Int32} {ms : Nat → Int32} {ro : Nat → Int32} {be : Nat → Int32} {di : Nat → Int32} (fu : Nat) {v1 : Int32} {r : Int32 × Int32} (h : X4_count fu th kq kp ms v1 = some r) : Ct l yX4_count cX4_count 4 ((some .int)) G rm_X4_count [.ref (ma 0), .int v1] (mw G ma th tr kq kp su pr ms ro be di) (fun o w => o = some (.int r.1) ∧ w = (mw G ma r.2 tr kq kp su pr ms ro be di)) 0 0 := Ct.of (by decide) (Nat.le_of_ble_eq_true rfl) (fun p e s m args below meth c A C _ => w_X4_count C h)
end
