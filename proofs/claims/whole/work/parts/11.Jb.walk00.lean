section
variable {p : Program} {l : Launch} {e : Env} {s : State} {m : MethodId} {args : Array Value} {below : List Frame} {meth : Method} {c : Code} {G : GG} {A : Nat → Prop}
abbrev rm_J6_bitCount_0f7a4 : Room := { frames := 0, cells := 0, slots := 0, locals := 0 }
theorem pk_J6_bitCount_0f7a4 : PkS yJ6_bitCount_0f7a4 cJ6_bitCount_0f7a4 1 ((some .int)) 1 := ⟨co_J6_bitCount_0f7a4, ini_RJ6, st_J6_bitCount_0f7a4, by decide +kernel⟩
set_option maxRecDepth 20000 in
set_option maxHeartbeats 4000000 in
theorem w_J6_bitCount_0f7a4  {fu : Nat}  {v0 : Int32} {r : Int32} (C : Cx p s m args meth c G A RJ6 cJ6_bitCount_0f7a4 1 ((some .int)))   (h : J6_bitCount_0f7a4 fu  v0 = some r) : Wd p l e rm_J6_bitCount_0f7a4 s m args below meth c G A 1 0 0 (QQ G A (fun o w => o = some (.int r) ∧ w = []) below args s 0 0) [] [(0, .int v0)] 0 [] := by
  unfold J6_bitCount_0f7a4 at h
  refine w_iload_n C 0 rfl dJ6_bitCount_0f7a4_0 ?_
  refine w_iload_n C 0 rfl dJ6_bitCount_0f7a4_1 ?_
  refine w_iconst (v := 1) C dJ6_bitCount_0f7a4_2 (by decide) ?_
  refine w_iushr C dJ6_bitCount_0f7a4_3 ?_
  refine w_ldcw C cs_J6_265 dJ6_bitCount_0f7a4_4 ?_
  refine w_iand C dJ6_bitCount_0f7a4_7 ?_
  refine w_isub C dJ6_bitCount_0f7a4_8 ?_
  refine w_istore_n C (Nat.le_of_ble_eq_true rfl) rfl dJ6_bitCount_0f7a4_9 ?_
  refine w_iload_n C 0 rfl dJ6_bitCount_0f7a4_10 ?_
  refine w_ldcw C cs_J6_266 dJ6_bitCount_0f7a4_11 ?_
  refine w_iand C dJ6_bitCount_0f7a4_14 ?_
  refine w_iload_n C 0 rfl dJ6_bitCount_0f7a4_15 ?_
  refine w_iconst (v := 2) C dJ6_bitCount_0f7a4_16 (by decide) ?_
  refine w_iushr C dJ6_bitCount_0f7a4_17 ?_
  refine w_ldcw C cs_J6_266 dJ6_bitCount_0f7a4_18 ?_
  refine w_iand C dJ6_bitCount_0f7a4_21 ?_
  refine w_iadd C dJ6_bitCount_0f7a4_22 ?_
  refine w_istore_n C (Nat.le_of_ble_eq_true rfl) rfl dJ6_bitCount_0f7a4_23 ?_
  refine w_iload_n C 0 rfl dJ6_bitCount_0f7a4_24 ?_
  refine w_iload_n C 0 rfl dJ6_bitCount_0f7a4_25 ?_
  refine w_iconst (v := 4) C dJ6_bitCount_0f7a4_26 (by decide) ?_
  refine w_iushr C dJ6_bitCount_0f7a4_27 ?_
  refine w_iadd C dJ6_bitCount_0f7a4_28 ?_
  refine w_ldcw C cs_J6_267 dJ6_bitCount_0f7a4_29 ?_
  refine w_iand C dJ6_bitCount_0f7a4_32 ?_
  refine w_istore_n C (Nat.le_of_ble_eq_true rfl) rfl dJ6_bitCount_0f7a4_33 ?_
  refine w_iload_n C 0 rfl dJ6_bitCount_0f7a4_34 ?_
  refine w_iload_n C 0 rfl dJ6_bitCount_0f7a4_35 ?_
  refine w_bipush (v := 8) C dJ6_bitCount_0f7a4_36 (by decide) ?_
  refine w_iushr C dJ6_bitCount_0f7a4_38 ?_
  refine w_iadd C dJ6_bitCount_0f7a4_39 ?_
  refine w_istore_n C (Nat.le_of_ble_eq_true rfl) rfl dJ6_bitCount_0f7a4_40 ?_
  refine w_iload_n C 0 rfl dJ6_bitCount_0f7a4_41 ?_
  refine w_iload_n C 0 rfl dJ6_bitCount_0f7a4_42 ?_
  refine w_bipush (v := 16) C dJ6_bitCount_0f7a4_43 (by decide) ?_
  refine w_iushr C dJ6_bitCount_0f7a4_45 ?_
  refine w_iadd C dJ6_bitCount_0f7a4_46 ?_
  refine w_istore_n C (Nat.le_of_ble_eq_true rfl) rfl dJ6_bitCount_0f7a4_47 ?_
  refine w_iload_n C 0 rfl dJ6_bitCount_0f7a4_48 ?_
  refine w_bipush (v := 63) C dJ6_bitCount_0f7a4_49 (by decide) ?_
  refine w_iand C dJ6_bitCount_0f7a4_51 ?_
  cases h
  exact w_iret C ⟨rfl, rfl⟩ dJ6_bitCount_0f7a4_52
theorem c_J6_bitCount_0f7a4 {l : Launch} {G : GG}  (fu : Nat) {v0 : Int32} {r : Int32} (h : J6_bitCount_0f7a4 fu  v0 = some r) : Ct l yJ6_bitCount_0f7a4 cJ6_bitCount_0f7a4 1 ((some .int)) G rm_J6_bitCount_0f7a4 [.int v0] [] (fun o w => o = some (.int r) ∧ w = []) 0 0 := Ct.of (by decide) (Nat.le_of_ble_eq_true rfl) (fun p e s m args below meth c A C _ => w_J6_bitCount_0f7a4 C h)
abbrev rm_J7_fill_53178 : Room := { frames := 0, cells := 0, slots := 0, locals := 0 }
theorem pk_J7_fill_53178 : PkS yJ7_fill_53178 cJ7_fill_53178 4 none 2 := ⟨co_J7_fill_53178, ini_RJ7, st_J7_fill_53178, by decide +kernel⟩
set_option maxRecDepth 20000 in
set_option maxHeartbeats 4000000 in
theorem w_J7_fill_53178_5 {aa N : Nat}  {v1 : Int32} {v3 : Int32} {fu : Nat}  {r : (Nat → Int32)} (C : Cx p s m args meth c G A RJ7 cJ7_fill_53178 4 none)   : ∀ (fk : Nat) (ar : Nat → Int32) (v2 : Int32), J7_fill_53178_5 fu N  v1 v3 fk ar v2 = some r → Wd p l e rm_J7_fill_53178 s m args below meth c G A 4 0 0 (QQ G A (fun o w => o = none ∧ w = [(aa, .inl (G.2 0, N, .inl r))]) below args s 0 0) [(aa, .inl (G.2 0, N, .inl ar))] [(0, .ref aa), (1, .int v1), (2, .int v2), (3, .int v3)] 5 [] := by
  intro fk
  induction fk with
  | zero =>
    intro ar v2 h
    have h : (none : Option ((Nat → Int32))) = some r := h
    cases h
  | succ fk ih =>
    intro ar v2 h
    have h : J7_fill_53178_5_b fu N  v1 v3 (J7_fill_53178_5 fu N  v1 v3 fk) ar v2 = some r := h
    unfold J7_fill_53178_5_b at h
    refine w_iload_n C 2 rfl dJ7_fill_53178_5 ?_
    refine w_iload_n C 3 rfl dJ7_fill_53178_6 ?_
    refine w_icmp_ge (tgt := 20) C dJ7_fill_53178_7 (by decide) (fun hb1 => ?_) (fun hb1 => ?_)
    · have h := if_t hb1 h
      cases h
      exact w_vret C ⟨rfl, rfl⟩ dJ7_fill_53178_20
    · have h := if_f hb1 h
      refine w_aload_n C 0 rfl dJ7_fill_53178_10 ?_
      refine w_iload_n C 2 rfl dJ7_fill_53178_11 ?_
      refine w_iload_n C 1 rfl dJ7_fill_53178_12 ?_
      obtain ⟨hi2, h⟩ := ckI_some h
      refine w_iast C 0 rfl hi2 rfl dJ7_fill_53178_13 ?_
      refine w_iinc (v := v2 + 1) (k := 2) C rfl rfl (Nat.le_of_ble_eq_true rfl) rfl dJ7_fill_53178_14 ?_
      refine w_goto (tgt := 5) C dJ7_fill_53178_17 (by decide) ?_
      refine w_lv [1, 2, 0, 3] rfl ?_
      exact ih _ _ h
set_option maxRecDepth 20000 in
set_option maxHeartbeats 4000000 in
theorem w_J7_fill_53178 {aa N : Nat}  {fu : Nat}  {ar : Nat → Int32} {v1 : Int32} {r : (Nat → Int32)} (C : Cx p s m args meth c G A RJ7 cJ7_fill_53178 4 none)   (h : J7_fill_53178 fu N  ar v1 = some r) : Wd p l e rm_J7_fill_53178 s m args below meth c G A 4 0 0 (QQ G A (fun o w => o = none ∧ w = [(aa, .inl (G.2 0, N, .inl r))]) below args s 0 0) [(aa, .inl (G.2 0, N, .inl ar))] [(0, .ref aa), (1, .int v1)] 0 [] := by
  unfold J7_fill_53178 at h
  refine w_iconst (v := 0) C dJ7_fill_53178_0 (by decide) ?_
  refine w_istore_n C (Nat.le_of_ble_eq_true rfl) rfl dJ7_fill_53178_1 ?_
  refine w_aload_n C 1 rfl dJ7_fill_53178_2 ?_
  refine w_alen C 0 rfl rfl dJ7_fill_53178_3 ?_
  refine w_istore_n C (Nat.le_of_ble_eq_true rfl) rfl dJ7_fill_53178_4 ?_
  refine w_lv [2, 3, 1, 0] rfl ?_
  exact w_J7_fill_53178_5 C    _ _ _ h
theorem c_J7_fill_53178 {l : Launch} {G : GG} {aa N : Nat} {ar : Nat → Int32} (fu : Nat) {v1 : Int32} {r : (Nat → Int32)} (h : J7_fill_53178 fu N ar v1 = some r) : Ct l yJ7_fill_53178 cJ7_fill_53178 4 none G rm_J7_fill_53178 [.ref aa, .int v1] [(aa, .inl (G.2 0, N, .inl ar))] (fun o w => o = none ∧ w = [(aa, .inl (G.2 0, N, .inl r))]) 0 0 := Ct.of (by decide) (Nat.le_of_ble_eq_true rfl) (fun p e s m args below meth c A C _ => w_J7_fill_53178 C h)
end
