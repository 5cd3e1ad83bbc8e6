section
variable {p : Program} {l : Launch} {e : Env} {s : State} {m : MethodId} {args : Array Value} {below : List Frame} {meth : Method} {c : Code} {G : GG} {A : Nat → Prop}
/-- what the field's tables come to -/
def Fok (fu q : Nat) (pp : Int32) (T0 T1 T2 T3 T4 : Nat → Int32) : Prop := X0_primeOf fu (nI q) = some pp ∧ ∃ s0 n0 p0 i0 w0 : Nat → Int32, X0_fillSums fu q pp (nI q) (fun _ => 0) (fun _ => 0) = some (s0, n0) ∧ X0_fillProducts fu q pp (nI q) T0 (fun _ => 0) (fun _ => 0) = some (p0, i0) ∧ X0_fillPowers fu q (nI q) T1 (fun _ => 0) = some w0 ∧ (∀ i, i < q * q → s0 i = T0 i) ∧ (∀ i, i < q * q → p0 i = T1 i) ∧ (∀ i, i < q * q → w0 i = T2 i) ∧ (∀ i, i < q → n0 i = T3 i) ∧ (∀ i, i < q → i0 i = T4 i)
abbrev rm_X0_init : Room := { frames := 4, cells := 7, slots := 812, locals := 94 }
theorem pk_X0_init : PkI yX0_init cX0_init 2 1 := ⟨rfl, co_X0_init, ini_RX0, im_X0_init, by decide +kernel⟩
set_option maxRecDepth 20000 in
set_option maxHeartbeats 4000000 in
theorem c_X0_init {fu q b : Nat} {pp : Int32} {T0 T1 T2 T3 T4 : Nat → Int32} (hq2 : 2 ≤ q) (hq : q ≤ 16) (hF : Fok fu q pp T0 T1 T2 T3 T4) : Ct l yX0_init cX0_init 2 none G rm_X0_init [.ref b, .int (nI q)] [(b, .inr (0, [.int 0, .int 0, .null, .null, .null, .null, .null, .null, .null]))] (fun o w => o = none ∧ ∃ fa : Nat → Nat, fa 0 = b ∧ w = fw G fa q pp (nI q) T0 T1 T2 T3 T4 (fun _ => 0) (fun _ => none)) 7 812 := Ct.of (by decide) (Nat.le_of_ble_eq_true rfl) (fun p e s m args below meth c A C hini => by
  show Wd p l e rm_X0_init s m args below meth c G A 2 0 0 _ _ [(0, .ref b), (1, .int (nI q))] 0 []
  obtain ⟨hp, s0, n0, p0, i0, w0, h1, h2, h3, e0, e1, e2, e3, e4⟩ := hF
  have hqq : q * q ≤ 256 := Nat.mul_le_mul hq hq
  have hq0 : ¬ nI q < 0 := nI_pos (by omega)
  have hqc : (nI q).toNatClampNeg = q := nI_clamp (by omega)
  have eqq : nI q * nI q = nI (q * q) := pk_mul q q
  have hm0 : ¬ nI q * nI q < 0 := by rw [eqq]; exact nI_pos (by omega)
  have hmc : (nI q * nI q).toNatClampNeg = q * q := by rw [eqq]; exact nI_clamp (by omega)
  refine w_aload_n C 0 rfl dX0_init_0 ?_
  refine w_objInit C ml_X0_3 (Nat.le_of_ble_eq_true rfl) (Nat.le_of_ble_eq_true rfl) dX0_init_1 ?_
  refine w_aload_n C 0 rfl dX0_init_4 ?_
  refine w_bipush (v := 6) C dX0_init_5 (by decide) ?_
  refine w_newa (N' := 6) C (by decide) (by decide) (by decide) (Nat.le_of_ble_eq_true rfl) (Nat.le_of_ble_eq_true rfl) dX0_init_7 (fun a6 => ?_)
  refine w_putF (ws2 := [(b, .inr (0, [.int 0, .int 0, .null, .null, .null, .null, .null, .ref a6, .null])), (a6, .inl (G.2 0, 6, .inl (fun _ => 0)))]) C hini 0 rfl rfl inX0 tyX0 tyX0_ok nmX0 7 (by decide) fl_X0_9 rfl rfl rfl rfl rfl rfl (Nat.le_of_ble_eq_true rfl) rfl dX0_init_9 ?_
  refine w_aload_n C 0 rfl dX0_init_12 ?_
  refine w_bipush (v := 6) C dX0_init_13 (by decide) ?_
  refine w_newq (t0 := 2) (N' := 6) C rfl C.2.2.2.2.2.2.2.1.2.2.1 cl_X0_15 (by decide) (by decide) (by decide) (Nat.le_of_ble_eq_true rfl) (Nat.le_of_ble_eq_true rfl) dX0_init_15 (fun a7 => ?_)
  refine w_putF (ws2 := [(b, .inr (0, [.int 0, .int 0, .null, .null, .null, .null, .null, .ref a6, .ref a7])), (a6, .inl (G.2 0, 6, .inl (fun _ => 0))), (a7, .inl (G.2 2, 6, .inr (.inr (.inr (.inr (fun _ => none))))))]) C hini 0 rfl rfl inX0 tyX0 tyX0_ok nmX0 8 (by decide) fl_X0_17 rfl rfl rfl rfl rfl rfl (Nat.le_of_ble_eq_true rfl) rfl dX0_init_18 ?_
  refine w_aload_n C 0 rfl dX0_init_21 ?_
  refine w_iload_n C 1 rfl dX0_init_22 ?_
  refine w_putF (ws2 := [(b, .inr (0, [.int 0, .int (nI q), .null, .null, .null, .null, .null, .ref a6, .ref a7])), (a6, .inl (G.2 0, 6, .inl (fun _ => 0))), (a7, .inl (G.2 2, 6, .inr (.inr (.inr (.inr (fun _ => none))))))]) C hini 0 rfl rfl inX0 tyX0 tyX0_ok nmX0 1 (by decide) fl_X0_21 rfl rfl rfl rfl rfl rfl (Nat.le_of_ble_eq_true rfl) rfl dX0_init_23 ?_
  refine w_aload_n C 0 rfl dX0_init_26 ?_
  refine w_iload_n C 1 rfl dX0_init_27 ?_
  refine w_cSi C (c_X0_primeOf fu hp) pk_X0_primeOf ml_X0_25 (As := [.int (nI q)]) (rest := [.ref b]) ⟨⟨rfl, rfl⟩, (Nat.le_of_ble_eq_true rfl), (Nat.le_of_ble_eq_true rfl)⟩ rfl ⟨(Nat.le_of_ble_eq_true rfl), (Nat.le_of_ble_eq_true rfl)⟩ (Nat.le_of_ble_eq_true rfl) rfl (List.append_nil _).symm (List.append_nil _) dX0_init_28 ?_
  refine w_putF (ws2 := [(b, .inr (0, [.int pp, .int (nI q), .null, .null, .null, .null, .null, .ref a6, .ref a7])), (a6, .inl (G.2 0, 6, .inl (fun _ => 0))), (a7, .inl (G.2 2, 6, .inr (.inr (.inr (.inr (fun _ => none))))))]) C hini 0 rfl rfl inX0 tyX0 tyX0_ok nmX0 0 (by decide) fl_X0_29 rfl rfl rfl rfl rfl rfl (Nat.le_of_ble_eq_true rfl) rfl dX0_init_31 ?_
  refine w_aload_n C 0 rfl dX0_init_34 ?_
  refine w_iload_n C 1 rfl dX0_init_35 ?_
  refine w_iload_n C 1 rfl dX0_init_36 ?_
  refine w_imul C dX0_init_37 ?_
  refine w_newa (N' := q * q) C hm0 hmc (by omega) (Nat.le_of_ble_eq_true rfl) (by show 12 + q * q ≤ 812; omega) dX0_init_38 (fun a1 => ?_)
  refine w_widen (k := 3) (n := 268) (Nat.le_of_ble_eq_true rfl) (by omega) ?_
  refine w_putF (ws2 := [(b, .inr (0, [.int pp, .int (nI q), .ref a1, .null, .null, .null, .null, .ref a6, .ref a7])), (a6, .inl (G.2 0, 6, .inl (fun _ => 0))), (a7, .inl (G.2 2, 6, .inr (.inr (.inr (.inr (fun _ => none)))))), (a1, .inl (G.2 0, q * q, .inl (fun _ => 0)))]) C hini 0 rfl rfl inX0 tyX0 tyX0_ok nmX0 2 (by decide) fl_X0_32 rfl rfl rfl rfl rfl rfl (Nat.le_of_ble_eq_true rfl) rfl dX0_init_40 ?_
  refine w_aload_n C 0 rfl dX0_init_43 ?_
  refine w_iload_n C 1 rfl dX0_init_44 ?_
  refine w_iload_n C 1 rfl dX0_init_45 ?_
  refine w_imul C dX0_init_46 ?_
  refine w_newa (N' := q * q) C hm0 hmc (by omega) (Nat.le_of_ble_eq_true rfl) (by show 268 + q * q ≤ 812; omega) dX0_init_47 (fun a2 => ?_)
  refine w_widen (k := 4) (n := 524) (Nat.le_of_ble_eq_true rfl) (by omega) ?_
  refine w_putF (ws2 := [(b, .inr (0, [.int pp, .int (nI q), .ref a1, .ref a2, .null, .null, .null, .ref a6, .ref a7])), (a6, .inl (G.2 0, 6, .inl (fun _ => 0))), (a7, .inl (G.2 2, 6, .inr (.inr (.inr (.inr (fun _ => none)))))), (a1, .inl (G.2 0, q * q, .inl (fun _ => 0))), (a2, .inl (G.2 0, q * q, .inl (fun _ => 0)))]) C hini 0 rfl rfl inX0 tyX0 tyX0_ok nmX0 3 (by decide) fl_X0_35 rfl rfl rfl rfl rfl rfl (Nat.le_of_ble_eq_true rfl) rfl dX0_init_49 ?_
  refine w_aload_n C 0 rfl dX0_init_52 ?_
  refine w_iload_n C 1 rfl dX0_init_53 ?_
  refine w_iload_n C 1 rfl dX0_init_54 ?_
  refine w_imul C dX0_init_55 ?_
  refine w_newa (N' := q * q) C hm0 hmc (by omega) (Nat.le_of_ble_eq_true rfl) (by show 524 + q * q ≤ 812; omega) dX0_init_56 (fun a3 => ?_)
  refine w_widen (k := 5) (n := 780) (Nat.le_of_ble_eq_true rfl) (by omega) ?_
  refine w_putF (ws2 := [(b, .inr (0, [.int pp, .int (nI q), .ref a1, .ref a2, .ref a3, .null, .null, .ref a6, .ref a7])), (a6, .inl (G.2 0, 6, .inl (fun _ => 0))), (a7, .inl (G.2 2, 6, .inr (.inr (.inr (.inr (fun _ => none)))))), (a1, .inl (G.2 0, q * q, .inl (fun _ => 0))), (a2, .inl (G.2 0, q * q, .inl (fun _ => 0))), (a3, .inl (G.2 0, q * q, .inl (fun _ => 0)))]) C hini 0 rfl rfl inX0 tyX0 tyX0_ok nmX0 4 (by decide) fl_X0_38 rfl rfl rfl rfl rfl rfl (Nat.le_of_ble_eq_true rfl) rfl dX0_init_58 ?_
  refine w_aload_n C 0 rfl dX0_init_61 ?_
  refine w_iload_n C 1 rfl dX0_init_62 ?_
  refine w_newa (N' := q) C hq0 hqc (by omega) (Nat.le_of_ble_eq_true rfl) (by show 780 + q ≤ 812; omega) dX0_init_63 (fun a4 => ?_)
  refine w_widen (k := 6) (n := 796) (Nat.le_of_ble_eq_true rfl) (by omega) ?_
  refine w_putF (ws2 := [(b, .inr (0, [.int pp, .int (nI q), .ref a1, .ref a2, .ref a3, .ref a4, .null, .ref a6, .ref a7])), (a6, .inl (G.2 0, 6, .inl (fun _ => 0))), (a7, .inl (G.2 2, 6, .inr (.inr (.inr (.inr (fun _ => none)))))), (a1, .inl (G.2 0, q * q, .inl (fun _ => 0))), (a2, .inl (G.2 0, q * q, .inl (fun _ => 0))), (a3, .inl (G.2 0, q * q, .inl (fun _ => 0))), (a4, .inl (G.2 0, q, .inl (fun _ => 0)))]) C hini 0 rfl rfl inX0 tyX0 tyX0_ok nmX0 5 (by decide) fl_X0_41 rfl rfl rfl rfl rfl rfl (Nat.le_of_ble_eq_true rfl) rfl dX0_init_65 ?_
  refine w_aload_n C 0 rfl dX0_init_68 ?_
  refine w_iload_n C 1 rfl dX0_init_69 ?_
  refine w_newa (N' := q) C hq0 hqc (by omega) (Nat.le_of_ble_eq_true rfl) (by show 796 + q ≤ 812; omega) dX0_init_70 (fun a5 => ?_)
  refine w_widen (k := 7) (n := 812) (Nat.le_of_ble_eq_true rfl) (by omega) ?_
  refine w_putF (ws2 := [(b, .inr (0, [.int pp, .int (nI q), .ref a1, .ref a2, .ref a3, .ref a4, .ref a5, .ref a6, .ref a7])), (a6, .inl (G.2 0, 6, .inl (fun _ => 0))), (a7, .inl (G.2 2, 6, .inr (.inr (.inr (.inr (fun _ => none)))))), (a1, .inl (G.2 0, q * q, .inl (fun _ => 0))), (a2, .inl (G.2 0, q * q, .inl (fun _ => 0))), (a3, .inl (G.2 0, q * q, .inl (fun _ => 0))), (a4, .inl (G.2 0, q, .inl (fun _ => 0))), (a5, .inl (G.2 0, q, .inl (fun _ => 0)))]) C hini 0 rfl rfl inX0 tyX0 tyX0_ok nmX0 6 (by decide) fl_X0_44 rfl rfl rfl rfl rfl rfl (Nat.le_of_ble_eq_true rfl) rfl dX0_init_72 ?_
  obtain ⟨fa, hfa⟩ : ∃ fa : Nat → Nat, fa = fun i => [b, a1, a2, a3, a4, a5, a6, a7].getD i 0 := ⟨_, rfl⟩
  refine w_perm (ws2 := (fw G fa q pp (nI q) (fun _ => 0) (fun _ => 0) (fun _ => 0) (fun _ => 0) (fun _ => 0) (fun _ => 0) (fun _ => none))) (by subst hfa; exact (List.perm_append_comm (l₁ := ([(a6, .inl (G.2 0, 6, .inl (fun _ => 0))), (a7, .inl (G.2 2, 6, .inr (.inr (.inr (.inr (fun _ => none))))))] : va_W))).cons _) ?_
  have hb0 : b = fa 0 := by subst hfa; rfl
  rw [hb0]
  refine w_aload_n C 0 rfl dX0_init_75 ?_
  refine w_cVv (wr := []) (qc := (RX0, TX0, 9)) C (c_X0_fillSums fu h1) pk_X0_fillSums ml_X0_47 (As := []) (rest := []) (k9 := 0) rfl rfl ⟨⟨rfl, rfl⟩, (Nat.le_of_ble_eq_true rfl), (Nat.le_of_ble_eq_true rfl)⟩ rfl ⟨(Nat.le_of_ble_eq_true rfl), (Nat.le_of_ble_eq_true rfl)⟩ (Nat.le_of_ble_eq_true rfl) rfl rfl (List.nil_append _) dX0_init_76 ?_
  refine w_ex (ws2 := (fw G fa q pp (nI q) T0 (fun _ => 0) (fun _ => 0) T3 (fun _ => 0) (fun _ => 0) (fun _ => none))) (Ex.same (Ex.arr e0 (Ex.same (Ex.same (Ex.arr e3 (Ex.rf _)))))) ?_
  refine w_aload_n C 0 rfl dX0_init_79 ?_
  refine w_cVv (wr := []) (qc := (RX0, TX0, 9)) C (c_X0_fillProducts fu h2) pk_X0_fillProducts ml_X0_50 (As := []) (rest := []) (k9 := 0) rfl rfl ⟨⟨rfl, rfl⟩, (Nat.le_of_ble_eq_true rfl), (Nat.le_of_ble_eq_true rfl)⟩ rfl ⟨(Nat.le_of_ble_eq_true rfl), (Nat.le_of_ble_eq_true rfl)⟩ (Nat.le_of_ble_eq_true rfl) rfl rfl (List.nil_append _) dX0_init_80 ?_
  refine w_ex (ws2 := (fw G fa q pp (nI q) T0 T1 (fun _ => 0) T3 T4 (fun _ => 0) (fun _ => none))) (Ex.same (Ex.same (Ex.arr e1 (Ex.same (Ex.same (Ex.arr e4 (Ex.rf _))))))) ?_
  refine w_aload_n C 0 rfl dX0_init_83 ?_
  refine w_cVv (wr := []) (qc := (RX0, TX0, 9)) C (c_X0_fillPowers fu h3) pk_X0_fillPowers ml_X0_53 (As := []) (rest := []) (k9 := 0) rfl rfl ⟨⟨rfl, rfl⟩, (Nat.le_of_ble_eq_true rfl), (Nat.le_of_ble_eq_true rfl)⟩ rfl ⟨(Nat.le_of_ble_eq_true rfl), (Nat.le_of_ble_eq_true rfl)⟩ (Nat.le_of_ble_eq_true rfl) rfl rfl (List.nil_append _) dX0_init_84 ?_
  refine w_ex (ws2 := (fw G fa q pp (nI q) T0 T1 T2 T3 T4 (fun _ => 0) (fun _ => none))) (Ex.same (Ex.same (Ex.same (Ex.arr e2 (Ex.rf _))))) ?_
  exact w_vret C ⟨rfl, fa, rfl, rfl⟩ dX0_init_87)
def X3_enter_47_b (fu : Nat) (rc40 : (Nat → Nat → Int32) → Int32 → Option ((Nat → Nat → Int32))) (xq : Int32) (v2 : Int32) (rc47 : (Nat → Nat → Int32) → Int32 → Option ((Nat → Nat → Int32))) (RR : Nat → Nat → Int32) (v3 : Int32) : Option ((Nat → Nat → Int32)) :=
  (if xq ≤ v3 then (rc40 RR (v2 + 1)) else (ckI v2 4 (ckI v3 16 (rc47 (va_up RR v2.toNatClampNeg (upd (RR v2.toNatClampNeg) v3.toNatClampNeg v3)) (v3 + 1)))))
def X3_enter_47 (fu : Nat) (rc40 : (Nat → Nat → Int32) → Int32 → Option ((Nat → Nat → Int32))) (xq : Int32) (v2 : Int32) (fk : Nat) : (Nat → Nat → Int32) → Int32 → Option ((Nat → Nat → Int32)) := itr (fun _ _ => none) (X3_enter_47_b fu rc40 xq v2) fk
def X3_enter_40_b (fu : Nat)  (xq : Int32) (rc40 : (Nat → Nat → Int32) → Int32 → Option ((Nat → Nat → Int32))) (RR : Nat → Nat → Int32) (v2 : Int32) : Option ((Nat → Nat → Int32)) :=
  (if 4 ≤ v2 then (some (RR)) else (X3_enter_47 fu rc40 xq v2 fu RR 0))
def X3_enter_40 (fu : Nat)  (xq : Int32) (fk : Nat) : (Nat → Nat → Int32) → Int32 → Option ((Nat → Nat → Int32)) := itr (fun _ _ => none) (X3_enter_40_b fu  xq) fk
abbrev rm_X3_enter : Room := { frames := 5, cells := 8, slots := 821, locals := 115 }
theorem pk_X3_enter : PkV RX3 yX3_enter cX3_enter 4 none 1 := ⟨rfl, co_X3_enter, ini_RX3, im_X3_enter, se_X3_enter, by decide +kernel⟩
set_option maxRecDepth 20000 in
set_option maxHeartbeats 4000000 in
theorem w_X3_enter_47 {xa : Nat → Nat} {hr ra : Nat} {Z : va_W} {FA : Nat → Option Nat} {ak : Int64} {xq : Int32} {v2 : Int32} {fu : Nat} {rc40 : (Nat → Nat → Int32) → Int32 → Option ((Nat → Nat → Int32))} {r : (Nat → Nat → Int32)} (C : Cx p s m args meth c G A RX3 cX3_enter 4 none)  (hrc40 : ∀ (RR : Nat → Nat → Int32) (v2 : Int32), rc40 RR v2 = some r → Wd p l e rm_X3_enter s m args below meth c G A 4 8 821 (QQ G A (fun o w => o = none ∧ w = (xm G xa FA hr ra xq ak r ++ Z)) below args s 8 821) (xm G xa FA hr ra xq ak RR ++ Z) [(0, .ref (xa 0)), (2, .int v2)] 40 []) : ∀ (fk : Nat) (RR : Nat → Nat → Int32) (v3 : Int32), X3_enter_47 fu rc40 xq v2 fk RR v3 = some r → Wd p l e rm_X3_enter s m args below meth c G A 4 8 821 (QQ G A (fun o w => o = none ∧ w = (xm G xa FA hr ra xq ak r ++ Z)) below args s 8 821) (xm G xa FA hr ra xq ak RR ++ Z) [(0, .ref (xa 0)), (2, .int v2), (3, .int v3)] 47 [] := by
  intro fk
  induction fk with
  | zero =>
    intro RR v3 h
    have h : (none : Option ((Nat → Nat → Int32))) = some r := h
    cases h
  | succ fk ih =>
    intro RR v3 h
    have h : X3_enter_47_b fu rc40 xq v2 (X3_enter_47 fu rc40 xq v2 fk) RR v3 = some r := h
    unfold X3_enter_47_b at h
    refine w_iload_n C 2 rfl dX3_enter_47 ?_
    refine w_aload_n C 0 rfl dX3_enter_48 ?_
    refine gt_X3_42 C dX3_enter_49 ?_
    refine w_icmp_ge (tgt := 70) C dX3_enter_52 (by decide) (fun hb2 => ?_) (fun hb2 => ?_)
    · have h := if_t hb2 h
      refine w_iinc (v := v2 + 1) (k := 1) C rfl rfl (Nat.le_of_ble_eq_true rfl) rfl dX3_enter_70 ?_
      refine w_goto (tgt := 40) C dX3_enter_73 (by decide) ?_
      refine w_lv [1, 0] rfl ?_
      exact hrc40 _ _ h
    · have h := if_f hb2 h
      refine w_aload_n C 0 rfl dX3_enter_55 ?_
      refine gt_X3_17 C dX3_enter_56 ?_
      refine w_iload_n C 1 rfl dX3_enter_59 ?_
      obtain ⟨hi3, h⟩ := ckI_some h
      refine ld_maps C hi3 dX3_enter_60 ?_
      refine w_iload_n C 2 rfl dX3_enter_61 ?_
      refine w_iload_n C 2 rfl dX3_enter_62 ?_
      obtain ⟨hi4, h⟩ := ckI_some h
      refine sr_row C (Nat.lt_trans (vp_lt hi3) (by decide)) hi4 dX3_enter_63 ?_
      refine w_iinc (v := v3 + 1) (k := 2) C rfl rfl (Nat.le_of_ble_eq_true rfl) rfl dX3_enter_64 ?_
      refine w_goto (tgt := 47) C dX3_enter_67 (by decide) ?_
      refine w_lv [1, 2, 0] rfl ?_
      exact ih _ _ h
set_option maxRecDepth 20000 in
set_option maxHeartbeats 4000000 in
theorem w_X3_enter_40 {xa : Nat → Nat} {hr ra : Nat} {Z : va_W} {FA : Nat → Option Nat} {ak : Int64} {xq : Int32} {fu : Nat}  {r : (Nat → Nat → Int32)} (C : Cx p s m args meth c G A RX3 cX3_enter 4 none)   : ∀ (fk : Nat) (RR : Nat → Nat → Int32) (v2 : Int32), X3_enter_40 fu  xq fk RR v2 = some r → Wd p l e rm_X3_enter s m args below meth c G A 4 8 821 (QQ G A (fun o w => o = none ∧ w = (xm G xa FA hr ra xq ak r ++ Z)) below args s 8 821) (xm G xa FA hr ra xq ak RR ++ Z) [(0, .ref (xa 0)), (2, .int v2)] 40 [] := by
  intro fk
  induction fk with
  | zero =>
    intro RR v2 h
    have h : (none : Option ((Nat → Nat → Int32))) = some r := h
    cases h
  | succ fk ih =>
    intro RR v2 h
    have h : X3_enter_40_b fu  xq (X3_enter_40 fu  xq fk) RR v2 = some r := h
    unfold X3_enter_40_b at h
    refine w_iload_n C 1 rfl dX3_enter_40 ?_
    refine w_iconst (v := 4) C dX3_enter_41 (by decide) ?_
    refine w_icmp_ge (tgt := 76) C dX3_enter_42 (by decide) (fun hb1 => ?_) (fun hb1 => ?_)
    · have h := if_t hb1 h
      cases h
      exact w_vret C ⟨rfl, rfl⟩ dX3_enter_76
    · have h := if_f hb1 h
      refine w_iconst (v := 0) C dX3_enter_45 (by decide) ?_
      refine w_istore_n C (Nat.le_of_ble_eq_true rfl) rfl dX3_enter_46 ?_
      refine w_lv [1, 2, 0] rfl ?_
      exact w_X3_enter_47 C   ih _ _ _ h
theorem w_enter_end {Po : Option Value → va_W → Prop} {xa : Nat → Nat} {hr ra : Nat} {xq : Int32} {ak : Int64} {FA : Nat → Option Nat} {RR RR2 : Nat → Nat → Int32} {Z : va_W} {fu q a : Nat} (C : Cx p s m args meth c G A RX3 cX3_enter 4 none) (hq : q ≤ 16) (ha : FA q = some a) (h : X3_enter_40 fu (nI q) fu RR 0 = some RR2) (hPo : Po none (xm G xa FA a ra (nI q) ak RR2 ++ Z)) : Wd p l e rm_X3_enter s m args below meth c G A 4 8 821 (QQ G A Po below args s 8 821) (xm G xa FA hr ra xq ak RR ++ Z) [(0, .ref (xa 0)), (1, .int (nI q))] 23 [] := by
  have hin : vp_in (nI q) 17 := vp_in_nI (by omega) (by decide)
  have hc : (nI q).toNatClampNeg = q := nI_clamp (by omega)
  refine w_aload_n C 0 rfl dX3_enter_23 ?_
  refine w_aload_n C 0 rfl dX3_enter_24 ?_
  refine gt_X3_11 C dX3_enter_25 ?_
  refine w_iload_n C 1 rfl dX3_enter_28 ?_
  refine w_aldq C 1 1 rfl rfl hin dX3_enter_29 ?_
  rw [hc, ha]
  refine pt_X3_49 C dX3_enter_30 ?_
  refine w_aload_n C 0 rfl dX3_enter_33 ?_
  refine w_iload_n C 1 rfl dX3_enter_34 ?_
  refine pt_X3_42 C dX3_enter_35 ?_
  refine w_iconst (v := 0) C dX3_enter_38 (by decide) ?_
  refine w_istore_n C (Nat.le_of_ble_eq_true rfl) rfl dX3_enter_39 ?_
  refine w_lv [1, 0] rfl ?_
  exact w_post (fun o w q => by obtain ⟨rfl, rfl⟩ := q; exact hPo) (w_X3_enter_40 C _ _ _ h)
theorem c_X3_enter_some {xa : Nat → Nat} {hr ra : Nat} {xq : Int32} {ak : Int64} {FA : Nat → Option Nat} {RR RR2 : Nat → Nat → Int32} {fu q a : Nat} (hq : q ≤ 16) (ha : FA q = some a) (h : X3_enter_40 fu (nI q) fu RR 0 = some RR2) : Ct l yX3_enter cX3_enter 4 none G rm_X3_enter [.ref (xa 0), .int (nI q)] (xm G xa FA hr ra xq ak RR) (fun o w => o = none ∧ w = (xm G xa FA a ra (nI q) ak RR2)) 8 821 := Ct.of (by decide) (Nat.le_of_ble_eq_true rfl) (fun p e s m args below meth c A C _ => by
  show Wd p l e rm_X3_enter s m args below meth c G A 4 0 0 _ _ [(0, .ref (xa 0)), (1, .int (nI q))] 0 []
  have hin : vp_in (nI q) 17 := vp_in_nI (by omega) (by decide)
  have hc : (nI q).toNatClampNeg = q := nI_clamp (by omega)
  refine w_eqs (List.append_nil _).symm ?_
  refine w_aload_n C 0 rfl dX3_enter_0 ?_
  refine gt_X3_11 C dX3_enter_1 ?_
  refine w_iload_n C 1 rfl dX3_enter_4 ?_
  refine w_aldq C 1 1 rfl rfl hin dX3_enter_5 ?_
  rw [hc, ha]
  refine w_ifnonnull (tgt := 23) C dX3_enter_6 (by decide) ?_
  refine w_widen (k := 8) (n := 821) (Nat.le_of_ble_eq_true rfl) (Nat.le_of_ble_eq_true rfl) ?_
  exact w_enter_end C hq ha h ⟨rfl, List.append_nil _⟩)
set_option maxRecDepth 20000 in
set_option maxHeartbeats 4000000 in
theorem c_X3_enter_none {xa : Nat → Nat} {hr ra : Nat} {xq : Int32} {ak : Int64} {FA : Nat → Option Nat} {RR RR2 : Nat → Nat → Int32} {fu q : Nat} {pp : Int32} {T0 T1 T2 T3 T4 : Nat → Int32} (hq2 : 2 ≤ q) (hq : q ≤ 16) (hF : Fok fu q pp T0 T1 T2 T3 T4) (ha : FA q = none) (h : X3_enter_40 fu (nI q) fu RR 0 = some RR2) : Ct l yX3_enter cX3_enter 4 none G rm_X3_enter [.ref (xa 0), .int (nI q)] (xm G xa FA hr ra xq ak RR) (fun o w => o = none ∧ ∃ fa : Nat → Nat, w = (xm G xa (va_up FA q (some (fa 0))) (fa 0) ra (nI q) ak RR2) ++ fw G fa q pp (nI q) T0 T1 T2 T3 T4 (fun _ => 0) (fun _ => none)) 8 821 := Ct.of (by decide) (Nat.le_of_ble_eq_true rfl) (fun p e s m args below meth c A C _ => by
  show Wd p l e rm_X3_enter s m args below meth c G A 4 0 0 _ _ [(0, .ref (xa 0)), (1, .int (nI q))] 0 []
  have hin : vp_in (nI q) 17 := vp_in_nI (by omega) (by decide)
  have hc : (nI q).toNatClampNeg = q := nI_clamp (by omega)
  refine w_eqs (List.append_nil _).symm ?_
  refine w_aload_n C 0 rfl dX3_enter_0 ?_
  refine gt_X3_11 C dX3_enter_1 ?_
  refine w_iload_n C 1 rfl dX3_enter_4 ?_
  refine w_aldq C 1 1 rfl rfl hin dX3_enter_5 ?_
  rw [hc, ha]
  refine w_ifnonnullN C dX3_enter_6 ?_
  refine w_aload_n C 0 rfl dX3_enter_9 ?_
  refine gt_X3_11 C dX3_enter_10 ?_
  refine w_iload_n C 1 rfl dX3_enter_13 ?_
  refine w_eqs (List.append_nil _) ?_
  refine w_new (ci := 0) (fs := [.int 0, .int 0, .null, .null, .null, .null, .null, .null, .null]) C rfl inX0 tyX0 tyX0_ok cl_X3_9 ins_RX0 ini_RX0 (fun j hj => by rcases (show j = 0 ∨ j = 1 ∨ j = 2 ∨ j = 3 ∨ j = 4 ∨ j = 5 ∨ j = 6 ∨ j = 7 ∨ j = 8 by omega) with rfl | rfl | rfl | rfl | rfl | rfl | rfl | rfl | rfl <;> rfl) (Nat.le_of_ble_eq_true rfl) (Nat.le_of_ble_eq_true rfl) dX3_enter_14 (fun b => ?_)
  refine w_dup C dX3_enter_17 rfl ?_
  refine w_iload_n C 1 rfl dX3_enter_18 ?_
  refine w_callI C (c_X0_init (fu := fu) (b := b) hq2 hq hF) pk_X0_init ml_X3_188 (As := [.int (nI q)]) (rest := [.ref b, .int (nI q), .ref (xa 1)]) ⟨⟨rfl, rfl⟩, (Nat.le_of_ble_eq_true rfl), (Nat.le_of_ble_eq_true rfl)⟩ rfl ⟨(Nat.le_of_ble_eq_true rfl), (Nat.le_of_ble_eq_true rfl)⟩ (Nat.le_of_ble_eq_true rfl) rfl dX3_enter_19 (fun o w1 h9 => ?_)
  obtain ⟨rfl, fa, rfl, rfl⟩ := h9
  refine w_astq (ws2 := (xm G xa (va_up FA q (some (fa 0))) hr ra xq ak RR) ++ fw G fa q pp (nI q) T0 T1 T2 T3 T4 (fun _ => 0) (fun _ => none)) (r := (RX0, TX0, 9)) C 1 1 9 rfl rfl rfl rfl hin (by rw [hc]; rfl) dX3_enter_22 ?_
  exact w_enter_end C hq (if_pos rfl) h ⟨rfl, fa, rfl⟩)
abbrev rm_X3_field : Room := { frames := 6, cells := 8, slots := 821, locals := 138 }
theorem pk_X3_field : PkV RX3 yX3_field cX3_field 3 (some .int) 1 := ⟨rfl, co_X3_field, ini_RX3, im_X3_field, se_X3_field, by decide +kernel⟩
theorem c_X3_field_bad {xa : Nat → Nat} {hr ra : Nat} {xq : Int32} {ak : Int64} {FA : Nat → Option Nat} {RR RR2 : Nat → Nat → Int32} {fu : Nat} {v : Int32} (h : X3_isFieldSize fu v = some 0) : Ct l yX3_field cX3_field 3 (some .int) G rm_X3_field [.ref (xa 0), .int v] (xm G xa FA hr ra xq ak RR) (fun o w => o = some (.int (-1)) ∧ w = (xm G xa FA hr ra xq ak RR)) 8 821 := Ct.of (by decide) (Nat.le_of_ble_eq_true rfl) (fun p e s m args below meth c A C _ => by
  show Wd p l e rm_X3_field s m args below meth c G A 3 0 0 _ _ [(0, .ref (xa 0)), (1, .int v)] 0 []
  refine w_iload_n C 1 rfl dX3_field_0 ?_
  refine w_cSi C (c_X3_isFieldSize fu h) pk_X3_isFieldSize ml_X3_38 (As := [.int v]) (rest := []) ⟨⟨rfl, rfl⟩, (Nat.le_of_ble_eq_true rfl), (Nat.le_of_ble_eq_true rfl)⟩ rfl ⟨(Nat.le_of_ble_eq_true rfl), (Nat.le_of_ble_eq_true rfl)⟩ (Nat.le_of_ble_eq_true rfl) rfl (List.append_nil _).symm (List.append_nil _) dX3_field_1 ?_
  refine w_if_ne (tgt := 9) C dX3_field_4 (by decide) (fun hb => absurd rfl hb) (fun _ => ?_)
  refine w_iconst (v := (-1)) C dX3_field_7 (by decide) ?_
  refine w_widen (k := 8) (n := 821) (Nat.le_of_ble_eq_true rfl) (Nat.le_of_ble_eq_true rfl) ?_
  exact w_iret C ⟨rfl, rfl⟩ dX3_field_8)
theorem c_X3_field_ok {Po : va_W → Prop} {xa : Nat → Nat} {hr ra : Nat} {xq : Int32} {ak : Int64} {FA : Nat → Option Nat} {RR RR2 : Nat → Nat → Int32} {fu : Nat} {v : Int32} (h : X3_isFieldSize fu v = some 1) (hE : Ct l yX3_enter cX3_enter 4 none G rm_X3_enter [.ref (xa 0), .int v] (xm G xa FA hr ra xq ak RR) (fun o w => o = none ∧ Po w) 8 821) : Ct l yX3_field cX3_field 3 (some .int) G rm_X3_field [.ref (xa 0), .int v] (xm G xa FA hr ra xq ak RR) (fun o w => o = some (.int xq) ∧ Po w) 8 821 := Ct.of (by decide) (Nat.le_of_ble_eq_true rfl) (fun p e s m args below meth c A C _ => by
  show Wd p l e rm_X3_field s m args below meth c G A 3 0 0 _ _ [(0, .ref (xa 0)), (1, .int v)] 0 []
  refine w_iload_n C 1 rfl dX3_field_0 ?_
  refine w_cSi C (c_X3_isFieldSize fu h) pk_X3_isFieldSize ml_X3_38 (As := [.int v]) (rest := []) ⟨⟨rfl, rfl⟩, (Nat.le_of_ble_eq_true rfl), (Nat.le_of_ble_eq_true rfl)⟩ rfl ⟨(Nat.le_of_ble_eq_true rfl), (Nat.le_of_ble_eq_true rfl)⟩ (Nat.le_of_ble_eq_true rfl) rfl (List.append_nil _).symm (List.append_nil _) dX3_field_1 ?_
  refine w_if_ne (tgt := 9) C dX3_field_4 (by decide) (fun _ => ?_) (fun hb => absurd hb (by decide))
  refine w_aload_n C 0 rfl dX3_field_9 ?_
  refine w_eqs (List.append_nil _).symm ?_
  refine gt_X3_42 C dX3_field_10 ?_
  refine w_istore_n C (Nat.le_of_ble_eq_true rfl) rfl dX3_field_13 ?_
  refine w_aload_n C 1 rfl dX3_field_14 ?_
  refine w_iload_n C 2 rfl dX3_field_15 ?_
  refine w_eqs ((List.append_nil _).trans (List.nil_append _).symm) ?_
  refine w_callV (wr := []) (qc := (RX3, TX3, 8)) C hE pk_X3_enter ml_X3_34 (As := [.int v]) (rest := []) (k9 := 0) (ci := 3) rfl rfl ⟨⟨rfl, rfl⟩, (Nat.le_of_ble_eq_true rfl), (Nat.le_of_ble_eq_true rfl)⟩ rfl ⟨(Nat.le_of_ble_eq_true rfl), (Nat.le_of_ble_eq_true rfl)⟩ (Nat.le_of_ble_eq_true rfl) rfl dX3_field_16 (fun o w1 h9 => ?_)
  obtain ⟨rfl, hw⟩ := h9
  refine w_iload_n C 0 rfl dX3_field_19 ?_
  exact w_iret C ⟨rfl, hw⟩ dX3_field_20)
end
