theorem asP (a b e f : va_W) : a ++ (b ++ (e ++ f)) = (a ++ (b ++ e)) ++ f := by simp
theorem prP (a b e f g : va_W) : ((a ++ (b ++ e)) ++ (f ++ g)).Perm (a ++ (b ++ ((f ++ e) ++ g))) := by
  rw [List.append_assoc, List.append_assoc, List.append_assoc]
  refine (List.Perm.append_left a (List.Perm.append_left b ?_))
  rw [← List.append_assoc]
  exact (List.perm_append_comm (l₁ := e) (l₂ := f)).append_right g |>.trans (by rw [List.append_assoc])
section
variable {p : Program} {l : Launch} {e : Env} {s : State} {m : MethodId} {args : Array Value} {below : List Frame} {meth : Method} {c : Code} {G : GG} {A : Nat → Prop}
abbrev rm_X3_many : Room := { frames := 5, cells := 513, slots := 8186, locals := 128 }
theorem pk_X3_many : PkV RX3 yX3_many cX3_many 2 (some .int) 1 := ⟨rfl, co_X3_many, ini_RX3, im_X3_many, se_X3_many, by decide +kernel⟩
theorem c_X3_many_bad {xa fa : Nat → Nat} {ra N : Nat} {xq fp fq r1 r2 r3 r4 r5 : Int32} {ak : Int64} {FA tL : Nat → Option Nat} {RR : Nat → Nat → Int32} {t0 t1 t2 t3 t4 t5 : Nat → Int32} {E : va_W} {fu : Nat} {v : Int32} (h : X3_isListDegree fu v = some 0) : Ct l yX3_many cX3_many 2 (some .int) G rm_X3_many [.ref (xa 0), .int v] (xm G xa FA (fa 0) ra xq ak RR ++ ([rcw ra r1 r2 r3 r4 r5] ++ (E ++ (fw G fa N fp fq t0 t1 t2 t3 t4 t5 tL)))) (fun o w => o = some (.int (-1)) ∧ w = (xm G xa FA (fa 0) ra xq ak RR ++ ([rcw ra r1 r2 r3 r4 r5] ++ (E ++ (fw G fa N fp fq t0 t1 t2 t3 t4 t5 tL))))) 513 8186 := Ct.of (by decide) (Nat.le_of_ble_eq_true rfl) (fun p e s m args below meth c A C _ => by
  show Wd p l e rm_X3_many s m args below meth c G A 2 0 0 _ _ [(0, .ref (xa 0)), (1, .int v)] 0 []
  refine w_iload_n C 1 rfl dX3_many_0 ?_
  refine w_cSi C (c_X3_isListDegree fu h) pk_X3_isListDegree ml_X3_156 (As := [.int v]) (rest := []) ⟨⟨rfl, rfl⟩, (Nat.le_of_ble_eq_true rfl), (Nat.le_of_ble_eq_true rfl)⟩ rfl ⟨(Nat.le_of_ble_eq_true rfl), (Nat.le_of_ble_eq_true rfl)⟩ (Nat.le_of_ble_eq_true rfl) rfl (List.append_nil _).symm (List.append_nil _) dX3_many_1 ?_
  refine w_if_ne (tgt := 9) C dX3_many_4 (by decide) (fun hb => absurd rfl hb) (fun _ => ?_)
  refine w_iconst (v := (-1)) C dX3_many_7 (by decide) ?_
  refine w_widen (k := 513) (n := 8186) (Nat.le_of_ble_eq_true rfl) (Nat.le_of_ble_eq_true rfl) ?_
  exact w_iret C ⟨rfl, rfl⟩ dX3_many_8)
theorem w_many_pre {Q : State → Prop} {xa fa : Nat → Nat} {ra N : Nat} {xq fp fq r1 r2 r3 r4 r5 : Int32} {ak : Int64} {FA tL : Nat → Option Nat} {RR : Nat → Nat → Int32} {t0 t1 t2 t3 t4 t5 : Nat → Int32} {E : va_W} {fu : Nat} {v x : Int32} (C : Cx p s m args meth c G A RX3 cX3_many 2 (some .int)) (h : X3_isListDegree fu v = some 1) (hp : X0_polynomials fu N fq v = some x) (kt : x ≤ 5000 → Wd p l e rm_X3_many s m args below meth c G A 2 0 0 Q (xm G xa FA (fa 0) ra xq ak RR ++ ([rcw ra r1 r2 r3 r4 r5] ++ (E ++ (fw G fa N fp fq t0 t1 t2 t3 t4 t5 tL)))) [(0, .ref (xa 0)), (1, .int v)] 26 []) (kf : ¬ x ≤ 5000 → Wd p l e rm_X3_many s m args below meth c G A 2 0 0 Q (xm G xa FA (fa 0) ra xq ak RR ++ ([rcw ra r1 r2 r3 r4 r5] ++ (E ++ (fw G fa N fp fq t0 t1 t2 t3 t4 t5 tL)))) [(0, .ref (xa 0)), (1, .int v)] 23 []) : Wd p l e rm_X3_many s m args below meth c G A 2 0 0 Q (xm G xa FA (fa 0) ra xq ak RR ++ ([rcw ra r1 r2 r3 r4 r5] ++ (E ++ (fw G fa N fp fq t0 t1 t2 t3 t4 t5 tL)))) [(0, .ref (xa 0)), (1, .int v)] 0 [] := by
  refine w_iload_n C 1 rfl dX3_many_0 ?_
  refine w_cSi C (c_X3_isListDegree fu h) pk_X3_isListDegree ml_X3_156 (As := [.int v]) (rest := []) ⟨⟨rfl, rfl⟩, (Nat.le_of_ble_eq_true rfl), (Nat.le_of_ble_eq_true rfl)⟩ rfl ⟨(Nat.le_of_ble_eq_true rfl), (Nat.le_of_ble_eq_true rfl)⟩ (Nat.le_of_ble_eq_true rfl) rfl (List.append_nil _).symm (List.append_nil _) dX3_many_1 ?_
  refine w_if_ne (tgt := 9) C dX3_many_4 (by decide) (fun _ => ?_) (fun hb => absurd hb (by decide))
  refine w_aload_n C 0 rfl dX3_many_9 ?_
  refine gt_X3_49 C dX3_many_10 ?_
  refine w_iload_n C 1 rfl dX3_many_13 ?_
  refine w_cVi (qc := (RX0, TX0, 9)) C (c_X0_polynomials fu hp) pk_X0_polynomials ml_X3_159 (As := [.int v]) (rest := []) (k9 := 0) rfl rfl ⟨⟨rfl, rfl⟩, (Nat.le_of_ble_eq_true rfl), (Nat.le_of_ble_eq_true rfl)⟩ rfl ⟨(Nat.le_of_ble_eq_true rfl), (Nat.le_of_ble_eq_true rfl)⟩ (Nat.le_of_ble_eq_true rfl) rfl (asP _ _ _ _) (asP _ _ _ _).symm dX3_many_14 ?_
  refine w_sipush (v := 5000) C dX3_many_17 (by decide) ?_
  exact w_icmp_le (tgt := 26) C dX3_many_20 (by decide) kt kf
theorem c_X3_many_full {xa fa : Nat → Nat} {ra N : Nat} {xq fp fq r1 r2 r3 r4 r5 : Int32} {ak : Int64} {FA tL : Nat → Option Nat} {RR : Nat → Nat → Int32} {t0 t1 t2 t3 t4 t5 : Nat → Int32} {E : va_W} {fu : Nat} {v x : Int32} (h : X3_isListDegree fu v = some 1) (hp : X0_polynomials fu N fq v = some x) (hx : ¬ x ≤ 5000) : Ct l yX3_many cX3_many 2 (some .int) G rm_X3_many [.ref (xa 0), .int v] (xm G xa FA (fa 0) ra xq ak RR ++ ([rcw ra r1 r2 r3 r4 r5] ++ (E ++ (fw G fa N fp fq t0 t1 t2 t3 t4 t5 tL)))) (fun o w => o = some (.int (-3)) ∧ w = (xm G xa FA (fa 0) ra xq ak RR ++ ([rcw ra r1 r2 r3 r4 r5] ++ (E ++ (fw G fa N fp fq t0 t1 t2 t3 t4 t5 tL))))) 513 8186 := Ct.of (by decide) (Nat.le_of_ble_eq_true rfl) (fun p e s m args below meth c A C _ => by
  show Wd p l e rm_X3_many s m args below meth c G A 2 0 0 _ _ [(0, .ref (xa 0)), (1, .int v)] 0 []
  refine w_many_pre C h hp (fun q => absurd q hx) (fun _ => ?_)
  refine w_bipush (v := (-3)) C dX3_many_23 (by decide) ?_
  refine w_widen (k := 513) (n := 8186) (Nat.le_of_ble_eq_true rfl) (Nat.le_of_ble_eq_true rfl) ?_
  exact w_iret C ⟨rfl, rfl⟩ dX3_many_25)
theorem c_X3_many_some {xa fa : Nat → Nat} {ra N : Nat} {xq fp fq r1 r2 r3 r4 r5 : Int32} {ak : Int64} {FA tL : Nat → Option Nat} {RR : Nat → Nat → Int32} {t0 t1 t2 t3 t4 t5 : Nat → Int32} {E : va_W} {fu d b a L : Nat} {f : Nat → Int32} {x sz : Int32} (hd : d < 6) (h : X3_isListDegree fu (nI d) = some 1) (hp : X0_polynomials fu N fq (nI d) = some x) (hx : x ≤ 5000) (hb : tL d = some b) : Ct l yX3_many cX3_many 2 (some .int) G rm_X3_many [.ref (xa 0), .int (nI d)] (xm G xa FA (fa 0) ra xq ak RR ++ ([rcw ra r1 r2 r3 r4 r5] ++ ((lwd G b a L f sz ++ E) ++ (fw G fa N fp fq t0 t1 t2 t3 t4 t5 tL)))) (fun o w => o = some (.int sz) ∧ w = (xm G xa FA (fa 0) ra xq ak RR ++ ([rcw ra r1 r2 r3 r4 r5] ++ ((lwd G b a L f sz ++ E) ++ (fw G fa N fp fq t0 t1 t2 t3 t4 t5 tL))))) 513 8186 := Ct.of (by decide) (Nat.le_of_ble_eq_true rfl) (fun p e s m args below meth c A C _ => by
  show Wd p l e rm_X3_many s m args below meth c G A 2 0 0 _ _ [(0, .ref (xa 0)), (1, .int (nI d))] 0 []
  refine w_many_pre C h hp (fun _ => ?_) (fun q => absurd hx q)
  refine w_aload_n C 0 rfl dX3_many_26 ?_
  refine gt_X3_49 C dX3_many_27 ?_
  refine w_iload_n C 1 rfl dX3_many_30 ?_
  refine w_eqs (asP _ _ _ _) ?_
  refine w_callV (qc := (RX0, TX0, 9)) C (c_X0_listing_some hd hb) pk_X0_listing ml_X3_162 (As := [.int (nI d)]) (rest := []) (k9 := 0) (ci := 0) rfl rfl ⟨⟨rfl, rfl⟩, (Nat.le_of_ble_eq_true rfl), (Nat.le_of_ble_eq_true rfl)⟩ rfl ⟨(Nat.le_of_ble_eq_true rfl), (Nat.le_of_ble_eq_true rfl)⟩ (Nat.le_of_ble_eq_true rfl) rfl dX3_many_31 (fun o w1 h9 => ?_)
  obtain ⟨rfl, rfl⟩ := h9
  refine w_eqs (asP _ _ _ _).symm ?_
  refine w_get (v := .int sz) C 10 rfl rfl inX1 1 (by decide) fl_X3_166 rfl rfl dX3_many_34 ?_
  exact w_iret C ⟨rfl, rfl⟩ dX3_many_37)
theorem c_X3_many_none {xa fa : Nat → Nat} {ra N : Nat} {xq fp fq r1 r2 r3 r4 r5 : Int32} {ak : Int64} {FA tL : Nat → Option Nat} {RR : Nat → Nat → Int32} {t0 t1 t2 t3 t4 t5 : Nat → Int32} {E : va_W} {fu d all : Nat} {sh : Nat → Bool} (hd : d < 6) (h : X3_isListDegree fu (nI d) = some 1) (hall : all ≤ 4096) (hp : X0_polynomials fu N fq (nI d) = some (nI all)) (hb : tL d = none) (H : Hsh fu N fq t0 t1 d all sh) : Ct l yX3_many cX3_many 2 (some .int) G rm_X3_many [.ref (xa 0), .int (nI d)] (xm G xa FA (fa 0) ra xq ak RR ++ ([rcw ra r1 r2 r3 r4 r5] ++ (E ++ (fw G fa N fp fq t0 t1 t2 t3 t4 t5 tL)))) (fun o w9 => o = some (.int (nI (lsh sh all).length)) ∧ ∃ (b a w : Nat) (f t5 : Nat → Int32), w9 = (xm G xa FA (fa 0) ra xq ak RR ++ ([rcw ra r1 r2 r3 r4 r5] ++ (((lwd G b a (8 * 2 ^ w) f (nI (lsh sh all).length)) ++ E) ++ (fw G fa N fp fq t0 t1 t2 t3 t4 t5 ((va_up tL d (some b))))))) ∧ Lok sh all w f) 513 8186 := Ct.of (by decide) (Nat.le_of_ble_eq_true rfl) (fun p e s m args below meth c A C _ => by
  show Wd p l e rm_X3_many s m args below meth c G A 2 0 0 _ _ [(0, .ref (xa 0)), (1, .int (nI d))] 0 []
  refine w_many_pre C h hp (fun _ => ?_) (fun q => absurd (show nI all ≤ nI 5000 from nI_le (by omega) (by decide)) q)
  refine w_aload_n C 0 rfl dX3_many_26 ?_
  refine gt_X3_49 C dX3_many_27 ?_
  refine w_iload_n C 1 rfl dX3_many_30 ?_
  refine w_eqs (asP _ _ _ _) ?_
  refine w_callV (qc := (RX0, TX0, 9)) C (c_X0_listing_none (sh := sh) hd hb hall hp H) pk_X0_listing ml_X3_162 (As := [.int (nI d)]) (rest := []) (k9 := 0) (ci := 0) rfl rfl ⟨⟨rfl, rfl⟩, (Nat.le_of_ble_eq_true rfl), (Nat.le_of_ble_eq_true rfl)⟩ rfl ⟨(Nat.le_of_ble_eq_true rfl), (Nat.le_of_ble_eq_true rfl)⟩ (Nat.le_of_ble_eq_true rfl) rfl dX3_many_31 (fun o w1 h9 => ?_)
  obtain ⟨b, a, w, f, t5', rfl, rfl, hL⟩ := h9
  refine w_perm (ws2 := (xm G xa FA (fa 0) ra xq ak RR ++ ([rcw ra r1 r2 r3 r4 r5] ++ (((lwd G b a (8 * 2 ^ w) f (nI (lsh sh all).length)) ++ E) ++ (fw G fa N fp fq t0 t1 t2 t3 t4 t5' ((va_up tL d (some b)))))))) (prP _ _ _ _ _) ?_
  refine w_get (v := .int (nI (lsh sh all).length)) C 10 rfl rfl inX1 1 (by decide) fl_X3_166 rfl rfl dX3_many_34 ?_
  exact w_iret C ⟨rfl, b, a, w, f, t5', rfl, hL⟩ dX3_many_37)
def X3_pick_80_b (fu : Nat) (N : Nat)  (xq : Int32) (fq : Int32) (t0 : Nat → Int32) (t1 : Nat → Int32) (t5 : Nat → Int32) (v1 : Int32) (v2 : Int32) (v5 : Int32) (rc80 : (Nat → Nat → Int32) → Int32 → Option (Int32 × (Nat → Nat → Int32))) (RR : Nat → Nat → Int32) (v6 : Int32) : Option (Int32 × (Nat → Nat → Int32)) :=
  (if xq ≤ v6 then (some (v5, RR)) else (ckI v1 4 (Option.bind (X0_polynomialAt fu N fq t0 t1 t5 v2 v6) (fun x3 => (ckI v6 16 (rc80 (va_up RR v1.toNatClampNeg (upd (RR v1.toNatClampNeg) v6.toNatClampNeg x3)) (v6 + 1)))))))
def X3_pick_80 (fu : Nat) (N : Nat)  (xq : Int32) (fq : Int32) (t0 : Nat → Int32) (t1 : Nat → Int32) (t5 : Nat → Int32) (v1 : Int32) (v2 : Int32) (v5 : Int32) (fk : Nat) : (Nat → Nat → Int32) → Int32 → Option (Int32 × (Nat → Nat → Int32)) := itr (fun _ _ => none) (X3_pick_80_b fu N  xq fq t0 t1 t5 v1 v2 v5) fk
abbrev rm_X3_pick : Room := { frames := 5, cells := 513, slots := 8186, locals := 128 }
theorem pk_X3_pick : PkV RX3 yX3_pick cX3_pick 7 (some .int) 3 := ⟨rfl, co_X3_pick, ini_RX3, im_X3_pick, se_X3_pick, by decide +kernel⟩
set_option maxRecDepth 20000 in
set_option maxHeartbeats 4000000 in
theorem w_X3_pick_80 {fa : Nat → Nat} {N : Nat} {ra : Nat} {xa : Nat → Nat} {E : va_W} {FA : Nat → Option Nat} {ak : Int64} {r1 : Int32} {r2 : Int32} {r3 : Int32} {r4 : Int32} {r5 : Int32} {fp : Int32} {t2 : Nat → Int32} {t3 : Nat → Int32} {t4 : Nat → Int32} {tL : Nat → Option Nat} {xq : Int32} {fq : Int32} {t0 : Nat → Int32} {t1 : Nat → Int32} {t5 : Nat → Int32} {v1 : Int32} {v2 : Int32} {v5 : Int32} {fu : Nat}  {r : Int32 × (Nat → Nat → Int32)} (C : Cx p s m args meth c G A RX3 cX3_pick 7 ((some .int)))   : ∀ (fk : Nat) (RR : Nat → Nat → Int32) (v6 : Int32), X3_pick_80 fu N  xq fq t0 t1 t5 v1 v2 v5 fk RR v6 = some r → Wd p l e rm_X3_pick s m args below meth c G A 7 513 8186 (QQ G A (fun o w => o = some (.int r.1) ∧ w = (xm G xa FA (fa 0) ra xq ak r.2 ++ ([rcw ra r1 r2 r3 r4 r5] ++ (E ++ (fw G fa N fp fq t0 t1 t2 t3 t4 t5 tL))))) below args s 513 8186) (xm G xa FA (fa 0) ra xq ak RR ++ ([rcw ra r1 r2 r3 r4 r5] ++ (E ++ (fw G fa N fp fq t0 t1 t2 t3 t4 t5 tL)))) [(0, .ref (xa 0)), (1, .int v1), (2, .int v2), (5, .int v5), (6, .int v6)] 80 [] := by
  intro fk
  induction fk with
  | zero =>
    intro RR v6 h
    have h : (none : Option (Int32 × (Nat → Nat → Int32))) = some r := h
    cases h
  | succ fk ih =>
    intro RR v6 h
    have h : X3_pick_80_b fu N  xq fq t0 t1 t5 v1 v2 v5 (X3_pick_80 fu N  xq fq t0 t1 t5 v1 v2 v5 fk) RR v6 = some r := h
    unfold X3_pick_80_b at h
    refine w_iload C 4 rfl dX3_pick_80 ?_
    refine w_aload_n C 0 rfl dX3_pick_82 ?_
    refine gt_X3_42 C dX3_pick_83 ?_
    refine w_icmp_ge (tgt := 114) C dX3_pick_86 (by decide) (fun hb1 => ?_) (fun hb1 => ?_)
    · have h := if_t hb1 h
      refine w_iload C 3 rfl dX3_pick_114 ?_
      cases h
      exact w_iret C ⟨rfl, rfl⟩ dX3_pick_116
    · have h := if_f hb1 h
      refine w_aload_n C 0 rfl dX3_pick_89 ?_
      refine gt_X3_17 C dX3_pick_90 ?_
      refine w_iload_n C 1 rfl dX3_pick_93 ?_
      obtain ⟨hi2, h⟩ := ckI_some h
      refine ld_maps C hi2 dX3_pick_94 ?_
      refine w_iload C 4 rfl dX3_pick_95 ?_
      refine w_aload_n C 0 rfl dX3_pick_97 ?_
      refine gt_X3_49 C dX3_pick_98 ?_
      refine w_iload_n C 2 rfl dX3_pick_101 ?_
      refine w_iload C 4 rfl dX3_pick_102 ?_
      obtain ⟨x3, hx3, h⟩ := bd_some h
      refine w_cVi (qc := (RX0, TX0, 9)) C (c_X0_polynomialAt fu  hx3) pk_X0_polynomialAt ml_X3_178 (As := [.int v2, .int v6]) (rest := [.int v6, .ref (xa (3 + v1.toNatClampNeg))]) (k9 := 0) rfl rfl ⟨⟨rfl, rfl⟩, Nat.le_of_ble_eq_true rfl, Nat.le_of_ble_eq_true rfl⟩ rfl ⟨(Nat.le_of_ble_eq_true rfl), (Nat.le_of_ble_eq_true rfl)⟩ (Nat.le_of_ble_eq_true rfl) rfl (asP _ _ _ _) ((asP _ _ _ _).symm) dX3_pick_104 ?_
      obtain ⟨hi4, h⟩ := ckI_some h
      refine sr_row C (Nat.lt_trans (vp_lt hi2) (by decide)) hi4 dX3_pick_107 ?_
      refine w_iinc (v := v6 + 1) (k := 4) C rfl rfl (Nat.le_of_ble_eq_true rfl) rfl dX3_pick_108 ?_
      refine w_goto (tgt := 80) C dX3_pick_111 (by decide) ?_
      refine w_lv [1, 2, 3, 4, 0] rfl ?_
      exact ih _ _ h
theorem c_X3_pick_bad {xa fa : Nat → Nat} {ra N : Nat} {xq fp fq r1 r2 r3 r4 r5 : Int32} {ak : Int64} {FA tL : Nat → Option Nat} {RR : Nat → Nat → Int32} {t0 t1 t2 t3 t4 t5 : Nat → Int32} {E : va_W} {fu : Nat} {v1 v2 v3 : Int32} (h : X3_isMap fu v1 = some 0 ∨ (X3_isMap fu v1 = some 1 ∧ X3_isListDegree fu v2 = some 0) ∨ (X3_isMap fu v1 = some 1 ∧ X3_isListDegree fu v2 = some 1 ∧ v3 < 0)) : Ct l yX3_pick cX3_pick 7 (some .int) G rm_X3_pick [.ref (xa 0), .int v1, .int v2, .int v3] (xm G xa FA (fa 0) ra xq ak RR ++ ([rcw ra r1 r2 r3 r4 r5] ++ (E ++ (fw G fa N fp fq t0 t1 t2 t3 t4 t5 tL)))) (fun o w => o = some (.int (-1)) ∧ w = (xm G xa FA (fa 0) ra xq ak RR ++ ([rcw ra r1 r2 r3 r4 r5] ++ (E ++ (fw G fa N fp fq t0 t1 t2 t3 t4 t5 tL))))) 513 8186 := Ct.of (by decide) (Nat.le_of_ble_eq_true rfl) (fun p e s m args below meth c A C _ => by
  show Wd p l e rm_X3_pick s m args below meth c G A 7 0 0 _ _ [(0, .ref (xa 0)), (1, .int v1), (2, .int v2), (3, .int v3)] 0 []
  have K18 : Wd p l e rm_X3_pick s m args below meth c G A 7 0 0 (QQ G A (fun o w => o = some (.int (-1)) ∧ w = (xm G xa FA (fa 0) ra xq ak RR ++ ([rcw ra r1 r2 r3 r4 r5] ++ (E ++ (fw G fa N fp fq t0 t1 t2 t3 t4 t5 tL))))) below args s 513 8186) (xm G xa FA (fa 0) ra xq ak RR ++ ([rcw ra r1 r2 r3 r4 r5] ++ (E ++ (fw G fa N fp fq t0 t1 t2 t3 t4 t5 tL)))) [(0, .ref (xa 0)), (1, .int v1), (2, .int v2), (3, .int v3)] 18 [] := by
    refine w_iconst (v := (-1)) C dX3_pick_18 (by decide) ?_
    refine w_widen (k := 513) (n := 8186) (Nat.le_of_ble_eq_true rfl) (Nat.le_of_ble_eq_true rfl) ?_
    exact w_iret C ⟨rfl, rfl⟩ dX3_pick_19
  refine w_iload_n C 1 rfl dX3_pick_0 ?_
  rcases h with h | ⟨h1, h2⟩ | ⟨h1, h2, h3⟩
  · refine w_cSi C (c_X3_isMap fu h) pk_X3_isMap ml_X3_64 (As := [.int v1]) (rest := []) ⟨⟨rfl, rfl⟩, (Nat.le_of_ble_eq_true rfl), (Nat.le_of_ble_eq_true rfl)⟩ rfl ⟨(Nat.le_of_ble_eq_true rfl), (Nat.le_of_ble_eq_true rfl)⟩ (Nat.le_of_ble_eq_true rfl) rfl (List.append_nil _).symm (List.append_nil _) dX3_pick_1 ?_
    refine w_if_eq (tgt := 18) C dX3_pick_4 (by decide) (fun _ => K18) (fun hb => absurd rfl hb)
  · refine w_cSi C (c_X3_isMap fu h1) pk_X3_isMap ml_X3_64 (As := [.int v1]) (rest := []) ⟨⟨rfl, rfl⟩, (Nat.le_of_ble_eq_true rfl), (Nat.le_of_ble_eq_true rfl)⟩ rfl ⟨(Nat.le_of_ble_eq_true rfl), (Nat.le_of_ble_eq_true rfl)⟩ (Nat.le_of_ble_eq_true rfl) rfl (List.append_nil _).symm (List.append_nil _) dX3_pick_1 ?_
    refine w_if_eq (tgt := 18) C dX3_pick_4 (by decide) (fun _ => K18) (fun _ => ?_)
    refine w_iload_n C 2 rfl dX3_pick_7 ?_
    refine w_cSi C (c_X3_isListDegree fu h2) pk_X3_isListDegree ml_X3_156 (As := [.int v2]) (rest := []) ⟨⟨rfl, rfl⟩, (Nat.le_of_ble_eq_true rfl), (Nat.le_of_ble_eq_true rfl)⟩ rfl ⟨(Nat.le_of_ble_eq_true rfl), (Nat.le_of_ble_eq_true rfl)⟩ (Nat.le_of_ble_eq_true rfl) rfl (List.append_nil _).symm (List.append_nil _) dX3_pick_8 ?_
    refine w_if_eq (tgt := 18) C dX3_pick_11 (by decide) (fun _ => K18) (fun hb => absurd rfl hb)
  · refine w_cSi C (c_X3_isMap fu h1) pk_X3_isMap ml_X3_64 (As := [.int v1]) (rest := []) ⟨⟨rfl, rfl⟩, (Nat.le_of_ble_eq_true rfl), (Nat.le_of_ble_eq_true rfl)⟩ rfl ⟨(Nat.le_of_ble_eq_true rfl), (Nat.le_of_ble_eq_true rfl)⟩ (Nat.le_of_ble_eq_true rfl) rfl (List.append_nil _).symm (List.append_nil _) dX3_pick_1 ?_
    refine w_if_eq (tgt := 18) C dX3_pick_4 (by decide) (fun _ => K18) (fun _ => ?_)
    refine w_iload_n C 2 rfl dX3_pick_7 ?_
    refine w_cSi C (c_X3_isListDegree fu h2) pk_X3_isListDegree ml_X3_156 (As := [.int v2]) (rest := []) ⟨⟨rfl, rfl⟩, (Nat.le_of_ble_eq_true rfl), (Nat.le_of_ble_eq_true rfl)⟩ rfl ⟨(Nat.le_of_ble_eq_true rfl), (Nat.le_of_ble_eq_true rfl)⟩ (Nat.le_of_ble_eq_true rfl) rfl (List.append_nil _).symm (List.append_nil _) dX3_pick_8 ?_
    refine w_if_eq (tgt := 18) C dX3_pick_11 (by decide) (fun _ => K18) (fun _ => ?_)
    refine w_iload_n C 3 rfl dX3_pick_14 ?_
    exact w_if_ge (tgt := 20) C dX3_pick_15 (by decide) (fun hb => absurd hb (by rw [Int32.not_le]; exact h3)) (fun _ => K18))
theorem w_pick_pre {Q : State → Prop} {xa fa : Nat → Nat} {ra N : Nat} {xq fp fq r1 r2 r3 r4 r5 : Int32} {ak : Int64} {FA tL : Nat → Option Nat} {RR : Nat → Nat → Int32} {t0 t1 t2 t3 t4 t5 : Nat → Int32} {E : va_W} {fu : Nat} {v1 v2 v3 x : Int32} (C : Cx p s m args meth c G A RX3 cX3_pick 7 (some .int)) (h1 : X3_isMap fu v1 = some 1) (h2 : X3_isListDegree fu v2 = some 1) (h3 : ¬ v3 < 0) (hp : X0_polynomials fu N fq v2 = some x) (kt : x ≤ 5000 → Wd p l e rm_X3_pick s m args below meth c G A 7 0 0 Q (xm G xa FA (fa 0) ra xq ak RR ++ ([rcw ra r1 r2 r3 r4 r5] ++ (E ++ (fw G fa N fp fq t0 t1 t2 t3 t4 t5 tL)))) [(0, .ref (xa 0)), (1, .int v1), (2, .int v2), (3, .int v3)] 37 []) (kf : ¬ x ≤ 5000 → Wd p l e rm_X3_pick s m args below meth c G A 7 0 0 Q (xm G xa FA (fa 0) ra xq ak RR ++ ([rcw ra r1 r2 r3 r4 r5] ++ (E ++ (fw G fa N fp fq t0 t1 t2 t3 t4 t5 tL)))) [(0, .ref (xa 0)), (1, .int v1), (2, .int v2), (3, .int v3)] 34 []) : Wd p l e rm_X3_pick s m args below meth c G A 7 0 0 Q (xm G xa FA (fa 0) ra xq ak RR ++ ([rcw ra r1 r2 r3 r4 r5] ++ (E ++ (fw G fa N fp fq t0 t1 t2 t3 t4 t5 tL)))) [(0, .ref (xa 0)), (1, .int v1), (2, .int v2), (3, .int v3)] 0 [] := by
  refine w_iload_n C 1 rfl dX3_pick_0 ?_
  refine w_cSi C (c_X3_isMap fu h1) pk_X3_isMap ml_X3_64 (As := [.int v1]) (rest := []) ⟨⟨rfl, rfl⟩, (Nat.le_of_ble_eq_true rfl), (Nat.le_of_ble_eq_true rfl)⟩ rfl ⟨(Nat.le_of_ble_eq_true rfl), (Nat.le_of_ble_eq_true rfl)⟩ (Nat.le_of_ble_eq_true rfl) rfl (List.append_nil _).symm (List.append_nil _) dX3_pick_1 ?_
  refine w_if_eq (tgt := 18) C dX3_pick_4 (by decide) (fun hb => absurd hb (by decide)) (fun _ => ?_)
  refine w_iload_n C 2 rfl dX3_pick_7 ?_
  refine w_cSi C (c_X3_isListDegree fu h2) pk_X3_isListDegree ml_X3_156 (As := [.int v2]) (rest := []) ⟨⟨rfl, rfl⟩, (Nat.le_of_ble_eq_true rfl), (Nat.le_of_ble_eq_true rfl)⟩ rfl ⟨(Nat.le_of_ble_eq_true rfl), (Nat.le_of_ble_eq_true rfl)⟩ (Nat.le_of_ble_eq_true rfl) rfl (List.append_nil _).symm (List.append_nil _) dX3_pick_8 ?_
  refine w_if_eq (tgt := 18) C dX3_pick_11 (by decide) (fun hb => absurd hb (by decide)) (fun _ => ?_)
  refine w_iload_n C 3 rfl dX3_pick_14 ?_
  refine w_if_ge (tgt := 20) C dX3_pick_15 (by decide) (fun _ => ?_) (fun hb => absurd (Int32.not_le.mp hb) h3)
  refine w_aload_n C 0 rfl dX3_pick_20 ?_
  refine gt_X3_49 C dX3_pick_21 ?_
  refine w_iload_n C 2 rfl dX3_pick_24 ?_
  refine w_cVi (qc := (RX0, TX0, 9)) C (c_X0_polynomials fu hp) pk_X0_polynomials ml_X3_159 (As := [.int v2]) (rest := []) (k9 := 0) rfl rfl ⟨⟨rfl, rfl⟩, (Nat.le_of_ble_eq_true rfl), (Nat.le_of_ble_eq_true rfl)⟩ rfl ⟨(Nat.le_of_ble_eq_true rfl), (Nat.le_of_ble_eq_true rfl)⟩ (Nat.le_of_ble_eq_true rfl) rfl (asP _ _ _ _) (asP _ _ _ _).symm dX3_pick_25 ?_
  refine w_sipush (v := 5000) C dX3_pick_28 (by decide) ?_
  exact w_icmp_le (tgt := 37) C dX3_pick_31 (by decide) kt kf
theorem c_X3_pick_full {xa fa : Nat → Nat} {ra N : Nat} {xq fp fq r1 r2 r3 r4 r5 : Int32} {ak : Int64} {FA tL : Nat → Option Nat} {RR : Nat → Nat → Int32} {t0 t1 t2 t3 t4 t5 : Nat → Int32} {E : va_W} {fu : Nat} {v1 v2 v3 x : Int32} (h1 : X3_isMap fu v1 = some 1) (h2 : X3_isListDegree fu v2 = some 1) (h3 : ¬ v3 < 0) (hp : X0_polynomials fu N fq v2 = some x) (hx : ¬ x ≤ 5000) : Ct l yX3_pick cX3_pick 7 (some .int) G rm_X3_pick [.ref (xa 0), .int v1, .int v2, .int v3] (xm G xa FA (fa 0) ra xq ak RR ++ ([rcw ra r1 r2 r3 r4 r5] ++ (E ++ (fw G fa N fp fq t0 t1 t2 t3 t4 t5 tL)))) (fun o w => o = some (.int (-3)) ∧ w = (xm G xa FA (fa 0) ra xq ak RR ++ ([rcw ra r1 r2 r3 r4 r5] ++ (E ++ (fw G fa N fp fq t0 t1 t2 t3 t4 t5 tL))))) 513 8186 := Ct.of (by decide) (Nat.le_of_ble_eq_true rfl) (fun p e s m args below meth c A C _ => by
  show Wd p l e rm_X3_pick s m args below meth c G A 7 0 0 _ _ [(0, .ref (xa 0)), (1, .int v1), (2, .int v2), (3, .int v3)] 0 []
  refine w_pick_pre C h1 h2 h3 hp (fun q => absurd q hx) (fun _ => ?_)
  refine w_bipush (v := (-3)) C dX3_pick_34 (by decide) ?_
  refine w_widen (k := 513) (n := 8186) (Nat.le_of_ble_eq_true rfl) (Nat.le_of_ble_eq_true rfl) ?_
  exact w_iret C ⟨rfl, rfl⟩ dX3_pick_36)
/-- what the pick comes to, once the listing stands -/
def PkOk (fu N : Nat) (xq fq : Int32) (RR : Nat → Nat → Int32) (t0 t1 t5 f : Nat → Int32) (v1 v2 v3 : Int32) (L cnt : Nat) (o : Int32) (RR2 : Nat → Nat → Int32) (t6 : Nat → Int32) : Prop := (nI cnt ≤ v3 ∧ o = -1 ∧ RR2 = RR ∧ t6 = t5) ∨ (v3 < nI cnt ∧ vp_in v3 L ∧ o = f v3.toNatClampNeg ∧ X0_writePolynomial fu N fq t5 v2 (f v3.toNatClampNeg) = some t6 ∧ X3_pick_80 fu N xq fq t0 t1 t6 v1 v2 (f v3.toNatClampNeg) fu RR 0 = some (o, RR2))
set_option maxRecDepth 20000 in
set_option maxHeartbeats 4000000 in
theorem w_pick_tail {xa fa : Nat → Nat} {ra N : Nat} {xq fp fq r1 r2 r3 r4 r5 : Int32} {ak : Int64} {FA tL : Nat → Option Nat} {RR : Nat → Nat → Int32} {t0 t1 t2 t3 t4 t5 : Nat → Int32} {E : va_W} {fu b a L cnt : Nat} {f t6 : Nat → Int32} {RR2 : Nat → Nat → Int32} {v1 v2 v3 o9 : Int32} {Po : Option Value → va_W → Prop} (C : Cx p s m args meth c G A RX3 cX3_pick 7 (some .int)) (hk : PkOk fu N xq fq RR t0 t1 t5 f v1 v2 v3 L cnt o9 RR2 t6) (hPo : Po (some (.int o9)) (xm G xa FA (fa 0) ra xq ak RR2 ++ ([rcw ra r1 r2 r3 r4 r5] ++ ((lwd G b a L f (nI cnt) ++ E) ++ (fw G fa N fp fq t0 t1 t2 t3 t4 t6 tL))))) : Wd p l e rm_X3_pick s m args below meth c G A 7 513 8186 (QQ G A Po below args s 513 8186) (xm G xa FA (fa 0) ra xq ak RR ++ ([rcw ra r1 r2 r3 r4 r5] ++ ((lwd G b a L f (nI cnt) ++ E) ++ (fw G fa N fp fq t0 t1 t2 t3 t4 t5 tL)))) [(4, .ref b), (0, .ref (xa 0)), (1, .int v1), (2, .int v2), (3, .int v3)] 47 [] := by
  refine w_iload_n C 4 rfl dX3_pick_47 ?_
  refine w_aload C 0 rfl dX3_pick_48 ?_
  refine w_get (v := .int (nI cnt)) C 10 rfl rfl inX1 1 (by decide) fl_X3_166 rfl rfl dX3_pick_50 ?_
  refine w_icmp_lt (tgt := 58) C dX3_pick_53 (by decide) (fun hb => ?_) (fun hb => ?_)
  · rcases hk with ⟨q, _⟩ | ⟨_, hin, ho, hw, hl⟩
    · exact absurd q (Int32.not_le.mpr hb)
    · refine w_aload C 0 rfl dX3_pick_58 ?_
      refine w_get (v := .ref a) C 10 rfl rfl inX1 0 (by decide) fl_X3_171 rfl rfl dX3_pick_60 ?_
      refine w_iload_n C 4 rfl dX3_pick_63 ?_
      refine w_iald C 11 rfl hin dX3_pick_64 ?_
      refine w_istore C (Nat.le_of_ble_eq_true rfl) rfl dX3_pick_65 ?_
      refine w_aload_n C 2 rfl dX3_pick_67 ?_
      refine gt_X3_49 C dX3_pick_68 ?_
      refine w_iload_n C 4 rfl dX3_pick_71 ?_
      refine w_iload C 0 rfl dX3_pick_72 ?_
      refine w_cVv (qc := (RX0, TX0, 9)) C (c_X0_writePolynomial fu hw) pk_X0_writePolynomial ml_X3_174 (As := [.int v2, .int (f v3.toNatClampNeg)]) (rest := []) (k9 := 0) rfl rfl ⟨⟨rfl, rfl⟩, (Nat.le_of_ble_eq_true rfl), (Nat.le_of_ble_eq_true rfl)⟩ rfl ⟨(Nat.le_of_ble_eq_true rfl), (Nat.le_of_ble_eq_true rfl)⟩ (Nat.le_of_ble_eq_true rfl) rfl (asP _ _ _ _) (asP _ _ _ _).symm dX3_pick_74 ?_
      refine w_iconst (v := 0) C dX3_pick_77 (by decide) ?_
      refine w_istore C (Nat.le_of_ble_eq_true rfl) rfl dX3_pick_78 ?_
      refine w_lv [3, 4, 5, 1, 0] rfl ?_
      exact w_post (fun o w q => by obtain ⟨rfl, rfl⟩ := q; exact hPo) (w_X3_pick_80 C _ _ _ hl)
  · rcases hk with ⟨q, rfl, rfl, rfl⟩ | ⟨q, _⟩
    · refine w_iconst (v := (-1)) C dX3_pick_56 (by decide) ?_
      exact w_iret C hPo dX3_pick_57
    · exact absurd q hb
theorem c_X3_pick_some {xa fa : Nat → Nat} {ra N : Nat} {xq fp fq r1 r2 r3 r4 r5 : Int32} {ak : Int64} {FA tL : Nat → Option Nat} {RR : Nat → Nat → Int32} {t0 t1 t2 t3 t4 t5 : Nat → Int32} {E : va_W} {fu d b a L cnt : Nat} {f t6 : Nat → Int32} {RR2 : Nat → Nat → Int32} {v1 v3 x o9 : Int32} (h1 : X3_isMap fu v1 = some 1) (hd : d < 6) (h2 : X3_isListDegree fu (nI d) = some 1) (h3 : ¬ v3 < 0) (hp : X0_polynomials fu N fq (nI d) = some x) (hx : x ≤ 5000) (hb : tL d = some b) (hk : PkOk fu N xq fq RR t0 t1 t5 f v1 (nI d) v3 L cnt o9 RR2 t6) : Ct l yX3_pick cX3_pick 7 (some .int) G rm_X3_pick [.ref (xa 0), .int v1, .int (nI d), .int v3] (xm G xa FA (fa 0) ra xq ak RR ++ ([rcw ra r1 r2 r3 r4 r5] ++ ((lwd G b a L f (nI cnt) ++ E) ++ (fw G fa N fp fq t0 t1 t2 t3 t4 t5 tL)))) (fun o w => o = some (.int o9) ∧ w = (xm G xa FA (fa 0) ra xq ak RR2 ++ ([rcw ra r1 r2 r3 r4 r5] ++ ((lwd G b a L f (nI cnt) ++ E) ++ (fw G fa N fp fq t0 t1 t2 t3 t4 t6 tL))))) 513 8186 := Ct.of (by decide) (Nat.le_of_ble_eq_true rfl) (fun p e s m args below meth c A C _ => by
  show Wd p l e rm_X3_pick s m args below meth c G A 7 0 0 _ _ [(0, .ref (xa 0)), (1, .int v1), (2, .int (nI d)), (3, .int v3)] 0 []
  refine w_pick_pre C h1 h2 h3 hp (fun _ => ?_) (fun q => absurd hx q)
  refine w_aload_n C 0 rfl dX3_pick_37 ?_
  refine gt_X3_49 C dX3_pick_38 ?_
  refine w_iload_n C 2 rfl dX3_pick_41 ?_
  refine w_eqs (asP _ _ _ _) ?_
  refine w_callV (qc := (RX0, TX0, 9)) C (c_X0_listing_some hd hb) pk_X0_listing ml_X3_162 (As := [.int (nI d)]) (rest := []) (k9 := 0) (ci := 0) rfl rfl ⟨⟨rfl, rfl⟩, (Nat.le_of_ble_eq_true rfl), (Nat.le_of_ble_eq_true rfl)⟩ rfl ⟨(Nat.le_of_ble_eq_true rfl), (Nat.le_of_ble_eq_true rfl)⟩ (Nat.le_of_ble_eq_true rfl) rfl dX3_pick_42 (fun o w1 h9 => ?_)
  obtain ⟨rfl, rfl⟩ := h9
  refine w_eqs (asP _ _ _ _).symm ?_
  refine w_astore C (Nat.le_of_ble_eq_true rfl) rfl dX3_pick_45 ?_
  exact w_pick_tail C hk ⟨rfl, rfl⟩)
theorem c_X3_pick_none {xa fa : Nat → Nat} {ra N : Nat} {xq fp fq r1 r2 r3 r4 r5 : Int32} {ak : Int64} {FA tL : Nat → Option Nat} {RR : Nat → Nat → Int32} {t0 t1 t2 t3 t4 t5 : Nat → Int32} {E : va_W} {fu d all : Nat} {sh : Nat → Bool} {v1 v3 : Int32} {Pr : Int32 → (Nat → Nat → Int32) → Prop} (h1 : X3_isMap fu v1 = some 1) (hd : d < 6) (h2 : X3_isListDegree fu (nI d) = some 1) (h3 : ¬ v3 < 0) (hall : all ≤ 4096) (hp : X0_polynomials fu N fq (nI d) = some (nI all)) (hb : tL d = none) (H : Hsh fu N fq t0 t1 d all sh) (hk : ∀ (w : Nat) (f t5 : Nat → Int32), Lok sh all w f → ∃ (o9 : Int32) (RR2 : Nat → Nat → Int32) (t6 : Nat → Int32), Pr o9 RR2 ∧ PkOk fu N xq fq RR t0 t1 t5 f v1 (nI d) v3 (8 * 2 ^ w) (lsh sh all).length o9 RR2 t6) : Ct l yX3_pick cX3_pick 7 (some .int) G rm_X3_pick [.ref (xa 0), .int v1, .int (nI d), .int v3] (xm G xa FA (fa 0) ra xq ak RR ++ ([rcw ra r1 r2 r3 r4 r5] ++ (E ++ (fw G fa N fp fq t0 t1 t2 t3 t4 t5 tL)))) (fun o w9 => ∃ (b a w : Nat) (f t6 : Nat → Int32) (o9 : Int32) (RR2 : Nat → Nat → Int32), o = some (.int o9) ∧ w9 = (xm G xa FA (fa 0) ra xq ak RR2 ++ ([rcw ra r1 r2 r3 r4 r5] ++ (((lwd G b a (8 * 2 ^ w) f (nI (lsh sh all).length)) ++ E) ++ (fw G fa N fp fq t0 t1 t2 t3 t4 t6 ((va_up tL d (some b))))))) ∧ Lok sh all w f ∧ Pr o9 RR2) 513 8186 := Ct.of (by decide) (Nat.le_of_ble_eq_true rfl) (fun p e s m args below meth c A C _ => by
  show Wd p l e rm_X3_pick s m args below meth c G A 7 0 0 _ _ [(0, .ref (xa 0)), (1, .int v1), (2, .int (nI d)), (3, .int v3)] 0 []
  refine w_pick_pre C h1 h2 h3 hp (fun _ => ?_) (fun q => absurd (show nI all ≤ nI 5000 from nI_le (by omega) (by decide)) q)
  refine w_aload_n C 0 rfl dX3_pick_37 ?_
  refine gt_X3_49 C dX3_pick_38 ?_
  refine w_iload_n C 2 rfl dX3_pick_41 ?_
  refine w_eqs (asP _ _ _ _) ?_
  refine w_callV (qc := (RX0, TX0, 9)) C (c_X0_listing_none (sh := sh) hd hb hall hp H) pk_X0_listing ml_X3_162 (As := [.int (nI d)]) (rest := []) (k9 := 0) (ci := 0) rfl rfl ⟨⟨rfl, rfl⟩, (Nat.le_of_ble_eq_true rfl), (Nat.le_of_ble_eq_true rfl)⟩ rfl ⟨(Nat.le_of_ble_eq_true rfl), (Nat.le_of_ble_eq_true rfl)⟩ (Nat.le_of_ble_eq_true rfl) rfl dX3_pick_42 (fun o w1 h9 => ?_)
  obtain ⟨b, a, w, f, t5', rfl, rfl, hL⟩ := h9
  obtain ⟨o9, RR2, t6, hPr, hk⟩ := hk w f t5' hL
  refine w_perm (ws2 := (xm G xa FA (fa 0) ra xq ak RR ++ ([rcw ra r1 r2 r3 r4 r5] ++ (((lwd G b a (8 * 2 ^ w) f (nI (lsh sh all).length)) ++ E) ++ (fw G fa N fp fq t0 t1 t2 t3 t4 t5' ((va_up tL d (some b)))))))) (prP _ _ _ _ _) ?_
  refine w_astore C (Nat.le_of_ble_eq_true rfl) rfl dX3_pick_45 ?_
  exact w_pick_tail C hk ⟨b, a, w, f, t6, o9, RR2, rfl, rfl, hL, hPr⟩)
end
