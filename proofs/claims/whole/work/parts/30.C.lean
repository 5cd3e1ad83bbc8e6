theorem pm_of {α : Type} {a b : List α} (h : ∀ [DecidableEq α] (x : α), List.count x a = List.count x b) : a.Perm b := by
  have D : DecidableEq α := fun x y => Classical.propDecidable (x = y)
  exact List.perm_iff_count.mpr fun x => h x
theorem pm1 (z e m x r f : va_W) : (((z ++ e) ++ m) ++ (x ++ (r ++ f))).Perm ((z ++ m) ++ (x ++ (r ++ (e ++ f)))) := pm_of fun y => by
  simp only [List.count_append]; omega
theorem pm2 (z e m x r f : va_W) : ((z ++ m) ++ (x ++ (r ++ (e ++ f)))).Perm ((z ++ (x ++ (r ++ (e ++ f)))) ++ m) := pm_of fun y => by
  simp only [List.count_append]; omega
theorem pm3 (z e m x r f : va_W) : ((z ++ (x ++ (r ++ (e ++ f)))) ++ m).Perm (((z ++ e) ++ m) ++ (x ++ (r ++ f))) := pm_of fun y => by
  simp only [List.count_append]; omega
theorem pm4 (z e m x r f : va_W) : (((z ++ e) ++ m) ++ (x ++ (r ++ f))).Perm ((((z ++ e) ++ m) ++ (r ++ f)) ++ x) := pm_of fun y => by
  simp only [List.count_append]; omega
theorem pm5 (z e m x r f : va_W) : ((((z ++ e) ++ m) ++ (r ++ f)) ++ x).Perm ((((z ++ e) ++ (x ++ (r ++ f)))) ++ m) := pm_of fun y => by
  simp only [List.count_append]; omega
theorem pm6 (z e m x r f g : va_W) : ((((z ++ e) ++ m) ++ (r ++ f)) ++ (x ++ g)).Perm ((((e ++ f) ++ z) ++ [] ++ (x ++ (r ++ g))) ++ m) := pm_of fun y => by
  simp only [List.count_append, List.count_nil]; omega
theorem pm7 {z z2 e2 f2 : va_W} (e x r f m : va_W) (h : z.Perm ((e2 ++ f2) ++ z2)) : ((((z ++ e) ++ m) ++ (r ++ f)) ++ x).Perm (((((e ++ f) ++ z2) ++ e2) ++ (x ++ (r ++ f2))) ++ m) := pm_of fun y => by
  have := h.count_eq y
  simp only [List.count_append] at this ⊢
  omega
theorem pmE {z e e2 m x r f : va_W} (h : e.Perm e2) : ((z ++ m) ++ (x ++ (r ++ (e ++ f)))).Perm ((z ++ m) ++ (x ++ (r ++ (e2 ++ f)))) := pm_of fun y => by
  have := h.count_eq y
  simp only [List.count_append]
  omega
theorem ZZ.some {G : GG} {FA : Nat → Option Nat} {q : Nat} : ∀ {L : List Nat} {Z : va_W}, q ∈ L → ZZ G FA L Z → FA q ≠ none := fun hm h => by
  obtain ⟨a, _, _, _, h1, _⟩ := ZZ.get hm h
  rw [h1]
  exact fun z => by cases z
theorem lg0 (x : Int64) : lg_cmp x x = 0 := by
  unfold lg_cmp
  simp
set_option maxHeartbeats 2000000 in
set_option maxRecDepth 20000 in
theorem law_trace {p : Program} {l : Launch} {e : Env} {s : State} {m : MethodId} {args : Array Value} {below : List Frame} {meth : Method} {c : Code} {G : GG} {A : Nat → Prop} {cells slots : Nat} {ret9 : Option FieldType} {Q : State → Prop} {b L i x0 m0 : Nat} {xs : Nat → Int32} {ws : va_W} (C : Cx p s m args meth c G A RL cL_law 4 ret9) (hX : va_X b L xs s s.heap) (hbl : b < s.heap.size) (hbA : ¬ A b) (hin : ∀ k, k < 7 → vp_in (nI i + nI k) L) (hc : cells + 513 ≤ room_1.cells) (hsl : slots + 8186 ≤ room_1.slots) (hI : LInv G x0 m0 ws) (kk : ∀ ws2, LInv G x0 m0 ws2 → Wd p l e room_1 s m args below meth c G A 4 (cells + 513) (slots + 8186) Q (ws2) [(3, .int (nI i)), (2, .ref m0), (1, .ref x0), (0, .ref b)] 1096 []) : Wd p l e room_1 s m args below meth c G A 4 cells slots Q (ws) [(3, .int (nI i)), (2, .ref m0), (1, .ref x0), (0, .ref b)] 1082 [] := by
  obtain ⟨q, xa, fa, ma, ra, FA, tL, f, RR, r1, r2, r3, r4, r5, th, ak, t5, su, pr, ms, ro, be, di, Z, E, rfl, rfl, hF, hM, hR, rfl⟩ := hI
  have hs := hF.1
  have hx : X3_trace FU q ak = some ak := rfl
  have ha : X4_trace FU th ak = some (ak, 0) := rfl
  refine w_aload_n (x := xa 0) C 2 rfl dL_law_1082 ?_
  refine w_cVi (k9 := 0) (wr := (Z ++ E) ++ (mw G ma th ak (nI q) (nI (prm q)) su pr ms ro be di)) (ws2 := ((Z ++ E) ++ (mw G ma th ak (nI q) (nI (prm q)) su pr ms ro be di)) ++ (xm G xa FA (fa 0) ra (nI q) ak RR ++ ([rcw ra r1 r2 r3 r4 r5] ++ fw G fa q (nI (prm q)) (nI q) (T0 q) (T1 q) (T2 q) (T3 q) (T4 q) t5 tL))) (v := .long ak) C (c_X3_trace FU hx) pk_X3_trace ml_L_129 rfl rfl ⟨⟨rfl, rfl⟩, Nat.le_of_ble_eq_true rfl, Nat.le_of_ble_eq_true rfl⟩ rfl ⟨Nat.le_trans (Nat.le_add_right _ _) hc, Nat.le_trans (Nat.le_add_right _ _) hsl⟩ (Nat.le_of_ble_eq_true rfl) rfl rfl rfl dL_law_1083 ?_
  refine w_perm (pmA _ _ _) ?_
  refine w_aload_n (x := ma 0) C 1 rfl dL_law_1086 ?_
  refine w_cVi (k9 := 0) (wr := (Z ++ E) ++ (xm G xa FA (fa 0) ra (nI q) ak RR ++ ([rcw ra r1 r2 r3 r4 r5] ++ fw G fa q (nI (prm q)) (nI q) (T0 q) (T1 q) (T2 q) (T3 q) (T4 q) t5 tL))) (ws2 := ((Z ++ E) ++ (xm G xa FA (fa 0) ra (nI q) ak RR ++ ([rcw ra r1 r2 r3 r4 r5] ++ fw G fa q (nI (prm q)) (nI q) (T0 q) (T1 q) (T2 q) (T3 q) (T4 q) t5 tL))) ++ (mw G ma 0 ak (nI q) (nI (prm q)) su pr ms ro be di)) (v := .long ak) (rest := [.long ak]) C (c_X4_trace FU ha) pk_X4_trace ml_L_133 rfl rfl ⟨⟨rfl, rfl⟩, Nat.le_of_ble_eq_true rfl, Nat.le_of_ble_eq_true rfl⟩ rfl ⟨Nat.le_trans (Nat.le_add_right _ _) hc, Nat.le_trans (Nat.le_add_right _ _) hsl⟩ (Nat.le_of_ble_eq_true rfl) rfl rfl rfl dL_law_1087 ?_
  refine w_perm (pmA _ _ _) ?_
  refine w_lcmp C dL_law_1090 ?_
  rw [lg0]
  refine w_if_eq (tgt := 1096) C dL_law_1091 (by decide) (fun _ => ?_) (fun h => absurd rfl h)
  exact w_wide (Nat.le_add_right _ _) (Nat.le_add_right _ _) (kk _ ⟨q, xa, fa, ma, ra, FA, tL, f, RR, r1, r2, r3, r4, r5, 0, ak, t5, su, pr, ms, ro, be, di, Z, E, rfl, rfl, hF, hM, hR, rfl⟩)
set_option maxHeartbeats 2000000 in
set_option maxRecDepth 20000 in
theorem law_many_t {p : Program} {l : Launch} {e : Env} {s : State} {m : MethodId} {args : Array Value} {below : List Frame} {meth : Method} {c : Code} {G : GG} {A : Nat → Prop} {cells slots : Nat} {ret9 : Option FieldType} {Q : State → Prop} {b L i x0 : Nat} {xs : Nat → Int32} (C : Cx p s m args meth c G A RL cL_law 4 ret9) (hX : va_X b L xs s s.heap) (hbl : b < s.heap.size) (hbA : ¬ A b) (hin : ∀ k, k < 7 → vp_in (nI i + nI k) L) (hc : cells + 513 ≤ room_1.cells) (hsl : slots + 8186 ≤ room_1.slots) {q : Nat} {ma : Nat → Nat} {r th : Int32} {ak : Int64} {su pr ms ro be di ro2 : Nat → Int32} {wr : va_W} (ha : X4_many FU th (nI q) su pr ro (xs (nI i + nI 1).toNatClampNeg) = some (r, 0, ro2)) (kk : Wd p l e room_1 s m args below meth c G A 4 (cells + 513) (slots + 8186) Q (wr ++ (mw G ma 0 ak (nI q) (nI (prm q)) su pr ms ro2 be di)) [(3, .int (nI i)), (2, .ref (ma 0)), (1, .ref x0), (0, .ref b)] 1096 []) : Wd p l e room_1 s m args below meth c G A 4 (cells + 513) (slots + 8186) Q (wr ++ (mw G ma th ak (nI q) (nI (prm q)) su pr ms ro be di)) [(3, .int (nI i)), (2, .ref (ma 0)), (1, .ref x0), (0, .ref b)] 1002 [.int r] := by
  refine w_aload_n (x := ma 0) C 1 rfl dL_law_1002 ?_
  refine w_aload_n (x := b) C 3 rfl dL_law_1003 ?_
  refine w_iload_n (x := nI i) C 0 rfl dL_law_1004 ?_
  refine w_iconst (v := nI 1) C dL_law_1005 (by decide) ?_
  refine w_iadd C dL_law_1006 ?_
  refine w_sld C hX hbl hbA (hin 1 (by decide)) dL_law_1007 ?_
  refine w_cVi (k9 := 0) (wr := wr) (ws2 := wr ++ (mw G ma 0 ak (nI q) (nI (prm q)) su pr ms ro2 be di)) (v := .int r) (rest := [.int r]) C (c_X4_many FU ha) pk_X4_many ml_L_120 rfl rfl ⟨⟨rfl, rfl⟩, Nat.le_of_ble_eq_true rfl, Nat.le_of_ble_eq_true rfl⟩ rfl ⟨hc, hsl⟩ (Nat.le_of_ble_eq_true rfl) rfl rfl rfl dL_law_1008 ?_
  exact w_icmp_eq (tgt := 1096) C dL_law_1011 (by decide) (fun _ => kk) (fun h => absurd rfl h)
set_option maxHeartbeats 2000000 in
set_option maxRecDepth 20000 in
theorem law_pick_t {p : Program} {l : Launch} {e : Env} {s : State} {m : MethodId} {args : Array Value} {below : List Frame} {meth : Method} {c : Code} {G : GG} {A : Nat → Prop} {cells slots : Nat} {ret9 : Option FieldType} {Q : State → Prop} {b L i x0 : Nat} {xs : Nat → Int32} (C : Cx p s m args meth c G A RL cL_law 4 ret9) (hX : va_X b L xs s s.heap) (hbl : b < s.heap.size) (hbA : ¬ A b) (hin : ∀ k, k < 7 → vp_in (nI i + nI k) L) (hc : cells + 513 ≤ room_1.cells) (hsl : slots + 8186 ≤ room_1.slots) {q : Nat} {ma : Nat → Nat} {r th : Int32} {ak : Int64} {su pr ms ro be di ms2 ro2 : Nat → Int32} {wr : va_W} (ha : X4_pick FU th (nI q) su pr ms ro (xs (nI i + nI 1).toNatClampNeg) (xs (nI i + nI 2).toNatClampNeg) (xs (nI i + nI 3).toNatClampNeg) = some (r, 0, ms2, ro2)) (kk : Wd p l e room_1 s m args below meth c G A 4 (cells + 513) (slots + 8186) Q (wr ++ (mw G ma 0 ak (nI q) (nI (prm q)) su pr ms2 ro2 be di)) [(3, .int (nI i)), (2, .ref (ma 0)), (1, .ref x0), (0, .ref b)] 1096 []) : Wd p l e room_1 s m args below meth c G A 4 (cells + 513) (slots + 8186) Q (wr ++ (mw G ma th ak (nI q) (nI (prm q)) su pr ms ro be di)) [(3, .int (nI i)), (2, .ref (ma 0)), (1, .ref x0), (0, .ref b)] 1035 [.int r] := by
  refine w_aload_n (x := ma 0) C 1 rfl dL_law_1035 ?_
  refine w_aload_n (x := b) C 3 rfl dL_law_1036 ?_
  refine w_iload_n (x := nI i) C 0 rfl dL_law_1037 ?_
  refine w_iconst (v := nI 1) C dL_law_1038 (by decide) ?_
  refine w_iadd C dL_law_1039 ?_
  refine w_sld C hX hbl hbA (hin 1 (by decide)) dL_law_1040 ?_
  refine w_aload_n (x := b) C 3 rfl dL_law_1041 ?_
  refine w_iload_n (x := nI i) C 0 rfl dL_law_1042 ?_
  refine w_iconst (v := nI 2) C dL_law_1043 (by decide) ?_
  refine w_iadd C dL_law_1044 ?_
  refine w_sld C hX hbl hbA (hin 2 (by decide)) dL_law_1045 ?_
  refine w_aload_n (x := b) C 3 rfl dL_law_1046 ?_
  refine w_iload_n (x := nI i) C 0 rfl dL_law_1047 ?_
  refine w_iconst (v := nI 3) C dL_law_1048 (by decide) ?_
  refine w_iadd C dL_law_1049 ?_
  refine w_sld C hX hbl hbA (hin 3 (by decide)) dL_law_1050 ?_
  refine w_cVi (k9 := 0) (wr := wr) (ws2 := wr ++ (mw G ma 0 ak (nI q) (nI (prm q)) su pr ms2 ro2 be di)) (v := .int r) (rest := [.int r]) C (c_X4_pick FU ha) pk_X4_pick ml_L_124 rfl rfl ⟨⟨rfl, rfl⟩, Nat.le_of_ble_eq_true rfl, Nat.le_of_ble_eq_true rfl⟩ rfl ⟨hc, hsl⟩ (Nat.le_of_ble_eq_true rfl) rfl rfl rfl dL_law_1051 ?_
  exact w_icmp_eq (tgt := 1096) C dL_law_1054 (by decide) (fun _ => kk) (fun h => absurd rfl h)
set_option maxHeartbeats 2000000 in
set_option maxRecDepth 20000 in
theorem law_field_t {p : Program} {l : Launch} {e : Env} {s : State} {m : MethodId} {args : Array Value} {below : List Frame} {meth : Method} {c : Code} {G : GG} {A : Nat → Prop} {cells slots : Nat} {ret9 : Option FieldType} {Q : State → Prop} {b L i x0 : Nat} {xs : Nat → Int32} (C : Cx p s m args meth c G A RL cL_law 4 ret9) (hX : va_X b L xs s s.heap) (hbl : b < s.heap.size) (hbA : ¬ A b) (hin : ∀ k, k < 7 → vp_in (nI i + nI k) L) (hc : cells + 513 ≤ room_1.cells) (hsl : slots + 8186 ≤ room_1.slots) {q : Nat} {ma : Nat → Nat} {r th : Int32} {ak : Int64} {su pr ms ro be di su2 pr2 ms2 di2 : Nat → Int32} {wr : va_W} {q2 : Nat} (ha : X4_field FU th (nI q) (nI (prm q)) su pr ms di (xs (nI i + nI 1).toNatClampNeg) = some (r, 0, nI q2, nI (prm q2), su2, pr2, ms2, di2)) (kk : Wd p l e room_1 s m args below meth c G A 4 (cells + 8) (slots + 821) Q (wr ++ (mw G ma 0 ak (nI q2) (nI (prm q2)) su2 pr2 ms2 ro be di2)) [(3, .int (nI i)), (2, .ref (ma 0)), (1, .ref x0), (0, .ref b)] 1096 []) : Wd p l e room_1 s m args below meth c G A 4 (cells + 8) (slots + 821) Q (wr ++ (mw G ma th ak (nI q) (nI (prm q)) su pr ms ro be di)) [(3, .int (nI i)), (2, .ref (ma 0)), (1, .ref x0), (0, .ref b)] 173 [.int r] := by
  refine w_aload_n (x := ma 0) C 1 rfl dL_law_173 ?_
  refine w_aload_n (x := b) C 3 rfl dL_law_174 ?_
  refine w_iload_n (x := nI i) C 0 rfl dL_law_175 ?_
  refine w_iconst (v := nI 1) C dL_law_176 (by decide) ?_
  refine w_iadd C dL_law_177 ?_
  refine w_sld C hX hbl hbA (hin 1 (by decide)) dL_law_178 ?_
  refine w_cVi (k9 := 0) (wr := wr) (ws2 := wr ++ (mw G ma 0 ak (nI q2) (nI (prm q2)) su2 pr2 ms2 ro be di2)) (v := .int r) (rest := [.int r]) C (c_X4_field FU ha) pk_X4_field ml_L_17 rfl rfl ⟨⟨rfl, rfl⟩, Nat.le_of_ble_eq_true rfl, Nat.le_of_ble_eq_true rfl⟩ rfl ⟨Nat.le_trans (Nat.add_le_add_left (by decide) _) hc, Nat.le_trans (Nat.add_le_add_left (by decide) _) hsl⟩ (Nat.le_of_ble_eq_true rfl) rfl rfl rfl dL_law_179 ?_
  exact w_icmp_eq (tgt := 1096) C dL_law_182 (by decide) (fun _ => kk) (fun h => absurd rfl h)
set_option maxHeartbeats 2000000 in
set_option maxRecDepth 20000 in
theorem law_many {p : Program} {l : Launch} {e : Env} {s : State} {m : MethodId} {args : Array Value} {below : List Frame} {meth : Method} {c : Code} {G : GG} {A : Nat → Prop} {cells slots : Nat} {ret9 : Option FieldType} {Q : State → Prop} {b L i x0 m0 : Nat} {xs : Nat → Int32} {ws : va_W} (C : Cx p s m args meth c G A RL cL_law 4 ret9) (hX : va_X b L xs s s.heap) (hbl : b < s.heap.size) (hbA : ¬ A b) (hin : ∀ k, k < 7 → vp_in (nI i + nI k) L) (hc : cells + 513 ≤ room_1.cells) (hsl : slots + 8186 ≤ room_1.slots) (hI : LInv G x0 m0 ws) (kk : ∀ ws2, LInv G x0 m0 ws2 → Wd p l e room_1 s m args below meth c G A 4 (cells + 513) (slots + 8186) Q (ws2) [(3, .int (nI i)), (2, .ref m0), (1, .ref x0), (0, .ref b)] 1096 []) : Wd p l e room_1 s m args below meth c G A 4 cells slots Q (ws) [(3, .int (nI i)), (2, .ref m0), (1, .ref x0), (0, .ref b)] 993 [] := by
  obtain ⟨q, xa, fa, ma, ra, FA, tL, f, RR, r1, r2, r3, r4, r5, th, ak, t5, su, pr, ms, ro, be, di, Z, E, rfl, rfl, hF, hM, hR, rfl⟩ := hI
  have hs := hF.1
  have hq := sz_2 q hs
  refine w_aload_n (x := xa 0) C 2 rfl dL_law_993 ?_
  refine w_aload_n (x := b) C 3 rfl dL_law_994 ?_
  refine w_iload_n (x := nI i) C 0 rfl dL_law_995 ?_
  refine w_iconst (v := nI 1) C dL_law_996 (by decide) ?_
  refine w_iadd C dL_law_997 ?_
  refine w_sld C hX hbl hbA (hin 1 (by decide)) dL_law_998 ?_
  refine w_perm (pm1 _ _ _ _ _ _) ?_
  rcases R_many (th := th) (ro := ro) hs hM (xs (nI i + nI 1).toNatClampNeg) with ⟨h1, ha⟩ | ⟨x, h1, h2, h3, ha⟩ | ⟨d, ro2, ev, hd1, hd, h1, hall, h5, hp, ha⟩
  · refine w_callV (k9 := 0) (wr := Z ++ (mw G ma th ak (nI q) (nI (prm q)) su pr ms ro be di)) C (c_X3_many_bad (fu := FU) h1) pk_X3_many ml_L_117 rfl rfl ⟨⟨rfl, rfl⟩, Nat.le_of_ble_eq_true rfl, Nat.le_of_ble_eq_true rfl⟩ rfl ⟨hc, hsl⟩ (Nat.le_of_ble_eq_true rfl) rfl dL_law_999 (fun o9 w9 h9 => ?_)
    obtain ⟨rfl, rfl⟩ := h9
    refine w_perm (pm2 _ _ _ _ _ _) ?_
    refine law_many_t C hX hbl hbA hin hc hsl ha ?_
    refine w_perm (pm3 _ _ _ _ _ _) ?_
    exact kk _ ⟨q, xa, fa, ma, ra, FA, tL, f, RR, r1, r2, r3, r4, r5, 0, ak, t5, su, pr, ms, ro, be, di, Z, E, rfl, rfl, hF, hM, hR, rfl⟩
  · refine w_callV (k9 := 0) (wr := Z ++ (mw G ma th ak (nI q) (nI (prm q)) su pr ms ro be di)) C (c_X3_many_full (fu := FU) h1 h2 h3) pk_X3_many ml_L_117 rfl rfl ⟨⟨rfl, rfl⟩, Nat.le_of_ble_eq_true rfl, Nat.le_of_ble_eq_true rfl⟩ rfl ⟨hc, hsl⟩ (Nat.le_of_ble_eq_true rfl) rfl dL_law_999 (fun o9 w9 h9 => ?_)
    obtain ⟨rfl, rfl⟩ := h9
    refine w_perm (pm2 _ _ _ _ _ _) ?_
    refine law_many_t C hX hbl hbA hin hc hsl ha ?_
    refine w_perm (pm3 _ _ _ _ _ _) ?_
    exact kk _ ⟨q, xa, fa, ma, ra, FA, tL, f, RR, r1, r2, r3, r4, r5, 0, ak, t5, su, pr, ms, ro, be, di, Z, E, rfl, rfl, hF, hM, hR, rfl⟩
  · rw [ev]
    rcases hF.2.1 d hd1 hd with hb | ⟨b2, a2, w2, f2, E2, hb, hL, hE⟩
    · refine w_callV (k9 := 0) (wr := Z ++ (mw G ma th ak (nI q) (nI (prm q)) su pr ms ro be di)) C (c_X3_many_none (fu := FU) hd h1 hall hp hb (hsh hs hd1 hd hall)) pk_X3_many ml_L_117 rfl rfl ⟨⟨rfl, rfl⟩, Nat.le_of_ble_eq_true rfl, Nat.le_of_ble_eq_true rfl⟩ rfl ⟨hc, hsl⟩ (Nat.le_of_ble_eq_true rfl) rfl dL_law_999 (fun o9 w9 h9 => ?_)
      obtain ⟨rfl, b2, a2, w2, f2, t6, rfl, hL⟩ := h9
      refine w_perm (pm2 _ _ _ _ _ _) ?_
      refine law_many_t C hX hbl hbA hin hc hsl (by rw [ev]; exact ha) ?_
      refine w_perm (pm3 _ _ _ _ _ _) ?_
      exact kk _ ⟨q, xa, fa, ma, ra, FA, (va_up tL d (some b2)), f, RR, r1, r2, r3, r4, r5, 0, ak, t6, su, pr, ms, ro2, be, di, Z, (lwd G b2 a2 (8 * 2 ^ w2) f2 (nI (lsh (shq q d) (q ^ (d - 1))).length) ++ E), rfl, rfl, ⟨hs, hF.2.1.add hL, hF.2.2⟩, hM, hR, rfl⟩
    · refine w_perm (pmE hE) ?_
      refine w_callV (k9 := 0) (wr := Z ++ (mw G ma th ak (nI q) (nI (prm q)) su pr ms ro be di)) C (c_X3_many_some (fu := FU) hd h1 hp h5 hb) pk_X3_many ml_L_117 rfl rfl ⟨⟨rfl, rfl⟩, Nat.le_of_ble_eq_true rfl, Nat.le_of_ble_eq_true rfl⟩ rfl ⟨hc, hsl⟩ (Nat.le_of_ble_eq_true rfl) rfl dL_law_999 (fun o9 w9 h9 => ?_)
      obtain ⟨rfl, rfl⟩ := h9
      refine w_perm (pmE hE.symm) ?_
      refine w_perm (pm2 _ _ _ _ _ _) ?_
      refine law_many_t C hX hbl hbA hin hc hsl (by rw [ev]; exact ha) ?_
      refine w_perm (pm3 _ _ _ _ _ _) ?_
      exact kk _ ⟨q, xa, fa, ma, ra, FA, tL, f, RR, r1, r2, r3, r4, r5, 0, ak, t5, su, pr, ms, ro2, be, di, Z, E, rfl, rfl, hF, hM, hR, rfl⟩
set_option maxHeartbeats 2000000 in
set_option maxRecDepth 20000 in
theorem law_pick {p : Program} {l : Launch} {e : Env} {s : State} {m : MethodId} {args : Array Value} {below : List Frame} {meth : Method} {c : Code} {G : GG} {A : Nat → Prop} {cells slots : Nat} {ret9 : Option FieldType} {Q : State → Prop} {b L i x0 m0 : Nat} {xs : Nat → Int32} {ws : va_W} (C : Cx p s m args meth c G A RL cL_law 4 ret9) (hX : va_X b L xs s s.heap) (hbl : b < s.heap.size) (hbA : ¬ A b) (hin : ∀ k, k < 7 → vp_in (nI i + nI k) L) (hc : cells + 513 ≤ room_1.cells) (hsl : slots + 8186 ≤ room_1.slots) (hI : LInv G x0 m0 ws) (kk : ∀ ws2, LInv G x0 m0 ws2 → Wd p l e room_1 s m args below meth c G A 4 (cells + 513) (slots + 8186) Q (ws2) [(3, .int (nI i)), (2, .ref m0), (1, .ref x0), (0, .ref b)] 1096 []) : Wd p l e room_1 s m args below meth c G A 4 cells slots Q (ws) [(3, .int (nI i)), (2, .ref m0), (1, .ref x0), (0, .ref b)] 1016 [] := by
  obtain ⟨q, xa, fa, ma, ra, FA, tL, f, RR, r1, r2, r3, r4, r5, th, ak, t5, su, pr, ms, ro, be, di, Z, E, rfl, rfl, hF, hM, hR, rfl⟩ := hI
  have hs := hF.1
  have hq := sz_2 q hs
  refine w_aload_n (x := xa 0) C 2 rfl dL_law_1016 ?_
  refine w_aload_n (x := b) C 3 rfl dL_law_1017 ?_
  refine w_iload_n (x := nI i) C 0 rfl dL_law_1018 ?_
  refine w_iconst (v := nI 1) C dL_law_1019 (by decide) ?_
  refine w_iadd C dL_law_1020 ?_
  refine w_sld C hX hbl hbA (hin 1 (by decide)) dL_law_1021 ?_
  refine w_aload_n (x := b) C 3 rfl dL_law_1022 ?_
  refine w_iload_n (x := nI i) C 0 rfl dL_law_1023 ?_
  refine w_iconst (v := nI 2) C dL_law_1024 (by decide) ?_
  refine w_iadd C dL_law_1025 ?_
  refine w_sld C hX hbl hbA (hin 2 (by decide)) dL_law_1026 ?_
  refine w_aload_n (x := b) C 3 rfl dL_law_1027 ?_
  refine w_iload_n (x := nI i) C 0 rfl dL_law_1028 ?_
  refine w_iconst (v := nI 3) C dL_law_1029 (by decide) ?_
  refine w_iadd C dL_law_1030 ?_
  refine w_sld C hX hbl hbA (hin 3 (by decide)) dL_law_1031 ?_
  refine w_perm (pm1 _ _ _ _ _ _) ?_
  rcases R_pick (th := th) (ro := ro) hs hM hR (xs (nI i + nI 1).toNatClampNeg) (xs (nI i + nI 2).toNatClampNeg) (xs (nI i + nI 3).toNatClampNeg) with ⟨h1, ha⟩ | ⟨x, h1, h2, h3, h4, h5, ha⟩ | ⟨d, r, ms2, ro2, f2, ev, hd1, hd, h1, h2, h3, hall, h5, hp, ha, hk⟩
  · refine w_callV (k9 := 0) (wr := Z ++ (mw G ma th ak (nI q) (nI (prm q)) su pr ms ro be di)) C (c_X3_pick_bad (fu := FU) h1) pk_X3_pick ml_L_121 rfl rfl ⟨⟨rfl, rfl⟩, Nat.le_of_ble_eq_true rfl, Nat.le_of_ble_eq_true rfl⟩ rfl ⟨hc, hsl⟩ (Nat.le_of_ble_eq_true rfl) rfl dL_law_1032 (fun o9 w9 h9 => ?_)
    obtain ⟨rfl, rfl⟩ := h9
    refine w_perm (pm2 _ _ _ _ _ _) ?_
    refine law_pick_t C hX hbl hbA hin hc hsl ha ?_
    refine w_perm (pm3 _ _ _ _ _ _) ?_
    exact kk _ ⟨q, xa, fa, ma, ra, FA, tL, f, RR, r1, r2, r3, r4, r5, 0, ak, t5, su, pr, ms, ro, be, di, Z, E, rfl, rfl, hF, hM, hR, rfl⟩
  · refine w_callV (k9 := 0) (wr := Z ++ (mw G ma th ak (nI q) (nI (prm q)) su pr ms ro be di)) C (c_X3_pick_full (fu := FU) h1 h2 h3 h4 h5) pk_X3_pick ml_L_121 rfl rfl ⟨⟨rfl, rfl⟩, Nat.le_of_ble_eq_true rfl, Nat.le_of_ble_eq_true rfl⟩ rfl ⟨hc, hsl⟩ (Nat.le_of_ble_eq_true rfl) rfl dL_law_1032 (fun o9 w9 h9 => ?_)
    obtain ⟨rfl, rfl⟩ := h9
    refine w_perm (pm2 _ _ _ _ _ _) ?_
    refine law_pick_t C hX hbl hbA hin hc hsl ha ?_
    refine w_perm (pm3 _ _ _ _ _ _) ?_
    exact kk _ ⟨q, xa, fa, ma, ra, FA, tL, f, RR, r1, r2, r3, r4, r5, 0, ak, t5, su, pr, ms, ro, be, di, Z, E, rfl, rfl, hF, hM, hR, rfl⟩
  · rw [ev]
    rcases hF.2.1 d hd1 hd with hb | ⟨b2, a2, w2, f9, E2, hb, hL, hE⟩
    · refine w_callV (k9 := 0) (wr := Z ++ (mw G ma th ak (nI q) (nI (prm q)) su pr ms ro be di)) C (c_X3_pick_none (fu := FU) (Pr := fun o RR2 => o = r ∧ Rel q f2 RR2 ms2) h1 hd h2 h3 hall hp hb (hsh hs hd1 hd hall) (fun w f9 t5 hL => by obtain ⟨RR2, t6, g1, g2⟩ := hk w f9 t5 hL; exact ⟨r, RR2, t6, ⟨rfl, g1⟩, g2⟩)) pk_X3_pick ml_L_121 rfl rfl ⟨⟨rfl, rfl⟩, Nat.le_of_ble_eq_true rfl, Nat.le_of_ble_eq_true rfl⟩ rfl ⟨hc, hsl⟩ (Nat.le_of_ble_eq_true rfl) rfl dL_law_1032 (fun o9 w9 h9 => ?_)
      obtain ⟨b2, a2, w2, f9, t6, o8, RR2, rfl, rfl, hL, rfl, hR2⟩ := h9
      refine w_perm (pm2 _ _ _ _ _ _) ?_
      refine law_pick_t C hX hbl hbA hin hc hsl (by rw [ev]; exact ha) ?_
      refine w_perm (pm3 _ _ _ _ _ _) ?_
      exact kk _ ⟨q, xa, fa, ma, ra, FA, (va_up tL d (some b2)), f2, RR2, r1, r2, r3, r4, r5, 0, ak, t6, su, pr, ms2, ro2, be, di, Z, (lwd G b2 a2 (8 * 2 ^ w2) f9 (nI (lsh (shq q d) (q ^ (d - 1))).length) ++ E), rfl, rfl, ⟨hs, hF.2.1.add hL, hF.2.2⟩, hM, hR2, rfl⟩
    · obtain ⟨RR2, t6, hR2, hk2⟩ := hk w2 f9 t5 hL
      refine w_perm (pmE hE) ?_
      refine w_callV (k9 := 0) (wr := Z ++ (mw G ma th ak (nI q) (nI (prm q)) su pr ms ro be di)) C (c_X3_pick_some (fu := FU) h1 hd h2 h3 hp h5 hb hk2) pk_X3_pick ml_L_121 rfl rfl ⟨⟨rfl, rfl⟩, Nat.le_of_ble_eq_true rfl, Nat.le_of_ble_eq_true rfl⟩ rfl ⟨hc, hsl⟩ (Nat.le_of_ble_eq_true rfl) rfl dL_law_1032 (fun o9 w9 h9 => ?_)
      obtain ⟨rfl, rfl⟩ := h9
      refine w_perm (pmE hE.symm) ?_
      refine w_perm (pm2 _ _ _ _ _ _) ?_
      refine law_pick_t C hX hbl hbA hin hc hsl (by rw [ev]; exact ha) ?_
      refine w_perm (pm3 _ _ _ _ _ _) ?_
      exact kk _ ⟨q, xa, fa, ma, ra, FA, tL, f2, RR2, r1, r2, r3, r4, r5, 0, ak, t6, su, pr, ms2, ro2, be, di, Z, E, rfl, rfl, hF, hM, hR2, rfl⟩
set_option maxHeartbeats 2000000 in
set_option maxRecDepth 20000 in
theorem law_field {p : Program} {l : Launch} {e : Env} {s : State} {m : MethodId} {args : Array Value} {below : List Frame} {meth : Method} {c : Code} {G : GG} {A : Nat → Prop} {cells slots : Nat} {ret9 : Option FieldType} {Q : State → Prop} {b L i x0 m0 : Nat} {xs : Nat → Int32} {ws : va_W} (C : Cx p s m args meth c G A RL cL_law 4 ret9) (hX : va_X b L xs s s.heap) (hbl : b < s.heap.size) (hbA : ¬ A b) (hin : ∀ k, k < 7 → vp_in (nI i + nI k) L) (hc : cells + 513 ≤ room_1.cells) (hsl : slots + 8186 ≤ room_1.slots) (hI : LInv G x0 m0 ws) (kk : ∀ ws2, LInv G x0 m0 ws2 → Wd p l e room_1 s m args below meth c G A 4 (cells + 513) (slots + 8186) Q (ws2) [(3, .int (nI i)), (2, .ref m0), (1, .ref x0), (0, .ref b)] 1096 []) : Wd p l e room_1 s m args below meth c G A 4 cells slots Q (ws) [(3, .int (nI i)), (2, .ref m0), (1, .ref x0), (0, .ref b)] 164 [] := by
  obtain ⟨q, xa, fa, ma, ra, FA, tL, f, RR, r1, r2, r3, r4, r5, th, ak, t5, su, pr, ms, ro, be, di, Z, E, rfl, rfl, hF, hM, hR, rfl⟩ := hI
  have hs := hF.1
  have hq := sz_2 q hs
  refine w_aload_n (x := xa 0) C 2 rfl dL_law_164 ?_
  refine w_aload_n (x := b) C 3 rfl dL_law_165 ?_
  refine w_iload_n (x := nI i) C 0 rfl dL_law_166 ?_
  refine w_iconst (v := nI 1) C dL_law_167 (by decide) ?_
  refine w_iadd C dL_law_168 ?_
  refine w_sld C hX hbl hbA (hin 1 (by decide)) dL_law_169 ?_
  refine w_perm (pm4 _ _ _ _ _ _) ?_
  rcases R_field (th := th) (RR := RR) (su := su) (pr := pr) (ms := ms) (di := di) (kq := nI q) (kp := nI (prm q)) (xs (nI i + nI 1).toNatClampNeg) with ⟨h1, ha⟩ | ⟨q2, RR2, su2, pr2, ms2, di2, hs2, ev, h1, he, ha, hM2, hR2⟩
  · refine w_callV (k9 := 0) (wr := ((Z ++ E) ++ (mw G ma th ak (nI q) (nI (prm q)) su pr ms ro be di)) ++ ([rcw ra r1 r2 r3 r4 r5] ++ fw G fa q (nI (prm q)) (nI q) (T0 q) (T1 q) (T2 q) (T3 q) (T4 q) t5 tL)) C (c_X3_field_bad (fu := FU) (RR2 := RR) h1) pk_X3_field ml_L_13 rfl rfl ⟨⟨rfl, rfl⟩, Nat.le_of_ble_eq_true rfl, Nat.le_of_ble_eq_true rfl⟩ rfl ⟨Nat.le_trans (Nat.add_le_add_left (by decide) _) hc, Nat.le_trans (Nat.add_le_add_left (by decide) _) hsl⟩ (Nat.le_of_ble_eq_true rfl) rfl dL_law_170 (fun o9 w9 h9 => ?_)
    obtain ⟨rfl, rfl⟩ := h9
    refine w_perm (pm5 _ _ _ _ _ _) ?_
    refine law_field_t C hX hbl hbA hin hc hsl ha ?_
    refine w_perm (pmA _ _ _) ?_
    exact w_wide (Nat.add_le_add_left (by decide) _) (Nat.add_le_add_left (by decide) _) (kk _ ⟨q, xa, fa, ma, ra, FA, tL, f, RR, r1, r2, r3, r4, r5, 0, ak, t5, su, pr, ms, ro, be, di, Z, E, rfl, rfl, hF, hM, hR, rfl⟩)
  · rw [ev]
    have hq2 := sz_2 q2 hs2
    obtain ⟨L9, hZ, hN, hcov⟩ := hF.2.2.2
    cases hfa : FA q2 with
    | some a9 =>
      refine w_callV (k9 := 0) (wr := ((Z ++ E) ++ (mw G ma th ak (nI q) (nI (prm q)) su pr ms ro be di)) ++ ([rcw ra r1 r2 r3 r4 r5] ++ fw G fa q (nI (prm q)) (nI q) (T0 q) (T1 q) (T2 q) (T3 q) (T4 q) t5 tL)) C (c_X3_field_ok (fu := FU) (RR2 := RR) (Po := fun w => w = xm G xa FA a9 ra (nI q2) ak RR2) h1 (c_X3_enter_some (fu := FU) hq2.2 hfa he)) pk_X3_field ml_L_13 rfl rfl ⟨⟨rfl, rfl⟩, Nat.le_of_ble_eq_true rfl, Nat.le_of_ble_eq_true rfl⟩ rfl ⟨Nat.le_trans (Nat.add_le_add_left (by decide) _) hc, Nat.le_trans (Nat.add_le_add_left (by decide) _) hsl⟩ (Nat.le_of_ble_eq_true rfl) rfl dL_law_170 (fun o9 w9 h9 => ?_)
      obtain ⟨rfl, rfl⟩ := h9
      by_cases e9 : q2 = q
      · subst e9
        have ea : a9 = fa 0 := Option.some.inj (hfa.symm.trans hF.2.2.1)
        subst ea
        refine w_perm (pm5 _ _ _ _ _ _) ?_
        refine law_field_t C hX hbl hbA hin hc hsl (by rw [ev]; exact ha) ?_
        refine w_perm (pmA _ _ _) ?_
        exact w_wide (Nat.add_le_add_left (by decide) _) (Nat.add_le_add_left (by decide) _) (kk _ ⟨q2, xa, fa, ma, ra, FA, tL, fun _ x => x, RR2, r1, r2, r3, r4, r5, 0, ak, t5, su2, pr2, ms2, ro, be, di2, Z, E, rfl, rfl, hF, hM2, hR2, rfl⟩)
      · have hmem : q2 ∈ L9 := by
          rcases hcov q2 hs2 with z | z | z
          · rw [hfa] at z; cases z
          · exact absurd z e9
          · exact z
        obtain ⟨a8, W8, Z2, L2, g1, ⟨fa2, t52, tL2, E2, g2, g3, rfl⟩, g4, g5, g6⟩ := ZZ.get hmem hZ
        have ea : a9 = fa2 0 := by rw [g2]; exact Option.some.inj (hfa.symm.trans g1)
        subst ea
        refine w_perm (pm7 _ _ _ _ _ g4) ?_
        refine law_field_t C hX hbl hbA hin hc hsl (by rw [ev]; exact ha) ?_
        refine w_perm (pmA _ _ _) ?_
        have hN2 : (q2 :: q :: L2).Nodup := ((List.Perm.cons q g6).trans (List.Perm.swap q2 q L2)).nodup_iff.mp hN
        refine w_wide (Nat.add_le_add_left (by decide) _) (Nat.add_le_add_left (by decide) _) (kk _ ⟨q2, xa, fa2, ma, ra, FA, tL2, fun _ x => x, RR2, r1, r2, r3, r4, r5, 0, ak, t52, su2, pr2, ms2, ro, be, di2, (E ++ fw G fa q (nI (prm q)) (nI q) (T0 q) (T1 q) (T2 q) (T3 q) (T4 q) t5 tL) ++ Z2, E2, rfl, rfl, ⟨hs2, g3, hfa, q :: L2, ⟨fa 0, _, Z2, hF.2.2.1, ⟨fa, t5, tL, E, rfl, hF.2.1, rfl⟩, rfl, g5⟩, hN2, fun k hk => ?_⟩, hM2, hR2, rfl⟩)
        rcases hcov k hk with z | z | z
        · exact Or.inl z
        · exact Or.inr (Or.inr (by rw [z]; exact List.mem_cons_self))
        · rcases List.mem_cons.mp (g6.subset z) with y | y
          · exact Or.inr (Or.inl y)
          · exact Or.inr (Or.inr (List.mem_cons_of_mem _ y))
    | none =>
      refine w_callV (k9 := 0) (wr := ((Z ++ E) ++ (mw G ma th ak (nI q) (nI (prm q)) su pr ms ro be di)) ++ ([rcw ra r1 r2 r3 r4 r5] ++ fw G fa q (nI (prm q)) (nI q) (T0 q) (T1 q) (T2 q) (T3 q) (T4 q) t5 tL)) C (c_X3_field_ok (fu := FU) (RR2 := RR) (Po := fun w => ∃ fa2 : Nat → Nat, w = xm G xa (va_up FA q2 (some (fa2 0))) (fa2 0) ra (nI q2) ak RR2 ++ fw G fa2 q2 (nI (prm q2)) (nI q2) (T0 q2) (T1 q2) (T2 q2) (T3 q2) (T4 q2) (fun _ => 0) (fun _ => none)) h1 (c_X3_enter_none (fu := FU) hq2.1 hq2.2 (fok hs2) hfa he)) pk_X3_field ml_L_13 rfl rfl ⟨⟨rfl, rfl⟩, Nat.le_of_ble_eq_true rfl, Nat.le_of_ble_eq_true rfl⟩ rfl ⟨Nat.le_trans (Nat.add_le_add_left (by decide) _) hc, Nat.le_trans (Nat.add_le_add_left (by decide) _) hsl⟩ (Nat.le_of_ble_eq_true rfl) rfl dL_law_170 (fun o9 w9 h9 => ?_)
      obtain ⟨rfl, fa2, rfl⟩ := h9
      have hne : q ≠ q2 := fun z => by rw [← z, hF.2.2.1] at hfa; cases hfa
      have hnl : q2 ∉ L9 := fun z => ZZ.some z hZ hfa
      refine w_perm (pm6 _ _ _ _ _ _ _) ?_
      refine law_field_t C hX hbl hbA hin hc hsl (by rw [ev]; exact ha) ?_
      refine w_perm (pmA _ _ _) ?_
      refine w_wide (Nat.add_le_add_left (by decide) _) (Nat.add_le_add_left (by decide) _) (kk _ ⟨q2, xa, fa2, ma, ra, va_up FA q2 (some (fa2 0)), fun _ => none, fun _ x => x, RR2, r1, r2, r3, r4, r5, 0, ak, fun _ => 0, su2, pr2, ms2, ro, be, di2, (E ++ fw G fa q (nI (prm q)) (nI q) (T0 q) (T1 q) (T2 q) (T3 q) (T4 q) t5 tL) ++ Z, [], rfl, rfl, ⟨hs2, EOk.nil, vu_s _ _ _, q :: L9, ⟨fa 0, _, Z, by rw [vu_n hne]; exact hF.2.2.1, ⟨fa, t5, tL, E, rfl, hF.2.1, rfl⟩, rfl, ZZ.up hnl hZ⟩, ?_, fun k hk => ?_⟩, hM2, hR2, rfl⟩)
      · refine List.nodup_cons.mpr ⟨fun z => ?_, hN⟩
        rcases List.mem_cons.mp z with y | y
        · exact hne y.symm
        · exact hnl y
      · by_cases e9 : k = q2
        · exact Or.inr (Or.inl e9)
        · rw [vu_n e9]
          rcases hcov k hk with z | z | z
          · exact Or.inl z
          · exact Or.inr (Or.inr (by rw [z]; exact List.mem_cons_self))
          · exact Or.inr (Or.inr (List.mem_cons_of_mem _ z))
