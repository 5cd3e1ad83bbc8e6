set_option maxHeartbeats 2000000 in
set_option maxRecDepth 20000 in
theorem law_plus {p : Program} {l : Launch} {e : Env} {s : State} {m : MethodId} {args : Array Value} {below : List Frame} {meth : Method} {c : Code} {G : GG} {A : Nat → Prop} {cells slots : Nat} {ret9 : Option FieldType} {Q : State → Prop} {b L i x0 m0 : Nat} {xs : Nat → Int32} {ws : va_W} (C : Cx p s m args meth c G A RL cL_law 4 ret9) (hX : va_X b L xs s s.heap) (hbl : b < s.heap.size) (hbA : ¬ A b) (hin : ∀ k, k < 7 → vp_in (nI i + nI k) L) (hc : cells + 513 ≤ room_1.cells) (hsl : slots + 8186 ≤ room_1.slots) (hI : LInv G x0 m0 ws) (kk : ∀ ws2, LInv G x0 m0 ws2 → Wd p l e room_1 s m args below meth c G A 4 (cells + 513) (slots + 8186) Q (ws2) [(3, .int (nI i)), (2, .ref m0), (1, .ref x0), (0, .ref b)] 1096 []) : Wd p l e room_1 s m args below meth c G A 4 cells slots Q (ws) [(3, .int (nI i)), (2, .ref m0), (1, .ref x0), (0, .ref b)] 187 [] := by
  obtain ⟨q, xa, fa, ma, ra, FA, tL, f, RR, r1, r2, r3, r4, r5, th, ak, t5, su, pr, ms, ro, be, di, Z, E, rfl, rfl, hF, hM, hR, rfl⟩ := hI
  have hs := hF.1
  obtain ⟨r, hx, ha⟩ := R_plus (th := th) hs hM (xs (nI i + nI 1).toNatClampNeg) (xs (nI i + nI 2).toNatClampNeg)
  refine w_aload_n (x := xa 0) C 2 rfl dL_law_187 ?_
  refine w_aload_n (x := b) C 3 rfl dL_law_188 ?_
  refine w_iload_n (x := nI i) C 0 rfl dL_law_189 ?_
  refine w_iconst (v := nI 1) C dL_law_190 (by decide) ?_
  refine w_iadd C dL_law_191 ?_
  refine w_sld C hX hbl hbA (hin 1 (by decide)) dL_law_192 ?_
  refine w_aload_n (x := b) C 3 rfl dL_law_193 ?_
  refine w_iload_n (x := nI i) C 0 rfl dL_law_194 ?_
  refine w_iconst (v := nI 2) C dL_law_195 (by decide) ?_
  refine w_iadd C dL_law_196 ?_
  refine w_sld C hX hbl hbA (hin 2 (by decide)) dL_law_197 ?_
  refine w_cVi (k9 := 0) (wr := (Z ++ E) ++ (mw G ma th ak (nI q) (nI (prm q)) su pr ms ro be di)) (ws2 := ((Z ++ E) ++ (mw G ma th ak (nI q) (nI (prm q)) su pr ms ro be di)) ++ (xm G xa FA (fa 0) ra (nI q) ak RR ++ ([rcw ra r1 r2 r3 r4 r5] ++ fw G fa q (nI (prm q)) (nI q) (T0 q) (T1 q) (T2 q) (T3 q) (T4 q) t5 tL))) (v := .int r) C (c_X3_plus FU hx) pk_X3_plus ml_L_18 rfl rfl ⟨⟨rfl, rfl⟩, Nat.le_of_ble_eq_true rfl, Nat.le_of_ble_eq_true rfl⟩ rfl ⟨Nat.le_trans (Nat.le_add_right _ _) hc, Nat.le_trans (Nat.le_add_right _ _) hsl⟩ (Nat.le_of_ble_eq_true rfl) rfl rfl rfl dL_law_198 ?_
  refine w_perm (pmA _ _ _) ?_
  refine w_aload_n (x := ma 0) C 1 rfl dL_law_201 ?_
  refine w_aload_n (x := b) C 3 rfl dL_law_202 ?_
  refine w_iload_n (x := nI i) C 0 rfl dL_law_203 ?_
  refine w_iconst (v := nI 1) C dL_law_204 (by decide) ?_
  refine w_iadd C dL_law_205 ?_
  refine w_sld C hX hbl hbA (hin 1 (by decide)) dL_law_206 ?_
  refine w_aload_n (x := b) C 3 rfl dL_law_207 ?_
  refine w_iload_n (x := nI i) C 0 rfl dL_law_208 ?_
  refine w_iconst (v := nI 2) C dL_law_209 (by decide) ?_
  refine w_iadd C dL_law_210 ?_
  refine w_sld C hX hbl hbA (hin 2 (by decide)) dL_law_211 ?_
  refine w_cVi (k9 := 0) (wr := (Z ++ E) ++ (xm G xa FA (fa 0) ra (nI q) ak RR ++ ([rcw ra r1 r2 r3 r4 r5] ++ fw G fa q (nI (prm q)) (nI q) (T0 q) (T1 q) (T2 q) (T3 q) (T4 q) t5 tL))) (ws2 := ((Z ++ E) ++ (xm G xa FA (fa 0) ra (nI q) ak RR ++ ([rcw ra r1 r2 r3 r4 r5] ++ fw G fa q (nI (prm q)) (nI q) (T0 q) (T1 q) (T2 q) (T3 q) (T4 q) t5 tL))) ++ (mw G ma 0 ak (nI q) (nI (prm q)) su pr ms ro be di)) (v := .int r) (rest := [.int r]) C (c_X4_plus FU ha) pk_X4_plus ml_L_22 rfl rfl ⟨⟨rfl, rfl⟩, Nat.le_of_ble_eq_true rfl, Nat.le_of_ble_eq_true rfl⟩ rfl ⟨Nat.le_trans (Nat.le_add_right _ _) hc, Nat.le_trans (Nat.le_add_right _ _) hsl⟩ (Nat.le_of_ble_eq_true rfl) rfl rfl rfl dL_law_212 ?_
  refine w_perm (pmA _ _ _) ?_
  refine w_icmp_eq (tgt := 1096) C dL_law_215 (by decide) (fun _ => ?_) (fun h => absurd rfl h)
  exact w_wide (Nat.le_add_right _ _) (Nat.le_add_right _ _) (kk _ ⟨q, xa, fa, ma, ra, FA, tL, f, RR, r1, r2, r3, r4, r5, 0, ak, t5, su, pr, ms, ro, be, di, Z, E, rfl, rfl, hF, hM, hR, rfl⟩)
set_option maxHeartbeats 2000000 in
set_option maxRecDepth 20000 in
theorem law_times {p : Program} {l : Launch} {e : Env} {s : State} {m : MethodId} {args : Array Value} {below : List Frame} {meth : Method} {c : Code} {G : GG} {A : Nat → Prop} {cells slots : Nat} {ret9 : Option FieldType} {Q : State → Prop} {b L i x0 m0 : Nat} {xs : Nat → Int32} {ws : va_W} (C : Cx p s m args meth c G A RL cL_law 4 ret9) (hX : va_X b L xs s s.heap) (hbl : b < s.heap.size) (hbA : ¬ A b) (hin : ∀ k, k < 7 → vp_in (nI i + nI k) L) (hc : cells + 513 ≤ room_1.cells) (hsl : slots + 8186 ≤ room_1.slots) (hI : LInv G x0 m0 ws) (kk : ∀ ws2, LInv G x0 m0 ws2 → Wd p l e room_1 s m args below meth c G A 4 (cells + 513) (slots + 8186) Q (ws2) [(3, .int (nI i)), (2, .ref m0), (1, .ref x0), (0, .ref b)] 1096 []) : Wd p l e room_1 s m args below meth c G A 4 cells slots Q (ws) [(3, .int (nI i)), (2, .ref m0), (1, .ref x0), (0, .ref b)] 220 [] := by
  obtain ⟨q, xa, fa, ma, ra, FA, tL, f, RR, r1, r2, r3, r4, r5, th, ak, t5, su, pr, ms, ro, be, di, Z, E, rfl, rfl, hF, hM, hR, rfl⟩ := hI
  have hs := hF.1
  obtain ⟨r, hx, ha⟩ := R_times (th := th) hs hM (xs (nI i + nI 1).toNatClampNeg) (xs (nI i + nI 2).toNatClampNeg)
  refine w_aload_n (x := xa 0) C 2 rfl dL_law_220 ?_
  refine w_aload_n (x := b) C 3 rfl dL_law_221 ?_
  refine w_iload_n (x := nI i) C 0 rfl dL_law_222 ?_
  refine w_iconst (v := nI 1) C dL_law_223 (by decide) ?_
  refine w_iadd C dL_law_224 ?_
  refine w_sld C hX hbl hbA (hin 1 (by decide)) dL_law_225 ?_
  refine w_aload_n (x := b) C 3 rfl dL_law_226 ?_
  refine w_iload_n (x := nI i) C 0 rfl dL_law_227 ?_
  refine w_iconst (v := nI 2) C dL_law_228 (by decide) ?_
  refine w_iadd C dL_law_229 ?_
  refine w_sld C hX hbl hbA (hin 2 (by decide)) dL_law_230 ?_
  refine w_cVi (k9 := 0) (wr := (Z ++ E) ++ (mw G ma th ak (nI q) (nI (prm q)) su pr ms ro be di)) (ws2 := ((Z ++ E) ++ (mw G ma th ak (nI q) (nI (prm q)) su pr ms ro be di)) ++ (xm G xa FA (fa 0) ra (nI q) ak RR ++ ([rcw ra r1 r2 r3 r4 r5] ++ fw G fa q (nI (prm q)) (nI q) (T0 q) (T1 q) (T2 q) (T3 q) (T4 q) t5 tL))) (v := .int r) C (c_X3_times FU hx) pk_X3_times ml_L_23 rfl rfl ⟨⟨rfl, rfl⟩, Nat.le_of_ble_eq_true rfl, Nat.le_of_ble_eq_true rfl⟩ rfl ⟨Nat.le_trans (Nat.le_add_right _ _) hc, Nat.le_trans (Nat.le_add_right _ _) hsl⟩ (Nat.le_of_ble_eq_true rfl) rfl rfl rfl dL_law_231 ?_
  refine w_perm (pmA _ _ _) ?_
  refine w_aload_n (x := ma 0) C 1 rfl dL_law_234 ?_
  refine w_aload_n (x := b) C 3 rfl dL_law_235 ?_
  refine w_iload_n (x := nI i) C 0 rfl dL_law_236 ?_
  refine w_iconst (v := nI 1) C dL_law_237 (by decide) ?_
  refine w_iadd C dL_law_238 ?_
  refine w_sld C hX hbl hbA (hin 1 (by decide)) dL_law_239 ?_
  refine w_aload_n (x := b) C 3 rfl dL_law_240 ?_
  refine w_iload_n (x := nI i) C 0 rfl dL_law_241 ?_
  refine w_iconst (v := nI 2) C dL_law_242 (by decide) ?_
  refine w_iadd C dL_law_243 ?_
  refine w_sld C hX hbl hbA (hin 2 (by decide)) dL_law_244 ?_
  refine w_cVi (k9 := 0) (wr := (Z ++ E) ++ (xm G xa FA (fa 0) ra (nI q) ak RR ++ ([rcw ra r1 r2 r3 r4 r5] ++ fw G fa q (nI (prm q)) (nI q) (T0 q) (T1 q) (T2 q) (T3 q) (T4 q) t5 tL))) (ws2 := ((Z ++ E) ++ (xm G xa FA (fa 0) ra (nI q) ak RR ++ ([rcw ra r1 r2 r3 r4 r5] ++ fw G fa q (nI (prm q)) (nI q) (T0 q) (T1 q) (T2 q) (T3 q) (T4 q) t5 tL))) ++ (mw G ma 0 ak (nI q) (nI (prm q)) su pr ms ro be di)) (v := .int r) (rest := [.int r]) C (c_X4_times FU ha) pk_X4_times ml_L_26 rfl rfl ⟨⟨rfl, rfl⟩, Nat.le_of_ble_eq_true rfl, Nat.le_of_ble_eq_true rfl⟩ rfl ⟨Nat.le_trans (Nat.le_add_right _ _) hc, Nat.le_trans (Nat.le_add_right _ _) hsl⟩ (Nat.le_of_ble_eq_true rfl) rfl rfl rfl dL_law_245 ?_
  refine w_perm (pmA _ _ _) ?_
  refine w_icmp_eq (tgt := 1096) C dL_law_248 (by decide) (fun _ => ?_) (fun h => absurd rfl h)
  exact w_wide (Nat.le_add_right _ _) (Nat.le_add_right _ _) (kk _ ⟨q, xa, fa, ma, ra, FA, tL, f, RR, r1, r2, r3, r4, r5, 0, ak, t5, su, pr, ms, ro, be, di, Z, E, rfl, rfl, hF, hM, hR, rfl⟩)
set_option maxHeartbeats 2000000 in
set_option maxRecDepth 20000 in
theorem law_over {p : Program} {l : Launch} {e : Env} {s : State} {m : MethodId} {args : Array Value} {below : List Frame} {meth : Method} {c : Code} {G : GG} {A : Nat → Prop} {cells slots : Nat} {ret9 : Option FieldType} {Q : State → Prop} {b L i x0 m0 : Nat} {xs : Nat → Int32} {ws : va_W} (C : Cx p s m args meth c G A RL cL_law 4 ret9) (hX : va_X b L xs s s.heap) (hbl : b < s.heap.size) (hbA : ¬ A b) (hin : ∀ k, k < 7 → vp_in (nI i + nI k) L) (hc : cells + 513 ≤ room_1.cells) (hsl : slots + 8186 ≤ room_1.slots) (hI : LInv G x0 m0 ws) (kk : ∀ ws2, LInv G x0 m0 ws2 → Wd p l e room_1 s m args below meth c G A 4 (cells + 513) (slots + 8186) Q (ws2) [(3, .int (nI i)), (2, .ref m0), (1, .ref x0), (0, .ref b)] 1096 []) : Wd p l e room_1 s m args below meth c G A 4 cells slots Q (ws) [(3, .int (nI i)), (2, .ref m0), (1, .ref x0), (0, .ref b)] 253 [] := by
  obtain ⟨q, xa, fa, ma, ra, FA, tL, f, RR, r1, r2, r3, r4, r5, th, ak, t5, su, pr, ms, ro, be, di, Z, E, rfl, rfl, hF, hM, hR, rfl⟩ := hI
  have hs := hF.1
  obtain ⟨r, hx, ha⟩ := R_over (th := th) hs hM (xs (nI i + nI 1).toNatClampNeg)
  refine w_aload_n (x := xa 0) C 2 rfl dL_law_253 ?_
  refine w_aload_n (x := b) C 3 rfl dL_law_254 ?_
  refine w_iload_n (x := nI i) C 0 rfl dL_law_255 ?_
  refine w_iconst (v := nI 1) C dL_law_256 (by decide) ?_
  refine w_iadd C dL_law_257 ?_
  refine w_sld C hX hbl hbA (hin 1 (by decide)) dL_law_258 ?_
  refine w_cVi (k9 := 0) (wr := (Z ++ E) ++ (mw G ma th ak (nI q) (nI (prm q)) su pr ms ro be di)) (ws2 := ((Z ++ E) ++ (mw G ma th ak (nI q) (nI (prm q)) su pr ms ro be di)) ++ (xm G xa FA (fa 0) ra (nI q) ak RR ++ ([rcw ra r1 r2 r3 r4 r5] ++ fw G fa q (nI (prm q)) (nI q) (T0 q) (T1 q) (T2 q) (T3 q) (T4 q) t5 tL))) (v := .int r) C (c_X3_over FU hx) pk_X3_over ml_L_27 rfl rfl ⟨⟨rfl, rfl⟩, Nat.le_of_ble_eq_true rfl, Nat.le_of_ble_eq_true rfl⟩ rfl ⟨Nat.le_trans (Nat.le_add_right _ _) hc, Nat.le_trans (Nat.le_add_right _ _) hsl⟩ (Nat.le_of_ble_eq_true rfl) rfl rfl rfl dL_law_259 ?_
  refine w_perm (pmA _ _ _) ?_
  refine w_aload_n (x := ma 0) C 1 rfl dL_law_262 ?_
  refine w_aload_n (x := b) C 3 rfl dL_law_263 ?_
  refine w_iload_n (x := nI i) C 0 rfl dL_law_264 ?_
  refine w_iconst (v := nI 1) C dL_law_265 (by decide) ?_
  refine w_iadd C dL_law_266 ?_
  refine w_sld C hX hbl hbA (hin 1 (by decide)) dL_law_267 ?_
  refine w_cVi (k9 := 0) (wr := (Z ++ E) ++ (xm G xa FA (fa 0) ra (nI q) ak RR ++ ([rcw ra r1 r2 r3 r4 r5] ++ fw G fa q (nI (prm q)) (nI q) (T0 q) (T1 q) (T2 q) (T3 q) (T4 q) t5 tL))) (ws2 := ((Z ++ E) ++ (xm G xa FA (fa 0) ra (nI q) ak RR ++ ([rcw ra r1 r2 r3 r4 r5] ++ fw G fa q (nI (prm q)) (nI q) (T0 q) (T1 q) (T2 q) (T3 q) (T4 q) t5 tL))) ++ (mw G ma 0 ak (nI q) (nI (prm q)) su pr ms ro be di)) (v := .int r) (rest := [.int r]) C (c_X4_over FU ha) pk_X4_over ml_L_30 rfl rfl ⟨⟨rfl, rfl⟩, Nat.le_of_ble_eq_true rfl, Nat.le_of_ble_eq_true rfl⟩ rfl ⟨Nat.le_trans (Nat.le_add_right _ _) hc, Nat.le_trans (Nat.le_add_right _ _) hsl⟩ (Nat.le_of_ble_eq_true rfl) rfl rfl rfl dL_law_268 ?_
  refine w_perm (pmA _ _ _) ?_
  refine w_icmp_eq (tgt := 1096) C dL_law_271 (by decide) (fun _ => ?_) (fun h => absurd rfl h)
  exact w_wide (Nat.le_add_right _ _) (Nat.le_add_right _ _) (kk _ ⟨q, xa, fa, ma, ra, FA, tL, f, RR, r1, r2, r3, r4, r5, 0, ak, t5, su, pr, ms, ro, be, di, Z, E, rfl, rfl, hF, hM, hR, rfl⟩)
set_option maxHeartbeats 2000000 in
set_option maxRecDepth 20000 in
theorem law_set {p : Program} {l : Launch} {e : Env} {s : State} {m : MethodId} {args : Array Value} {below : List Frame} {meth : Method} {c : Code} {G : GG} {A : Nat → Prop} {cells slots : Nat} {ret9 : Option FieldType} {Q : State → Prop} {b L i x0 m0 : Nat} {xs : Nat → Int32} {ws : va_W} (C : Cx p s m args meth c G A RL cL_law 4 ret9) (hX : va_X b L xs s s.heap) (hbl : b < s.heap.size) (hbA : ¬ A b) (hin : ∀ k, k < 7 → vp_in (nI i + nI k) L) (hc : cells + 513 ≤ room_1.cells) (hsl : slots + 8186 ≤ room_1.slots) (hI : LInv G x0 m0 ws) (kk : ∀ ws2, LInv G x0 m0 ws2 → Wd p l e room_1 s m args below meth c G A 4 (cells + 513) (slots + 8186) Q (ws2) [(3, .int (nI i)), (2, .ref m0), (1, .ref x0), (0, .ref b)] 1096 []) : Wd p l e room_1 s m args below meth c G A 4 cells slots Q (ws) [(3, .int (nI i)), (2, .ref m0), (1, .ref x0), (0, .ref b)] 276 [] := by
  obtain ⟨q, xa, fa, ma, ra, FA, tL, f, RR, r1, r2, r3, r4, r5, th, ak, t5, su, pr, ms, ro, be, di, Z, E, rfl, rfl, hF, hM, hR, rfl⟩ := hI
  have hs := hF.1
  obtain ⟨r, RR2, ms2, f2, hx, ha, hR2⟩ := R_set (th := th) hs hR (xs (nI i + nI 1).toNatClampNeg) (xs (nI i + nI 2).toNatClampNeg) (xs (nI i + nI 3).toNatClampNeg)
  refine w_aload_n (x := xa 0) C 2 rfl dL_law_276 ?_
  refine w_aload_n (x := b) C 3 rfl dL_law_277 ?_
  refine w_iload_n (x := nI i) C 0 rfl dL_law_278 ?_
  refine w_iconst (v := nI 1) C dL_law_279 (by decide) ?_
  refine w_iadd C dL_law_280 ?_
  refine w_sld C hX hbl hbA (hin 1 (by decide)) dL_law_281 ?_
  refine w_aload_n (x := b) C 3 rfl dL_law_282 ?_
  refine w_iload_n (x := nI i) C 0 rfl dL_law_283 ?_
  refine w_iconst (v := nI 2) C dL_law_284 (by decide) ?_
  refine w_iadd C dL_law_285 ?_
  refine w_sld C hX hbl hbA (hin 2 (by decide)) dL_law_286 ?_
  refine w_aload_n (x := b) C 3 rfl dL_law_287 ?_
  refine w_iload_n (x := nI i) C 0 rfl dL_law_288 ?_
  refine w_iconst (v := nI 3) C dL_law_289 (by decide) ?_
  refine w_iadd C dL_law_290 ?_
  refine w_sld C hX hbl hbA (hin 3 (by decide)) dL_law_291 ?_
  refine w_cVi (k9 := 0) (wr := (Z ++ E) ++ (mw G ma th ak (nI q) (nI (prm q)) su pr ms ro be di)) (ws2 := ((Z ++ E) ++ (mw G ma th ak (nI q) (nI (prm q)) su pr ms ro be di)) ++ (xm G xa FA (fa 0) ra (nI q) ak RR2 ++ ([rcw ra r1 r2 r3 r4 r5] ++ fw G fa q (nI (prm q)) (nI q) (T0 q) (T1 q) (T2 q) (T3 q) (T4 q) t5 tL))) (v := .int r) C (c_X3_set FU hx) pk_X3_set ml_L_31 rfl rfl ⟨⟨rfl, rfl⟩, Nat.le_of_ble_eq_true rfl, Nat.le_of_ble_eq_true rfl⟩ rfl ⟨Nat.le_trans (Nat.le_add_right _ _) hc, Nat.le_trans (Nat.le_add_right _ _) hsl⟩ (Nat.le_of_ble_eq_true rfl) rfl rfl rfl dL_law_292 ?_
  refine w_perm (pmA _ _ _) ?_
  refine w_aload_n (x := ma 0) C 1 rfl dL_law_295 ?_
  refine w_aload_n (x := b) C 3 rfl dL_law_296 ?_
  refine w_iload_n (x := nI i) C 0 rfl dL_law_297 ?_
  refine w_iconst (v := nI 1) C dL_law_298 (by decide) ?_
  refine w_iadd C dL_law_299 ?_
  refine w_sld C hX hbl hbA (hin 1 (by decide)) dL_law_300 ?_
  refine w_aload_n (x := b) C 3 rfl dL_law_301 ?_
  refine w_iload_n (x := nI i) C 0 rfl dL_law_302 ?_
  refine w_iconst (v := nI 2) C dL_law_303 (by decide) ?_
  refine w_iadd C dL_law_304 ?_
  refine w_sld C hX hbl hbA (hin 2 (by decide)) dL_law_305 ?_
  refine w_aload_n (x := b) C 3 rfl dL_law_306 ?_
  refine w_iload_n (x := nI i) C 0 rfl dL_law_307 ?_
  refine w_iconst (v := nI 3) C dL_law_308 (by decide) ?_
  refine w_iadd C dL_law_309 ?_
  refine w_sld C hX hbl hbA (hin 3 (by decide)) dL_law_310 ?_
  refine w_cVi (k9 := 0) (wr := (Z ++ E) ++ (xm G xa FA (fa 0) ra (nI q) ak RR2 ++ ([rcw ra r1 r2 r3 r4 r5] ++ fw G fa q (nI (prm q)) (nI q) (T0 q) (T1 q) (T2 q) (T3 q) (T4 q) t5 tL))) (ws2 := ((Z ++ E) ++ (xm G xa FA (fa 0) ra (nI q) ak RR2 ++ ([rcw ra r1 r2 r3 r4 r5] ++ fw G fa q (nI (prm q)) (nI q) (T0 q) (T1 q) (T2 q) (T3 q) (T4 q) t5 tL))) ++ (mw G ma 0 ak (nI q) (nI (prm q)) su pr ms2 ro be di)) (v := .int r) (rest := [.int r]) C (c_X4_set FU ha) pk_X4_set ml_L_35 rfl rfl ⟨⟨rfl, rfl⟩, Nat.le_of_ble_eq_true rfl, Nat.le_of_ble_eq_true rfl⟩ rfl ⟨Nat.le_trans (Nat.le_add_right _ _) hc, Nat.le_trans (Nat.le_add_right _ _) hsl⟩ (Nat.le_of_ble_eq_true rfl) rfl rfl rfl dL_law_311 ?_
  refine w_perm (pmA _ _ _) ?_
  refine w_icmp_eq (tgt := 1096) C dL_law_314 (by decide) (fun _ => ?_) (fun h => absurd rfl h)
  exact w_wide (Nat.le_add_right _ _) (Nat.le_add_right _ _) (kk _ ⟨q, xa, fa, ma, ra, FA, tL, f2, RR2, r1, r2, r3, r4, r5, 0, ak, t5, su, pr, ms2, ro, be, di, Z, E, rfl, rfl, hF, hM, hR2, rfl⟩)
set_option maxHeartbeats 2000000 in
set_option maxRecDepth 20000 in
theorem law_at {p : Program} {l : Launch} {e : Env} {s : State} {m : MethodId} {args : Array Value} {below : List Frame} {meth : Method} {c : Code} {G : GG} {A : Nat → Prop} {cells slots : Nat} {ret9 : Option FieldType} {Q : State → Prop} {b L i x0 m0 : Nat} {xs : Nat → Int32} {ws : va_W} (C : Cx p s m args meth c G A RL cL_law 4 ret9) (hX : va_X b L xs s s.heap) (hbl : b < s.heap.size) (hbA : ¬ A b) (hin : ∀ k, k < 7 → vp_in (nI i + nI k) L) (hc : cells + 513 ≤ room_1.cells) (hsl : slots + 8186 ≤ room_1.slots) (hI : LInv G x0 m0 ws) (kk : ∀ ws2, LInv G x0 m0 ws2 → Wd p l e room_1 s m args below meth c G A 4 (cells + 513) (slots + 8186) Q (ws2) [(3, .int (nI i)), (2, .ref m0), (1, .ref x0), (0, .ref b)] 1096 []) : Wd p l e room_1 s m args below meth c G A 4 cells slots Q (ws) [(3, .int (nI i)), (2, .ref m0), (1, .ref x0), (0, .ref b)] 319 [] := by
  obtain ⟨q, xa, fa, ma, ra, FA, tL, f, RR, r1, r2, r3, r4, r5, th, ak, t5, su, pr, ms, ro, be, di, Z, E, rfl, rfl, hF, hM, hR, rfl⟩ := hI
  have hs := hF.1
  obtain ⟨r, hx, ha⟩ := R_at (th := th) hs hR (xs (nI i + nI 1).toNatClampNeg) (xs (nI i + nI 2).toNatClampNeg)
  refine w_aload_n (x := xa 0) C 2 rfl dL_law_319 ?_
  refine w_aload_n (x := b) C 3 rfl dL_law_320 ?_
  refine w_iload_n (x := nI i) C 0 rfl dL_law_321 ?_
  refine w_iconst (v := nI 1) C dL_law_322 (by decide) ?_
  refine w_iadd C dL_law_323 ?_
  refine w_sld C hX hbl hbA (hin 1 (by decide)) dL_law_324 ?_
  refine w_aload_n (x := b) C 3 rfl dL_law_325 ?_
  refine w_iload_n (x := nI i) C 0 rfl dL_law_326 ?_
  refine w_iconst (v := nI 2) C dL_law_327 (by decide) ?_
  refine w_iadd C dL_law_328 ?_
  refine w_sld C hX hbl hbA (hin 2 (by decide)) dL_law_329 ?_
  refine w_cVi (k9 := 0) (wr := (Z ++ E) ++ (mw G ma th ak (nI q) (nI (prm q)) su pr ms ro be di)) (ws2 := ((Z ++ E) ++ (mw G ma th ak (nI q) (nI (prm q)) su pr ms ro be di)) ++ (xm G xa FA (fa 0) ra (nI q) ak RR ++ ([rcw ra r1 r2 r3 r4 r5] ++ fw G fa q (nI (prm q)) (nI q) (T0 q) (T1 q) (T2 q) (T3 q) (T4 q) t5 tL))) (v := .int r) C (c_X3_at FU hx) pk_X3_at ml_L_36 rfl rfl ⟨⟨rfl, rfl⟩, Nat.le_of_ble_eq_true rfl, Nat.le_of_ble_eq_true rfl⟩ rfl ⟨Nat.le_trans (Nat.le_add_right _ _) hc, Nat.le_trans (Nat.le_add_right _ _) hsl⟩ (Nat.le_of_ble_eq_true rfl) rfl rfl rfl dL_law_330 ?_
  refine w_perm (pmA _ _ _) ?_
  refine w_aload_n (x := ma 0) C 1 rfl dL_law_333 ?_
  refine w_aload_n (x := b) C 3 rfl dL_law_334 ?_
  refine w_iload_n (x := nI i) C 0 rfl dL_law_335 ?_
  refine w_iconst (v := nI 1) C dL_law_336 (by decide) ?_
  refine w_iadd C dL_law_337 ?_
  refine w_sld C hX hbl hbA (hin 1 (by decide)) dL_law_338 ?_
  refine w_aload_n (x := b) C 3 rfl dL_law_339 ?_
  refine w_iload_n (x := nI i) C 0 rfl dL_law_340 ?_
  refine w_iconst (v := nI 2) C dL_law_341 (by decide) ?_
  refine w_iadd C dL_law_342 ?_
  refine w_sld C hX hbl hbA (hin 2 (by decide)) dL_law_343 ?_
  refine w_cVi (k9 := 0) (wr := (Z ++ E) ++ (xm G xa FA (fa 0) ra (nI q) ak RR ++ ([rcw ra r1 r2 r3 r4 r5] ++ fw G fa q (nI (prm q)) (nI q) (T0 q) (T1 q) (T2 q) (T3 q) (T4 q) t5 tL))) (ws2 := ((Z ++ E) ++ (xm G xa FA (fa 0) ra (nI q) ak RR ++ ([rcw ra r1 r2 r3 r4 r5] ++ fw G fa q (nI (prm q)) (nI q) (T0 q) (T1 q) (T2 q) (T3 q) (T4 q) t5 tL))) ++ (mw G ma 0 ak (nI q) (nI (prm q)) su pr ms ro be di)) (v := .int r) (rest := [.int r]) C (c_X4_at FU ha) pk_X4_at ml_L_39 rfl rfl ⟨⟨rfl, rfl⟩, Nat.le_of_ble_eq_true rfl, Nat.le_of_ble_eq_true rfl⟩ rfl ⟨Nat.le_trans (Nat.le_add_right _ _) hc, Nat.le_trans (Nat.le_add_right _ _) hsl⟩ (Nat.le_of_ble_eq_true rfl) rfl rfl rfl dL_law_344 ?_
  refine w_perm (pmA _ _ _) ?_
  refine w_icmp_eq (tgt := 1096) C dL_law_347 (by decide) (fun _ => ?_) (fun h => absurd rfl h)
  exact w_wide (Nat.le_add_right _ _) (Nat.le_add_right _ _) (kk _ ⟨q, xa, fa, ma, ra, FA, tL, f, RR, r1, r2, r3, r4, r5, 0, ak, t5, su, pr, ms, ro, be, di, Z, E, rfl, rfl, hF, hM, hR, rfl⟩)
set_option maxHeartbeats 2000000 in
set_option maxRecDepth 20000 in
theorem law_coefficient {p : Program} {l : Launch} {e : Env} {s : State} {m : MethodId} {args : Array Value} {below : List Frame} {meth : Method} {c : Code} {G : GG} {A : Nat → Prop} {cells slots : Nat} {ret9 : Option FieldType} {Q : State → Prop} {b L i x0 m0 : Nat} {xs : Nat → Int32} {ws : va_W} (C : Cx p s m args meth c G A RL cL_law 4 ret9) (hX : va_X b L xs s s.heap) (hbl : b < s.heap.size) (hbA : ¬ A b) (hin : ∀ k, k < 7 → vp_in (nI i + nI k) L) (hc : cells + 513 ≤ room_1.cells) (hsl : slots + 8186 ≤ room_1.slots) (hI : LInv G x0 m0 ws) (kk : ∀ ws2, LInv G x0 m0 ws2 → Wd p l e room_1 s m args below meth c G A 4 (cells + 513) (slots + 8186) Q (ws2) [(3, .int (nI i)), (2, .ref m0), (1, .ref x0), (0, .ref b)] 1096 []) : Wd p l e room_1 s m args below meth c G A 4 cells slots Q (ws) [(3, .int (nI i)), (2, .ref m0), (1, .ref x0), (0, .ref b)] 352 [] := by
  obtain ⟨q, xa, fa, ma, ra, FA, tL, f, RR, r1, r2, r3, r4, r5, th, ak, t5, su, pr, ms, ro, be, di, Z, E, rfl, rfl, hF, hM, hR, rfl⟩ := hI
  have hs := hF.1
  obtain ⟨r, hx, ha⟩ := R_coefficient (th := th) hs hM hR (xs (nI i + nI 1).toNatClampNeg) (xs (nI i + nI 2).toNatClampNeg)
  refine w_aload_n (x := xa 0) C 2 rfl dL_law_352 ?_
  refine w_aload_n (x := b) C 3 rfl dL_law_353 ?_
  refine w_iload_n (x := nI i) C 0 rfl dL_law_354 ?_
  refine w_iconst (v := nI 1) C dL_law_355 (by decide) ?_
  refine w_iadd C dL_law_356 ?_
  refine w_sld C hX hbl hbA (hin 1 (by decide)) dL_law_357 ?_
  refine w_aload_n (x := b) C 3 rfl dL_law_358 ?_
  refine w_iload_n (x := nI i) C 0 rfl dL_law_359 ?_
  refine w_iconst (v := nI 2) C dL_law_360 (by decide) ?_
  refine w_iadd C dL_law_361 ?_
  refine w_sld C hX hbl hbA (hin 2 (by decide)) dL_law_362 ?_
  refine w_cVi (k9 := 0) (wr := (Z ++ E) ++ (mw G ma th ak (nI q) (nI (prm q)) su pr ms ro be di)) (ws2 := ((Z ++ E) ++ (mw G ma th ak (nI q) (nI (prm q)) su pr ms ro be di)) ++ (xm G xa FA (fa 0) ra (nI q) ak RR ++ ([rcw ra r1 r2 r3 r4 r5] ++ fw G fa q (nI (prm q)) (nI q) (T0 q) (T1 q) (T2 q) (T3 q) (T4 q) t5 tL))) (v := .int r) C (c_X3_coefficient FU hx) pk_X3_coefficient ml_L_40 rfl rfl ⟨⟨rfl, rfl⟩, Nat.le_of_ble_eq_true rfl, Nat.le_of_ble_eq_true rfl⟩ rfl ⟨Nat.le_trans (Nat.le_add_right _ _) hc, Nat.le_trans (Nat.le_add_right _ _) hsl⟩ (Nat.le_of_ble_eq_true rfl) rfl rfl rfl dL_law_363 ?_
  refine w_perm (pmA _ _ _) ?_
  refine w_aload_n (x := ma 0) C 1 rfl dL_law_366 ?_
  refine w_aload_n (x := b) C 3 rfl dL_law_367 ?_
  refine w_iload_n (x := nI i) C 0 rfl dL_law_368 ?_
  refine w_iconst (v := nI 1) C dL_law_369 (by decide) ?_
  refine w_iadd C dL_law_370 ?_
  refine w_sld C hX hbl hbA (hin 1 (by decide)) dL_law_371 ?_
  refine w_aload_n (x := b) C 3 rfl dL_law_372 ?_
  refine w_iload_n (x := nI i) C 0 rfl dL_law_373 ?_
  refine w_iconst (v := nI 2) C dL_law_374 (by decide) ?_
  refine w_iadd C dL_law_375 ?_
  refine w_sld C hX hbl hbA (hin 2 (by decide)) dL_law_376 ?_
  refine w_cVi (k9 := 0) (wr := (Z ++ E) ++ (xm G xa FA (fa 0) ra (nI q) ak RR ++ ([rcw ra r1 r2 r3 r4 r5] ++ fw G fa q (nI (prm q)) (nI q) (T0 q) (T1 q) (T2 q) (T3 q) (T4 q) t5 tL))) (ws2 := ((Z ++ E) ++ (xm G xa FA (fa 0) ra (nI q) ak RR ++ ([rcw ra r1 r2 r3 r4 r5] ++ fw G fa q (nI (prm q)) (nI q) (T0 q) (T1 q) (T2 q) (T3 q) (T4 q) t5 tL))) ++ (mw G ma 0 ak (nI q) (nI (prm q)) su pr ms ro be di)) (v := .int r) (rest := [.int r]) C (c_X4_coefficient FU ha) pk_X4_coefficient ml_L_43 rfl rfl ⟨⟨rfl, rfl⟩, Nat.le_of_ble_eq_true rfl, Nat.le_of_ble_eq_true rfl⟩ rfl ⟨Nat.le_trans (Nat.le_add_right _ _) hc, Nat.le_trans (Nat.le_add_right _ _) hsl⟩ (Nat.le_of_ble_eq_true rfl) rfl rfl rfl dL_law_377 ?_
  refine w_perm (pmA _ _ _) ?_
  refine w_icmp_eq (tgt := 1096) C dL_law_380 (by decide) (fun _ => ?_) (fun h => absurd rfl h)
  exact w_wide (Nat.le_add_right _ _) (Nat.le_add_right _ _) (kk _ ⟨q, xa, fa, ma, ra, FA, tL, f, RR, r1, r2, r3, r4, r5, 0, ak, t5, su, pr, ms, ro, be, di, Z, E, rfl, rfl, hF, hM, hR, rfl⟩)
set_option maxHeartbeats 2000000 in
set_option maxRecDepth 20000 in
theorem law_change {p : Program} {l : Launch} {e : Env} {s : State} {m : MethodId} {args : Array Value} {below : List Frame} {meth : Method} {c : Code} {G : GG} {A : Nat → Prop} {cells slots : Nat} {ret9 : Option FieldType} {Q : State → Prop} {b L i x0 m0 : Nat} {xs : Nat → Int32} {ws : va_W} (C : Cx p s m args meth c G A RL cL_law 4 ret9) (hX : va_X b L xs s s.heap) (hbl : b < s.heap.size) (hbA : ¬ A b) (hin : ∀ k, k < 7 → vp_in (nI i + nI k) L) (hc : cells + 513 ≤ room_1.cells) (hsl : slots + 8186 ≤ room_1.slots) (hI : LInv G x0 m0 ws) (kk : ∀ ws2, LInv G x0 m0 ws2 → Wd p l e room_1 s m args below meth c G A 4 (cells + 513) (slots + 8186) Q (ws2) [(3, .int (nI i)), (2, .ref m0), (1, .ref x0), (0, .ref b)] 1096 []) : Wd p l e room_1 s m args below meth c G A 4 cells slots Q (ws) [(3, .int (nI i)), (2, .ref m0), (1, .ref x0), (0, .ref b)] 385 [] := by
  obtain ⟨q, xa, fa, ma, ra, FA, tL, f, RR, r1, r2, r3, r4, r5, th, ak, t5, su, pr, ms, ro, be, di, Z, E, rfl, rfl, hF, hM, hR, rfl⟩ := hI
  have hs := hF.1
  obtain ⟨r, RR2, ms2, f2, hx, ha, hR2⟩ := R_change (th := th) hs hM hR (xs (nI i + nI 1).toNatClampNeg) (xs (nI i + nI 2).toNatClampNeg) (xs (nI i + nI 3).toNatClampNeg)
  refine w_aload_n (x := xa 0) C 2 rfl dL_law_385 ?_
  refine w_aload_n (x := b) C 3 rfl dL_law_386 ?_
  refine w_iload_n (x := nI i) C 0 rfl dL_law_387 ?_
  refine w_iconst (v := nI 1) C dL_law_388 (by decide) ?_
  refine w_iadd C dL_law_389 ?_
  refine w_sld C hX hbl hbA (hin 1 (by decide)) dL_law_390 ?_
  refine w_aload_n (x := b) C 3 rfl dL_law_391 ?_
  refine w_iload_n (x := nI i) C 0 rfl dL_law_392 ?_
  refine w_iconst (v := nI 2) C dL_law_393 (by decide) ?_
  refine w_iadd C dL_law_394 ?_
  refine w_sld C hX hbl hbA (hin 2 (by decide)) dL_law_395 ?_
  refine w_aload_n (x := b) C 3 rfl dL_law_396 ?_
  refine w_iload_n (x := nI i) C 0 rfl dL_law_397 ?_
  refine w_iconst (v := nI 3) C dL_law_398 (by decide) ?_
  refine w_iadd C dL_law_399 ?_
  refine w_sld C hX hbl hbA (hin 3 (by decide)) dL_law_400 ?_
  refine w_cVi (k9 := 0) (wr := (Z ++ E) ++ (mw G ma th ak (nI q) (nI (prm q)) su pr ms ro be di)) (ws2 := ((Z ++ E) ++ (mw G ma th ak (nI q) (nI (prm q)) su pr ms ro be di)) ++ (xm G xa FA (fa 0) ra (nI q) ak RR2 ++ ([rcw ra r1 r2 r3 r4 r5] ++ fw G fa q (nI (prm q)) (nI q) (T0 q) (T1 q) (T2 q) (T3 q) (T4 q) t5 tL))) (v := .int r) C (c_X3_change FU hx) pk_X3_change ml_L_44 rfl rfl ⟨⟨rfl, rfl⟩, Nat.le_of_ble_eq_true rfl, Nat.le_of_ble_eq_true rfl⟩ rfl ⟨Nat.le_trans (Nat.le_add_right _ _) hc, Nat.le_trans (Nat.le_add_right _ _) hsl⟩ (Nat.le_of_ble_eq_true rfl) rfl rfl rfl dL_law_401 ?_
  refine w_perm (pmA _ _ _) ?_
  refine w_aload_n (x := ma 0) C 1 rfl dL_law_404 ?_
  refine w_aload_n (x := b) C 3 rfl dL_law_405 ?_
  refine w_iload_n (x := nI i) C 0 rfl dL_law_406 ?_
  refine w_iconst (v := nI 1) C dL_law_407 (by decide) ?_
  refine w_iadd C dL_law_408 ?_
  refine w_sld C hX hbl hbA (hin 1 (by decide)) dL_law_409 ?_
  refine w_aload_n (x := b) C 3 rfl dL_law_410 ?_
  refine w_iload_n (x := nI i) C 0 rfl dL_law_411 ?_
  refine w_iconst (v := nI 2) C dL_law_412 (by decide) ?_
  refine w_iadd C dL_law_413 ?_
  refine w_sld C hX hbl hbA (hin 2 (by decide)) dL_law_414 ?_
  refine w_aload_n (x := b) C 3 rfl dL_law_415 ?_
  refine w_iload_n (x := nI i) C 0 rfl dL_law_416 ?_
  refine w_iconst (v := nI 3) C dL_law_417 (by decide) ?_
  refine w_iadd C dL_law_418 ?_
  refine w_sld C hX hbl hbA (hin 3 (by decide)) dL_law_419 ?_
  refine w_cVi (k9 := 0) (wr := (Z ++ E) ++ (xm G xa FA (fa 0) ra (nI q) ak RR2 ++ ([rcw ra r1 r2 r3 r4 r5] ++ fw G fa q (nI (prm q)) (nI q) (T0 q) (T1 q) (T2 q) (T3 q) (T4 q) t5 tL))) (ws2 := ((Z ++ E) ++ (xm G xa FA (fa 0) ra (nI q) ak RR2 ++ ([rcw ra r1 r2 r3 r4 r5] ++ fw G fa q (nI (prm q)) (nI q) (T0 q) (T1 q) (T2 q) (T3 q) (T4 q) t5 tL))) ++ (mw G ma 0 ak (nI q) (nI (prm q)) su pr ms2 ro be di)) (v := .int r) (rest := [.int r]) C (c_X4_change FU ha) pk_X4_change ml_L_47 rfl rfl ⟨⟨rfl, rfl⟩, Nat.le_of_ble_eq_true rfl, Nat.le_of_ble_eq_true rfl⟩ rfl ⟨Nat.le_trans (Nat.le_add_right _ _) hc, Nat.le_trans (Nat.le_add_right _ _) hsl⟩ (Nat.le_of_ble_eq_true rfl) rfl rfl rfl dL_law_420 ?_
  refine w_perm (pmA _ _ _) ?_
  refine w_icmp_eq (tgt := 1096) C dL_law_423 (by decide) (fun _ => ?_) (fun h => absurd rfl h)
  exact w_wide (Nat.le_add_right _ _) (Nat.le_add_right _ _) (kk _ ⟨q, xa, fa, ma, ra, FA, tL, f2, RR2, r1, r2, r3, r4, r5, 0, ak, t5, su, pr, ms2, ro, be, di, Z, E, rfl, rfl, hF, hM, hR2, rfl⟩)
set_option maxHeartbeats 2000000 in
set_option maxRecDepth 20000 in
theorem law_degree {p : Program} {l : Launch} {e : Env} {s : State} {m : MethodId} {args : Array Value} {below : List Frame} {meth : Method} {c : Code} {G : GG} {A : Nat → Prop} {cells slots : Nat} {ret9 : Option FieldType} {Q : State → Prop} {b L i x0 m0 : Nat} {xs : Nat → Int32} {ws : va_W} (C : Cx p s m args meth c G A RL cL_law 4 ret9) (hX : va_X b L xs s s.heap) (hbl : b < s.heap.size) (hbA : ¬ A b) (hin : ∀ k, k < 7 → vp_in (nI i + nI k) L) (hc : cells + 513 ≤ room_1.cells) (hsl : slots + 8186 ≤ room_1.slots) (hI : LInv G x0 m0 ws) (kk : ∀ ws2, LInv G x0 m0 ws2 → Wd p l e room_1 s m args below meth c G A 4 (cells + 513) (slots + 8186) Q (ws2) [(3, .int (nI i)), (2, .ref m0), (1, .ref x0), (0, .ref b)] 1096 []) : Wd p l e room_1 s m args below meth c G A 4 cells slots Q (ws) [(3, .int (nI i)), (2, .ref m0), (1, .ref x0), (0, .ref b)] 428 [] := by
  obtain ⟨q, xa, fa, ma, ra, FA, tL, f, RR, r1, r2, r3, r4, r5, th, ak, t5, su, pr, ms, ro, be, di, Z, E, rfl, rfl, hF, hM, hR, rfl⟩ := hI
  have hs := hF.1
  obtain ⟨r, hx, ha⟩ := R_degree (th := th) hs hM hR (xs (nI i + nI 1).toNatClampNeg)
  refine w_aload_n (x := xa 0) C 2 rfl dL_law_428 ?_
  refine w_aload_n (x := b) C 3 rfl dL_law_429 ?_
  refine w_iload_n (x := nI i) C 0 rfl dL_law_430 ?_
  refine w_iconst (v := nI 1) C dL_law_431 (by decide) ?_
  refine w_iadd C dL_law_432 ?_
  refine w_sld C hX hbl hbA (hin 1 (by decide)) dL_law_433 ?_
  refine w_cVi (k9 := 0) (wr := (Z ++ E) ++ (mw G ma th ak (nI q) (nI (prm q)) su pr ms ro be di)) (ws2 := ((Z ++ E) ++ (mw G ma th ak (nI q) (nI (prm q)) su pr ms ro be di)) ++ (xm G xa FA (fa 0) ra (nI q) ak RR ++ ([rcw ra r1 r2 r3 r4 r5] ++ fw G fa q (nI (prm q)) (nI q) (T0 q) (T1 q) (T2 q) (T3 q) (T4 q) t5 tL))) (v := .int r) C (c_X3_degree FU hx) pk_X3_degree ml_L_48 rfl rfl ⟨⟨rfl, rfl⟩, Nat.le_of_ble_eq_true rfl, Nat.le_of_ble_eq_true rfl⟩ rfl ⟨Nat.le_trans (Nat.le_add_right _ _) hc, Nat.le_trans (Nat.le_add_right _ _) hsl⟩ (Nat.le_of_ble_eq_true rfl) rfl rfl rfl dL_law_434 ?_
  refine w_perm (pmA _ _ _) ?_
  refine w_aload_n (x := ma 0) C 1 rfl dL_law_437 ?_
  refine w_aload_n (x := b) C 3 rfl dL_law_438 ?_
  refine w_iload_n (x := nI i) C 0 rfl dL_law_439 ?_
  refine w_iconst (v := nI 1) C dL_law_440 (by decide) ?_
  refine w_iadd C dL_law_441 ?_
  refine w_sld C hX hbl hbA (hin 1 (by decide)) dL_law_442 ?_
  refine w_cVi (k9 := 0) (wr := (Z ++ E) ++ (xm G xa FA (fa 0) ra (nI q) ak RR ++ ([rcw ra r1 r2 r3 r4 r5] ++ fw G fa q (nI (prm q)) (nI q) (T0 q) (T1 q) (T2 q) (T3 q) (T4 q) t5 tL))) (ws2 := ((Z ++ E) ++ (xm G xa FA (fa 0) ra (nI q) ak RR ++ ([rcw ra r1 r2 r3 r4 r5] ++ fw G fa q (nI (prm q)) (nI q) (T0 q) (T1 q) (T2 q) (T3 q) (T4 q) t5 tL))) ++ (mw G ma 0 ak (nI q) (nI (prm q)) su pr ms ro be di)) (v := .int r) (rest := [.int r]) C (c_X4_degree FU ha) pk_X4_degree ml_L_51 rfl rfl ⟨⟨rfl, rfl⟩, Nat.le_of_ble_eq_true rfl, Nat.le_of_ble_eq_true rfl⟩ rfl ⟨Nat.le_trans (Nat.le_add_right _ _) hc, Nat.le_trans (Nat.le_add_right _ _) hsl⟩ (Nat.le_of_ble_eq_true rfl) rfl rfl rfl dL_law_443 ?_
  refine w_perm (pmA _ _ _) ?_
  refine w_icmp_eq (tgt := 1096) C dL_law_446 (by decide) (fun _ => ?_) (fun h => absurd rfl h)
  exact w_wide (Nat.le_add_right _ _) (Nat.le_add_right _ _) (kk _ ⟨q, xa, fa, ma, ra, FA, tL, f, RR, r1, r2, r3, r4, r5, 0, ak, t5, su, pr, ms, ro, be, di, Z, E, rfl, rfl, hF, hM, hR, rfl⟩)
set_option maxHeartbeats 2000000 in
set_option maxRecDepth 20000 in
theorem law_make {p : Program} {l : Launch} {e : Env} {s : State} {m : MethodId} {args : Array Value} {below : List Frame} {meth : Method} {c : Code} {G : GG} {A : Nat → Prop} {cells slots : Nat} {ret9 : Option FieldType} {Q : State → Prop} {b L i x0 m0 : Nat} {xs : Nat → Int32} {ws : va_W} (C : Cx p s m args meth c G A RL cL_law 4 ret9) (hX : va_X b L xs s s.heap) (hbl : b < s.heap.size) (hbA : ¬ A b) (hin : ∀ k, k < 7 → vp_in (nI i + nI k) L) (hc : cells + 513 ≤ room_1.cells) (hsl : slots + 8186 ≤ room_1.slots) (hI : LInv G x0 m0 ws) (kk : ∀ ws2, LInv G x0 m0 ws2 → Wd p l e room_1 s m args below meth c G A 4 (cells + 513) (slots + 8186) Q (ws2) [(3, .int (nI i)), (2, .ref m0), (1, .ref x0), (0, .ref b)] 1096 []) : Wd p l e room_1 s m args below meth c G A 4 cells slots Q (ws) [(3, .int (nI i)), (2, .ref m0), (1, .ref x0), (0, .ref b)] 451 [] := by
  obtain ⟨q, xa, fa, ma, ra, FA, tL, f, RR, r1, r2, r3, r4, r5, th, ak, t5, su, pr, ms, ro, be, di, Z, E, rfl, rfl, hF, hM, hR, rfl⟩ := hI
  have hs := hF.1
  obtain ⟨r, RR2, s1, s2, s3, s4, s5, ms2, f2, hx, ha, hR2⟩ := R_make (th := th) (r1 := r1) (r2 := r2) (r3 := r3) (r4 := r4) (r5 := r5) hs hM hR (xs (nI i + nI 1).toNatClampNeg) (xs (nI i + nI 2).toNatClampNeg) (xs (nI i + nI 3).toNatClampNeg) (xs (nI i + nI 4).toNatClampNeg) (xs (nI i + nI 5).toNatClampNeg) (xs (nI i + nI 6).toNatClampNeg)
  refine w_aload_n (x := xa 0) C 2 rfl dL_law_451 ?_
  refine w_aload_n (x := b) C 3 rfl dL_law_452 ?_
  refine w_iload_n (x := nI i) C 0 rfl dL_law_453 ?_
  refine w_iconst (v := nI 1) C dL_law_454 (by decide) ?_
  refine w_iadd C dL_law_455 ?_
  refine w_sld C hX hbl hbA (hin 1 (by decide)) dL_law_456 ?_
  refine w_aload_n (x := b) C 3 rfl dL_law_457 ?_
  refine w_iload_n (x := nI i) C 0 rfl dL_law_458 ?_
  refine w_iconst (v := nI 2) C dL_law_459 (by decide) ?_
  refine w_iadd C dL_law_460 ?_
  refine w_sld C hX hbl hbA (hin 2 (by decide)) dL_law_461 ?_
  refine w_aload_n (x := b) C 3 rfl dL_law_462 ?_
  refine w_iload_n (x := nI i) C 0 rfl dL_law_463 ?_
  refine w_iconst (v := nI 3) C dL_law_464 (by decide) ?_
  refine w_iadd C dL_law_465 ?_
  refine w_sld C hX hbl hbA (hin 3 (by decide)) dL_law_466 ?_
  refine w_aload_n (x := b) C 3 rfl dL_law_467 ?_
  refine w_iload_n (x := nI i) C 0 rfl dL_law_468 ?_
  refine w_iconst (v := nI 4) C dL_law_469 (by decide) ?_
  refine w_iadd C dL_law_470 ?_
  refine w_sld C hX hbl hbA (hin 4 (by decide)) dL_law_471 ?_
  refine w_aload_n (x := b) C 3 rfl dL_law_472 ?_
  refine w_iload_n (x := nI i) C 0 rfl dL_law_473 ?_
  refine w_iconst (v := nI 5) C dL_law_474 (by decide) ?_
  refine w_iadd C dL_law_475 ?_
  refine w_sld C hX hbl hbA (hin 5 (by decide)) dL_law_476 ?_
  refine w_aload_n (x := b) C 3 rfl dL_law_477 ?_
  refine w_iload_n (x := nI i) C 0 rfl dL_law_478 ?_
  refine w_bipush (v := nI 6) C dL_law_479 (by decide) ?_
  refine w_iadd C dL_law_481 ?_
  refine w_sld C hX hbl hbA (hin 6 (by decide)) dL_law_482 ?_
  refine w_cVi (k9 := 0) (wr := (Z ++ E) ++ (mw G ma th ak (nI q) (nI (prm q)) su pr ms ro be di)) (ws2 := ((Z ++ E) ++ (mw G ma th ak (nI q) (nI (prm q)) su pr ms ro be di)) ++ (xm G xa FA (fa 0) ra (nI q) ak RR2 ++ ([rcw ra s1 s2 s3 s4 s5] ++ fw G fa q (nI (prm q)) (nI q) (T0 q) (T1 q) (T2 q) (T3 q) (T4 q) t5 tL))) (v := .int r) C (c_X3_make FU hx) pk_X3_make ml_L_52 rfl rfl ⟨⟨rfl, rfl⟩, Nat.le_of_ble_eq_true rfl, Nat.le_of_ble_eq_true rfl⟩ rfl ⟨Nat.le_trans (Nat.le_add_right _ _) hc, Nat.le_trans (Nat.le_add_right _ _) hsl⟩ (Nat.le_of_ble_eq_true rfl) rfl rfl rfl dL_law_483 ?_
  refine w_perm (pmA _ _ _) ?_
  refine w_aload_n (x := ma 0) C 1 rfl dL_law_486 ?_
  refine w_aload_n (x := b) C 3 rfl dL_law_487 ?_
  refine w_iload_n (x := nI i) C 0 rfl dL_law_488 ?_
  refine w_iconst (v := nI 1) C dL_law_489 (by decide) ?_
  refine w_iadd C dL_law_490 ?_
  refine w_sld C hX hbl hbA (hin 1 (by decide)) dL_law_491 ?_
  refine w_aload_n (x := b) C 3 rfl dL_law_492 ?_
  refine w_iload_n (x := nI i) C 0 rfl dL_law_493 ?_
  refine w_iconst (v := nI 2) C dL_law_494 (by decide) ?_
  refine w_iadd C dL_law_495 ?_
  refine w_sld C hX hbl hbA (hin 2 (by decide)) dL_law_496 ?_
  refine w_aload_n (x := b) C 3 rfl dL_law_497 ?_
  refine w_iload_n (x := nI i) C 0 rfl dL_law_498 ?_
  refine w_iconst (v := nI 3) C dL_law_499 (by decide) ?_
  refine w_iadd C dL_law_500 ?_
  refine w_sld C hX hbl hbA (hin 3 (by decide)) dL_law_501 ?_
  refine w_aload_n (x := b) C 3 rfl dL_law_502 ?_
  refine w_iload_n (x := nI i) C 0 rfl dL_law_503 ?_
  refine w_iconst (v := nI 4) C dL_law_504 (by decide) ?_
  refine w_iadd C dL_law_505 ?_
  refine w_sld C hX hbl hbA (hin 4 (by decide)) dL_law_506 ?_
  refine w_aload_n (x := b) C 3 rfl dL_law_507 ?_
  refine w_iload_n (x := nI i) C 0 rfl dL_law_508 ?_
  refine w_iconst (v := nI 5) C dL_law_509 (by decide) ?_
  refine w_iadd C dL_law_510 ?_
  refine w_sld C hX hbl hbA (hin 5 (by decide)) dL_law_511 ?_
  refine w_aload_n (x := b) C 3 rfl dL_law_512 ?_
  refine w_iload_n (x := nI i) C 0 rfl dL_law_513 ?_
  refine w_bipush (v := nI 6) C dL_law_514 (by decide) ?_
  refine w_iadd C dL_law_516 ?_
  refine w_sld C hX hbl hbA (hin 6 (by decide)) dL_law_517 ?_
  refine w_cVi (k9 := 0) (wr := (Z ++ E) ++ (xm G xa FA (fa 0) ra (nI q) ak RR2 ++ ([rcw ra s1 s2 s3 s4 s5] ++ fw G fa q (nI (prm q)) (nI q) (T0 q) (T1 q) (T2 q) (T3 q) (T4 q) t5 tL))) (ws2 := ((Z ++ E) ++ (xm G xa FA (fa 0) ra (nI q) ak RR2 ++ ([rcw ra s1 s2 s3 s4 s5] ++ fw G fa q (nI (prm q)) (nI q) (T0 q) (T1 q) (T2 q) (T3 q) (T4 q) t5 tL))) ++ (mw G ma 0 ak (nI q) (nI (prm q)) su pr ms2 ro be di)) (v := .int r) (rest := [.int r]) C (c_X4_make FU ha) pk_X4_make ml_L_56 rfl rfl ⟨⟨rfl, rfl⟩, Nat.le_of_ble_eq_true rfl, Nat.le_of_ble_eq_true rfl⟩ rfl ⟨Nat.le_trans (Nat.le_add_right _ _) hc, Nat.le_trans (Nat.le_add_right _ _) hsl⟩ (Nat.le_of_ble_eq_true rfl) rfl rfl rfl dL_law_518 ?_
  refine w_perm (pmA _ _ _) ?_
  refine w_icmp_eq (tgt := 1096) C dL_law_521 (by decide) (fun _ => ?_) (fun h => absurd rfl h)
  exact w_wide (Nat.le_add_right _ _) (Nat.le_add_right _ _) (kk _ ⟨q, xa, fa, ma, ra, FA, tL, f2, RR2, s1, s2, s3, s4, s5, 0, ak, t5, su, pr, ms2, ro, be, di, Z, E, rfl, rfl, hF, hM, hR2, rfl⟩)
set_option maxHeartbeats 2000000 in
set_option maxRecDepth 20000 in
theorem law_taste {p : Program} {l : Launch} {e : Env} {s : State} {m : MethodId} {args : Array Value} {below : List Frame} {meth : Method} {c : Code} {G : GG} {A : Nat → Prop} {cells slots : Nat} {ret9 : Option FieldType} {Q : State → Prop} {b L i x0 m0 : Nat} {xs : Nat → Int32} {ws : va_W} (C : Cx p s m args meth c G A RL cL_law 4 ret9) (hX : va_X b L xs s s.heap) (hbl : b < s.heap.size) (hbA : ¬ A b) (hin : ∀ k, k < 7 → vp_in (nI i + nI k) L) (hc : cells + 513 ≤ room_1.cells) (hsl : slots + 8186 ≤ room_1.slots) (hI : LInv G x0 m0 ws) (kk : ∀ ws2, LInv G x0 m0 ws2 → Wd p l e room_1 s m args below meth c G A 4 (cells + 513) (slots + 8186) Q (ws2) [(3, .int (nI i)), (2, .ref m0), (1, .ref x0), (0, .ref b)] 1096 []) : Wd p l e room_1 s m args below meth c G A 4 cells slots Q (ws) [(3, .int (nI i)), (2, .ref m0), (1, .ref x0), (0, .ref b)] 526 [] := by
  obtain ⟨q, xa, fa, ma, ra, FA, tL, f, RR, r1, r2, r3, r4, r5, th, ak, t5, su, pr, ms, ro, be, di, Z, E, rfl, rfl, hF, hM, hR, rfl⟩ := hI
  have hs := hF.1
  obtain ⟨r, ak2, s1, s2, s3, s4, s5, hx, ha⟩ := R_taste (th := th) (ak := ak) (r1 := r1) (r2 := r2) (r3 := r3) (r4 := r4) (r5 := r5) hs hM (xs (nI i + nI 1).toNatClampNeg) (xs (nI i + nI 2).toNatClampNeg) (xs (nI i + nI 3).toNatClampNeg) (xs (nI i + nI 4).toNatClampNeg) (xs (nI i + nI 5).toNatClampNeg) (xs (nI i + nI 6).toNatClampNeg)
  refine w_aload_n (x := xa 0) C 2 rfl dL_law_526 ?_
  refine w_aload_n (x := b) C 3 rfl dL_law_527 ?_
  refine w_iload_n (x := nI i) C 0 rfl dL_law_528 ?_
  refine w_iconst (v := nI 1) C dL_law_529 (by decide) ?_
  refine w_iadd C dL_law_530 ?_
  refine w_sld C hX hbl hbA (hin 1 (by decide)) dL_law_531 ?_
  refine w_aload_n (x := b) C 3 rfl dL_law_532 ?_
  refine w_iload_n (x := nI i) C 0 rfl dL_law_533 ?_
  refine w_iconst (v := nI 2) C dL_law_534 (by decide) ?_
  refine w_iadd C dL_law_535 ?_
  refine w_sld C hX hbl hbA (hin 2 (by decide)) dL_law_536 ?_
  refine w_aload_n (x := b) C 3 rfl dL_law_537 ?_
  refine w_iload_n (x := nI i) C 0 rfl dL_law_538 ?_
  refine w_iconst (v := nI 3) C dL_law_539 (by decide) ?_
  refine w_iadd C dL_law_540 ?_
  refine w_sld C hX hbl hbA (hin 3 (by decide)) dL_law_541 ?_
  refine w_aload_n (x := b) C 3 rfl dL_law_542 ?_
  refine w_iload_n (x := nI i) C 0 rfl dL_law_543 ?_
  refine w_iconst (v := nI 4) C dL_law_544 (by decide) ?_
  refine w_iadd C dL_law_545 ?_
  refine w_sld C hX hbl hbA (hin 4 (by decide)) dL_law_546 ?_
  refine w_aload_n (x := b) C 3 rfl dL_law_547 ?_
  refine w_iload_n (x := nI i) C 0 rfl dL_law_548 ?_
  refine w_iconst (v := nI 5) C dL_law_549 (by decide) ?_
  refine w_iadd C dL_law_550 ?_
  refine w_sld C hX hbl hbA (hin 5 (by decide)) dL_law_551 ?_
  refine w_aload_n (x := b) C 3 rfl dL_law_552 ?_
  refine w_iload_n (x := nI i) C 0 rfl dL_law_553 ?_
  refine w_bipush (v := nI 6) C dL_law_554 (by decide) ?_
  refine w_iadd C dL_law_556 ?_
  refine w_sld C hX hbl hbA (hin 6 (by decide)) dL_law_557 ?_
  refine w_cVi (k9 := 0) (wr := (Z ++ E) ++ (mw G ma th ak (nI q) (nI (prm q)) su pr ms ro be di)) (ws2 := ((Z ++ E) ++ (mw G ma th ak (nI q) (nI (prm q)) su pr ms ro be di)) ++ (xm G xa FA (fa 0) ra (nI q) ak2 RR ++ ([rcw ra s1 s2 s3 s4 s5] ++ fw G fa q (nI (prm q)) (nI q) (T0 q) (T1 q) (T2 q) (T3 q) (T4 q) t5 tL))) (v := .int r) C (c_X3_taste FU hx) pk_X3_taste ml_L_57 rfl rfl ⟨⟨rfl, rfl⟩, Nat.le_of_ble_eq_true rfl, Nat.le_of_ble_eq_true rfl⟩ rfl ⟨Nat.le_trans (Nat.le_add_right _ _) hc, Nat.le_trans (Nat.le_add_right _ _) hsl⟩ (Nat.le_of_ble_eq_true rfl) rfl rfl rfl dL_law_558 ?_
  refine w_perm (pmA _ _ _) ?_
  refine w_aload_n (x := ma 0) C 1 rfl dL_law_561 ?_
  refine w_aload_n (x := b) C 3 rfl dL_law_562 ?_
  refine w_iload_n (x := nI i) C 0 rfl dL_law_563 ?_
  refine w_iconst (v := nI 1) C dL_law_564 (by decide) ?_
  refine w_iadd C dL_law_565 ?_
  refine w_sld C hX hbl hbA (hin 1 (by decide)) dL_law_566 ?_
  refine w_aload_n (x := b) C 3 rfl dL_law_567 ?_
  refine w_iload_n (x := nI i) C 0 rfl dL_law_568 ?_
  refine w_iconst (v := nI 2) C dL_law_569 (by decide) ?_
  refine w_iadd C dL_law_570 ?_
  refine w_sld C hX hbl hbA (hin 2 (by decide)) dL_law_571 ?_
  refine w_aload_n (x := b) C 3 rfl dL_law_572 ?_
  refine w_iload_n (x := nI i) C 0 rfl dL_law_573 ?_
  refine w_iconst (v := nI 3) C dL_law_574 (by decide) ?_
  refine w_iadd C dL_law_575 ?_
  refine w_sld C hX hbl hbA (hin 3 (by decide)) dL_law_576 ?_
  refine w_aload_n (x := b) C 3 rfl dL_law_577 ?_
  refine w_iload_n (x := nI i) C 0 rfl dL_law_578 ?_
  refine w_iconst (v := nI 4) C dL_law_579 (by decide) ?_
  refine w_iadd C dL_law_580 ?_
  refine w_sld C hX hbl hbA (hin 4 (by decide)) dL_law_581 ?_
  refine w_aload_n (x := b) C 3 rfl dL_law_582 ?_
  refine w_iload_n (x := nI i) C 0 rfl dL_law_583 ?_
  refine w_iconst (v := nI 5) C dL_law_584 (by decide) ?_
  refine w_iadd C dL_law_585 ?_
  refine w_sld C hX hbl hbA (hin 5 (by decide)) dL_law_586 ?_
  refine w_aload_n (x := b) C 3 rfl dL_law_587 ?_
  refine w_iload_n (x := nI i) C 0 rfl dL_law_588 ?_
  refine w_bipush (v := nI 6) C dL_law_589 (by decide) ?_
  refine w_iadd C dL_law_591 ?_
  refine w_sld C hX hbl hbA (hin 6 (by decide)) dL_law_592 ?_
  refine w_cVi (k9 := 0) (wr := (Z ++ E) ++ (xm G xa FA (fa 0) ra (nI q) ak2 RR ++ ([rcw ra s1 s2 s3 s4 s5] ++ fw G fa q (nI (prm q)) (nI q) (T0 q) (T1 q) (T2 q) (T3 q) (T4 q) t5 tL))) (ws2 := ((Z ++ E) ++ (xm G xa FA (fa 0) ra (nI q) ak2 RR ++ ([rcw ra s1 s2 s3 s4 s5] ++ fw G fa q (nI (prm q)) (nI q) (T0 q) (T1 q) (T2 q) (T3 q) (T4 q) t5 tL))) ++ (mw G ma 0 ak2 (nI q) (nI (prm q)) su pr ms ro be di)) (v := .int r) (rest := [.int r]) C (c_X4_taste FU ha) pk_X4_taste ml_L_60 rfl rfl ⟨⟨rfl, rfl⟩, Nat.le_of_ble_eq_true rfl, Nat.le_of_ble_eq_true rfl⟩ rfl ⟨Nat.le_trans (Nat.le_add_right _ _) hc, Nat.le_trans (Nat.le_add_right _ _) hsl⟩ (Nat.le_of_ble_eq_true rfl) rfl rfl rfl dL_law_593 ?_
  refine w_perm (pmA _ _ _) ?_
  refine w_icmp_eq (tgt := 1096) C dL_law_596 (by decide) (fun _ => ?_) (fun h => absurd rfl h)
  exact w_wide (Nat.le_add_right _ _) (Nat.le_add_right _ _) (kk _ ⟨q, xa, fa, ma, ra, FA, tL, f, RR, s1, s2, s3, s4, s5, 0, ak2, t5, su, pr, ms, ro, be, di, Z, E, rfl, rfl, hF, hM, hR, rfl⟩)
set_option maxHeartbeats 2000000 in
set_option maxRecDepth 20000 in
theorem law_chain {p : Program} {l : Launch} {e : Env} {s : State} {m : MethodId} {args : Array Value} {below : List Frame} {meth : Method} {c : Code} {G : GG} {A : Nat → Prop} {cells slots : Nat} {ret9 : Option FieldType} {Q : State → Prop} {b L i x0 m0 : Nat} {xs : Nat → Int32} {ws : va_W} (C : Cx p s m args meth c G A RL cL_law 4 ret9) (hX : va_X b L xs s s.heap) (hbl : b < s.heap.size) (hbA : ¬ A b) (hin : ∀ k, k < 7 → vp_in (nI i + nI k) L) (hc : cells + 513 ≤ room_1.cells) (hsl : slots + 8186 ≤ room_1.slots) (hI : LInv G x0 m0 ws) (kk : ∀ ws2, LInv G x0 m0 ws2 → Wd p l e room_1 s m args below meth c G A 4 (cells + 513) (slots + 8186) Q (ws2) [(3, .int (nI i)), (2, .ref m0), (1, .ref x0), (0, .ref b)] 1096 []) : Wd p l e room_1 s m args below meth c G A 4 cells slots Q (ws) [(3, .int (nI i)), (2, .ref m0), (1, .ref x0), (0, .ref b)] 601 [] := by
  obtain ⟨q, xa, fa, ma, ra, FA, tL, f, RR, r1, r2, r3, r4, r5, th, ak, t5, su, pr, ms, ro, be, di, Z, E, rfl, rfl, hF, hM, hR, rfl⟩ := hI
  have hs := hF.1
  obtain ⟨r, RR2, ms2, ro2, f2, hx, ha, hR2⟩ := R_chain (th := th) (ro := ro) hs hR (xs (nI i + nI 1).toNatClampNeg) (xs (nI i + nI 2).toNatClampNeg) (xs (nI i + nI 3).toNatClampNeg)
  refine w_aload_n (x := xa 0) C 2 rfl dL_law_601 ?_
  refine w_aload_n (x := b) C 3 rfl dL_law_602 ?_
  refine w_iload_n (x := nI i) C 0 rfl dL_law_603 ?_
  refine w_iconst (v := nI 1) C dL_law_604 (by decide) ?_
  refine w_iadd C dL_law_605 ?_
  refine w_sld C hX hbl hbA (hin 1 (by decide)) dL_law_606 ?_
  refine w_aload_n (x := b) C 3 rfl dL_law_607 ?_
  refine w_iload_n (x := nI i) C 0 rfl dL_law_608 ?_
  refine w_iconst (v := nI 2) C dL_law_609 (by decide) ?_
  refine w_iadd C dL_law_610 ?_
  refine w_sld C hX hbl hbA (hin 2 (by decide)) dL_law_611 ?_
  refine w_aload_n (x := b) C 3 rfl dL_law_612 ?_
  refine w_iload_n (x := nI i) C 0 rfl dL_law_613 ?_
  refine w_iconst (v := nI 3) C dL_law_614 (by decide) ?_
  refine w_iadd C dL_law_615 ?_
  refine w_sld C hX hbl hbA (hin 3 (by decide)) dL_law_616 ?_
  refine w_cVi (k9 := 0) (wr := (Z ++ E) ++ (mw G ma th ak (nI q) (nI (prm q)) su pr ms ro be di)) (ws2 := ((Z ++ E) ++ (mw G ma th ak (nI q) (nI (prm q)) su pr ms ro be di)) ++ (xm G xa FA (fa 0) ra (nI q) ak RR2 ++ ([rcw ra r1 r2 r3 r4 r5] ++ fw G fa q (nI (prm q)) (nI q) (T0 q) (T1 q) (T2 q) (T3 q) (T4 q) t5 tL))) (v := .int r) C (c_X3_chain FU hx) pk_X3_chain ml_L_61 rfl rfl ⟨⟨rfl, rfl⟩, Nat.le_of_ble_eq_true rfl, Nat.le_of_ble_eq_true rfl⟩ rfl ⟨Nat.le_trans (Nat.le_add_right _ _) hc, Nat.le_trans (Nat.le_add_right _ _) hsl⟩ (Nat.le_of_ble_eq_true rfl) rfl rfl rfl dL_law_617 ?_
  refine w_perm (pmA _ _ _) ?_
  refine w_aload_n (x := ma 0) C 1 rfl dL_law_620 ?_
  refine w_aload_n (x := b) C 3 rfl dL_law_621 ?_
  refine w_iload_n (x := nI i) C 0 rfl dL_law_622 ?_
  refine w_iconst (v := nI 1) C dL_law_623 (by decide) ?_
  refine w_iadd C dL_law_624 ?_
  refine w_sld C hX hbl hbA (hin 1 (by decide)) dL_law_625 ?_
  refine w_aload_n (x := b) C 3 rfl dL_law_626 ?_
  refine w_iload_n (x := nI i) C 0 rfl dL_law_627 ?_
  refine w_iconst (v := nI 2) C dL_law_628 (by decide) ?_
  refine w_iadd C dL_law_629 ?_
  refine w_sld C hX hbl hbA (hin 2 (by decide)) dL_law_630 ?_
  refine w_aload_n (x := b) C 3 rfl dL_law_631 ?_
  refine w_iload_n (x := nI i) C 0 rfl dL_law_632 ?_
  refine w_iconst (v := nI 3) C dL_law_633 (by decide) ?_
  refine w_iadd C dL_law_634 ?_
  refine w_sld C hX hbl hbA (hin 3 (by decide)) dL_law_635 ?_
  refine w_cVi (k9 := 0) (wr := (Z ++ E) ++ (xm G xa FA (fa 0) ra (nI q) ak RR2 ++ ([rcw ra r1 r2 r3 r4 r5] ++ fw G fa q (nI (prm q)) (nI q) (T0 q) (T1 q) (T2 q) (T3 q) (T4 q) t5 tL))) (ws2 := ((Z ++ E) ++ (xm G xa FA (fa 0) ra (nI q) ak RR2 ++ ([rcw ra r1 r2 r3 r4 r5] ++ fw G fa q (nI (prm q)) (nI q) (T0 q) (T1 q) (T2 q) (T3 q) (T4 q) t5 tL))) ++ (mw G ma 0 ak (nI q) (nI (prm q)) su pr ms2 ro2 be di)) (v := .int r) (rest := [.int r]) C (c_X4_chain FU ha) pk_X4_chain ml_L_64 rfl rfl ⟨⟨rfl, rfl⟩, Nat.le_of_ble_eq_true rfl, Nat.le_of_ble_eq_true rfl⟩ rfl ⟨Nat.le_trans (Nat.le_add_right _ _) hc, Nat.le_trans (Nat.le_add_right _ _) hsl⟩ (Nat.le_of_ble_eq_true rfl) rfl rfl rfl dL_law_636 ?_
  refine w_perm (pmA _ _ _) ?_
  refine w_icmp_eq (tgt := 1096) C dL_law_639 (by decide) (fun _ => ?_) (fun h => absurd rfl h)
  exact w_wide (Nat.le_add_right _ _) (Nat.le_add_right _ _) (kk _ ⟨q, xa, fa, ma, ra, FA, tL, f2, RR2, r1, r2, r3, r4, r5, 0, ak, t5, su, pr, ms2, ro2, be, di, Z, E, rfl, rfl, hF, hM, hR2, rfl⟩)
set_option maxHeartbeats 2000000 in
set_option maxRecDepth 20000 in
theorem law_shuffles {p : Program} {l : Launch} {e : Env} {s : State} {m : MethodId} {args : Array Value} {below : List Frame} {meth : Method} {c : Code} {G : GG} {A : Nat → Prop} {cells slots : Nat} {ret9 : Option FieldType} {Q : State → Prop} {b L i x0 m0 : Nat} {xs : Nat → Int32} {ws : va_W} (C : Cx p s m args meth c G A RL cL_law 4 ret9) (hX : va_X b L xs s s.heap) (hbl : b < s.heap.size) (hbA : ¬ A b) (hin : ∀ k, k < 7 → vp_in (nI i + nI k) L) (hc : cells + 513 ≤ room_1.cells) (hsl : slots + 8186 ≤ room_1.slots) (hI : LInv G x0 m0 ws) (kk : ∀ ws2, LInv G x0 m0 ws2 → Wd p l e room_1 s m args below meth c G A 4 (cells + 513) (slots + 8186) Q (ws2) [(3, .int (nI i)), (2, .ref m0), (1, .ref x0), (0, .ref b)] 1096 []) : Wd p l e room_1 s m args below meth c G A 4 cells slots Q (ws) [(3, .int (nI i)), (2, .ref m0), (1, .ref x0), (0, .ref b)] 644 [] := by
  obtain ⟨q, xa, fa, ma, ra, FA, tL, f, RR, r1, r2, r3, r4, r5, th, ak, t5, su, pr, ms, ro, be, di, Z, E, rfl, rfl, hF, hM, hR, rfl⟩ := hI
  have hs := hF.1
  obtain ⟨r, hx, ha⟩ := R_shuffles (th := th) hs hR (xs (nI i + nI 1).toNatClampNeg)
  refine w_aload_n (x := xa 0) C 2 rfl dL_law_644 ?_
  refine w_aload_n (x := b) C 3 rfl dL_law_645 ?_
  refine w_iload_n (x := nI i) C 0 rfl dL_law_646 ?_
  refine w_iconst (v := nI 1) C dL_law_647 (by decide) ?_
  refine w_iadd C dL_law_648 ?_
  refine w_sld C hX hbl hbA (hin 1 (by decide)) dL_law_649 ?_
  refine w_cVi (k9 := 0) (wr := (Z ++ E) ++ (mw G ma th ak (nI q) (nI (prm q)) su pr ms ro be di)) (ws2 := ((Z ++ E) ++ (mw G ma th ak (nI q) (nI (prm q)) su pr ms ro be di)) ++ (xm G xa FA (fa 0) ra (nI q) ak RR ++ ([rcw ra r1 r2 r3 r4 r5] ++ fw G fa q (nI (prm q)) (nI q) (T0 q) (T1 q) (T2 q) (T3 q) (T4 q) t5 tL))) (v := .int r) C (c_X3_shuffles FU hx) pk_X3_shuffles ml_L_65 rfl rfl ⟨⟨rfl, rfl⟩, Nat.le_of_ble_eq_true rfl, Nat.le_of_ble_eq_true rfl⟩ rfl ⟨Nat.le_trans (Nat.le_add_right _ _) hc, Nat.le_trans (Nat.le_add_right _ _) hsl⟩ (Nat.le_of_ble_eq_true rfl) rfl rfl rfl dL_law_650 ?_
  refine w_perm (pmA _ _ _) ?_
  refine w_aload_n (x := ma 0) C 1 rfl dL_law_653 ?_
  refine w_aload_n (x := b) C 3 rfl dL_law_654 ?_
  refine w_iload_n (x := nI i) C 0 rfl dL_law_655 ?_
  refine w_iconst (v := nI 1) C dL_law_656 (by decide) ?_
  refine w_iadd C dL_law_657 ?_
  refine w_sld C hX hbl hbA (hin 1 (by decide)) dL_law_658 ?_
  refine w_cVi (k9 := 0) (wr := (Z ++ E) ++ (xm G xa FA (fa 0) ra (nI q) ak RR ++ ([rcw ra r1 r2 r3 r4 r5] ++ fw G fa q (nI (prm q)) (nI q) (T0 q) (T1 q) (T2 q) (T3 q) (T4 q) t5 tL))) (ws2 := ((Z ++ E) ++ (xm G xa FA (fa 0) ra (nI q) ak RR ++ ([rcw ra r1 r2 r3 r4 r5] ++ fw G fa q (nI (prm q)) (nI q) (T0 q) (T1 q) (T2 q) (T3 q) (T4 q) t5 tL))) ++ (mw G ma 0 ak (nI q) (nI (prm q)) su pr ms ro be di)) (v := .int r) (rest := [.int r]) C (c_X4_shuffles FU ha) pk_X4_shuffles ml_L_68 rfl rfl ⟨⟨rfl, rfl⟩, Nat.le_of_ble_eq_true rfl, Nat.le_of_ble_eq_true rfl⟩ rfl ⟨Nat.le_trans (Nat.le_add_right _ _) hc, Nat.le_trans (Nat.le_add_right _ _) hsl⟩ (Nat.le_of_ble_eq_true rfl) rfl rfl rfl dL_law_659 ?_
  refine w_perm (pmA _ _ _) ?_
  refine w_icmp_eq (tgt := 1096) C dL_law_662 (by decide) (fun _ => ?_) (fun h => absurd rfl h)
  exact w_wide (Nat.le_add_right _ _) (Nat.le_add_right _ _) (kk _ ⟨q, xa, fa, ma, ra, FA, tL, f, RR, r1, r2, r3, r4, r5, 0, ak, t5, su, pr, ms, ro, be, di, Z, E, rfl, rfl, hF, hM, hR, rfl⟩)
set_option maxHeartbeats 2000000 in
set_option maxRecDepth 20000 in
theorem law_fails {p : Program} {l : Launch} {e : Env} {s : State} {m : MethodId} {args : Array Value} {below : List Frame} {meth : Method} {c : Code} {G : GG} {A : Nat → Prop} {cells slots : Nat} {ret9 : Option FieldType} {Q : State → Prop} {b L i x0 m0 : Nat} {xs : Nat → Int32} {ws : va_W} (C : Cx p s m args meth c G A RL cL_law 4 ret9) (hX : va_X b L xs s s.heap) (hbl : b < s.heap.size) (hbA : ¬ A b) (hin : ∀ k, k < 7 → vp_in (nI i + nI k) L) (hc : cells + 513 ≤ room_1.cells) (hsl : slots + 8186 ≤ room_1.slots) (hI : LInv G x0 m0 ws) (kk : ∀ ws2, LInv G x0 m0 ws2 → Wd p l e room_1 s m args below meth c G A 4 (cells + 513) (slots + 8186) Q (ws2) [(3, .int (nI i)), (2, .ref m0), (1, .ref x0), (0, .ref b)] 1096 []) : Wd p l e room_1 s m args below meth c G A 4 cells slots Q (ws) [(3, .int (nI i)), (2, .ref m0), (1, .ref x0), (0, .ref b)] 667 [] := by
  obtain ⟨q, xa, fa, ma, ra, FA, tL, f, RR, r1, r2, r3, r4, r5, th, ak, t5, su, pr, ms, ro, be, di, Z, E, rfl, rfl, hF, hM, hR, rfl⟩ := hI
  have hs := hF.1
  obtain ⟨r, RR2, hx, ha, hR2⟩ := R_fails (th := th) hs hM hR (xs (nI i + nI 1).toNatClampNeg)
  refine w_aload_n (x := xa 0) C 2 rfl dL_law_667 ?_
  refine w_aload_n (x := b) C 3 rfl dL_law_668 ?_
  refine w_iload_n (x := nI i) C 0 rfl dL_law_669 ?_
  refine w_iconst (v := nI 1) C dL_law_670 (by decide) ?_
  refine w_iadd C dL_law_671 ?_
  refine w_sld C hX hbl hbA (hin 1 (by decide)) dL_law_672 ?_
  refine w_cVi (k9 := 0) (wr := (Z ++ E) ++ (mw G ma th ak (nI q) (nI (prm q)) su pr ms ro be di)) (ws2 := ((Z ++ E) ++ (mw G ma th ak (nI q) (nI (prm q)) su pr ms ro be di)) ++ (xm G xa FA (fa 0) ra (nI q) ak RR2 ++ ([rcw ra r1 r2 r3 r4 r5] ++ fw G fa q (nI (prm q)) (nI q) (T0 q) (T1 q) (T2 q) (T3 q) (T4 q) t5 tL))) (v := .int r) C (c_X3_fails FU hx) pk_X3_fails ml_L_69 rfl rfl ⟨⟨rfl, rfl⟩, Nat.le_of_ble_eq_true rfl, Nat.le_of_ble_eq_true rfl⟩ rfl ⟨Nat.le_trans (Nat.le_add_right _ _) hc, Nat.le_trans (Nat.le_add_right _ _) hsl⟩ (Nat.le_of_ble_eq_true rfl) rfl rfl rfl dL_law_673 ?_
  refine w_perm (pmA _ _ _) ?_
  refine w_aload_n (x := ma 0) C 1 rfl dL_law_676 ?_
  refine w_aload_n (x := b) C 3 rfl dL_law_677 ?_
  refine w_iload_n (x := nI i) C 0 rfl dL_law_678 ?_
  refine w_iconst (v := nI 1) C dL_law_679 (by decide) ?_
  refine w_iadd C dL_law_680 ?_
  refine w_sld C hX hbl hbA (hin 1 (by decide)) dL_law_681 ?_
  refine w_cVi (k9 := 0) (wr := (Z ++ E) ++ (xm G xa FA (fa 0) ra (nI q) ak RR2 ++ ([rcw ra r1 r2 r3 r4 r5] ++ fw G fa q (nI (prm q)) (nI q) (T0 q) (T1 q) (T2 q) (T3 q) (T4 q) t5 tL))) (ws2 := ((Z ++ E) ++ (xm G xa FA (fa 0) ra (nI q) ak RR2 ++ ([rcw ra r1 r2 r3 r4 r5] ++ fw G fa q (nI (prm q)) (nI q) (T0 q) (T1 q) (T2 q) (T3 q) (T4 q) t5 tL))) ++ (mw G ma 0 ak (nI q) (nI (prm q)) su pr ms ro be di)) (v := .int r) (rest := [.int r]) C (c_X4_fails FU ha) pk_X4_fails ml_L_72 rfl rfl ⟨⟨rfl, rfl⟩, Nat.le_of_ble_eq_true rfl, Nat.le_of_ble_eq_true rfl⟩ rfl ⟨Nat.le_trans (Nat.le_add_right _ _) hc, Nat.le_trans (Nat.le_add_right _ _) hsl⟩ (Nat.le_of_ble_eq_true rfl) rfl rfl rfl dL_law_682 ?_
  refine w_perm (pmA _ _ _) ?_
  refine w_icmp_eq (tgt := 1096) C dL_law_685 (by decide) (fun _ => ?_) (fun h => absurd rfl h)
  exact w_wide (Nat.le_add_right _ _) (Nat.le_add_right _ _) (kk _ ⟨q, xa, fa, ma, ra, FA, tL, f, RR2, r1, r2, r3, r4, r5, 0, ak, t5, su, pr, ms, ro, be, di, Z, E, rfl, rfl, hF, hM, hR2, rfl⟩)
set_option maxHeartbeats 2000000 in
set_option maxRecDepth 20000 in
theorem law_image {p : Program} {l : Launch} {e : Env} {s : State} {m : MethodId} {args : Array Value} {below : List Frame} {meth : Method} {c : Code} {G : GG} {A : Nat → Prop} {cells slots : Nat} {ret9 : Option FieldType} {Q : State → Prop} {b L i x0 m0 : Nat} {xs : Nat → Int32} {ws : va_W} (C : Cx p s m args meth c G A RL cL_law 4 ret9) (hX : va_X b L xs s s.heap) (hbl : b < s.heap.size) (hbA : ¬ A b) (hin : ∀ k, k < 7 → vp_in (nI i + nI k) L) (hc : cells + 513 ≤ room_1.cells) (hsl : slots + 8186 ≤ room_1.slots) (hI : LInv G x0 m0 ws) (kk : ∀ ws2, LInv G x0 m0 ws2 → Wd p l e room_1 s m args below meth c G A 4 (cells + 513) (slots + 8186) Q (ws2) [(3, .int (nI i)), (2, .ref m0), (1, .ref x0), (0, .ref b)] 1096 []) : Wd p l e room_1 s m args below meth c G A 4 cells slots Q (ws) [(3, .int (nI i)), (2, .ref m0), (1, .ref x0), (0, .ref b)] 690 [] := by
  obtain ⟨q, xa, fa, ma, ra, FA, tL, f, RR, r1, r2, r3, r4, r5, th, ak, t5, su, pr, ms, ro, be, di, Z, E, rfl, rfl, hF, hM, hR, rfl⟩ := hI
  have hs := hF.1
  obtain ⟨r, hx, ha⟩ := R_image (th := th) hs hR (xs (nI i + nI 1).toNatClampNeg)
  refine w_aload_n (x := xa 0) C 2 rfl dL_law_690 ?_
  refine w_aload_n (x := b) C 3 rfl dL_law_691 ?_
  refine w_iload_n (x := nI i) C 0 rfl dL_law_692 ?_
  refine w_iconst (v := nI 1) C dL_law_693 (by decide) ?_
  refine w_iadd C dL_law_694 ?_
  refine w_sld C hX hbl hbA (hin 1 (by decide)) dL_law_695 ?_
  refine w_cVi (k9 := 0) (wr := (Z ++ E) ++ (mw G ma th ak (nI q) (nI (prm q)) su pr ms ro be di)) (ws2 := ((Z ++ E) ++ (mw G ma th ak (nI q) (nI (prm q)) su pr ms ro be di)) ++ (xm G xa FA (fa 0) ra (nI q) ak RR ++ ([rcw ra r1 r2 r3 r4 r5] ++ fw G fa q (nI (prm q)) (nI q) (T0 q) (T1 q) (T2 q) (T3 q) (T4 q) t5 tL))) (v := .int r) C (c_X3_image FU hx) pk_X3_image ml_L_73 rfl rfl ⟨⟨rfl, rfl⟩, Nat.le_of_ble_eq_true rfl, Nat.le_of_ble_eq_true rfl⟩ rfl ⟨Nat.le_trans (Nat.le_add_right _ _) hc, Nat.le_trans (Nat.le_add_right _ _) hsl⟩ (Nat.le_of_ble_eq_true rfl) rfl rfl rfl dL_law_696 ?_
  refine w_perm (pmA _ _ _) ?_
  refine w_aload_n (x := ma 0) C 1 rfl dL_law_699 ?_
  refine w_aload_n (x := b) C 3 rfl dL_law_700 ?_
  refine w_iload_n (x := nI i) C 0 rfl dL_law_701 ?_
  refine w_iconst (v := nI 1) C dL_law_702 (by decide) ?_
  refine w_iadd C dL_law_703 ?_
  refine w_sld C hX hbl hbA (hin 1 (by decide)) dL_law_704 ?_
  refine w_cVi (k9 := 0) (wr := (Z ++ E) ++ (xm G xa FA (fa 0) ra (nI q) ak RR ++ ([rcw ra r1 r2 r3 r4 r5] ++ fw G fa q (nI (prm q)) (nI q) (T0 q) (T1 q) (T2 q) (T3 q) (T4 q) t5 tL))) (ws2 := ((Z ++ E) ++ (xm G xa FA (fa 0) ra (nI q) ak RR ++ ([rcw ra r1 r2 r3 r4 r5] ++ fw G fa q (nI (prm q)) (nI q) (T0 q) (T1 q) (T2 q) (T3 q) (T4 q) t5 tL))) ++ (mw G ma 0 ak (nI q) (nI (prm q)) su pr ms ro be di)) (v := .int r) (rest := [.int r]) C (c_X4_image FU ha) pk_X4_image ml_L_76 rfl rfl ⟨⟨rfl, rfl⟩, Nat.le_of_ble_eq_true rfl, Nat.le_of_ble_eq_true rfl⟩ rfl ⟨Nat.le_trans (Nat.le_add_right _ _) hc, Nat.le_trans (Nat.le_add_right _ _) hsl⟩ (Nat.le_of_ble_eq_true rfl) rfl rfl rfl dL_law_705 ?_
  refine w_perm (pmA _ _ _) ?_
  refine w_icmp_eq (tgt := 1096) C dL_law_708 (by decide) (fun _ => ?_) (fun h => absurd rfl h)
  exact w_wide (Nat.le_add_right _ _) (Nat.le_add_right _ _) (kk _ ⟨q, xa, fa, ma, ra, FA, tL, f, RR, r1, r2, r3, r4, r5, 0, ak, t5, su, pr, ms, ro, be, di, Z, E, rfl, rfl, hF, hM, hR, rfl⟩)
set_option maxHeartbeats 2000000 in
set_option maxRecDepth 20000 in
theorem law_turn {p : Program} {l : Launch} {e : Env} {s : State} {m : MethodId} {args : Array Value} {below : List Frame} {meth : Method} {c : Code} {G : GG} {A : Nat → Prop} {cells slots : Nat} {ret9 : Option FieldType} {Q : State → Prop} {b L i x0 m0 : Nat} {xs : Nat → Int32} {ws : va_W} (C : Cx p s m args meth c G A RL cL_law 4 ret9) (hX : va_X b L xs s s.heap) (hbl : b < s.heap.size) (hbA : ¬ A b) (hin : ∀ k, k < 7 → vp_in (nI i + nI k) L) (hc : cells + 513 ≤ room_1.cells) (hsl : slots + 8186 ≤ room_1.slots) (hI : LInv G x0 m0 ws) (kk : ∀ ws2, LInv G x0 m0 ws2 → Wd p l e room_1 s m args below meth c G A 4 (cells + 513) (slots + 8186) Q (ws2) [(3, .int (nI i)), (2, .ref m0), (1, .ref x0), (0, .ref b)] 1096 []) : Wd p l e room_1 s m args below meth c G A 4 cells slots Q (ws) [(3, .int (nI i)), (2, .ref m0), (1, .ref x0), (0, .ref b)] 713 [] := by
  obtain ⟨q, xa, fa, ma, ra, FA, tL, f, RR, r1, r2, r3, r4, r5, th, ak, t5, su, pr, ms, ro, be, di, Z, E, rfl, rfl, hF, hM, hR, rfl⟩ := hI
  have hs := hF.1
  obtain ⟨r, RR2, ms2, ro2, f2, hx, ha, hR2⟩ := R_turn (th := th) (ro := ro) hs hR (xs (nI i + nI 1).toNatClampNeg)
  refine w_aload_n (x := xa 0) C 2 rfl dL_law_713 ?_
  refine w_aload_n (x := b) C 3 rfl dL_law_714 ?_
  refine w_iload_n (x := nI i) C 0 rfl dL_law_715 ?_
  refine w_iconst (v := nI 1) C dL_law_716 (by decide) ?_
  refine w_iadd C dL_law_717 ?_
  refine w_sld C hX hbl hbA (hin 1 (by decide)) dL_law_718 ?_
  refine w_cVi (k9 := 0) (wr := (Z ++ E) ++ (mw G ma th ak (nI q) (nI (prm q)) su pr ms ro be di)) (ws2 := ((Z ++ E) ++ (mw G ma th ak (nI q) (nI (prm q)) su pr ms ro be di)) ++ (xm G xa FA (fa 0) ra (nI q) ak RR2 ++ ([rcw ra r1 r2 r3 r4 r5] ++ fw G fa q (nI (prm q)) (nI q) (T0 q) (T1 q) (T2 q) (T3 q) (T4 q) t5 tL))) (v := .int r) C (c_X3_turn FU hx) pk_X3_turn ml_L_77 rfl rfl ⟨⟨rfl, rfl⟩, Nat.le_of_ble_eq_true rfl, Nat.le_of_ble_eq_true rfl⟩ rfl ⟨Nat.le_trans (Nat.le_add_right _ _) hc, Nat.le_trans (Nat.le_add_right _ _) hsl⟩ (Nat.le_of_ble_eq_true rfl) rfl rfl rfl dL_law_719 ?_
  refine w_perm (pmA _ _ _) ?_
  refine w_aload_n (x := ma 0) C 1 rfl dL_law_722 ?_
  refine w_aload_n (x := b) C 3 rfl dL_law_723 ?_
  refine w_iload_n (x := nI i) C 0 rfl dL_law_724 ?_
  refine w_iconst (v := nI 1) C dL_law_725 (by decide) ?_
  refine w_iadd C dL_law_726 ?_
  refine w_sld C hX hbl hbA (hin 1 (by decide)) dL_law_727 ?_
  refine w_cVi (k9 := 0) (wr := (Z ++ E) ++ (xm G xa FA (fa 0) ra (nI q) ak RR2 ++ ([rcw ra r1 r2 r3 r4 r5] ++ fw G fa q (nI (prm q)) (nI q) (T0 q) (T1 q) (T2 q) (T3 q) (T4 q) t5 tL))) (ws2 := ((Z ++ E) ++ (xm G xa FA (fa 0) ra (nI q) ak RR2 ++ ([rcw ra r1 r2 r3 r4 r5] ++ fw G fa q (nI (prm q)) (nI q) (T0 q) (T1 q) (T2 q) (T3 q) (T4 q) t5 tL))) ++ (mw G ma 0 ak (nI q) (nI (prm q)) su pr ms2 ro2 be di)) (v := .int r) (rest := [.int r]) C (c_X4_turn FU ha) pk_X4_turn ml_L_80 rfl rfl ⟨⟨rfl, rfl⟩, Nat.le_of_ble_eq_true rfl, Nat.le_of_ble_eq_true rfl⟩ rfl ⟨Nat.le_trans (Nat.le_add_right _ _) hc, Nat.le_trans (Nat.le_add_right _ _) hsl⟩ (Nat.le_of_ble_eq_true rfl) rfl rfl rfl dL_law_728 ?_
  refine w_perm (pmA _ _ _) ?_
  refine w_icmp_eq (tgt := 1096) C dL_law_731 (by decide) (fun _ => ?_) (fun h => absurd rfl h)
  exact w_wide (Nat.le_add_right _ _) (Nat.le_add_right _ _) (kk _ ⟨q, xa, fa, ma, ra, FA, tL, f2, RR2, r1, r2, r3, r4, r5, 0, ak, t5, su, pr, ms2, ro2, be, di, Z, E, rfl, rfl, hF, hM, hR2, rfl⟩)
set_option maxHeartbeats 2000000 in
set_option maxRecDepth 20000 in
theorem law_order {p : Program} {l : Launch} {e : Env} {s : State} {m : MethodId} {args : Array Value} {below : List Frame} {meth : Method} {c : Code} {G : GG} {A : Nat → Prop} {cells slots : Nat} {ret9 : Option FieldType} {Q : State → Prop} {b L i x0 m0 : Nat} {xs : Nat → Int32} {ws : va_W} (C : Cx p s m args meth c G A RL cL_law 4 ret9) (hX : va_X b L xs s s.heap) (hbl : b < s.heap.size) (hbA : ¬ A b) (hin : ∀ k, k < 7 → vp_in (nI i + nI k) L) (hc : cells + 513 ≤ room_1.cells) (hsl : slots + 8186 ≤ room_1.slots) (hI : LInv G x0 m0 ws) (kk : ∀ ws2, LInv G x0 m0 ws2 → Wd p l e room_1 s m args below meth c G A 4 (cells + 513) (slots + 8186) Q (ws2) [(3, .int (nI i)), (2, .ref m0), (1, .ref x0), (0, .ref b)] 1096 []) : Wd p l e room_1 s m args below meth c G A 4 cells slots Q (ws) [(3, .int (nI i)), (2, .ref m0), (1, .ref x0), (0, .ref b)] 736 [] := by
  obtain ⟨q, xa, fa, ma, ra, FA, tL, f, RR, r1, r2, r3, r4, r5, th, ak, t5, su, pr, ms, ro, be, di, Z, E, rfl, rfl, hF, hM, hR, rfl⟩ := hI
  have hs := hF.1
  obtain ⟨r, ro2, hx, ha⟩ := R_order (th := th) (ro := ro) hs hR (xs (nI i + nI 1).toNatClampNeg)
  refine w_aload_n (x := xa 0) C 2 rfl dL_law_736 ?_
  refine w_aload_n (x := b) C 3 rfl dL_law_737 ?_
  refine w_iload_n (x := nI i) C 0 rfl dL_law_738 ?_
  refine w_iconst (v := nI 1) C dL_law_739 (by decide) ?_
  refine w_iadd C dL_law_740 ?_
  refine w_sld C hX hbl hbA (hin 1 (by decide)) dL_law_741 ?_
  refine w_cVi (k9 := 0) (wr := (Z ++ E) ++ (mw G ma th ak (nI q) (nI (prm q)) su pr ms ro be di)) (ws2 := ((Z ++ E) ++ (mw G ma th ak (nI q) (nI (prm q)) su pr ms ro be di)) ++ (xm G xa FA (fa 0) ra (nI q) ak RR ++ ([rcw ra r1 r2 r3 r4 r5] ++ fw G fa q (nI (prm q)) (nI q) (T0 q) (T1 q) (T2 q) (T3 q) (T4 q) t5 tL))) (v := .int r) C (c_X3_order FU hx) pk_X3_order ml_L_81 rfl rfl ⟨⟨rfl, rfl⟩, Nat.le_of_ble_eq_true rfl, Nat.le_of_ble_eq_true rfl⟩ rfl ⟨Nat.le_trans (Nat.le_add_right _ _) hc, Nat.le_trans (Nat.le_add_right _ _) hsl⟩ (Nat.le_of_ble_eq_true rfl) rfl rfl rfl dL_law_742 ?_
  refine w_perm (pmA _ _ _) ?_
  refine w_aload_n (x := ma 0) C 1 rfl dL_law_745 ?_
  refine w_aload_n (x := b) C 3 rfl dL_law_746 ?_
  refine w_iload_n (x := nI i) C 0 rfl dL_law_747 ?_
  refine w_iconst (v := nI 1) C dL_law_748 (by decide) ?_
  refine w_iadd C dL_law_749 ?_
  refine w_sld C hX hbl hbA (hin 1 (by decide)) dL_law_750 ?_
  refine w_cVi (k9 := 0) (wr := (Z ++ E) ++ (xm G xa FA (fa 0) ra (nI q) ak RR ++ ([rcw ra r1 r2 r3 r4 r5] ++ fw G fa q (nI (prm q)) (nI q) (T0 q) (T1 q) (T2 q) (T3 q) (T4 q) t5 tL))) (ws2 := ((Z ++ E) ++ (xm G xa FA (fa 0) ra (nI q) ak RR ++ ([rcw ra r1 r2 r3 r4 r5] ++ fw G fa q (nI (prm q)) (nI q) (T0 q) (T1 q) (T2 q) (T3 q) (T4 q) t5 tL))) ++ (mw G ma 0 ak (nI q) (nI (prm q)) su pr ms ro2 be di)) (v := .int r) (rest := [.int r]) C (c_X4_order FU ha) pk_X4_order ml_L_84 rfl rfl ⟨⟨rfl, rfl⟩, Nat.le_of_ble_eq_true rfl, Nat.le_of_ble_eq_true rfl⟩ rfl ⟨Nat.le_trans (Nat.le_add_right _ _) hc, Nat.le_trans (Nat.le_add_right _ _) hsl⟩ (Nat.le_of_ble_eq_true rfl) rfl rfl rfl dL_law_751 ?_
  refine w_perm (pmA _ _ _) ?_
  refine w_icmp_eq (tgt := 1096) C dL_law_754 (by decide) (fun _ => ?_) (fun h => absurd rfl h)
  exact w_wide (Nat.le_add_right _ _) (Nat.le_add_right _ _) (kk _ ⟨q, xa, fa, ma, ra, FA, tL, f, RR, r1, r2, r3, r4, r5, 0, ak, t5, su, pr, ms, ro2, be, di, Z, E, rfl, rfl, hF, hM, hR, rfl⟩)
set_option maxHeartbeats 2000000 in
set_option maxRecDepth 20000 in
theorem law_fixed {p : Program} {l : Launch} {e : Env} {s : State} {m : MethodId} {args : Array Value} {below : List Frame} {meth : Method} {c : Code} {G : GG} {A : Nat → Prop} {cells slots : Nat} {ret9 : Option FieldType} {Q : State → Prop} {b L i x0 m0 : Nat} {xs : Nat → Int32} {ws : va_W} (C : Cx p s m args meth c G A RL cL_law 4 ret9) (hX : va_X b L xs s s.heap) (hbl : b < s.heap.size) (hbA : ¬ A b) (hin : ∀ k, k < 7 → vp_in (nI i + nI k) L) (hc : cells + 513 ≤ room_1.cells) (hsl : slots + 8186 ≤ room_1.slots) (hI : LInv G x0 m0 ws) (kk : ∀ ws2, LInv G x0 m0 ws2 → Wd p l e room_1 s m args below meth c G A 4 (cells + 513) (slots + 8186) Q (ws2) [(3, .int (nI i)), (2, .ref m0), (1, .ref x0), (0, .ref b)] 1096 []) : Wd p l e room_1 s m args below meth c G A 4 cells slots Q (ws) [(3, .int (nI i)), (2, .ref m0), (1, .ref x0), (0, .ref b)] 759 [] := by
  obtain ⟨q, xa, fa, ma, ra, FA, tL, f, RR, r1, r2, r3, r4, r5, th, ak, t5, su, pr, ms, ro, be, di, Z, E, rfl, rfl, hF, hM, hR, rfl⟩ := hI
  have hs := hF.1
  obtain ⟨r, hx, ha⟩ := R_fixed (th := th) hs hR (xs (nI i + nI 1).toNatClampNeg)
  refine w_aload_n (x := xa 0) C 2 rfl dL_law_759 ?_
  refine w_aload_n (x := b) C 3 rfl dL_law_760 ?_
  refine w_iload_n (x := nI i) C 0 rfl dL_law_761 ?_
  refine w_iconst (v := nI 1) C dL_law_762 (by decide) ?_
  refine w_iadd C dL_law_763 ?_
  refine w_sld C hX hbl hbA (hin 1 (by decide)) dL_law_764 ?_
  refine w_cVi (k9 := 0) (wr := (Z ++ E) ++ (mw G ma th ak (nI q) (nI (prm q)) su pr ms ro be di)) (ws2 := ((Z ++ E) ++ (mw G ma th ak (nI q) (nI (prm q)) su pr ms ro be di)) ++ (xm G xa FA (fa 0) ra (nI q) ak RR ++ ([rcw ra r1 r2 r3 r4 r5] ++ fw G fa q (nI (prm q)) (nI q) (T0 q) (T1 q) (T2 q) (T3 q) (T4 q) t5 tL))) (v := .int r) C (c_X3_fixed FU hx) pk_X3_fixed ml_L_85 rfl rfl ⟨⟨rfl, rfl⟩, Nat.le_of_ble_eq_true rfl, Nat.le_of_ble_eq_true rfl⟩ rfl ⟨Nat.le_trans (Nat.le_add_right _ _) hc, Nat.le_trans (Nat.le_add_right _ _) hsl⟩ (Nat.le_of_ble_eq_true rfl) rfl rfl rfl dL_law_765 ?_
  refine w_perm (pmA _ _ _) ?_
  refine w_aload_n (x := ma 0) C 1 rfl dL_law_768 ?_
  refine w_aload_n (x := b) C 3 rfl dL_law_769 ?_
  refine w_iload_n (x := nI i) C 0 rfl dL_law_770 ?_
  refine w_iconst (v := nI 1) C dL_law_771 (by decide) ?_
  refine w_iadd C dL_law_772 ?_
  refine w_sld C hX hbl hbA (hin 1 (by decide)) dL_law_773 ?_
  refine w_cVi (k9 := 0) (wr := (Z ++ E) ++ (xm G xa FA (fa 0) ra (nI q) ak RR ++ ([rcw ra r1 r2 r3 r4 r5] ++ fw G fa q (nI (prm q)) (nI q) (T0 q) (T1 q) (T2 q) (T3 q) (T4 q) t5 tL))) (ws2 := ((Z ++ E) ++ (xm G xa FA (fa 0) ra (nI q) ak RR ++ ([rcw ra r1 r2 r3 r4 r5] ++ fw G fa q (nI (prm q)) (nI q) (T0 q) (T1 q) (T2 q) (T3 q) (T4 q) t5 tL))) ++ (mw G ma 0 ak (nI q) (nI (prm q)) su pr ms ro be di)) (v := .int r) (rest := [.int r]) C (c_X4_fixed FU ha) pk_X4_fixed ml_L_88 rfl rfl ⟨⟨rfl, rfl⟩, Nat.le_of_ble_eq_true rfl, Nat.le_of_ble_eq_true rfl⟩ rfl ⟨Nat.le_trans (Nat.le_add_right _ _) hc, Nat.le_trans (Nat.le_add_right _ _) hsl⟩ (Nat.le_of_ble_eq_true rfl) rfl rfl rfl dL_law_774 ?_
  refine w_perm (pmA _ _ _) ?_
  refine w_icmp_eq (tgt := 1096) C dL_law_777 (by decide) (fun _ => ?_) (fun h => absurd rfl h)
  exact w_wide (Nat.le_add_right _ _) (Nat.le_add_right _ _) (kk _ ⟨q, xa, fa, ma, ra, FA, tL, f, RR, r1, r2, r3, r4, r5, 0, ak, t5, su, pr, ms, ro, be, di, Z, E, rfl, rfl, hF, hM, hR, rfl⟩)
set_option maxHeartbeats 2000000 in
set_option maxRecDepth 20000 in
theorem law_difference {p : Program} {l : Launch} {e : Env} {s : State} {m : MethodId} {args : Array Value} {below : List Frame} {meth : Method} {c : Code} {G : GG} {A : Nat → Prop} {cells slots : Nat} {ret9 : Option FieldType} {Q : State → Prop} {b L i x0 m0 : Nat} {xs : Nat → Int32} {ws : va_W} (C : Cx p s m args meth c G A RL cL_law 4 ret9) (hX : va_X b L xs s s.heap) (hbl : b < s.heap.size) (hbA : ¬ A b) (hin : ∀ k, k < 7 → vp_in (nI i + nI k) L) (hc : cells + 513 ≤ room_1.cells) (hsl : slots + 8186 ≤ room_1.slots) (hI : LInv G x0 m0 ws) (kk : ∀ ws2, LInv G x0 m0 ws2 → Wd p l e room_1 s m args below meth c G A 4 (cells + 513) (slots + 8186) Q (ws2) [(3, .int (nI i)), (2, .ref m0), (1, .ref x0), (0, .ref b)] 1096 []) : Wd p l e room_1 s m args below meth c G A 4 cells slots Q (ws) [(3, .int (nI i)), (2, .ref m0), (1, .ref x0), (0, .ref b)] 782 [] := by
  obtain ⟨q, xa, fa, ma, ra, FA, tL, f, RR, r1, r2, r3, r4, r5, th, ak, t5, su, pr, ms, ro, be, di, Z, E, rfl, rfl, hF, hM, hR, rfl⟩ := hI
  have hs := hF.1
  obtain ⟨r, hx, ha⟩ := R_difference (th := th) hs hM hR (xs (nI i + nI 1).toNatClampNeg) (xs (nI i + nI 2).toNatClampNeg) (xs (nI i + nI 3).toNatClampNeg)
  refine w_aload_n (x := xa 0) C 2 rfl dL_law_782 ?_
  refine w_aload_n (x := b) C 3 rfl dL_law_783 ?_
  refine w_iload_n (x := nI i) C 0 rfl dL_law_784 ?_
  refine w_iconst (v := nI 1) C dL_law_785 (by decide) ?_
  refine w_iadd C dL_law_786 ?_
  refine w_sld C hX hbl hbA (hin 1 (by decide)) dL_law_787 ?_
  refine w_aload_n (x := b) C 3 rfl dL_law_788 ?_
  refine w_iload_n (x := nI i) C 0 rfl dL_law_789 ?_
  refine w_iconst (v := nI 2) C dL_law_790 (by decide) ?_
  refine w_iadd C dL_law_791 ?_
  refine w_sld C hX hbl hbA (hin 2 (by decide)) dL_law_792 ?_
  refine w_aload_n (x := b) C 3 rfl dL_law_793 ?_
  refine w_iload_n (x := nI i) C 0 rfl dL_law_794 ?_
  refine w_iconst (v := nI 3) C dL_law_795 (by decide) ?_
  refine w_iadd C dL_law_796 ?_
  refine w_sld C hX hbl hbA (hin 3 (by decide)) dL_law_797 ?_
  refine w_cVi (k9 := 0) (wr := (Z ++ E) ++ (mw G ma th ak (nI q) (nI (prm q)) su pr ms ro be di)) (ws2 := ((Z ++ E) ++ (mw G ma th ak (nI q) (nI (prm q)) su pr ms ro be di)) ++ (xm G xa FA (fa 0) ra (nI q) ak RR ++ ([rcw ra r1 r2 r3 r4 r5] ++ fw G fa q (nI (prm q)) (nI q) (T0 q) (T1 q) (T2 q) (T3 q) (T4 q) t5 tL))) (v := .int r) C (c_X3_difference FU hx) pk_X3_difference ml_L_89 rfl rfl ⟨⟨rfl, rfl⟩, Nat.le_of_ble_eq_true rfl, Nat.le_of_ble_eq_true rfl⟩ rfl ⟨Nat.le_trans (Nat.le_add_right _ _) hc, Nat.le_trans (Nat.le_add_right _ _) hsl⟩ (Nat.le_of_ble_eq_true rfl) rfl rfl rfl dL_law_798 ?_
  refine w_perm (pmA _ _ _) ?_
  refine w_aload_n (x := ma 0) C 1 rfl dL_law_801 ?_
  refine w_aload_n (x := b) C 3 rfl dL_law_802 ?_
  refine w_iload_n (x := nI i) C 0 rfl dL_law_803 ?_
  refine w_iconst (v := nI 1) C dL_law_804 (by decide) ?_
  refine w_iadd C dL_law_805 ?_
  refine w_sld C hX hbl hbA (hin 1 (by decide)) dL_law_806 ?_
  refine w_aload_n (x := b) C 3 rfl dL_law_807 ?_
  refine w_iload_n (x := nI i) C 0 rfl dL_law_808 ?_
  refine w_iconst (v := nI 2) C dL_law_809 (by decide) ?_
  refine w_iadd C dL_law_810 ?_
  refine w_sld C hX hbl hbA (hin 2 (by decide)) dL_law_811 ?_
  refine w_aload_n (x := b) C 3 rfl dL_law_812 ?_
  refine w_iload_n (x := nI i) C 0 rfl dL_law_813 ?_
  refine w_iconst (v := nI 3) C dL_law_814 (by decide) ?_
  refine w_iadd C dL_law_815 ?_
  refine w_sld C hX hbl hbA (hin 3 (by decide)) dL_law_816 ?_
  refine w_cVi (k9 := 0) (wr := (Z ++ E) ++ (xm G xa FA (fa 0) ra (nI q) ak RR ++ ([rcw ra r1 r2 r3 r4 r5] ++ fw G fa q (nI (prm q)) (nI q) (T0 q) (T1 q) (T2 q) (T3 q) (T4 q) t5 tL))) (ws2 := ((Z ++ E) ++ (xm G xa FA (fa 0) ra (nI q) ak RR ++ ([rcw ra r1 r2 r3 r4 r5] ++ fw G fa q (nI (prm q)) (nI q) (T0 q) (T1 q) (T2 q) (T3 q) (T4 q) t5 tL))) ++ (mw G ma 0 ak (nI q) (nI (prm q)) su pr ms ro be di)) (v := .int r) (rest := [.int r]) C (c_X4_difference FU ha) pk_X4_difference ml_L_92 rfl rfl ⟨⟨rfl, rfl⟩, Nat.le_of_ble_eq_true rfl, Nat.le_of_ble_eq_true rfl⟩ rfl ⟨Nat.le_trans (Nat.le_add_right _ _) hc, Nat.le_trans (Nat.le_add_right _ _) hsl⟩ (Nat.le_of_ble_eq_true rfl) rfl rfl rfl dL_law_817 ?_
  refine w_perm (pmA _ _ _) ?_
  refine w_icmp_eq (tgt := 1096) C dL_law_820 (by decide) (fun _ => ?_) (fun h => absurd rfl h)
  exact w_wide (Nat.le_add_right _ _) (Nat.le_add_right _ _) (kk _ ⟨q, xa, fa, ma, ra, FA, tL, f, RR, r1, r2, r3, r4, r5, 0, ak, t5, su, pr, ms, ro, be, di, Z, E, rfl, rfl, hF, hM, hR, rfl⟩)
set_option maxHeartbeats 2000000 in
set_option maxRecDepth 20000 in
theorem law_spread {p : Program} {l : Launch} {e : Env} {s : State} {m : MethodId} {args : Array Value} {below : List Frame} {meth : Method} {c : Code} {G : GG} {A : Nat → Prop} {cells slots : Nat} {ret9 : Option FieldType} {Q : State → Prop} {b L i x0 m0 : Nat} {xs : Nat → Int32} {ws : va_W} (C : Cx p s m args meth c G A RL cL_law 4 ret9) (hX : va_X b L xs s s.heap) (hbl : b < s.heap.size) (hbA : ¬ A b) (hin : ∀ k, k < 7 → vp_in (nI i + nI k) L) (hc : cells + 513 ≤ room_1.cells) (hsl : slots + 8186 ≤ room_1.slots) (hI : LInv G x0 m0 ws) (kk : ∀ ws2, LInv G x0 m0 ws2 → Wd p l e room_1 s m args below meth c G A 4 (cells + 513) (slots + 8186) Q (ws2) [(3, .int (nI i)), (2, .ref m0), (1, .ref x0), (0, .ref b)] 1096 []) : Wd p l e room_1 s m args below meth c G A 4 cells slots Q (ws) [(3, .int (nI i)), (2, .ref m0), (1, .ref x0), (0, .ref b)] 825 [] := by
  obtain ⟨q, xa, fa, ma, ra, FA, tL, f, RR, r1, r2, r3, r4, r5, th, ak, t5, su, pr, ms, ro, be, di, Z, E, rfl, rfl, hF, hM, hR, rfl⟩ := hI
  have hs := hF.1
  obtain ⟨r, RR2, hx, ha, hR2⟩ := R_spread (th := th) hs hM hR (xs (nI i + nI 1).toNatClampNeg)
  refine w_aload_n (x := xa 0) C 2 rfl dL_law_825 ?_
  refine w_aload_n (x := b) C 3 rfl dL_law_826 ?_
  refine w_iload_n (x := nI i) C 0 rfl dL_law_827 ?_
  refine w_iconst (v := nI 1) C dL_law_828 (by decide) ?_
  refine w_iadd C dL_law_829 ?_
  refine w_sld C hX hbl hbA (hin 1 (by decide)) dL_law_830 ?_
  refine w_cVi (k9 := 0) (wr := (Z ++ E) ++ (mw G ma th ak (nI q) (nI (prm q)) su pr ms ro be di)) (ws2 := ((Z ++ E) ++ (mw G ma th ak (nI q) (nI (prm q)) su pr ms ro be di)) ++ (xm G xa FA (fa 0) ra (nI q) ak RR2 ++ ([rcw ra r1 r2 r3 r4 r5] ++ fw G fa q (nI (prm q)) (nI q) (T0 q) (T1 q) (T2 q) (T3 q) (T4 q) t5 tL))) (v := .int r) C (c_X3_spread FU hx) pk_X3_spread ml_L_93 rfl rfl ⟨⟨rfl, rfl⟩, Nat.le_of_ble_eq_true rfl, Nat.le_of_ble_eq_true rfl⟩ rfl ⟨Nat.le_trans (Nat.le_add_right _ _) hc, Nat.le_trans (Nat.le_add_right _ _) hsl⟩ (Nat.le_of_ble_eq_true rfl) rfl rfl rfl dL_law_831 ?_
  refine w_perm (pmA _ _ _) ?_
  refine w_aload_n (x := ma 0) C 1 rfl dL_law_834 ?_
  refine w_aload_n (x := b) C 3 rfl dL_law_835 ?_
  refine w_iload_n (x := nI i) C 0 rfl dL_law_836 ?_
  refine w_iconst (v := nI 1) C dL_law_837 (by decide) ?_
  refine w_iadd C dL_law_838 ?_
  refine w_sld C hX hbl hbA (hin 1 (by decide)) dL_law_839 ?_
  refine w_cVi (k9 := 0) (wr := (Z ++ E) ++ (xm G xa FA (fa 0) ra (nI q) ak RR2 ++ ([rcw ra r1 r2 r3 r4 r5] ++ fw G fa q (nI (prm q)) (nI q) (T0 q) (T1 q) (T2 q) (T3 q) (T4 q) t5 tL))) (ws2 := ((Z ++ E) ++ (xm G xa FA (fa 0) ra (nI q) ak RR2 ++ ([rcw ra r1 r2 r3 r4 r5] ++ fw G fa q (nI (prm q)) (nI q) (T0 q) (T1 q) (T2 q) (T3 q) (T4 q) t5 tL))) ++ (mw G ma 0 ak (nI q) (nI (prm q)) su pr ms ro be di)) (v := .int r) (rest := [.int r]) C (c_X4_spread FU ha) pk_X4_spread ml_L_96 rfl rfl ⟨⟨rfl, rfl⟩, Nat.le_of_ble_eq_true rfl, Nat.le_of_ble_eq_true rfl⟩ rfl ⟨Nat.le_trans (Nat.le_add_right _ _) hc, Nat.le_trans (Nat.le_add_right _ _) hsl⟩ (Nat.le_of_ble_eq_true rfl) rfl rfl rfl dL_law_840 ?_
  refine w_perm (pmA _ _ _) ?_
  refine w_icmp_eq (tgt := 1096) C dL_law_843 (by decide) (fun _ => ?_) (fun h => absurd rfl h)
  exact w_wide (Nat.le_add_right _ _) (Nat.le_add_right _ _) (kk _ ⟨q, xa, fa, ma, ra, FA, tL, f, RR2, r1, r2, r3, r4, r5, 0, ak, t5, su, pr, ms, ro, be, di, Z, E, rfl, rfl, hF, hM, hR2, rfl⟩)
set_option maxHeartbeats 2000000 in
set_option maxRecDepth 20000 in
theorem law_planar {p : Program} {l : Launch} {e : Env} {s : State} {m : MethodId} {args : Array Value} {below : List Frame} {meth : Method} {c : Code} {G : GG} {A : Nat → Prop} {cells slots : Nat} {ret9 : Option FieldType} {Q : State → Prop} {b L i x0 m0 : Nat} {xs : Nat → Int32} {ws : va_W} (C : Cx p s m args meth c G A RL cL_law 4 ret9) (hX : va_X b L xs s s.heap) (hbl : b < s.heap.size) (hbA : ¬ A b) (hin : ∀ k, k < 7 → vp_in (nI i + nI k) L) (hc : cells + 513 ≤ room_1.cells) (hsl : slots + 8186 ≤ room_1.slots) (hI : LInv G x0 m0 ws) (kk : ∀ ws2, LInv G x0 m0 ws2 → Wd p l e room_1 s m args below meth c G A 4 (cells + 513) (slots + 8186) Q (ws2) [(3, .int (nI i)), (2, .ref m0), (1, .ref x0), (0, .ref b)] 1096 []) : Wd p l e room_1 s m args below meth c G A 4 cells slots Q (ws) [(3, .int (nI i)), (2, .ref m0), (1, .ref x0), (0, .ref b)] 848 [] := by
  obtain ⟨q, xa, fa, ma, ra, FA, tL, f, RR, r1, r2, r3, r4, r5, th, ak, t5, su, pr, ms, ro, be, di, Z, E, rfl, rfl, hF, hM, hR, rfl⟩ := hI
  have hs := hF.1
  obtain ⟨r, RR2, hx, ha, hR2⟩ := R_planar (th := th) hs hM hR (xs (nI i + nI 1).toNatClampNeg)
  refine w_aload_n (x := xa 0) C 2 rfl dL_law_848 ?_
  refine w_aload_n (x := b) C 3 rfl dL_law_849 ?_
  refine w_iload_n (x := nI i) C 0 rfl dL_law_850 ?_
  refine w_iconst (v := nI 1) C dL_law_851 (by decide) ?_
  refine w_iadd C dL_law_852 ?_
  refine w_sld C hX hbl hbA (hin 1 (by decide)) dL_law_853 ?_
  refine w_cVi (k9 := 0) (wr := (Z ++ E) ++ (mw G ma th ak (nI q) (nI (prm q)) su pr ms ro be di)) (ws2 := ((Z ++ E) ++ (mw G ma th ak (nI q) (nI (prm q)) su pr ms ro be di)) ++ (xm G xa FA (fa 0) ra (nI q) ak RR2 ++ ([rcw ra r1 r2 r3 r4 r5] ++ fw G fa q (nI (prm q)) (nI q) (T0 q) (T1 q) (T2 q) (T3 q) (T4 q) t5 tL))) (v := .int r) C (c_X3_planar FU hx) pk_X3_planar ml_L_97 rfl rfl ⟨⟨rfl, rfl⟩, Nat.le_of_ble_eq_true rfl, Nat.le_of_ble_eq_true rfl⟩ rfl ⟨Nat.le_trans (Nat.le_add_right _ _) hc, Nat.le_trans (Nat.le_add_right _ _) hsl⟩ (Nat.le_of_ble_eq_true rfl) rfl rfl rfl dL_law_854 ?_
  refine w_perm (pmA _ _ _) ?_
  refine w_aload_n (x := ma 0) C 1 rfl dL_law_857 ?_
  refine w_aload_n (x := b) C 3 rfl dL_law_858 ?_
  refine w_iload_n (x := nI i) C 0 rfl dL_law_859 ?_
  refine w_iconst (v := nI 1) C dL_law_860 (by decide) ?_
  refine w_iadd C dL_law_861 ?_
  refine w_sld C hX hbl hbA (hin 1 (by decide)) dL_law_862 ?_
  refine w_cVi (k9 := 0) (wr := (Z ++ E) ++ (xm G xa FA (fa 0) ra (nI q) ak RR2 ++ ([rcw ra r1 r2 r3 r4 r5] ++ fw G fa q (nI (prm q)) (nI q) (T0 q) (T1 q) (T2 q) (T3 q) (T4 q) t5 tL))) (ws2 := ((Z ++ E) ++ (xm G xa FA (fa 0) ra (nI q) ak RR2 ++ ([rcw ra r1 r2 r3 r4 r5] ++ fw G fa q (nI (prm q)) (nI q) (T0 q) (T1 q) (T2 q) (T3 q) (T4 q) t5 tL))) ++ (mw G ma 0 ak (nI q) (nI (prm q)) su pr ms ro be di)) (v := .int r) (rest := [.int r]) C (c_X4_planar FU ha) pk_X4_planar ml_L_100 rfl rfl ⟨⟨rfl, rfl⟩, Nat.le_of_ble_eq_true rfl, Nat.le_of_ble_eq_true rfl⟩ rfl ⟨Nat.le_trans (Nat.le_add_right _ _) hc, Nat.le_trans (Nat.le_add_right _ _) hsl⟩ (Nat.le_of_ble_eq_true rfl) rfl rfl rfl dL_law_863 ?_
  refine w_perm (pmA _ _ _) ?_
  refine w_icmp_eq (tgt := 1096) C dL_law_866 (by decide) (fun _ => ?_) (fun h => absurd rfl h)
  exact w_wide (Nat.le_add_right _ _) (Nat.le_add_right _ _) (kk _ ⟨q, xa, fa, ma, ra, FA, tL, f, RR2, r1, r2, r3, r4, r5, 0, ak, t5, su, pr, ms, ro, be, di, Z, E, rfl, rfl, hF, hM, hR2, rfl⟩)
set_option maxHeartbeats 2000000 in
set_option maxRecDepth 20000 in
theorem law_walk {p : Program} {l : Launch} {e : Env} {s : State} {m : MethodId} {args : Array Value} {below : List Frame} {meth : Method} {c : Code} {G : GG} {A : Nat → Prop} {cells slots : Nat} {ret9 : Option FieldType} {Q : State → Prop} {b L i x0 m0 : Nat} {xs : Nat → Int32} {ws : va_W} (C : Cx p s m args meth c G A RL cL_law 4 ret9) (hX : va_X b L xs s s.heap) (hbl : b < s.heap.size) (hbA : ¬ A b) (hin : ∀ k, k < 7 → vp_in (nI i + nI k) L) (hc : cells + 513 ≤ room_1.cells) (hsl : slots + 8186 ≤ room_1.slots) (hI : LInv G x0 m0 ws) (kk : ∀ ws2, LInv G x0 m0 ws2 → Wd p l e room_1 s m args below meth c G A 4 (cells + 513) (slots + 8186) Q (ws2) [(3, .int (nI i)), (2, .ref m0), (1, .ref x0), (0, .ref b)] 1096 []) : Wd p l e room_1 s m args below meth c G A 4 cells slots Q (ws) [(3, .int (nI i)), (2, .ref m0), (1, .ref x0), (0, .ref b)] 871 [] := by
  obtain ⟨q, xa, fa, ma, ra, FA, tL, f, RR, r1, r2, r3, r4, r5, th, ak, t5, su, pr, ms, ro, be, di, Z, E, rfl, rfl, hF, hM, hR, rfl⟩ := hI
  have hs := hF.1
  obtain ⟨r, hx, ha⟩ := R_walk (th := th) hs hR (xs (nI i + nI 1).toNatClampNeg) (xs (nI i + nI 2).toNatClampNeg) (xs (nI i + nI 3).toNatClampNeg)
  refine w_aload_n (x := xa 0) C 2 rfl dL_law_871 ?_
  refine w_aload_n (x := b) C 3 rfl dL_law_872 ?_
  refine w_iload_n (x := nI i) C 0 rfl dL_law_873 ?_
  refine w_iconst (v := nI 1) C dL_law_874 (by decide) ?_
  refine w_iadd C dL_law_875 ?_
  refine w_sld C hX hbl hbA (hin 1 (by decide)) dL_law_876 ?_
  refine w_aload_n (x := b) C 3 rfl dL_law_877 ?_
  refine w_iload_n (x := nI i) C 0 rfl dL_law_878 ?_
  refine w_iconst (v := nI 2) C dL_law_879 (by decide) ?_
  refine w_iadd C dL_law_880 ?_
  refine w_sld C hX hbl hbA (hin 2 (by decide)) dL_law_881 ?_
  refine w_aload_n (x := b) C 3 rfl dL_law_882 ?_
  refine w_iload_n (x := nI i) C 0 rfl dL_law_883 ?_
  refine w_iconst (v := nI 3) C dL_law_884 (by decide) ?_
  refine w_iadd C dL_law_885 ?_
  refine w_sld C hX hbl hbA (hin 3 (by decide)) dL_law_886 ?_
  refine w_cVi (k9 := 0) (wr := (Z ++ E) ++ (mw G ma th ak (nI q) (nI (prm q)) su pr ms ro be di)) (ws2 := ((Z ++ E) ++ (mw G ma th ak (nI q) (nI (prm q)) su pr ms ro be di)) ++ (xm G xa FA (fa 0) ra (nI q) ak RR ++ ([rcw ra r1 r2 r3 r4 r5] ++ fw G fa q (nI (prm q)) (nI q) (T0 q) (T1 q) (T2 q) (T3 q) (T4 q) t5 tL))) (v := .int r) C (c_X3_walk FU hx) pk_X3_walk ml_L_101 rfl rfl ⟨⟨rfl, rfl⟩, Nat.le_of_ble_eq_true rfl, Nat.le_of_ble_eq_true rfl⟩ rfl ⟨Nat.le_trans (Nat.le_add_right _ _) hc, Nat.le_trans (Nat.le_add_right _ _) hsl⟩ (Nat.le_of_ble_eq_true rfl) rfl rfl rfl dL_law_887 ?_
  refine w_perm (pmA _ _ _) ?_
  refine w_aload_n (x := ma 0) C 1 rfl dL_law_890 ?_
  refine w_aload_n (x := b) C 3 rfl dL_law_891 ?_
  refine w_iload_n (x := nI i) C 0 rfl dL_law_892 ?_
  refine w_iconst (v := nI 1) C dL_law_893 (by decide) ?_
  refine w_iadd C dL_law_894 ?_
  refine w_sld C hX hbl hbA (hin 1 (by decide)) dL_law_895 ?_
  refine w_aload_n (x := b) C 3 rfl dL_law_896 ?_
  refine w_iload_n (x := nI i) C 0 rfl dL_law_897 ?_
  refine w_iconst (v := nI 2) C dL_law_898 (by decide) ?_
  refine w_iadd C dL_law_899 ?_
  refine w_sld C hX hbl hbA (hin 2 (by decide)) dL_law_900 ?_
  refine w_aload_n (x := b) C 3 rfl dL_law_901 ?_
  refine w_iload_n (x := nI i) C 0 rfl dL_law_902 ?_
  refine w_iconst (v := nI 3) C dL_law_903 (by decide) ?_
  refine w_iadd C dL_law_904 ?_
  refine w_sld C hX hbl hbA (hin 3 (by decide)) dL_law_905 ?_
  refine w_cVi (k9 := 0) (wr := (Z ++ E) ++ (xm G xa FA (fa 0) ra (nI q) ak RR ++ ([rcw ra r1 r2 r3 r4 r5] ++ fw G fa q (nI (prm q)) (nI q) (T0 q) (T1 q) (T2 q) (T3 q) (T4 q) t5 tL))) (ws2 := ((Z ++ E) ++ (xm G xa FA (fa 0) ra (nI q) ak RR ++ ([rcw ra r1 r2 r3 r4 r5] ++ fw G fa q (nI (prm q)) (nI q) (T0 q) (T1 q) (T2 q) (T3 q) (T4 q) t5 tL))) ++ (mw G ma 0 ak (nI q) (nI (prm q)) su pr ms ro be di)) (v := .int r) (rest := [.int r]) C (c_X4_walk FU ha) pk_X4_walk ml_L_104 rfl rfl ⟨⟨rfl, rfl⟩, Nat.le_of_ble_eq_true rfl, Nat.le_of_ble_eq_true rfl⟩ rfl ⟨Nat.le_trans (Nat.le_add_right _ _) hc, Nat.le_trans (Nat.le_add_right _ _) hsl⟩ (Nat.le_of_ble_eq_true rfl) rfl rfl rfl dL_law_906 ?_
  refine w_perm (pmA _ _ _) ?_
  refine w_icmp_eq (tgt := 1096) C dL_law_909 (by decide) (fun _ => ?_) (fun h => absurd rfl h)
  exact w_wide (Nat.le_add_right _ _) (Nat.le_add_right _ _) (kk _ ⟨q, xa, fa, ma, ra, FA, tL, f, RR, r1, r2, r3, r4, r5, 0, ak, t5, su, pr, ms, ro, be, di, Z, E, rfl, rfl, hF, hM, hR, rfl⟩)
set_option maxHeartbeats 2000000 in
set_option maxRecDepth 20000 in
theorem law_linear {p : Program} {l : Launch} {e : Env} {s : State} {m : MethodId} {args : Array Value} {below : List Frame} {meth : Method} {c : Code} {G : GG} {A : Nat → Prop} {cells slots : Nat} {ret9 : Option FieldType} {Q : State → Prop} {b L i x0 m0 : Nat} {xs : Nat → Int32} {ws : va_W} (C : Cx p s m args meth c G A RL cL_law 4 ret9) (hX : va_X b L xs s s.heap) (hbl : b < s.heap.size) (hbA : ¬ A b) (hin : ∀ k, k < 7 → vp_in (nI i + nI k) L) (hc : cells + 513 ≤ room_1.cells) (hsl : slots + 8186 ≤ room_1.slots) (hI : LInv G x0 m0 ws) (kk : ∀ ws2, LInv G x0 m0 ws2 → Wd p l e room_1 s m args below meth c G A 4 (cells + 513) (slots + 8186) Q (ws2) [(3, .int (nI i)), (2, .ref m0), (1, .ref x0), (0, .ref b)] 1096 []) : Wd p l e room_1 s m args below meth c G A 4 cells slots Q (ws) [(3, .int (nI i)), (2, .ref m0), (1, .ref x0), (0, .ref b)] 914 [] := by
  obtain ⟨q, xa, fa, ma, ra, FA, tL, f, RR, r1, r2, r3, r4, r5, th, ak, t5, su, pr, ms, ro, be, di, Z, E, rfl, rfl, hF, hM, hR, rfl⟩ := hI
  have hs := hF.1
  obtain ⟨r, hx, ha⟩ := R_linear (th := th) hs hR (xs (nI i + nI 1).toNatClampNeg)
  refine w_aload_n (x := xa 0) C 2 rfl dL_law_914 ?_
  refine w_aload_n (x := b) C 3 rfl dL_law_915 ?_
  refine w_iload_n (x := nI i) C 0 rfl dL_law_916 ?_
  refine w_iconst (v := nI 1) C dL_law_917 (by decide) ?_
  refine w_iadd C dL_law_918 ?_
  refine w_sld C hX hbl hbA (hin 1 (by decide)) dL_law_919 ?_
  refine w_cVi (k9 := 0) (wr := (Z ++ E) ++ (mw G ma th ak (nI q) (nI (prm q)) su pr ms ro be di)) (ws2 := ((Z ++ E) ++ (mw G ma th ak (nI q) (nI (prm q)) su pr ms ro be di)) ++ (xm G xa FA (fa 0) ra (nI q) ak RR ++ ([rcw ra r1 r2 r3 r4 r5] ++ fw G fa q (nI (prm q)) (nI q) (T0 q) (T1 q) (T2 q) (T3 q) (T4 q) t5 tL))) (v := .int r) C (c_X3_linear FU hx) pk_X3_linear ml_L_105 rfl rfl ⟨⟨rfl, rfl⟩, Nat.le_of_ble_eq_true rfl, Nat.le_of_ble_eq_true rfl⟩ rfl ⟨Nat.le_trans (Nat.le_add_right _ _) hc, Nat.le_trans (Nat.le_add_right _ _) hsl⟩ (Nat.le_of_ble_eq_true rfl) rfl rfl rfl dL_law_920 ?_
  refine w_perm (pmA _ _ _) ?_
  refine w_aload_n (x := ma 0) C 1 rfl dL_law_923 ?_
  refine w_aload_n (x := b) C 3 rfl dL_law_924 ?_
  refine w_iload_n (x := nI i) C 0 rfl dL_law_925 ?_
  refine w_iconst (v := nI 1) C dL_law_926 (by decide) ?_
  refine w_iadd C dL_law_927 ?_
  refine w_sld C hX hbl hbA (hin 1 (by decide)) dL_law_928 ?_
  refine w_cVi (k9 := 0) (wr := (Z ++ E) ++ (xm G xa FA (fa 0) ra (nI q) ak RR ++ ([rcw ra r1 r2 r3 r4 r5] ++ fw G fa q (nI (prm q)) (nI q) (T0 q) (T1 q) (T2 q) (T3 q) (T4 q) t5 tL))) (ws2 := ((Z ++ E) ++ (xm G xa FA (fa 0) ra (nI q) ak RR ++ ([rcw ra r1 r2 r3 r4 r5] ++ fw G fa q (nI (prm q)) (nI q) (T0 q) (T1 q) (T2 q) (T3 q) (T4 q) t5 tL))) ++ (mw G ma 0 ak (nI q) (nI (prm q)) su pr ms ro be di)) (v := .int r) (rest := [.int r]) C (c_X4_linear FU ha) pk_X4_linear ml_L_108 rfl rfl ⟨⟨rfl, rfl⟩, Nat.le_of_ble_eq_true rfl, Nat.le_of_ble_eq_true rfl⟩ rfl ⟨Nat.le_trans (Nat.le_add_right _ _) hc, Nat.le_trans (Nat.le_add_right _ _) hsl⟩ (Nat.le_of_ble_eq_true rfl) rfl rfl rfl dL_law_929 ?_
  refine w_perm (pmA _ _ _) ?_
  refine w_icmp_eq (tgt := 1096) C dL_law_932 (by decide) (fun _ => ?_) (fun h => absurd rfl h)
  exact w_wide (Nat.le_add_right _ _) (Nat.le_add_right _ _) (kk _ ⟨q, xa, fa, ma, ra, FA, tL, f, RR, r1, r2, r3, r4, r5, 0, ak, t5, su, pr, ms, ro, be, di, Z, E, rfl, rfl, hF, hM, hR, rfl⟩)
set_option maxHeartbeats 2000000 in
set_option maxRecDepth 20000 in
theorem law_like {p : Program} {l : Launch} {e : Env} {s : State} {m : MethodId} {args : Array Value} {below : List Frame} {meth : Method} {c : Code} {G : GG} {A : Nat → Prop} {cells slots : Nat} {ret9 : Option FieldType} {Q : State → Prop} {b L i x0 m0 : Nat} {xs : Nat → Int32} {ws : va_W} (C : Cx p s m args meth c G A RL cL_law 4 ret9) (hX : va_X b L xs s s.heap) (hbl : b < s.heap.size) (hbA : ¬ A b) (hin : ∀ k, k < 7 → vp_in (nI i + nI k) L) (hc : cells + 513 ≤ room_1.cells) (hsl : slots + 8186 ≤ room_1.slots) (hI : LInv G x0 m0 ws) (kk : ∀ ws2, LInv G x0 m0 ws2 → Wd p l e room_1 s m args below meth c G A 4 (cells + 513) (slots + 8186) Q (ws2) [(3, .int (nI i)), (2, .ref m0), (1, .ref x0), (0, .ref b)] 1096 []) : Wd p l e room_1 s m args below meth c G A 4 cells slots Q (ws) [(3, .int (nI i)), (2, .ref m0), (1, .ref x0), (0, .ref b)] 937 [] := by
  obtain ⟨q, xa, fa, ma, ra, FA, tL, f, RR, r1, r2, r3, r4, r5, th, ak, t5, su, pr, ms, ro, be, di, Z, E, rfl, rfl, hF, hM, hR, rfl⟩ := hI
  have hs := hF.1
  obtain ⟨r, hx, ha⟩ := R_like (th := th) hs hM hR (xs (nI i + nI 1).toNatClampNeg) (xs (nI i + nI 2).toNatClampNeg)
  refine w_aload_n (x := xa 0) C 2 rfl dL_law_937 ?_
  refine w_aload_n (x := b) C 3 rfl dL_law_938 ?_
  refine w_iload_n (x := nI i) C 0 rfl dL_law_939 ?_
  refine w_iconst (v := nI 1) C dL_law_940 (by decide) ?_
  refine w_iadd C dL_law_941 ?_
  refine w_sld C hX hbl hbA (hin 1 (by decide)) dL_law_942 ?_
  refine w_aload_n (x := b) C 3 rfl dL_law_943 ?_
  refine w_iload_n (x := nI i) C 0 rfl dL_law_944 ?_
  refine w_iconst (v := nI 2) C dL_law_945 (by decide) ?_
  refine w_iadd C dL_law_946 ?_
  refine w_sld C hX hbl hbA (hin 2 (by decide)) dL_law_947 ?_
  refine w_cVi (k9 := 0) (wr := (Z ++ E) ++ (mw G ma th ak (nI q) (nI (prm q)) su pr ms ro be di)) (ws2 := ((Z ++ E) ++ (mw G ma th ak (nI q) (nI (prm q)) su pr ms ro be di)) ++ (xm G xa FA (fa 0) ra (nI q) ak RR ++ ([rcw ra r1 r2 r3 r4 r5] ++ fw G fa q (nI (prm q)) (nI q) (T0 q) (T1 q) (T2 q) (T3 q) (T4 q) t5 tL))) (v := .int r) C (c_X3_like FU hx) pk_X3_like ml_L_109 rfl rfl ⟨⟨rfl, rfl⟩, Nat.le_of_ble_eq_true rfl, Nat.le_of_ble_eq_true rfl⟩ rfl ⟨Nat.le_trans (Nat.le_add_right _ _) hc, Nat.le_trans (Nat.le_add_right _ _) hsl⟩ (Nat.le_of_ble_eq_true rfl) rfl rfl rfl dL_law_948 ?_
  refine w_perm (pmA _ _ _) ?_
  refine w_aload_n (x := ma 0) C 1 rfl dL_law_951 ?_
  refine w_aload_n (x := b) C 3 rfl dL_law_952 ?_
  refine w_iload_n (x := nI i) C 0 rfl dL_law_953 ?_
  refine w_iconst (v := nI 1) C dL_law_954 (by decide) ?_
  refine w_iadd C dL_law_955 ?_
  refine w_sld C hX hbl hbA (hin 1 (by decide)) dL_law_956 ?_
  refine w_aload_n (x := b) C 3 rfl dL_law_957 ?_
  refine w_iload_n (x := nI i) C 0 rfl dL_law_958 ?_
  refine w_iconst (v := nI 2) C dL_law_959 (by decide) ?_
  refine w_iadd C dL_law_960 ?_
  refine w_sld C hX hbl hbA (hin 2 (by decide)) dL_law_961 ?_
  refine w_cVi (k9 := 0) (wr := (Z ++ E) ++ (xm G xa FA (fa 0) ra (nI q) ak RR ++ ([rcw ra r1 r2 r3 r4 r5] ++ fw G fa q (nI (prm q)) (nI q) (T0 q) (T1 q) (T2 q) (T3 q) (T4 q) t5 tL))) (ws2 := ((Z ++ E) ++ (xm G xa FA (fa 0) ra (nI q) ak RR ++ ([rcw ra r1 r2 r3 r4 r5] ++ fw G fa q (nI (prm q)) (nI q) (T0 q) (T1 q) (T2 q) (T3 q) (T4 q) t5 tL))) ++ (mw G ma 0 ak (nI q) (nI (prm q)) su pr ms ro be di)) (v := .int r) (rest := [.int r]) C (c_X4_like FU ha) pk_X4_like ml_L_112 rfl rfl ⟨⟨rfl, rfl⟩, Nat.le_of_ble_eq_true rfl, Nat.le_of_ble_eq_true rfl⟩ rfl ⟨Nat.le_trans (Nat.le_add_right _ _) hc, Nat.le_trans (Nat.le_add_right _ _) hsl⟩ (Nat.le_of_ble_eq_true rfl) rfl rfl rfl dL_law_962 ?_
  refine w_perm (pmA _ _ _) ?_
  refine w_icmp_eq (tgt := 1096) C dL_law_965 (by decide) (fun _ => ?_) (fun h => absurd rfl h)
  exact w_wide (Nat.le_add_right _ _) (Nat.le_add_right _ _) (kk _ ⟨q, xa, fa, ma, ra, FA, tL, f, RR, r1, r2, r3, r4, r5, 0, ak, t5, su, pr, ms, ro, be, di, Z, E, rfl, rfl, hF, hM, hR, rfl⟩)
set_option maxHeartbeats 2000000 in
set_option maxRecDepth 20000 in
theorem law_least {p : Program} {l : Launch} {e : Env} {s : State} {m : MethodId} {args : Array Value} {below : List Frame} {meth : Method} {c : Code} {G : GG} {A : Nat → Prop} {cells slots : Nat} {ret9 : Option FieldType} {Q : State → Prop} {b L i x0 m0 : Nat} {xs : Nat → Int32} {ws : va_W} (C : Cx p s m args meth c G A RL cL_law 4 ret9) (hX : va_X b L xs s s.heap) (hbl : b < s.heap.size) (hbA : ¬ A b) (hin : ∀ k, k < 7 → vp_in (nI i + nI k) L) (hc : cells + 513 ≤ room_1.cells) (hsl : slots + 8186 ≤ room_1.slots) (hI : LInv G x0 m0 ws) (kk : ∀ ws2, LInv G x0 m0 ws2 → Wd p l e room_1 s m args below meth c G A 4 (cells + 513) (slots + 8186) Q (ws2) [(3, .int (nI i)), (2, .ref m0), (1, .ref x0), (0, .ref b)] 1096 []) : Wd p l e room_1 s m args below meth c G A 4 cells slots Q (ws) [(3, .int (nI i)), (2, .ref m0), (1, .ref x0), (0, .ref b)] 970 [] := by
  obtain ⟨q, xa, fa, ma, ra, FA, tL, f, RR, r1, r2, r3, r4, r5, th, ak, t5, su, pr, ms, ro, be, di, Z, E, rfl, rfl, hF, hM, hR, rfl⟩ := hI
  have hs := hF.1
  obtain ⟨r, RR2, ms2, ro2, be2, f2, hx, ha, hR2⟩ := R_least (th := th) (ro := ro) (be := be) hs hM hR (xs (nI i + nI 1).toNatClampNeg)
  refine w_aload_n (x := xa 0) C 2 rfl dL_law_970 ?_
  refine w_aload_n (x := b) C 3 rfl dL_law_971 ?_
  refine w_iload_n (x := nI i) C 0 rfl dL_law_972 ?_
  refine w_iconst (v := nI 1) C dL_law_973 (by decide) ?_
  refine w_iadd C dL_law_974 ?_
  refine w_sld C hX hbl hbA (hin 1 (by decide)) dL_law_975 ?_
  refine w_cVi (k9 := 0) (wr := (Z ++ E) ++ (mw G ma th ak (nI q) (nI (prm q)) su pr ms ro be di)) (ws2 := ((Z ++ E) ++ (mw G ma th ak (nI q) (nI (prm q)) su pr ms ro be di)) ++ (xm G xa FA (fa 0) ra (nI q) ak RR2 ++ ([rcw ra r1 r2 r3 r4 r5] ++ fw G fa q (nI (prm q)) (nI q) (T0 q) (T1 q) (T2 q) (T3 q) (T4 q) t5 tL))) (v := .int r) C (c_X3_least FU hx) pk_X3_least ml_L_113 rfl rfl ⟨⟨rfl, rfl⟩, Nat.le_of_ble_eq_true rfl, Nat.le_of_ble_eq_true rfl⟩ rfl ⟨Nat.le_trans (Nat.le_add_right _ _) hc, Nat.le_trans (Nat.le_add_right _ _) hsl⟩ (Nat.le_of_ble_eq_true rfl) rfl rfl rfl dL_law_976 ?_
  refine w_perm (pmA _ _ _) ?_
  refine w_aload_n (x := ma 0) C 1 rfl dL_law_979 ?_
  refine w_aload_n (x := b) C 3 rfl dL_law_980 ?_
  refine w_iload_n (x := nI i) C 0 rfl dL_law_981 ?_
  refine w_iconst (v := nI 1) C dL_law_982 (by decide) ?_
  refine w_iadd C dL_law_983 ?_
  refine w_sld C hX hbl hbA (hin 1 (by decide)) dL_law_984 ?_
  refine w_cVi (k9 := 0) (wr := (Z ++ E) ++ (xm G xa FA (fa 0) ra (nI q) ak RR2 ++ ([rcw ra r1 r2 r3 r4 r5] ++ fw G fa q (nI (prm q)) (nI q) (T0 q) (T1 q) (T2 q) (T3 q) (T4 q) t5 tL))) (ws2 := ((Z ++ E) ++ (xm G xa FA (fa 0) ra (nI q) ak RR2 ++ ([rcw ra r1 r2 r3 r4 r5] ++ fw G fa q (nI (prm q)) (nI q) (T0 q) (T1 q) (T2 q) (T3 q) (T4 q) t5 tL))) ++ (mw G ma 0 ak (nI q) (nI (prm q)) su pr ms2 ro2 be2 di)) (v := .int r) (rest := [.int r]) C (c_X4_least FU ha) pk_X4_least ml_L_116 rfl rfl ⟨⟨rfl, rfl⟩, Nat.le_of_ble_eq_true rfl, Nat.le_of_ble_eq_true rfl⟩ rfl ⟨Nat.le_trans (Nat.le_add_right _ _) hc, Nat.le_trans (Nat.le_add_right _ _) hsl⟩ (Nat.le_of_ble_eq_true rfl) rfl rfl rfl dL_law_985 ?_
  refine w_perm (pmA _ _ _) ?_
  refine w_icmp_eq (tgt := 1096) C dL_law_988 (by decide) (fun _ => ?_) (fun h => absurd rfl h)
  exact w_wide (Nat.le_add_right _ _) (Nat.le_add_right _ _) (kk _ ⟨q, xa, fa, ma, ra, FA, tL, f2, RR2, r1, r2, r3, r4, r5, 0, ak, t5, su, pr, ms2, ro2, be2, di, Z, E, rfl, rfl, hF, hM, hR2, rfl⟩)
set_option maxHeartbeats 2000000 in
set_option maxRecDepth 20000 in
theorem law_count {p : Program} {l : Launch} {e : Env} {s : State} {m : MethodId} {args : Array Value} {below : List Frame} {meth : Method} {c : Code} {G : GG} {A : Nat → Prop} {cells slots : Nat} {ret9 : Option FieldType} {Q : State → Prop} {b L i x0 m0 : Nat} {xs : Nat → Int32} {ws : va_W} (C : Cx p s m args meth c G A RL cL_law 4 ret9) (hX : va_X b L xs s s.heap) (hbl : b < s.heap.size) (hbA : ¬ A b) (hin : ∀ k, k < 7 → vp_in (nI i + nI k) L) (hc : cells + 513 ≤ room_1.cells) (hsl : slots + 8186 ≤ room_1.slots) (hI : LInv G x0 m0 ws) (kk : ∀ ws2, LInv G x0 m0 ws2 → Wd p l e room_1 s m args below meth c G A 4 (cells + 513) (slots + 8186) Q (ws2) [(3, .int (nI i)), (2, .ref m0), (1, .ref x0), (0, .ref b)] 1096 []) : Wd p l e room_1 s m args below meth c G A 4 cells slots Q (ws) [(3, .int (nI i)), (2, .ref m0), (1, .ref x0), (0, .ref b)] 1059 [] := by
  obtain ⟨q, xa, fa, ma, ra, FA, tL, f, RR, r1, r2, r3, r4, r5, th, ak, t5, su, pr, ms, ro, be, di, Z, E, rfl, rfl, hF, hM, hR, rfl⟩ := hI
  have hs := hF.1
  obtain ⟨r, hx, ha⟩ := R_count (th := th) hs hR (xs (nI i + nI 1).toNatClampNeg)
  refine w_aload_n (x := xa 0) C 2 rfl dL_law_1059 ?_
  refine w_aload_n (x := b) C 3 rfl dL_law_1060 ?_
  refine w_iload_n (x := nI i) C 0 rfl dL_law_1061 ?_
  refine w_iconst (v := nI 1) C dL_law_1062 (by decide) ?_
  refine w_iadd C dL_law_1063 ?_
  refine w_sld C hX hbl hbA (hin 1 (by decide)) dL_law_1064 ?_
  refine w_cVi (k9 := 0) (wr := (Z ++ E) ++ (mw G ma th ak (nI q) (nI (prm q)) su pr ms ro be di)) (ws2 := ((Z ++ E) ++ (mw G ma th ak (nI q) (nI (prm q)) su pr ms ro be di)) ++ (xm G xa FA (fa 0) ra (nI q) ak RR ++ ([rcw ra r1 r2 r3 r4 r5] ++ fw G fa q (nI (prm q)) (nI q) (T0 q) (T1 q) (T2 q) (T3 q) (T4 q) t5 tL))) (v := .int r) C (c_X3_count FU hx) pk_X3_count ml_L_125 rfl rfl ⟨⟨rfl, rfl⟩, Nat.le_of_ble_eq_true rfl, Nat.le_of_ble_eq_true rfl⟩ rfl ⟨Nat.le_trans (Nat.le_add_right _ _) hc, Nat.le_trans (Nat.le_add_right _ _) hsl⟩ (Nat.le_of_ble_eq_true rfl) rfl rfl rfl dL_law_1065 ?_
  refine w_perm (pmA _ _ _) ?_
  refine w_aload_n (x := ma 0) C 1 rfl dL_law_1068 ?_
  refine w_aload_n (x := b) C 3 rfl dL_law_1069 ?_
  refine w_iload_n (x := nI i) C 0 rfl dL_law_1070 ?_
  refine w_iconst (v := nI 1) C dL_law_1071 (by decide) ?_
  refine w_iadd C dL_law_1072 ?_
  refine w_sld C hX hbl hbA (hin 1 (by decide)) dL_law_1073 ?_
  refine w_cVi (k9 := 0) (wr := (Z ++ E) ++ (xm G xa FA (fa 0) ra (nI q) ak RR ++ ([rcw ra r1 r2 r3 r4 r5] ++ fw G fa q (nI (prm q)) (nI q) (T0 q) (T1 q) (T2 q) (T3 q) (T4 q) t5 tL))) (ws2 := ((Z ++ E) ++ (xm G xa FA (fa 0) ra (nI q) ak RR ++ ([rcw ra r1 r2 r3 r4 r5] ++ fw G fa q (nI (prm q)) (nI q) (T0 q) (T1 q) (T2 q) (T3 q) (T4 q) t5 tL))) ++ (mw G ma 0 ak (nI q) (nI (prm q)) su pr ms ro be di)) (v := .int r) (rest := [.int r]) C (c_X4_count FU ha) pk_X4_count ml_L_128 rfl rfl ⟨⟨rfl, rfl⟩, Nat.le_of_ble_eq_true rfl, Nat.le_of_ble_eq_true rfl⟩ rfl ⟨Nat.le_trans (Nat.le_add_right _ _) hc, Nat.le_trans (Nat.le_add_right _ _) hsl⟩ (Nat.le_of_ble_eq_true rfl) rfl rfl rfl dL_law_1074 ?_
  refine w_perm (pmA _ _ _) ?_
  refine w_icmp_eq (tgt := 1096) C dL_law_1077 (by decide) (fun _ => ?_) (fun h => absurd rfl h)
  exact w_wide (Nat.le_add_right _ _) (Nat.le_add_right _ _) (kk _ ⟨q, xa, fa, ma, ra, FA, tL, f, RR, r1, r2, r3, r4, r5, 0, ak, t5, su, pr, ms, ro, be, di, Z, E, rfl, rfl, hF, hM, hR, rfl⟩)
