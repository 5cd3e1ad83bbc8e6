theorem and31 (v : Int32) : ∃ j, j < 32 ∧ v &&& 31 = nI j := by
  refine ⟨(v &&& 31).toBitVec.toNat, ?_, ?_⟩
  · have h : (v &&& 31).toBitVec.toNat = v.toBitVec.toNat &&& 31 := by
      rw [Int32.toBitVec_and, BitVec.toNat_and]
      rfl
    rw [h]
    exact Nat.lt_of_le_of_lt Nat.and_le_right (by decide)
  · apply Int32.toBitVec_inj.1
    show (v &&& 31).toBitVec = BitVec.ofNat 32 (v &&& 31).toBitVec.toNat
    rw [BitVec.ofNat_toNat, BitVec.setWidth_eq]
theorem k_neg7 : ∀ L, L < 7 → nI L - nI 7 < 0 := by decide
theorem seven {L i : Nat} (hL : L ≤ 3584) (hi : i ≤ 4000) (h : ¬ nI L - nI 7 < nI i) : i + 7 ≤ L := by
  rcases Nat.lt_or_ge L 7 with z | z
  · exact absurd (Int32.lt_of_lt_of_le (k_neg7 L z) (nI_le (a := 0) (Nat.zero_le i) (by omega))) h
  · rw [pk_sub z] at h
    rcases Nat.lt_or_ge (L - 7) i with y | y
    · exact absurd (nI_lt y (by omega)) h
    · omega
set_option maxHeartbeats 4000000 in
set_option maxRecDepth 20000 in
theorem law_loop {p : Program} {l : Launch} {e : Env} {s : State} {m : MethodId} {below : List Frame} {meth : Method} {c : Code} {G : GG} {b L x0 m0 : Nat} {xs : Nat → Int32} (hL : L ≤ 3584) (C : Cx p s m #[Value.ref b] meth c G (fun q : Nat => s.heap.size ≤ q) RL cL_law 4 ret) (hX : va_X b L xs s s.heap) (hbl : b < s.heap.size) : ∀ (n k : Nat) (ws : va_W), 7 * k ≤ L → 513 ≤ k + n → LInv G x0 m0 ws → Wd p l e room_1 s m #[Value.ref b] below meth c G (fun q : Nat => s.heap.size ≤ q) 4 (25 + 513 * k) (1577 + 8186 * k) (lw_Z below #[Value.ref b] s) ws [(3, .int (nI (7 * k))), (2, .ref m0), (1, .ref x0), (0, .ref b)] 18 [] := by
  have hbA : ¬ (fun q : Nat => s.heap.size ≤ q) b := Nat.not_le.mpr hbl
  intro n
  induction n with
  | zero =>
    intro k ws h1 h2 _
    exact absurd h2 (by omega)
  | succ n ih =>
    intro k ws hk hn hI
    refine w_iload_n (x := nI (7 * k)) C 0 rfl dL_law_18 ?_
    refine w_aload_n (x := b) C 3 rfl dL_law_19 ?_
    refine w_slen C hX hbl hbA dL_law_20 ?_
    refine w_bipush (v := nI 7) C dL_law_21 (by decide) ?_
    refine w_isub C dL_law_23 ?_
    refine w_icmp_gt (tgt := 1102) C dL_law_24 (by decide) (fun _ => ?_) (fun h => ?_)
    · refine w_iconst (v := 1) C dL_law_1102 (by decide) ?_
      exact fun H locs ls hP hD hS hl => va_forget (fun q hq => hS.2.2 q hq) (W.widen (k := 600000) (n := 7302250) (by omega) (by omega) (lw_ret C.1 C.2.1 C.2.2.2.1 C.2.2.2.2.1 dL_law_1103))
    have h7 := seven hL (by omega) h
    have hin0 : vp_in (nI (7 * k)) L := nI_in (by omega) (by omega)
    have hin : ∀ j, j < 7 → vp_in (nI (7 * k) + nI j) L := fun j hj => by rw [nI_add]; exact nI_in (by omega) (by omega)
    have hc : 25 + 513 * k + 513 ≤ room_1.cells := by show 25 + 513 * k + 513 ≤ 600000; omega
    have hsl : 1577 + 8186 * k + 8186 ≤ room_1.slots := by show 1577 + 8186 * k + 8186 ≤ 7302250; omega
    have next : ∀ ws2, LInv G x0 m0 ws2 → Wd p l e room_1 s m #[Value.ref b] below meth c G (fun q : Nat => s.heap.size ≤ q) 4 (25 + 513 * k + 513) (1577 + 8186 * k + 8186) (lw_Z below #[Value.ref b] s) ws2 [(3, .int (nI (7 * k))), (2, .ref m0), (1, .ref x0), (0, .ref b)] 1096 [] := fun ws2 h2 => by
      refine w_iinc (k := 0) (x := nI (7 * k)) (v := nI (7 * (k + 1))) (lv' := [(3, .int (nI (7 * (k + 1)))), (2, .ref m0), (1, .ref x0), (0, .ref b)]) C rfl ?_ (by decide) rfl dL_law_1096 ?_
      · show nI (7 * k) + nI 7 = nI (7 * (k + 1))
        rw [nI_add]
        rfl
      refine w_goto (tgt := 18) C dL_law_1099 (by decide) ?_
      rw [show 25 + 513 * k + 513 = 25 + 513 * (k + 1) by omega, show 1577 + 8186 * k + 8186 = 1577 + 8186 * (k + 1) by omega]
      exact ih (k + 1) ws2 (by omega) (by omega) h2
    refine w_aload_n (x := b) C 3 rfl dL_law_27 ?_
    refine w_iload_n (x := nI (7 * k)) C 0 rfl dL_law_28 ?_
    refine w_sld C hX hbl hbA hin0 dL_law_29 ?_
    refine w_bipush (v := 31) C dL_law_30 (by decide) ?_
    refine w_iand C dL_law_32 ?_
    obtain ⟨j, hj, ej⟩ := and31 (xs (nI (7 * k)).toNatClampNeg)
    rw [ej]
    have hj2 : j = 0 ∨ j = 1 ∨ j = 2 ∨ j = 3 ∨ j = 4 ∨ j = 5 ∨ j = 6 ∨ j = 7 ∨ j = 8 ∨ j = 9 ∨ j = 10 ∨ j = 11 ∨ j = 12 ∨ j = 13 ∨ j = 14 ∨ j = 15 ∨ j = 16 ∨ j = 17 ∨ j = 18 ∨ j = 19 ∨ j = 20 ∨ j = 21 ∨ j = 22 ∨ j = 23 ∨ j = 24 ∨ j = 25 ∨ j = 26 ∨ j = 27 ∨ j = 28 ∨ j = 29 ∨ j = 30 ∨ j = 31 := by omega
    rcases hj2 with rfl | rfl | rfl | rfl | rfl | rfl | rfl | rfl | rfl | rfl | rfl | rfl | rfl | rfl | rfl | rfl | rfl | rfl | rfl | rfl | rfl | rfl | rfl | rfl | rfl | rfl | rfl | rfl | rfl | rfl | rfl | rfl
    · exact w_tableIn (off := 131) (tgt := 164) C dL_law_33 (by decide) (by decide) (by decide) (by decide) (law_field C hX hbl hbA hin hc hsl hI next)
    · exact w_tableIn (off := 154) (tgt := 187) C dL_law_33 (by decide) (by decide) (by decide) (by decide) (law_plus C hX hbl hbA hin hc hsl hI next)
    · exact w_tableIn (off := 187) (tgt := 220) C dL_law_33 (by decide) (by decide) (by decide) (by decide) (law_times C hX hbl hbA hin hc hsl hI next)
    · exact w_tableIn (off := 220) (tgt := 253) C dL_law_33 (by decide) (by decide) (by decide) (by decide) (law_over C hX hbl hbA hin hc hsl hI next)
    · exact w_tableIn (off := 243) (tgt := 276) C dL_law_33 (by decide) (by decide) (by decide) (by decide) (law_set C hX hbl hbA hin hc hsl hI next)
    · exact w_tableIn (off := 286) (tgt := 319) C dL_law_33 (by decide) (by decide) (by decide) (by decide) (law_at C hX hbl hbA hin hc hsl hI next)
    · exact w_tableIn (off := 319) (tgt := 352) C dL_law_33 (by decide) (by decide) (by decide) (by decide) (law_coefficient C hX hbl hbA hin hc hsl hI next)
    · exact w_tableIn (off := 352) (tgt := 385) C dL_law_33 (by decide) (by decide) (by decide) (by decide) (law_change C hX hbl hbA hin hc hsl hI next)
    · exact w_tableIn (off := 395) (tgt := 428) C dL_law_33 (by decide) (by decide) (by decide) (by decide) (law_degree C hX hbl hbA hin hc hsl hI next)
    · exact w_tableIn (off := 418) (tgt := 451) C dL_law_33 (by decide) (by decide) (by decide) (by decide) (law_make C hX hbl hbA hin hc hsl hI next)
    · exact w_tableIn (off := 493) (tgt := 526) C dL_law_33 (by decide) (by decide) (by decide) (by decide) (law_taste C hX hbl hbA hin hc hsl hI next)
    · exact w_tableIn (off := 568) (tgt := 601) C dL_law_33 (by decide) (by decide) (by decide) (by decide) (law_chain C hX hbl hbA hin hc hsl hI next)
    · exact w_tableIn (off := 611) (tgt := 644) C dL_law_33 (by decide) (by decide) (by decide) (by decide) (law_shuffles C hX hbl hbA hin hc hsl hI next)
    · exact w_tableIn (off := 634) (tgt := 667) C dL_law_33 (by decide) (by decide) (by decide) (by decide) (law_fails C hX hbl hbA hin hc hsl hI next)
    · exact w_tableIn (off := 657) (tgt := 690) C dL_law_33 (by decide) (by decide) (by decide) (by decide) (law_image C hX hbl hbA hin hc hsl hI next)
    · exact w_tableIn (off := 680) (tgt := 713) C dL_law_33 (by decide) (by decide) (by decide) (by decide) (law_turn C hX hbl hbA hin hc hsl hI next)
    · exact w_tableIn (off := 703) (tgt := 736) C dL_law_33 (by decide) (by decide) (by decide) (by decide) (law_order C hX hbl hbA hin hc hsl hI next)
    · exact w_tableIn (off := 726) (tgt := 759) C dL_law_33 (by decide) (by decide) (by decide) (by decide) (law_fixed C hX hbl hbA hin hc hsl hI next)
    · exact w_tableIn (off := 749) (tgt := 782) C dL_law_33 (by decide) (by decide) (by decide) (by decide) (law_difference C hX hbl hbA hin hc hsl hI next)
    · exact w_tableIn (off := 792) (tgt := 825) C dL_law_33 (by decide) (by decide) (by decide) (by decide) (law_spread C hX hbl hbA hin hc hsl hI next)
    · exact w_tableIn (off := 815) (tgt := 848) C dL_law_33 (by decide) (by decide) (by decide) (by decide) (law_planar C hX hbl hbA hin hc hsl hI next)
    · exact w_tableIn (off := 838) (tgt := 871) C dL_law_33 (by decide) (by decide) (by decide) (by decide) (law_walk C hX hbl hbA hin hc hsl hI next)
    · exact w_tableIn (off := 881) (tgt := 914) C dL_law_33 (by decide) (by decide) (by decide) (by decide) (law_linear C hX hbl hbA hin hc hsl hI next)
    · exact w_tableIn (off := 904) (tgt := 937) C dL_law_33 (by decide) (by decide) (by decide) (by decide) (law_like C hX hbl hbA hin hc hsl hI next)
    · exact w_tableIn (off := 937) (tgt := 970) C dL_law_33 (by decide) (by decide) (by decide) (by decide) (law_least C hX hbl hbA hin hc hsl hI next)
    · exact w_tableIn (off := 960) (tgt := 993) C dL_law_33 (by decide) (by decide) (by decide) (by decide) (law_many C hX hbl hbA hin hc hsl hI next)
    · exact w_tableIn (off := 983) (tgt := 1016) C dL_law_33 (by decide) (by decide) (by decide) (by decide) (law_pick C hX hbl hbA hin hc hsl hI next)
    · exact w_tableIn (off := 1026) (tgt := 1059) C dL_law_33 (by decide) (by decide) (by decide) (by decide) (law_count C hX hbl hbA hin hc hsl hI next)
    · exact w_tableIn (off := 1049) (tgt := 1082) C dL_law_33 (by decide) (by decide) (by decide) (by decide) (law_trace C hX hbl hbA hin hc hsl hI next)
    · exact w_tableOut (tgt := 1096) C dL_law_33 (by decide) (by decide) (w_wide (Nat.le_add_right _ _) (Nat.le_add_right _ _) (next _ hI))
    · exact w_tableOut (tgt := 1096) C dL_law_33 (by decide) (by decide) (w_wide (Nat.le_add_right _ _) (Nat.le_add_right _ _) (next _ hI))
    · exact w_tableOut (tgt := 1096) C dL_law_33 (by decide) (by decide) (w_wide (Nat.le_add_right _ _) (Nat.le_add_right _ _) (next _ hI))
theorem pm8 (x m : va_W) : (x ++ m).Perm ((([] ++ []) ++ m) ++ x) := pm_of fun y => by
  simp only [List.count_append, List.count_nil]; omega
set_option maxHeartbeats 4000000 in
set_option maxRecDepth 20000 in
theorem whole_start {p : Program} {e : Env} {s : State} {m : MethodId} {below : List Frame} {meth : Method} {c : Code} (l : Launch) (hflags : l.flags = flags0) {b L : Nat} {xs : Nat → Int32} (hL : L ≤ 3584) (C0 : lw_At p s m meth c b L xs) : W p l e room_1 s m #[Value.ref b] below meth c s.heap [] 0 0 (lw_Z below #[Value.ref b] s) (entryFrame m ([Value.ref b] : List Value).toArray 4) := by
  obtain ⟨hx, hb, hr, hml, hown, hts, hX, hbl, hlocks, hgv⟩ := id C0
  have hWA : ∀ w ∈ WA, w.before #[Value.ref b] s = true := fun w hw => hts w (wa_tbl hw)
  obtain ⟨c0, i0, k0⟩ := u_known (C := RX0) (T := TX0) (N := 9) (n := 9) hWA inX0 (hWA _ ins_RX0)
  obtain ⟨c1, i1, k1⟩ := u_known (C := RX1) (T := TX1) (N := 2) (n := 2) hWA inX1 (hWA _ ins_RX1)
  obtain ⟨c2, i2, k2⟩ := u_known (C := RX2) (T := TX2) (N := 5) (n := 5) hWA inX2 (hWA _ ins_RX2)
  obtain ⟨c3, i3, k3⟩ := u_known (C := RX3) (T := TX3) (N := 8) (n := 8) hWA inX3 (hWA _ ins_RX3)
  obtain ⟨c4, i4, k4⟩ := u_known (C := RX4) (T := TX4) (N := 10) (n := 10) hWA inX4 (hWA _ ins_RX4)
  obtain ⟨aI, kI, cI, fI, gI, hI⟩ := Cond.arrayClass_spec (hWA _ ac_int)
  obtain ⟨cF, aF, kF, f1, f2, f3, f4, f5⟩ := Cond.arrayOver_spec (hts _ tb_over_F)
  obtain ⟨cL, aL, kL, g1, g2, g3, g4, g5⟩ := Cond.arrayOver_spec (hts _ tb_over_L)
  have hAA : va_AOA .int s := va_AOA.of (hts _ tb_over_I)
  obtain ⟨cA, aA, kA, h1, h2, h3, h4, h5⟩ := va_AOA.spec hAA
  obtain ⟨dC, dI, hKc⟩ : ∃ (dC : Nat → ClassId) (dI : Nat → Nat → Nat), ∀ (k : Nat) (q : vw_C), vwCl[k]? = some q → u_Kn s q.1 q.2.1 q.2.2 (dC k) (dI k) := by
    refine ⟨fun k => if k = 0 then c0 else if k = 1 then c1 else if k = 2 then c2 else if k = 3 then c3 else c4, fun k => if k = 0 then i0 else if k = 1 then i1 else if k = 2 then i2 else if k = 3 then i3 else i4, ?_⟩
    intro k q hq
    match k, hq with
    | 0, hq => cases hq; exact k0
    | 1, hq => cases hq; exact k1
    | 2, hq => cases hq; exact k2
    | 3, hq => cases hq; exact k3
    | 4, hq => cases hq; exact k4
    | k + 5, hq => simp [vwCl] at hq
  obtain ⟨G, eG1, e0, e1, e2, e3⟩ : ∃ G : GG, G.1 = (dC, dI) ∧ G.2 0 = aI ∧ G.2 1 = aF ∧ G.2 2 = aL ∧ G.2 3 = aA := ⟨((dC, dI), fun k => if k = 0 then aI else if k = 1 then aF else if k = 2 then aL else aA), rfl, rfl, rfl, rfl, rfl⟩
  have hK : va_K G.1 vwCl (tyl G) s := by
    refine ⟨fun k q hq => by rw [eG1]; exact hKc k q hq, fun k q hq => ?_⟩
    match k, hq with
    | 0, hq => cases hq; rw [e0]; exact ⟨fun n z => ⟨(fun k h => by cases h), kI, gI, cI, hI⟩, fI⟩
    | 1, hq => cases hq; rw [e1]; exact ⟨fun n z => ⟨(fun k h => by cases h), kF, f3, cF, f4⟩, kF, cF, f3, f4, f1, f5⟩
    | 2, hq => cases hq; rw [e2]; exact ⟨fun n z => ⟨(fun k h => by cases h), kL, g3, cL, g4⟩, kL, cL, g3, g4, g1, g5⟩
    | 3, hq => cases hq; rw [e3]; exact ⟨fun n z => ⟨(fun k h => by cases h), kA, h3, cA, h4⟩, h5⟩
    | k + 4, hq => simp [tyl] at hq
  have hKK : KK G s := ⟨hK, va_AO.of (hts _ tb_over_F), va_AO.of (hts _ tb_over_L), hAA, va_Nw.of rfl (hts _ tb_nest_L), va_Nw.of rfl (hts _ tb_nest_R)⟩
  have C : Cx p s m #[Value.ref b] meth c G (fun q : Nat => s.heap.size ≤ q) RL cL_law 4 ret := ⟨hx, hb, hml, hr, hlocks, hown, hWA, hKK, fun _ h => h⟩
  have hs5 : 5 ∈ sizes := by decide
  obtain ⟨RR2, rr, eX⟩ := x_enter (RR := fun _ _ => 0) hs5
  obtain ⟨su2, pr2, ms2, di2, hM, hms, eA⟩ := a_begins (su := fun _ => 0) (pr := fun _ => 0) (ms := fun _ => 0) (di := fun _ => 0) (kq := 0) (kp := 0) hs5
  have eA5 : X4_begins FU 0 0 (fun _ => 0) (fun _ => 0) (fun _ => 0) (fun _ => 0) (5 : Int32) = some (nI 5, nI (prm 5), su2, pr2, ms2, di2) := by rw [show (5 : Int32) = nI 5 from rfl]; exact eA
  have hl := lv_entry ([.ref b]) (n := 4) (Nat.le_of_ble_eq_true rfl)
  rw [lg_entry_eq]
  generalize (lg_sl ([.ref b]) ++ List.replicate (4 - (lg_sl ([.ref b])).length) Slot.unset).toArray = ls at hl ⊢
  have hl : lv_has ls 4 [(0, .ref b)] := hl
  have K : Wd p l e room_1 s m #[Value.ref b] below meth c G (fun q : Nat => s.heap.size ≤ q) 4 0 0 (lw_Z below #[Value.ref b] s) [] [(0, .ref b)] 0 [] := by
    refine w_new (ci := 3) (fs := [.null, .null, .null, .null, .null, .null, .int 0, .long 0]) C rfl inX3 tyX3 tyX3_ok cl_L_7 ins_RX3 ini_RX3 (fun j hj => by rcases (show j = 0 ∨ j = 1 ∨ j = 2 ∨ j = 3 ∨ j = 4 ∨ j = 5 ∨ j = 6 ∨ j = 7 by omega) with rfl | rfl | rfl | rfl | rfl | rfl | rfl | rfl <;> rfl) (Nat.le_of_ble_eq_true rfl) (Nat.le_of_ble_eq_true rfl) dL_law_0 (fun x0 => ?_)
    refine w_dup C dL_law_3 rfl ?_
    refine w_callI (wr := []) C (c_X3_init (fu := FU) (b := x0) (fok hs5) eX) pk_X3_init ml_L_9 (As := []) (rest := [.ref x0]) ⟨⟨rfl, rfl⟩, (Nat.le_of_ble_eq_true rfl), (Nat.le_of_ble_eq_true rfl)⟩ rfl ⟨(Nat.le_of_ble_eq_true rfl), (Nat.le_of_ble_eq_true rfl)⟩ (Nat.le_of_ble_eq_true rfl) rfl dL_law_4 (fun o w1 h9 => ?_)
    obtain ⟨rfl, xa, fa, ra, rfl, rfl⟩ := h9
    refine w_astore_n (x := xa 0) (lv' := [(1, .ref (xa 0)), (0, .ref b)]) C (by decide) rfl dL_law_7 ?_
    refine w_new (ci := 4) (fs := [.int 0, .long 0, .int 0, .int 0, .null, .null, .null, .null, .null, .null]) C rfl inX4 tyX4 tyX4_ok cl_L_10 ins_RX4 ini_RX4 (fun j hj => by rcases (show j = 0 ∨ j = 1 ∨ j = 2 ∨ j = 3 ∨ j = 4 ∨ j = 5 ∨ j = 6 ∨ j = 7 ∨ j = 8 ∨ j = 9 by omega) with rfl | rfl | rfl | rfl | rfl | rfl | rfl | rfl | rfl | rfl <;> rfl) (Nat.le_of_ble_eq_true rfl) (Nat.le_of_ble_eq_true rfl) dL_law_8 (fun m0 => ?_)
    refine w_dup C dL_law_11 rfl ?_
    refine w_callI C (c_X4_init (fu := FU) (b := m0) eA5) pk_X4_init ml_L_12 (As := []) (rest := [.ref m0]) ⟨⟨rfl, rfl⟩, (Nat.le_of_ble_eq_true rfl), (Nat.le_of_ble_eq_true rfl)⟩ rfl ⟨(Nat.le_of_ble_eq_true rfl), (Nat.le_of_ble_eq_true rfl)⟩ (Nat.le_of_ble_eq_true rfl) rfl dL_law_12 (fun o w1 h9 => ?_)
    obtain ⟨rfl, ma, rfl, rfl⟩ := h9
    refine w_astore_n (x := ma 0) (lv' := [(2, .ref (ma 0)), (1, .ref (xa 0)), (0, .ref b)]) C (by decide) rfl dL_law_15 ?_
    refine w_iconst (v := nI 0) C dL_law_16 (by decide) ?_
    refine w_istore_n (x := nI 0) (lv' := [(3, .int (nI 0)), (2, .ref (ma 0)), (1, .ref (xa 0)), (0, .ref b)]) C (by decide) rfl dL_law_17 ?_
    refine w_perm (pm8 _ _) ?_
    refine law_loop hL C hX hbl 513 0 _ (Nat.zero_le _) (by omega) ?_
    refine ⟨5, xa, fa, ma, ra, va_up (fun _ => none) 5 (some (fa 0)), fun _ => none, fun _ x => x, RR2, 0, 0, 0, 0, 0, 0, 0, fun _ => 0, su2, pr2, ms2, fun _ => 0, fun _ => 0, di2, [], [], rfl, rfl, ⟨hs5, EOk.nil, vu_s _ _ _, [], rfl, by decide, fun k _ => ?_⟩, hM, fun i hi x hx => ⟨hx, rr i hi x hx, hms i hi x (by omega)⟩, rfl⟩
    by_cases e9 : k = 5
    · exact Or.inr (Or.inl e9)
    · exact Or.inl (by rw [vu_n e9])
  exact K s.heap [] ls (fun k q h => by simp at h) ⟨fun i j p q h => by simp at h, fun k q h => by simp at h⟩ va_S.rf hl
