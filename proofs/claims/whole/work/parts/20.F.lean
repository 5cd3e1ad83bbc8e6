def dr (q e a b c x : Nat) : Nat := AD q (MU q a (PW q (AD q x b) e)) c
def tst (q kd e a b c x : Nat) : Nat := if kd = 0 then PW q x e else if kd = 1 then dr q e a b c x else dr q e a b c (dr q e a b c x)
def ckc (kd : Nat) (r : Int32) : Int32 := if kd = 0 then r + 1 else if kd = 1 then r + 10 + 1 else r + 100 + 10 + 1 + 10 + 1
/-- what a good recipe is -/
def Rcp (q : Nat) (v1 v2 v3 v4 v5 : Int32) (kd e a b c : Nat) : Prop := kd < 3 ∧ v1 = nI kd ∧ 1 ≤ e ∧ e ≤ 255 ∧ v2 = nI e ∧ (kd = 0 ∨ (a < q ∧ b < q ∧ c < q ∧ v3 = nI a ∧ v4 = nI b ∧ v5 = nI c))
section
variable {q : Nat} {su pr ms ro : Nat → Int32} {RR : Nat → Nat → Int32} {f : Nat → Nat → Nat} {th : Int32} {tr ak : Int64} {g : Nat → Nat} {r1 r2 r3 r4 r5 : Int32}
theorem dr_lt (hs : q ∈ sizes) {e a b c x : Nat} (ha : a < q) (hb : b < q) (hc : c < q) (hx : x < q) : dr q e a b c x < q := AD_lt hs (MU_lt hs ha (PW_lt hs (AD_lt hs hx hb) e)) hc
theorem tst_lt (hs : q ∈ sizes) {kd e a b c x : Nat} (h : kd = 0 ∨ (a < q ∧ b < q ∧ c < q)) (hx : x < q) : tst q kd e a b c x < q := by
  unfold tst
  by_cases h0 : kd = 0
  · rw [if_pos h0]; exact PW_lt hs hx e
  · obtain ⟨ha, hb, hc⟩ := h.resolve_left h0
    rw [if_neg h0]
    split
    · exact dr_lt hs ha hb hc hx
    · exact dr_lt hs ha hb hc (dr_lt hs ha hb hc hx)
theorem nI3 {kd : Nat} (h : kd < 3) : kd = 0 ∨ kd = 1 ∨ kd = 2 := by omega
theorem R_isRecipe (hs : q ∈ sizes) {N fu : Nat} (v1 v2 v3 v4 v5 : Int32) : (X3_isRecipe fu N (nI q) v1 v2 v3 v4 v5 = some 0 ∧ X4_isRecipe fu (nI q) v1 v2 v3 v4 v5 = some 0) ∨ (X3_isRecipe fu N (nI q) v1 v2 v3 v4 v5 = some 1 ∧ X4_isRecipe fu (nI q) v1 v2 v3 v4 v5 = some 1 ∧ ∃ kd e a b c, Rcp q v1 v2 v3 v4 v5 kd e a b c) := by
  have hq := sz_2 q hs
  rcases ixc v1 (n := 3) (by decide) with h | ⟨kd, hkd, rfl⟩
  · refine Or.inl ⟨?_, ?_⟩
    · unfold X3_isRecipe
      by_cases h0 : v1 < 0
      · rw [if_pos h0]
      · rw [if_neg h0, if_pos (show (2 : Int32) < v1 from Int32.lt_of_lt_of_le (show (2 : Int32) < nI 3 by decide) (h.resolve_left h0))]
    · unfold X4_isRecipe X4_in
      by_cases h0 : v1 < 0
      · rw [if_pos h0]; rfl
      · rw [if_neg h0, if_pos (show (2 : Int32) < v1 from Int32.lt_of_lt_of_le (show (2 : Int32) < nI 3 by decide) (h.resolve_left h0))]; rfl
  have x1 : ¬ nI kd < 0 := nI_pos (by omega)
  have x2 : ¬ (2 : Int32) < nI kd := nI_nlt (a := 2) (b := kd) (by omega) (by decide)
  have in1 : X4_in fu (nI kd) 0 2 = some 1 := by unfold X4_in; rw [if_neg x1, if_neg x2]
  by_cases hv1 : v2 < 1
  · refine Or.inl ⟨by unfold X3_isRecipe; rw [if_neg x1, if_neg x2, if_pos hv1], ?_⟩
    unfold X4_isRecipe
    rw [in1, show X4_in fu v2 1 255 = some 0 by unfold X4_in; rw [if_pos hv1]]
    rfl
  by_cases hv2 : v2 ≤ 255
  rotate_left
  · refine Or.inl ⟨by unfold X3_isRecipe; rw [if_neg x1, if_neg x2, if_neg hv1, if_neg hv2], ?_⟩
    unfold X4_isRecipe
    rw [in1, show X4_in fu v2 1 255 = some 0 by unfold X4_in; rw [if_neg hv1, if_pos (Int32.not_le.mp hv2)]]
    rfl
  have in2 : X4_in fu v2 1 255 = some 1 := by unfold X4_in; rw [if_neg hv1, if_neg (Int32.not_lt.mpr hv2)]
  have hv0 : ¬ v2 < 0 := fun z => hv1 (Int32.lt_trans z (by decide))
  obtain ⟨e, he, rfl⟩ := nI_of2 (M := 255) (n := 255) (by decide) hv0 hv2
  have he1 : 1 ≤ e := by
    rcases Nat.eq_zero_or_pos e with z | z
    · subst z; exact absurd (by decide) hv1
    · exact z
  have X3e : X3_isRecipe fu N (nI q) (nI kd) (nI e) v3 v4 v5 = (if nI kd = 0 then (some (1)) else (Option.bind (X3_isNumber fu N (nI q) v3) (fun x6 => (if x6 = 0 then (some (0)) else (Option.bind (X3_isNumber fu N (nI q) v4) (fun x8 => (if x8 = 0 then (some (0)) else (Option.bind (X3_isNumber fu N (nI q) v5) (fun x10 => (if x10 = 0 then (some (0)) else (some (1)))))))))))) := by
    unfold X3_isRecipe
    rw [if_neg x1, if_neg x2, if_neg hv1, if_pos hv2]
  have X4e : X4_isRecipe fu (nI q) (nI kd) (nI e) v3 v4 v5 = (if nI kd = 0 then (some (1)) else (Option.bind (X4_isNumber fu (nI q) v3) (fun x6 => (if x6 = 0 then (some (0)) else (Option.bind (X4_isNumber fu (nI q) v4) (fun x8 => (if x8 = 0 then (some (0)) else (Option.bind (X4_isNumber fu (nI q) v5) (fun x10 => (if x10 = 0 then (some (0)) else (some (1)))))))))))) := by
    unfold X4_isRecipe
    rw [in1, in2]
    rfl
  by_cases h0 : kd = 0
  · subst h0
    exact Or.inr ⟨by rw [X3e]; rfl, by rw [X4e]; rfl, 0, e, 0, 0, 0, hkd, rfl, he1, he, rfl, Or.inl rfl⟩
  have hk0 : ¬ nI kd = 0 := nI_ne0 (by omega) (by omega)
  rcases ixc v3 (n := q) (by omega) with h | ⟨a, ha, rfl⟩
  · exact Or.inl ⟨by rw [X3e, if_neg hk0, x_numN h]; rfl, by rw [X4e, if_neg hk0, a_numN hs h]; rfl⟩
  rcases ixc v4 (n := q) (by omega) with h | ⟨b, hb, rfl⟩
  · exact Or.inl ⟨by rw [X3e, if_neg hk0, x_num hs ha, x_numN h]; rfl, by rw [X4e, if_neg hk0, a_num hs ha, a_numN hs h]; rfl⟩
  rcases ixc v5 (n := q) (by omega) with h | ⟨c, hc, rfl⟩
  · exact Or.inl ⟨by rw [X3e, if_neg hk0, x_num hs ha, x_num hs hb, x_numN h]; rfl, by rw [X4e, if_neg hk0, a_num hs ha, a_num hs hb, a_numN hs h]; rfl⟩
  exact Or.inr ⟨by rw [X3e, if_neg hk0, x_num hs ha, x_num hs hb, x_num hs hc]; rfl, by rw [X4e, if_neg hk0, a_num hs ha, a_num hs hb, a_num hs hc]; rfl, kd, e, a, b, c, hkd, rfl, he1, he, rfl, Or.inr ⟨ha, hb, hc, rfl, rfl, rfl⟩⟩
theorem x_dressed (hs : q ∈ sizes) {e a b c x : Nat} (he : e ≤ 255) (ha : a < q) (hb : b < q) (hc : c < q) (hx : x < q) (r : Int32) : X2_dressed FU q (nI e) (nI a) (nI b) (nI c) r (nI q) (T0 q) (T1 q) (T2 q) (nI x) = some (nI (dr q e a b c x), r + 10 + 1) := by
  unfold X2_dressed X2_power
  have h1 := AD_lt hs hx hb
  have h2 := PW_lt hs h1 e
  rw [x_sum hs hx hb, Option.bind_some, x_raised hs h1 (by omega), Option.bind_some, Option.bind_some]
  show Option.bind (X0_product FU q (nI q) (T1 q) (nI a) (nI (PW q (AD q x b) e))) _ = _
  rw [x_product hs ha h2, Option.bind_some, x_sum hs (MU_lt hs ha h2) hc]
  rfl
theorem a_dressed (hs : q ∈ sizes) (hM : MS q su pr) {e a b c x : Nat} (he : e ≤ 255) (ha : a < q) (hb : b < q) (hc : c < q) (hx : x < q) : X4_dressed FU su pr (nI e) (nI a) (nI b) (nI c) (nI x) = some (nI (dr q e a b c x)) := by
  unfold X4_dressed
  have h1 := AD_lt hs hx hb
  have h2 := PW_lt hs h1 e
  rw [a_add hs hM hx hb, Option.bind_some, a_power hs hM h1 (by omega), Option.bind_some, a_by hs hM ha h2, Option.bind_some, a_add hs hM (MU_lt hs ha h2) hc]
  rfl
theorem x_takes (hs : q ∈ sizes) {v1 v2 v3 v4 v5 : Int32} {kd e a b c x : Nat} (h : Rcp q v1 v2 v3 v4 v5 kd e a b c) (hx : x < q) (r : Int32) : X2_takes FU q v2 v3 v4 v5 r (nI q) (T0 q) (T1 q) (T2 q) v1 (nI x) = some (nI (tst q kd e a b c x), ckc kd r) := by
  obtain ⟨hk, rfl, he1, he, rfl, h⟩ := h
  unfold X2_takes
  rcases nI3 hk with rfl | rfl | rfl
  · rw [if_pos nI_0]
    unfold X2_power
    rw [x_raised hs hx (by omega)]
    rfl
  · obtain ⟨ha, hb, hc, rfl, rfl, rfl⟩ := h.resolve_left (by decide)
    rw [if_neg (by decide), if_pos (show nI 1 = (1 : Int32) from rfl), x_dressed hs he ha hb hc hx]
    rfl
  · obtain ⟨ha, hb, hc, rfl, rfl, rfl⟩ := h.resolve_left (by decide)
    rw [if_neg (by decide), if_neg (by decide)]
    unfold X2_twice
    rw [x_dressed hs he ha hb hc hx, Option.bind_some]
    show Option.bind (Option.bind (X2_dressed FU q (nI e) (nI a) (nI b) (nI c) (r + 100 + 10 + 1) (nI q) (T0 q) (T1 q) (T2 q) (nI (dr q e a b c x))) _) _ = _
    rw [x_dressed hs he ha hb hc (dr_lt hs ha hb hc hx)]
    rfl
theorem a_taste (hs : q ∈ sizes) (hM : MS q su pr) {v1 v2 v3 v4 v5 : Int32} {kd e a b c x : Nat} (h : Rcp q v1 v2 v3 v4 v5 kd e a b c) (hx : x < q) : X4_tasteOf FU su pr v1 v2 v3 v4 v5 (nI x) = some (nI (tst q kd e a b c x)) := by
  obtain ⟨hk, rfl, he1, he, rfl, h⟩ := h
  unfold X4_tasteOf
  rcases nI3 hk with rfl | rfl | rfl
  · rw [if_pos nI_0, a_power hs hM hx (by omega)]
    rfl
  · obtain ⟨ha, hb, hc, rfl, rfl, rfl⟩ := h.resolve_left (by decide)
    rw [if_neg (by decide), a_dressed hs hM he ha hb hc hx, Option.bind_some, if_pos (show nI 1 = (1 : Int32) from rfl)]
    rfl
  · obtain ⟨ha, hb, hc, rfl, rfl, rfl⟩ := h.resolve_left (by decide)
    rw [if_neg (by decide), a_dressed hs hM he ha hb hc hx, Option.bind_some, if_neg (by decide), a_dressed hs hM he ha hb hc (dr_lt hs ha hb hc hx)]
    rfl
theorem Rcp.ok {v1 v2 v3 v4 v5 : Int32} {kd e a b c : Nat} (h : Rcp q v1 v2 v3 v4 v5 kd e a b c) : kd = 0 ∨ (a < q ∧ b < q ∧ c < q) := h.2.2.2.2.2.elim Or.inl (fun z => Or.inr ⟨z.1, z.2.1, z.2.2.1⟩)
def ckn (kd : Nat) : Nat → Int32
  | 0 => 0
  | n + 1 => ckc kd (ckn kd n)
theorem R_make (hs : q ∈ sizes) (hM : MS q su pr) (hR : Rel q f RR ms) (v1 v2 v3 v4 v5 v6 : Int32) : ∃ r RR2 s1 s2 s3 s4 s5 ms2 f2, X3_make FU q (nI q) RR r1 r2 r3 r4 r5 (nI q) (T0 q) (T1 q) (T2 q) v1 v2 v3 v4 v5 v6 = some (r, RR2, s1, s2, s3, s4, s5) ∧ X4_make FU th (nI q) su pr ms v1 v2 v3 v4 v5 v6 = some (r, 0, ms2) ∧ Rel q f2 RR2 ms2 := by
  have hq := sz_2 q hs
  rcases ixc v1 (n := 4) (by omega) with h | ⟨i, hi, rfl⟩
  · exact ⟨-1, RR, r1, r2, r3, r4, r5, ms, f, by unfold X3_make; rw [x_mapN h]; rfl, by unfold X4_make; rw [a_mapN h]; rfl, hR⟩
  rcases R_isRecipe hs (N := q) (fu := FU) v2 v3 v4 v5 v6 with ⟨h1, h2⟩ | ⟨h1, h2, kd, e, a, b, c, hr⟩
  · exact ⟨-1, RR, r1, r2, r3, r4, r5, ms, f, by unfold X3_make; rw [x_map hi, h1]; rfl, by unfold X4_make; rw [a_map hi, h2]; rfl, hR⟩
  obtain ⟨h, eh⟩ : ∃ h : Nat → Nat, h = fun x => tst q kd e a b c x := ⟨_, rfl⟩
  have hh : ∀ x, x < q → h x < q := fun x hx => by rw [eh]; exact tst_lt hs hr.ok hx
  refine ⟨1, va_up RR i (put (RR i) (fun x => nI (h x)) 0 q), v3, v4, v5, v6, ckn kd q, put ms (fun x => nI (h x)) (16 * i) q, fup f i h, ?_, ?_, ?_⟩
  · unfold X3_make
    rw [x_map hi, Option.bind_some, if_neg (by decide), h1, Option.bind_some, if_neg (by decide)]
    unfold X2_write X3_make_41
    rw [Option.bind_some]
    dsimp only
    have key := itr_for (bot := fun (_ : Nat → Nat → Int32) (_ _ : Int32) => (none : Option (Int32 × (Nat → Nat → Int32) × Int32 × Int32 × Int32 × Int32 × Int32))) (F := X3_make_41_b FU q (nI q) v3 v4 v5 v6 (nI q) (T0 q) (T1 q) (T2 q) (nI i) v2) (ap := fun t n => t (va_up RR i (put (RR i) (fun x => nI (h x)) 0 n)) (ckn kd n) (nI n)) (R := some (1, va_up RR i (put (RR i) (fun x => nI (h x)) 0 q), v3, v4, v5, v6, ckn kd q)) q (fun t => ?_) (fun t n hn => ?_) FU 0 (Nat.zero_le _) (FU_lt (by omega))
    · rw [show va_up RR i (put (RR i) (fun x => nI (h x)) 0 0) = RR by rw [put_0, vu_id]] at key
      exact key
    · show X3_make_41_b FU q (nI q) v3 v4 v5 v6 (nI q) (T0 q) (T1 q) (T2 q) (nI i) v2 t (va_up RR i (put (RR i) (fun x => nI (h x)) 0 q)) (ckn kd q) (nI q) = _
      unfold X3_make_41_b
      rw [if_pos (Int32.le_refl _)]
    · show X3_make_41_b FU q (nI q) v3 v4 v5 v6 (nI q) (T0 q) (T1 q) (T2 q) (nI i) v2 t (va_up RR i (put (RR i) (fun x => nI (h x)) 0 n)) (ckn kd n) (nI n) = t (va_up RR i (put (RR i) (fun x => nI (h x)) 0 (n + 1))) (ckn kd (n + 1)) (nI (n + 1))
      unfold X3_make_41_b
      rw [if_neg (nI_ge hn (by omega)), ckI_ok hi (by decide), x_takes hs hr hn, Option.bind_some, ckI_ok (show n < 16 by omega) (by decide), nI_clamp (by omega), nI_clamp (by omega), vu_s, bx_uu, nI_1, ← put_s0, eh]
      rfl
  · unfold X4_make
    rw [a_map hi, h2]
    show X4_make_32 FU 0 (nI q) su pr (nI i) v2 v3 v4 v5 v6 FU ms 0 = _
    unfold X4_make_32
    have key := itr_for (bot := fun (_ : Nat → Int32) (_ : Int32) => (none : Option (Int32 × Int32 × (Nat → Int32)))) (F := X4_make_32_b FU 0 (nI q) su pr (nI i) v2 v3 v4 v5 v6) (ap := fun t n => t (put ms (fun x => nI (h x)) (16 * i) n) (nI n)) (R := some (1, 0, put ms (fun x => nI (h x)) (16 * i) q)) q (fun t => ?_) (fun t n hn => ?_) FU 0 (Nat.zero_le _) (FU_lt (by omega))
    · rw [put_0] at key
      exact key
    · show X4_make_32_b FU 0 (nI q) su pr (nI i) v2 v3 v4 v5 v6 t (put ms (fun x => nI (h x)) (16 * i) q) (nI q) = _
      unfold X4_make_32_b
      rw [if_pos (Int32.le_refl _)]
    · show X4_make_32_b FU 0 (nI q) su pr (nI i) v2 v3 v4 v5 v6 t (put ms (fun x => nI (h x)) (16 * i) n) (nI n) = t (put ms (fun x => nI (h x)) (16 * i) (n + 1)) (nI (n + 1))
      unfold X4_make_32_b
      rw [if_neg (nI_ge hn (by omega)), a_taste hs hM hr hn, Option.bind_some, idx16, ckI_ok (by omega) (by decide), nI_clamp (by omega), nI_1, ← put_s, eh]
  · exact Rel_lay hR hh (fun j _ hne x _ => by rw [vu_n hne]) (fun x hx => by rw [vu_s, put_in0 hx]) (fun j _ hne x hx => ms_out hq.2 hne hx) (fun x hx => put_in hx)
theorem R_taste (hs : q ∈ sizes) (hM : MS q su pr) (v1 v2 v3 v4 v5 v6 : Int32) : ∃ r ak2 s1 s2 s3 s4 s5, X3_taste FU q (nI q) ak r1 r2 r3 r4 r5 (nI q) (T0 q) (T1 q) (T2 q) v1 v2 v3 v4 v5 v6 = some (r, ak2, s1, s2, s3, s4, s5) ∧ X4_taste FU th ak (nI q) su pr v1 v2 v3 v4 v5 v6 = some (r, 0, ak2) := by
  have hq := sz_2 q hs
  rcases R_isRecipe hs (N := q) (fu := FU) v1 v2 v3 v4 v5 with ⟨h1, h2⟩ | ⟨h1, h2, kd, e, a, b, c, hr⟩
  · exact ⟨-1, ak, r1, r2, r3, r4, r5, by unfold X3_taste; rw [h1]; rfl, by unfold X4_taste; rw [h2]; rfl⟩
  rcases ixc v6 (n := q) (by omega) with h | ⟨x, hx, rfl⟩
  · exact ⟨-1, ak, r1, r2, r3, r4, r5, by unfold X3_taste; rw [h1, x_numN h]; rfl, by unfold X4_taste; rw [h2, a_numN hs h]; rfl⟩
  refine ⟨nI (tst q kd e a b c x), ak + (ckc kd 0).toInt64, v2, v3, v4, v5, ckc kd 0, ?_, ?_⟩
  · unfold X3_taste
    rw [h1, x_num hs hx]
    show Option.bind (X2_takes FU q v2 v3 v4 v5 0 (nI q) (T0 q) (T1 q) (T2 q) v1 (nI x)) _ = _
    rw [x_takes hs hr hx]
    rfl
  · unfold X4_taste X4_taste_57
    rw [h2, a_num hs hx, a_taste hs hM hr hx]
    obtain ⟨hk, rfl, -⟩ := hr
    rcases nI3 hk with rfl | rfl | rfl <;> rfl
theorem x_putSpare (hs : q ∈ sizes) {fu m : Nat} (hm : m < 4) : X3_putSpare fu q (nI q) RR (nI m) = some (va_up RR m (va_cpy (RR 4) (RR m) 0 0 q)) := by
  have hq := sz_2 q hs
  have e0 : (0 : Int32).toNatClampNeg = 0 := by decide
  unfold X3_putSpare ckC
  rw [ckI_ok hm (by decide), nI_clamp (show m < 2 ^ 31 by omega), nI_clamp (show q < 2 ^ 31 by omega), e0, if_pos ⟨⟨by decide, by decide, nI_pos (by omega)⟩, by omega, by omega⟩]
theorem a_lays (hs : q ∈ sizes) {m : Nat} (hm : m < 4) : X4_lays FU (nI q) ms ro (nI m) = some (put ms ro (16 * m) q) := by
  have hq := sz_2 q hs
  unfold X4_lays X4_lays_2
  have key := itr_for (bot := fun (_ : Nat → Int32) (_ : Int32) => (none : Option (Nat → Int32))) (F := X4_lays_2_b FU (nI q) ro (nI m)) (ap := fun t n => t (put ms ro (16 * m) n) (nI n)) (R := some (put ms ro (16 * m) q)) q (fun t => ?_) (fun t n hn => ?_) FU 0 (Nat.zero_le _) (FU_lt (by omega))
  · rw [put_0] at key
    exact key
  · show X4_lays_2_b FU (nI q) ro (nI m) t (put ms ro (16 * m) q) (nI q) = _
    unfold X4_lays_2_b
    rw [if_pos (Int32.le_refl _)]
  · show X4_lays_2_b FU (nI q) ro (nI m) t (put ms ro (16 * m) n) (nI n) = t (put ms ro (16 * m) (n + 1)) (nI (n + 1))
    unfold X4_lays_2_b
    rw [if_neg (nI_ge hn (by omega)), ckI_ok (show n < 16 by omega) (by decide), idx16, ckI_ok (by omega) (by decide), nI_clamp (by omega), nI_clamp (by omega), nI_1, ← put_s]
theorem Rel_spare {m : Nat} {h : Nat → Nat} {S : Nat → Nat → Int32} (hs : q ∈ sizes) (hR : Rel q f RR ms) (hm : m < 4) (hh : ∀ x, x < q → h x < q) (h1 : ∀ x, x < q → S 4 x = nI (h x)) (h2 : ∀ i, i < 4 → ∀ x, x < q → S i x = RR i x) (h3 : ∀ x, x < q → ro x = nI (h x)) : Rel q (fup f m h) (va_up S m (va_cpy (S 4) (S m) 0 0 q)) (put ms ro (16 * m) q) := by
  have hq := sz_2 q hs
  refine Rel_lay hR hh (fun j hj hne x hx => by rw [vu_n hne, h2 j hj x hx]) (fun x hx => ?_) (fun j _ hne x hx => ms_out hq.2 hne hx) (fun x hx => by rw [put_in hx, h3 x hx])
  rw [vu_s, pk_cpy_in (Nat.zero_le _) (by omega), show 0 + (x - 0) = x by omega, h1 x hx]
theorem R_chain (hs : q ∈ sizes) (hR : Rel q f RR ms) (v1 v2 v3 : Int32) : ∃ r RR2 ms2 ro2 f2, X3_chain FU q (nI q) RR v1 v2 v3 = some (r, RR2) ∧ X4_chain FU th (nI q) ms ro v1 v2 v3 = some (r, 0, ms2, ro2) ∧ Rel q f2 RR2 ms2 := by
  have hq := sz_2 q hs
  rcases ixc v1 (n := 4) (by omega) with h | ⟨m, hm, rfl⟩
  · exact ⟨-1, RR, ms, ro, f, by unfold X3_chain; rw [x_mapN h]; rfl, by unfold X4_chain; rw [a_mapN h]; rfl, hR⟩
  rcases ixc v2 (n := 4) (by omega) with h | ⟨a, ha, rfl⟩
  · exact ⟨-1, RR, ms, ro, f, by unfold X3_chain; rw [x_map hm, x_mapN h]; rfl, by unfold X4_chain; rw [a_map hm, a_mapN h]; rfl, hR⟩
  rcases ixc v3 (n := 4) (by omega) with h | ⟨b, hb, rfl⟩
  · exact ⟨-1, RR, ms, ro, f, by unfold X3_chain; rw [x_map hm, x_map ha, x_mapN h]; rfl, by unfold X4_chain; rw [a_map hm, a_map ha, a_mapN h]; rfl, hR⟩
  obtain ⟨h, eh⟩ : ∃ h : Nat → Nat, h = fun x => f a (f b x) := ⟨_, rfl⟩
  have hgl : ∀ x, x < q → f b x < q := fun x hx => (hR b hb x hx).1
  have hh : ∀ x, x < q → h x < q := fun x hx => by rw [eh]; exact (hR a ha _ (hgl x hx)).1
  obtain ⟨S, eS⟩ : ∃ S : Nat → Nat → Int32, S = va_up RR 4 (put (RR 4) (fun x => nI (h x)) 0 q) := ⟨_, rfl⟩
  refine ⟨1, va_up S m (va_cpy (S 4) (S m) 0 0 q), put ms (put ro (fun x => nI (h x)) 0 q) (16 * m) q, put ro (fun x => nI (h x)) 0 q, fup f m h, ?_, ?_, ?_⟩
  · unfold X3_chain
    rw [x_map hm, x_map ha, x_map hb]
    show X3_chain_26 FU q (nI q) (nI m) (nI a) (nI b) FU RR 0 = _
    unfold X3_chain_26
    have key := itr_for (bot := fun (_ : Nat → Nat → Int32) (_ : Int32) => (none : Option (Int32 × (Nat → Nat → Int32)))) (F := X3_chain_26_b FU q (nI q) (nI m) (nI a) (nI b)) (ap := fun t n => t (va_up RR 4 (put (RR 4) (fun x => nI (h x)) 0 n)) (nI n)) (R := some (1, va_up S m (va_cpy (S 4) (S m) 0 0 q))) q (fun t => ?_) (fun t n hn => ?_) FU 0 (Nat.zero_le _) (FU_lt (by omega))
    · rw [show va_up RR 4 (put (RR 4) (fun x => nI (h x)) 0 0) = RR by rw [put_0, vu_id]] at key
      exact key
    · show X3_chain_26_b FU q (nI q) (nI m) (nI a) (nI b) t (va_up RR 4 (put (RR 4) (fun x => nI (h x)) 0 q)) (nI q) = _
      unfold X3_chain_26_b
      rw [if_pos (Int32.le_refl _), ← eS, x_putSpare hs hm]
      rfl
    · show X3_chain_26_b FU q (nI q) (nI m) (nI a) (nI b) t (va_up RR 4 (put (RR 4) (fun x => nI (h x)) 0 n)) (nI n) = t (va_up RR 4 (put (RR 4) (fun x => nI (h x)) 0 (n + 1))) (nI (n + 1))
      unfold X3_chain_26_b
      have hfb := hgl n hn
      rw [if_neg (nI_ge hn (by omega)), ckI_ok ha (by decide), ckI_ok hb (by decide), ckI_ok (show n < 16 by omega) (by decide), nI_clamp (show b < 2 ^ 31 by omega), nI_clamp (show n < 2 ^ 31 by omega), nI_clamp (show a < 2 ^ 31 by omega), vu_n (show b ≠ 4 by omega), (hR b hb n hn).2.1, ckI_ok (show f b n < 16 by omega) (by decide), ckI_ok (show n < 16 by omega) (by decide), nI_clamp (show f b n < 2 ^ 31 by omega), vu_n (show a ≠ 4 by omega), (hR a ha _ hfb).2.1, vu_s, bx_uu, nI_1, ← put_s0, eh]
  · unfold X4_chain
    rw [a_map hm, a_map ha, a_map hb]
    show X4_chain_31 FU 0 (nI q) ms (nI m) (nI a) (nI b) FU ro 0 = _
    unfold X4_chain_31
    have key := itr_for (bot := fun (_ : Nat → Int32) (_ : Int32) => (none : Option (Int32 × Int32 × (Nat → Int32) × (Nat → Int32)))) (F := X4_chain_31_b FU 0 (nI q) ms (nI m) (nI a) (nI b)) (ap := fun t n => t (put ro (fun x => nI (h x)) 0 n) (nI n)) (R := some (1, 0, put ms (put ro (fun x => nI (h x)) 0 q) (16 * m) q, put ro (fun x => nI (h x)) 0 q)) q (fun t => ?_) (fun t n hn => ?_) FU 0 (Nat.zero_le _) (FU_lt (by omega))
    · rw [put_0] at key
      exact key
    · show X4_chain_31_b FU 0 (nI q) ms (nI m) (nI a) (nI b) t (put ro (fun x => nI (h x)) 0 q) (nI q) = _
      unfold X4_chain_31_b
      rw [if_pos (Int32.le_refl _), a_lays hs hm]
      rfl
    · show X4_chain_31_b FU 0 (nI q) ms (nI m) (nI a) (nI b) t (put ro (fun x => nI (h x)) 0 n) (nI n) = t (put ro (fun x => nI (h x)) 0 (n + 1)) (nI (n + 1))
      unfold X4_chain_31_b
      have hfb := hgl n hn
      rw [if_neg (nI_ge hn (by omega)), idx16, ckI_ok (by omega) (by decide), nI_clamp (show 16 * b + n < 2 ^ 31 by omega), (hR b hb n hn).2.2, idx16, ckI_ok (by omega) (by decide), nI_clamp (show 16 * a + f b n < 2 ^ 31 by omega), (hR a ha _ hfb).2.2, ckI_ok (show n < 16 by omega) (by decide), nI_clamp (show n < 2 ^ 31 by omega), nI_1, ← put_s0, eh]
  · exact Rel_spare hs hR hm hh (fun x hx => by rw [eS, vu_s, put_in0 hx]) (fun i hi x _ => by rw [eS, vu_n (by omega)]) (fun x hx => put_in0 hx)
end
