section
variable {q : Nat} {su pr ms ro di : Nat → Int32} {RR : Nat → Nat → Int32} {f : Nat → Nat → Nat} {th : Int32} {tr ak : Int64}
theorem x_pick (hs : q ∈ sizes) {i d n : Nat} {t6 : Nat → Int32} {v5 : Int32} (hi : i < 4) (hd : d < 6) (ht : ∀ k, 1 ≤ k → k ≤ d → t6 k = nI (cfn q d n k)) : X3_pick_80 FU q (nI q) (nI q) (T0 q) (T1 q) t6 (nI i) (nI d) v5 FU RR 0 = some (v5, va_up RR i (put (RR i) (fun x => nI (pv q d n x)) 0 q)) := by
  have hq := sz_2 q hs
  unfold X3_pick_80
  have key := itr_for (bot := fun (_ : Nat → Nat → Int32) (_ : Int32) => (none : Option (Int32 × (Nat → Nat → Int32)))) (F := X3_pick_80_b FU q (nI q) (nI q) (T0 q) (T1 q) t6 (nI i) (nI d) v5) (ap := fun t x => t (va_up RR i (put (RR i) (fun x => nI (pv q d n x)) 0 x)) (nI x)) (R := some (v5, va_up RR i (put (RR i) (fun x => nI (pv q d n x)) 0 q))) q (fun t => ?_) (fun t x hx => ?_) FU 0 (Nat.zero_le _) (FU_lt (by omega))
  · rw [put_0, vu_id] at key
    exact key
  · show X3_pick_80_b FU q (nI q) (nI q) (T0 q) (T1 q) t6 (nI i) (nI d) v5 t (va_up RR i (put (RR i) (fun x => nI (pv q d n x)) 0 q)) (nI q) = _
    unfold X3_pick_80_b
    rw [if_pos (Int32.le_refl _)]
  · show X3_pick_80_b FU q (nI q) (nI q) (T0 q) (T1 q) t6 (nI i) (nI d) v5 t (va_up RR i (put (RR i) (fun x => nI (pv q d n x)) 0 x)) (nI x) = t (va_up RR i (put (RR i) (fun x => nI (pv q d n x)) 0 (x + 1))) (nI (x + 1))
    unfold X3_pick_80_b
    rw [if_neg (nI_ge hx (by omega)), ckI_ok hi (by decide), x_polyAt hs hd (fun _ => cfn_lt hs) ht hx, Option.bind_some, ckI_ok (show x < 16 by omega) (by decide), nI_clamp (by omega), nI_clamp (by omega), vu_s, bx_uu, nI_1, ← put_s0]
    rfl
theorem R_pick (hs : q ∈ sizes) (hM : MS q su pr) (hR : Rel q f RR ms) (v1 v2 v3 : Int32) : ((X3_isMap FU v1 = some 0 ∨ (X3_isMap FU v1 = some 1 ∧ X3_isListDegree FU v2 = some 0) ∨ (X3_isMap FU v1 = some 1 ∧ X3_isListDegree FU v2 = some 1 ∧ v3 < 0)) ∧ X4_pick FU th (nI q) su pr ms ro v1 v2 v3 = some (-1, 0, ms, ro)) ∨ (∃ x, X3_isMap FU v1 = some 1 ∧ X3_isListDegree FU v2 = some 1 ∧ ¬ v3 < 0 ∧ X0_polynomials FU q (nI q) v2 = some x ∧ ¬ x ≤ 5000 ∧ X4_pick FU th (nI q) su pr ms ro v1 v2 v3 = some (-3, 0, ms, ro)) ∨ ∃ d r ms2 ro2 f2, v2 = nI d ∧ 1 ≤ d ∧ d < 6 ∧ X3_isMap FU v1 = some 1 ∧ X3_isListDegree FU (nI d) = some 1 ∧ ¬ v3 < 0 ∧ q ^ (d - 1) ≤ 4096 ∧ nI (q ^ (d - 1)) ≤ 5000 ∧ X0_polynomials FU q (nI q) (nI d) = some (nI (q ^ (d - 1))) ∧ X4_pick FU th (nI q) su pr ms ro v1 (nI d) v3 = some (r, 0, ms2, ro2) ∧ ∀ (w : Nat) (f9 t5 : Nat → Int32), Lok (shq q d) (q ^ (d - 1)) w f9 → ∃ (RR2 : Nat → Nat → Int32) (t6 : Nat → Int32), Rel q f2 RR2 ms2 ∧ PkOk FU q (nI q) (nI q) RR (T0 q) (T1 q) t5 f9 v1 (nI d) v3 (8 * 2 ^ w) (lsh (shq q d) (q ^ (d - 1))).length r RR2 t6 := by
  have hq := sz_2 q hs
  rcases ixc v1 (n := 4) (by omega) with h | ⟨i, hi, rfl⟩
  · refine Or.inl ⟨Or.inl (x_mapN h), ?_⟩
    unfold X4_pick
    rw [a_mapN h]
    rfl
  rcases degc v2 with h | ⟨d, hd1, hd, rfl⟩
  · refine Or.inl ⟨Or.inr (Or.inl ⟨x_map hi, (deg_n h).1⟩), ?_⟩
    unfold X4_pick
    rw [a_map hi, Option.bind_some, if_neg (by decide), (deg_n h).2, Option.bind_some, if_pos rfl]
  by_cases h3 : v3 < 0
  · refine Or.inl ⟨Or.inr (Or.inr ⟨x_map hi, (deg_y hd1 hd).1, h3⟩), ?_⟩
    unfold X4_pick
    rw [a_map hi, Option.bind_some, if_neg (by decide), (deg_y hd1 hd).2, Option.bind_some, if_neg (by decide), if_neg (Int32.not_le.mpr h3)]
  have h3' : (0 : Int32) ≤ v3 := Int32.not_lt.mp h3
  have hk := k_ca q hs (d - 1) (by omega)
  by_cases c : q ^ (d - 1) ≤ 5000
  · have hc2 := hk.2.1 c
    have e5 : nI (q ^ (d - 1)) ≤ (5000 : Int32) := nI_le (b := 5000) c (by decide)
    obtain ⟨all, eall⟩ : ∃ all, all = q ^ (d - 1) := ⟨_, rfl⟩
    have hall : all ≤ 4096 := by rw [eall]; exact hc2.2
    have start : X4_pick FU th (nI q) su pr ms ro (nI i) (nI d) v3 = X4_pick_51 FU 0 (nI q) su pr ms (nI i) (nI d) v3 (nI all) FU ro 0 0 := by
      unfold X4_pick
      rw [a_map hi, Option.bind_some, if_neg (by decide), (deg_y hd1 hd).2, Option.bind_some, if_neg (by decide), if_pos h3', a_all hs hd1 hd, Option.bind_some, hc2.1, if_pos e5, eall]
    have pre : ∀ (t : (Nat → Int32) → Int32 → Int32 → Option (Int32 × Int32 × (Nat → Int32) × (Nat → Int32))) (S : Nat → Int32) (v5 : Int32) n, n < all → X4_pick_51_b FU 0 (nI q) su pr ms (nI i) (nI d) v3 (nI all) t S v5 (nI n) = if shq q d n = true then (if v5 = v3 then some (nI n, 0, put ms (put S (fun x => nI (pv q d n x)) 0 q) (16 * i) q, put S (fun x => nI (pv q d n x)) 0 q) else t (put S (fun x => nI (pv q d n x)) 0 q) (v5 + 1) (nI (n + 1))) else t (put S (fun x => nI (pv q d n x)) 0 q) v5 (nI (n + 1)) := fun t S v5 n hn => by
      unfold X4_pick_51_b X4_pick_85
      rw [if_neg (nI_ge hn (by omega)), a_shAt hs hM hd1 hd (by omega), Option.bind_some]
      dsimp only
      cases e : shq q d n
      · rw [if_pos (by decide), nI_1]
        rfl
      · rw [if_pos rfl, if_neg (by decide), a_lays hs hi, Option.bind_some, nI_1, if_pos rfl]
    have hle := lsh_le (shq q d) all
    rcases ixc v3 (n := (lsh (shq q d) all).length) (by omega) with (h | h) | ⟨m, hm, rfl⟩
    · exact absurd h h3
    · have run : ∃ S2, True ∧ X4_pick_51 FU 0 (nI q) su pr ms (nI i) (nI d) v3 (nI all) FU ro 0 0 = some (-1, 0, ms, S2) := by
        unfold X4_pick_51
        refine itr_ex (ap := fun (t : (Nat → Int32) → Int32 → Int32 → Option (Int32 × Int32 × (Nat → Int32) × (Nat → Int32))) n (S : Nat → Int32) => t S (nI (lsh (shq q d) n).length) (nI n)) (RE := fun S2 => some (-1, 0, ms, S2)) (fun _ _ => True) all (fun t S _ => ?_) (fun t n S hn _ => ?_) FU 0 ro (Nat.zero_le _) (FU_lt (by omega)) trivial
        · unfold X4_pick_51_b
          rw [if_pos (Int32.le_refl _)]
        · refine ⟨put S (fun x => nI (pv q d n x)) 0 q, trivial, ?_⟩
          rw [pre t S _ n hn]
          cases e : shq q d n
          · rw [if_neg (by decide), lsh_f e]
          · have h1 := lsh_t e
            have h2 := lsh_mono (shq q d) (n + 1) all hn
            rw [if_pos rfl, if_neg (fun z => absurd (show nI (lsh (shq q d) all).length ≤ nI (lsh (shq q d) n).length by rw [z]; exact h) (nI_ge (by omega) (by omega))), h1, nI_1]
      obtain ⟨S2, -, e⟩ := run
      refine Or.inr (Or.inr ⟨d, -1, ms, S2, f, rfl, hd1, hd, x_map hi, (deg_y hd1 hd).1, h3, hc2.2, e5, x_polys hs hd1 hd, start.trans e, fun w f9 t5 hL => ⟨RR, t5, hR, ?_⟩⟩)
      rw [← eall]
      exact Or.inl ⟨h, rfl, rfl, rfl⟩
    · obtain ⟨n0, hn0, hsh, hlen, hget⟩ := lsh_get (shq q d) all m hm
      have run : ∃ S2, True ∧ X4_pick_51 FU 0 (nI q) su pr ms (nI i) (nI d) (nI m) (nI all) FU ro 0 0 = some (nI n0, 0, put ms (put S2 (fun x => nI (pv q d n0 x)) 0 q) (16 * i) q, put S2 (fun x => nI (pv q d n0 x)) 0 q) := by
        unfold X4_pick_51
        refine itr_ex (ap := fun (t : (Nat → Int32) → Int32 → Int32 → Option (Int32 × Int32 × (Nat → Int32) × (Nat → Int32))) n (S : Nat → Int32) => t S (nI (lsh (shq q d) n).length) (nI n)) (RE := fun S2 => some (nI n0, 0, put ms (put S2 (fun x => nI (pv q d n0 x)) 0 q) (16 * i) q, put S2 (fun x => nI (pv q d n0 x)) 0 q)) (fun _ _ => True) n0 (fun t S _ => ?_) (fun t n S hn _ => ?_) FU 0 ro (Nat.zero_le _) (FU_lt (by omega)) trivial
        · rw [pre t S _ n0 hn0, if_pos hsh, hlen, if_pos rfl]
        · refine ⟨put S (fun x => nI (pv q d n x)) 0 q, trivial, ?_⟩
          rw [pre t S _ n (by omega)]
          cases e : shq q d n
          · rw [if_neg (by decide), lsh_f e]
          · have h1 := lsh_t e
            have h2 := lsh_mono (shq q d) (n + 1) n0 hn
            rw [if_pos rfl, if_neg (fun z => absurd ((nI_eq (by omega) (by omega)).mp z) (by omega)), h1, nI_1]
      obtain ⟨S2, -, e⟩ := run
      refine Or.inr (Or.inr ⟨d, nI n0, put ms (put S2 (fun x => nI (pv q d n0 x)) 0 q) (16 * i) q, put S2 (fun x => nI (pv q d n0 x)) 0 q, fup f i (pv q d n0), rfl, hd1, hd, x_map hi, (deg_y hd1 hd).1, h3, hc2.2, e5, x_polys hs hd1 hd, start.trans e, fun w f9 t5 hL => ?_⟩)
      rw [← eall] at hL ⊢
      obtain ⟨t6, w1, w2⟩ := x_write (t5 := t5) hs hd1 hd (show n0 < 2 ^ 31 by omega)
      have hf : f9 (nI m).toNatClampNeg = nI n0 := by rw [nI_clamp (by omega), hL.2.2 m hm, hget]
      refine ⟨va_up RR i (put (RR i) (fun x => nI (pv q d n0 x)) 0 q), t6, ?_, Or.inr ⟨nI_lt hm (by omega), nI_in (Nat.lt_of_lt_of_le hm hL.2.1) ?_, hf.symm, ?_, ?_⟩⟩
      · exact Rel_lay hR (fun x hx => pv_lt hs hx) (fun j _ hne x _ => by rw [vu_n hne]) (fun x hx => by rw [vu_s, put_in0 hx]) (fun j _ hne x hx => ms_out hq.2 hne hx) (fun x hx => by rw [put_in hx, put_in0 hx])
      · exact Nat.lt_of_le_of_lt (Nat.mul_le_mul_left 8 (Nat.pow_le_pow_right (n := 2) (by decide) hL.1)) (by decide)
      · rw [hf]; exact w1
      · rw [hf]; exact x_pick hs hi hd w2
  · refine Or.inr (Or.inl ⟨nI (q ^ (d - 1)), x_map hi, (deg_y hd1 hd).1, h3, x_polys hs hd1 hd, nI_ge (a := 5000) (by omega) hk.2.2.2.1, ?_⟩)
    have c2 : ¬ ca q (d - 1) ≤ 5000 := fun z => c (hk.1.mp z)
    unfold X4_pick
    rw [a_map hi, Option.bind_some, if_neg (by decide), (deg_y hd1 hd).2, Option.bind_some, if_neg (by decide), if_pos h3', a_all hs hd1 hd, Option.bind_some, if_neg (show ¬ nI (ca q (d - 1)) ≤ (5000 : Int32) from nI_ge (a := 5000) (by omega) hk.2.2.1)]
theorem k_twos : ∀ q ∈ sizes, (prm q = q ∧ q ∈ [2, 3, 5, 7, 11, 13]) ∨ (prm q ≠ q ∧ q ∈ [4, 8, 9, 16] ∧ nI (prm q) ≠ nI q) := by decide
theorem a_prod (hs : q ∈ sizes) {a b : Nat} (ha : a < q) (hb : b < q) : ∃ di2, X4_productOf FU (nI q) (nI (prm q)) di (nI a) (nI b) = some (nI (MU q a b), di2) := by
  have hq := sz_2 q hs
  rcases k_twos q hs with ⟨e, hp⟩ | ⟨e, hp, hne⟩
  · refine ⟨di, ?_⟩
    unfold X4_productOf
    rw [e, if_pos rfl, ckZ_ok (by omega) (by omega), k_prodP q hp a ha b hb]
  · have hk := k_prodOf q hp a ha b hb
    obtain ⟨y, hy1, hy2⟩ := Option.map_eq_some_iff.mp hk
    refine ⟨y.2, ?_⟩
    have hy : X4_productOf_46 FU (nI q) (nI (prm q)) (nI b) FU (fun _ => 0) (nI a) 0 = some (nI (MU q a b), y.2) := by rw [hy1, ← hy2]
    unfold X4_productOf
    rw [if_neg hne]
    unfold X4_productOf_22
    have key := itr_for (bot := fun (_ : Nat → Int32) (_ : Int32) => (none : Option (Int32 × (Nat → Int32)))) (F := X4_productOf_22_b FU (nI q) (nI (prm q)) (nI a) (nI b)) (ap := fun t n => t (put di (fun _ => 0) 0 n) (nI n)) (R := some (nI (MU q a b), y.2)) 8 (fun t => ?_) (fun t n hn => ?_) FU 0 (Nat.zero_le _) (FU_lt (by omega))
    · rw [put_0] at key
      exact key
    · show X4_productOf_22_b FU (nI q) (nI (prm q)) (nI a) (nI b) t (put di (fun _ => 0) 0 8) (nI 8) = _
      unfold X4_productOf_22_b ckE
      rw [if_pos (show (8 : Int32) ≤ nI 8 by decide), if_pos (fun j hj => put_in0 hj), hy]
    · show X4_productOf_22_b FU (nI q) (nI (prm q)) (nI a) (nI b) t (put di (fun _ => 0) 0 n) (nI n) = t (put di (fun _ => 0) 0 (n + 1)) (nI (n + 1))
      unfold X4_productOf_22_b
      rw [if_neg (show ¬ (8 : Int32) ≤ nI n from nI_ge (b := 8) hn (by decide)), ckI_ok hn (by decide), nI_clamp (by omega), nI_1, ← put_s0]
/-- the rows below a hold the field, and row a up to b -/
def MSp (q : Nat) (su pr : Nat → Int32) (a b : Nat) : Prop := ∀ x, x < q → ∀ y, y < q → (x < a ∨ (x = a ∧ y < b)) → su (16 * x + y) = nI (AD q x y) ∧ pr (16 * x + y) = nI (MU q x y)
theorem MSp.next {a : Nat} (h : MSp q su pr a q) : MSp q su pr (a + 1) 0 := fun x hx y hy hc => h x hx y hy (by omega)
theorem MSp.step (hq : q ≤ 16) {a b : Nat} (ha : a < q) (hb : b < q) (h : MSp q su pr a b) : MSp q (upd su (16 * a + b) (nI (AD q a b))) (upd pr (16 * a + b) (nI (MU q a b))) a (b + 1) := fun x hx y hy hc => by
  by_cases e : x = a ∧ y = b
  · obtain ⟨rfl, rfl⟩ := e
    rw [pk_us, pk_us]
    exact ⟨rfl, rfl⟩
  · have hne : 16 * x + y ≠ 16 * a + b := by omega
    rw [pk_un hne, pk_un hne]
    exact h x hx y hy (by omega)
theorem a_maps (hs : q ∈ sizes) : ∃ ms2 : Nat → Int32, (∀ i, i < 4 → ∀ x, x < 16 → ms2 (16 * i + x) = nI x) ∧ X4_begins_124 FU (nI q) (nI (prm q)) di FU su pr ms 0 = some (nI q, nI (prm q), su, pr, ms2, di) := by
  have inner : ∀ (rc : (Nat → Int32) → (Nat → Int32) → (Nat → Int32) → Int32 → Option (Int32 × Int32 × (Nat → Int32) × (Nat → Int32) × (Nat → Int32) × (Nat → Int32))) i (M : Nat → Int32), i < 4 → X4_begins_131 FU rc (nI q) (nI (prm q)) di (nI i) FU su pr M 0 = rc su pr (put M nI (16 * i) 16) (nI (i + 1)) := fun rc i M hi => by
    unfold X4_begins_131
    have key := itr_for (bot := fun (_ _ _ : Nat → Int32) (_ : Int32) => (none : (Option (Int32 × Int32 × (Nat → Int32) × (Nat → Int32) × (Nat → Int32) × (Nat → Int32))))) (F := X4_begins_131_b FU rc (nI q) (nI (prm q)) di (nI i)) (ap := fun t n => t su pr (put M nI (16 * i) n) (nI n)) (R := rc su pr (put M nI (16 * i) 16) (nI (i + 1))) 16 (fun t => ?_) (fun t n hn => ?_) FU 0 (Nat.zero_le _) (FU_lt (by omega))
    · rw [put_0] at key
      exact key
    · show X4_begins_131_b FU rc (nI q) (nI (prm q)) di (nI i) t su pr (put M nI (16 * i) 16) (nI 16) = _
      unfold X4_begins_131_b
      rw [if_pos (show (16 : Int32) ≤ nI 16 by decide), nI_1]
    · show X4_begins_131_b FU rc (nI q) (nI (prm q)) di (nI i) t su pr (put M nI (16 * i) n) (nI n) = t su pr (put M nI (16 * i) (n + 1)) (nI (n + 1))
      unfold X4_begins_131_b
      rw [if_neg (show ¬ (16 : Int32) ≤ nI n from nI_ge (b := 16) hn (by decide)), idx16, ckI_ok (by omega) (by decide), nI_clamp (by omega), nI_1, ← put_s]
  unfold X4_begins_124
  have key := itr_ex (bot := fun (_ _ _ : Nat → Int32) (_ : Int32) => (none : (Option (Int32 × Int32 × (Nat → Int32) × (Nat → Int32) × (Nat → Int32) × (Nat → Int32))))) (F := X4_begins_124_b FU (nI q) (nI (prm q)) di) (ap := fun t n (M : Nat → Int32) => t su pr M (nI n)) (RE := fun M => some (nI q, nI (prm q), su, pr, M, di)) (fun n M => ∀ i, i < n → ∀ x, x < 16 → M (16 * i + x) = nI x) 4 (fun t M _ => ?_) (fun t n M hn hI => ?_) FU 0 ms (Nat.zero_le _) (FU_lt (by omega)) (fun i hi => by omega)
  · exact key
  · unfold X4_begins_124_b
    rw [if_pos (show (4 : Int32) ≤ nI 4 by decide)]
  · refine ⟨put M nI (16 * n) 16, fun i hi x hx => ?_, ?_⟩
    · by_cases e : i = n
      · rw [e, put_in hx]
      · rw [put_out (by omega)]
        exact hI i (by omega) x hx
    · unfold X4_begins_124_b
      rw [if_neg (show ¬ (4 : Int32) ≤ nI n from nI_ge (b := 4) hn (by decide)), inner t n M hn]
theorem a_tabs (hs : q ∈ sizes) : ∃ su2 pr2 ms2 di2 : Nat → Int32, MS q su2 pr2 ∧ (∀ i, i < 4 → ∀ x, x < 16 → ms2 (16 * i + x) = nI x) ∧ X4_begins_58 FU (nI q) (nI (prm q)) FU su pr ms di 0 = some (nI q, nI (prm q), su2, pr2, ms2, di2) := by
  have hq := sz_2 q hs
  have inner : ∀ (rc : (Nat → Int32) → (Nat → Int32) → (Nat → Int32) → (Nat → Int32) → Int32 → Option (Int32 × Int32 × (Nat → Int32) × (Nat → Int32) × (Nat → Int32) × (Nat → Int32))) a (S : (Nat → Int32) × (Nat → Int32) × (Nat → Int32)), a < q → MSp q S.1 S.2.1 a 0 → ∃ S2 : (Nat → Int32) × (Nat → Int32) × (Nat → Int32), MSp q S2.1 S2.2.1 a q ∧ X4_begins_68 FU rc (nI q) (nI (prm q)) (nI a) FU S.1 S.2.1 ms S.2.2 0 = rc S2.1 S2.2.1 ms S2.2.2 (nI (a + 1)) := fun rc a S ha hS => by
    unfold X4_begins_68
    refine itr_ex (ap := fun (t : (Nat → Int32) → (Nat → Int32) → (Nat → Int32) → (Nat → Int32) → Int32 → Option (Int32 × Int32 × (Nat → Int32) × (Nat → Int32) × (Nat → Int32) × (Nat → Int32))) n (S : (Nat → Int32) × (Nat → Int32) × (Nat → Int32)) => t S.1 S.2.1 ms S.2.2 (nI n)) (RE := fun S2 => rc S2.1 S2.2.1 ms S2.2.2 (nI (a + 1))) (fun b S => MSp q S.1 S.2.1 a b) q (fun t S _ => ?_) (fun t b S hb hI => ?_) FU 0 S (Nat.zero_le _) (FU_lt (by omega)) hS
    · unfold X4_begins_68_b
      rw [if_pos (Int32.le_refl _), nI_1]
    · obtain ⟨di2, e⟩ := a_prod (di := S.2.2) hs ha hb
      refine ⟨(upd S.1 (16 * a + b) (nI (AD q a b)), upd S.2.1 (16 * a + b) (nI (MU q a b)), di2), MSp.step hq.2 ha hb hI, ?_⟩
      unfold X4_begins_68_b
      rw [if_neg (nI_ge hb (by omega)), k_sumOf q hs a ha b hb, Option.bind_some, idx16, ckI_ok (by omega) (by decide), e, Option.bind_some, ckI_ok (by omega) (by decide), nI_clamp (by omega), nI_1]
  have key := itr_ex (bot := fun (_ _ _ _ : Nat → Int32) (_ : Int32) => (none : (Option (Int32 × Int32 × (Nat → Int32) × (Nat → Int32) × (Nat → Int32) × (Nat → Int32))))) (F := X4_begins_58_b FU (nI q) (nI (prm q))) (ap := fun t n (S : (Nat → Int32) × (Nat → Int32) × (Nat → Int32)) => t S.1 S.2.1 ms S.2.2 (nI n)) (RE := fun S2 => X4_begins_124 FU (nI q) (nI (prm q)) S2.2.2 FU S2.1 S2.2.1 ms 0) (fun a S => MSp q S.1 S.2.1 a 0) q (fun t S _ => ?_) (fun t a S ha hI => ?_) FU 0 (su, pr, di) (Nat.zero_le _) (FU_lt (by omega)) (fun x _ y _ hc => by omega)
  · obtain ⟨S2, h1, e⟩ := key
    obtain ⟨ms2, h2, e2⟩ := a_maps (su := S2.1) (pr := S2.2.1) (di := S2.2.2) (ms := ms) hs
    refine ⟨S2.1, S2.2.1, ms2, S2.2.2, fun a ha b hb => h1 a ha b hb (Or.inl ha), h2, ?_⟩
    unfold X4_begins_58
    exact e.trans e2
  · unfold X4_begins_58_b
    rw [if_pos (Int32.le_refl _)]
  · obtain ⟨S2, h1, e⟩ := inner t a S ha hI
    refine ⟨S2, h1.next, ?_⟩
    unfold X4_begins_58_b
    rw [if_neg (nI_ge ha (by omega)), e]
theorem k_beg : ∀ q ∈ sizes, (nI q = 4 ∧ nI (prm q) = 2) ∨ (nI q ≠ 4 ∧ nI q = 8 ∧ nI (prm q) = 2) ∨ (nI q ≠ 4 ∧ nI q ≠ 8 ∧ nI q = 16 ∧ nI (prm q) = 2) ∨ (nI q ≠ 4 ∧ nI q ≠ 8 ∧ nI q ≠ 16 ∧ nI q = 9 ∧ nI (prm q) = 3) ∨ (nI q ≠ 4 ∧ nI q ≠ 8 ∧ nI q ≠ 16 ∧ nI q ≠ 9 ∧ prm q = q) := by decide
theorem a_begins (hs : q ∈ sizes) {kq kp : Int32} : ∃ su2 pr2 ms2 di2 : Nat → Int32, MS q su2 pr2 ∧ (∀ i, i < 4 → ∀ x, x < 16 → ms2 (16 * i + x) = nI x) ∧ X4_begins FU kq kp su pr ms di (nI q) = some (nI q, nI (prm q), su2, pr2, ms2, di2) := by
  obtain ⟨su2, pr2, ms2, di2, h1, h2, e⟩ := a_tabs (su := su) (pr := pr) (ms := ms) (di := di) hs
  refine ⟨su2, pr2, ms2, di2, h1, h2, ?_⟩
  unfold X4_begins X4_begins_32 X4_begins_53
  rcases k_beg q hs with ⟨a, b⟩ | ⟨a, b, c⟩ | ⟨a, b, c, d⟩ | ⟨a, b, c, d, g⟩ | ⟨a, b, c, d, g⟩
  · rw [if_pos a, ← b, e]
  · rw [if_neg a, if_pos b, ← c, e]
  · rw [if_neg a, if_neg b, if_pos c, ← d, e]
  · rw [if_neg a, if_neg b, if_neg c, if_pos d, ← g, e]
  · rw [if_neg a, if_neg b, if_neg c, if_neg d]
    rw [g] at e ⊢
    exact e
theorem x_enter (hs : q ∈ sizes) : ∃ RR2 : Nat → Nat → Int32, (∀ i, i < 4 → ∀ x, x < q → RR2 i x = nI x) ∧ X3_enter_40 FU (nI q) FU RR 0 = some RR2 := by
  have hq := sz_2 q hs
  have inner : ∀ (rc : (Nat → Nat → Int32) → Int32 → Option (Nat → Nat → Int32)) i (M : Nat → Nat → Int32), i < 4 → X3_enter_47 FU rc (nI q) (nI i) FU M 0 = rc (va_up M i (put (M i) nI 0 q)) (nI (i + 1)) := fun rc i M hi => by
    unfold X3_enter_47
    have key := itr_for (bot := fun (_ : Nat → Nat → Int32) (_ : Int32) => (none : Option (Nat → Nat → Int32))) (F := X3_enter_47_b FU rc (nI q) (nI i)) (ap := fun t n => t (va_up M i (put (M i) nI 0 n)) (nI n)) (R := rc (va_up M i (put (M i) nI 0 q)) (nI (i + 1))) q (fun t => ?_) (fun t n hn => ?_) FU 0 (Nat.zero_le _) (FU_lt (by omega))
    · rw [put_0, vu_id] at key
      exact key
    · show X3_enter_47_b FU rc (nI q) (nI i) t (va_up M i (put (M i) nI 0 q)) (nI q) = _
      unfold X3_enter_47_b
      rw [if_pos (Int32.le_refl _), nI_1]
    · show X3_enter_47_b FU rc (nI q) (nI i) t (va_up M i (put (M i) nI 0 n)) (nI n) = t (va_up M i (put (M i) nI 0 (n + 1))) (nI (n + 1))
      unfold X3_enter_47_b
      rw [if_neg (nI_ge hn (by omega)), ckI_ok hi (by decide), ckI_ok (show n < 16 by omega) (by decide), nI_clamp (show i < 2 ^ 31 by omega), nI_clamp (show n < 2 ^ 31 by omega), vu_s, bx_uu, nI_1, ← put_s0]
  unfold X3_enter_40
  have key := itr_ex (bot := fun (_ : Nat → Nat → Int32) (_ : Int32) => (none : Option (Nat → Nat → Int32))) (F := X3_enter_40_b FU (nI q)) (ap := fun t n (M : Nat → Nat → Int32) => t M (nI n)) (RE := fun M => some M) (fun n M => ∀ i, i < n → ∀ x, x < q → M i x = nI x) 4 (fun t M _ => ?_) (fun t n M hn hI => ?_) FU 0 RR (Nat.zero_le _) (FU_lt (by omega)) (fun i hi => by omega)
  · exact key
  · unfold X3_enter_40_b
    rw [if_pos (show (4 : Int32) ≤ nI 4 by decide)]
  · refine ⟨va_up M n (put (M n) nI 0 q), fun i hi x hx => ?_, ?_⟩
    · by_cases e : i = n
      · rw [e, vu_s, put_in0 hx]
      · rw [vu_n e]
        exact hI i (by omega) x hx
    · unfold X3_enter_40_b
      rw [if_neg (show ¬ (4 : Int32) ≤ nI n from nI_ge (b := 4) hn (by decide)), inner t n M hn]
theorem k_fs : ∀ q ∈ sizes, X4_in FU (nI q) 2 5 = some 1 ∨ (X4_in FU (nI q) 2 5 = some 0 ∧ X4_in FU (nI q) 7 9 = some 1) ∨ (X4_in FU (nI q) 2 5 = some 0 ∧ X4_in FU (nI q) 7 9 = some 0 ∧ (nI q = 11 ∨ (nI q ≠ 11 ∧ (nI q = 13 ∨ (nI q ≠ 13 ∧ nI q = 16))))) := by decide
theorem k_nf : ∀ j, j < 17 → (j ∈ sizes ∧ X3_isFieldSize FU (nI j) = some 1) ∨ (X3_isFieldSize FU (nI j) = some 0 ∧ X4_in FU (nI j) 2 5 = some 0 ∧ X4_in FU (nI j) 7 9 = some 0 ∧ nI j ≠ 11 ∧ nI j ≠ 13 ∧ nI j ≠ 16) := by decide
theorem fsz (v : Int32) : (∃ q, q ∈ sizes ∧ v = nI q ∧ X3_isFieldSize FU v = some 1) ∨ (X3_isFieldSize FU v = some 0 ∧ X4_in FU v 2 5 = some 0 ∧ X4_in FU v 7 9 = some 0 ∧ v ≠ 11 ∧ v ≠ 13 ∧ v ≠ 16) := by
  rcases ixc v (n := 17) (by omega) with h | ⟨j, hj, rfl⟩
  · have hne : ∀ k, k < 17 → v ≠ nI k := fun k hk e => by
      rw [e] at h
      rcases h with h | h
      · exact nI_pos (by omega) h
      · exact nI_ge hk (by decide) h
    have n2 : v ≠ 2 := hne 2 (by decide)
    have n3 : v ≠ 3 := hne 3 (by decide)
    have n4 : v ≠ 4 := hne 4 (by decide)
    have n5 : v ≠ 5 := hne 5 (by decide)
    have n6 : v ≠ 6 := hne 6 (by decide)
    have n7 : v ≠ 7 := hne 7 (by decide)
    have n8 : v ≠ 8 := hne 8 (by decide)
    have n9 : v ≠ 9 := hne 9 (by decide)
    have n10 : v ≠ 10 := hne 10 (by decide)
    have n11 : v ≠ 11 := hne 11 (by decide)
    have n12 : v ≠ 12 := hne 12 (by decide)
    have n13 : v ≠ 13 := hne 13 (by decide)
    have n14 : v ≠ 14 := hne 14 (by decide)
    have n15 : v ≠ 15 := hne 15 (by decide)
    have n16 : v ≠ 16 := hne 16 (by decide)
    have rng : ∀ a b : Int32, 0 ≤ a → b < nI 17 → X4_in FU v a b = some 0 := fun a b ha hb => by
      unfold X4_in
      rcases h with h | h
      · rw [if_pos (Int32.lt_of_lt_of_le h ha)]
      · rw [if_pos (Int32.lt_of_lt_of_le hb h)]
        split <;> rfl
    refine Or.inr ⟨?_, rng 2 5 (by decide) (by decide), rng 7 9 (by decide) (by decide), n11, n13, n16⟩
    unfold X3_isFieldSize
    rw [if_neg n2, if_neg n3, if_neg n4, if_neg n5, if_neg n6, if_neg n7, if_neg n8, if_neg n9, if_neg n10, if_neg n11, if_neg n12, if_neg n13, if_neg n14, if_neg n15, if_neg n16]
  · rcases k_nf j hj with ⟨h1, h2⟩ | h
    · exact Or.inl ⟨j, h1, rfl, h2⟩
    · exact Or.inr h
theorem R_field {kq kp : Int32} (v : Int32) : (X3_isFieldSize FU v = some 0 ∧ X4_field FU th kq kp su pr ms di v = some (-1, 0, kq, kp, su, pr, ms, di)) ∨ ∃ q RR2 su2 pr2 ms2 di2, q ∈ sizes ∧ v = nI q ∧ X3_isFieldSize FU (nI q) = some 1 ∧ X3_enter_40 FU (nI q) FU RR 0 = some RR2 ∧ X4_field FU th kq kp su pr ms di (nI q) = some (kq, 0, nI q, nI (prm q), su2, pr2, ms2, di2) ∧ MS q su2 pr2 ∧ Rel q (fun _ x => x) RR2 ms2 := by
  rcases fsz v with ⟨q, hs, rfl, h1⟩ | ⟨h1, h2, h3, n11, n13, n16⟩
  · obtain ⟨RR2, g1, e1⟩ := x_enter (RR := RR) hs
    obtain ⟨su2, pr2, ms2, di2, g2, g3, e2⟩ := a_begins (su := su) (pr := pr) (ms := ms) (di := di) (kq := kq) (kp := kp) hs
    have hq := sz_2 q hs
    refine Or.inr ⟨q, RR2, su2, pr2, ms2, di2, hs, rfl, h1, e1, ?_, g2, fun i hi x hx => ⟨hx, g1 i hi x hx, g3 i hi x (by omega)⟩⟩
    have e45 : X4_field_45 FU 0 kq kp su pr ms di (nI q) = some (kq, 0, nI q, nI (prm q), su2, pr2, ms2, di2) := by
      unfold X4_field_45
      rw [e2, Option.bind_some]
    unfold X4_field
    rcases k_fs q hs with a | ⟨a, b⟩ | ⟨a, b, c⟩
    · rw [a, Option.bind_some, if_neg (by decide), e45]
    · rw [a, Option.bind_some, if_pos rfl, b, Option.bind_some, if_neg (by decide), e45]
    · rw [a, Option.bind_some, if_pos rfl, b, Option.bind_some, if_pos rfl]
      rcases c with c | ⟨c, c | ⟨c2, c3⟩⟩
      · rw [if_pos c, e45]
      · rw [if_neg ‹nI q ≠ 11›, if_pos c, e45]
      · rw [if_neg c, if_neg c2, if_pos c3, e45]
  · refine Or.inl ⟨h1, ?_⟩
    unfold X4_field
    rw [h2, Option.bind_some, if_pos rfl, h3, Option.bind_some, if_pos rfl, if_neg n11, if_neg n13, if_neg n16]
end
