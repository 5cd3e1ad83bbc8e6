/-- sums of g(x) x^e over x below n -/
def csum (q : Nat) (g : Nat → Nat) (e : Nat) : Nat → Nat
  | 0 => 0
  | n + 1 => AD q (csum q g e n) (MU q (g n) (PW q n e))
def cof (q : Nat) (g : Nat → Nat) (k : Nat) : Nat := if k = 0 then g 0 else NG q (csum q g (q - 1 - k) q)
section
variable {q : Nat} {su pr ms : Nat → Int32} {RR : Nat → Nat → Int32} {f : Nat → Nat → Nat} {th : Int32} {tr ak : Int64} {g : Nat → Nat}
theorem csum_lt (hs : q ∈ sizes) (hg : ∀ x, x < q → g x < q) (e : Nat) : ∀ n, n ≤ q → csum q g e n < q
  | 0, _ => by have := (sz_2 q hs).1; show 0 < q; omega
  | n + 1, hn => AD_lt hs (csum_lt hs hg e n (by omega)) (MU_lt hs (hg n (by omega)) (PW_lt hs (by omega) e))
theorem cof_lt (hs : q ∈ sizes) (hg : ∀ x, x < q → g x < q) (k : Nat) : cof q g k < q := by
  unfold cof
  split
  · exact hg 0 (by have := (sz_2 q hs).1; omega)
  · exact NG_lt hs (csum_lt hs hg _ q (Nat.le_refl q))
theorem nI_sub2 {q k : Nat} (hk : k < q) : nI q - 1 - nI k = nI (q - 1 - k) := by
  rw [nI_m1 (by omega), pk_sub (by omega)]
theorem a_coef (hs : q ∈ sizes) (hM : MS q su pr) {i k : Nat} (hi : i < 4) (hg : ∀ x, x < q → g x < q ∧ ms (16 * i + x) = nI (g x)) (hk : k < q) : X4_coefficientOf FU (nI q) su pr ms (nI i) (nI k) = some (nI (cof q g k)) := by
  have hq := sz_2 q hs
  have hgl : ∀ x, x < q → g x < q := fun x hx => (hg x hx).1
  unfold X4_coefficientOf
  by_cases h0 : k = 0
  · subst h0
    have e16 : (16 : Int32) * nI i = nI (16 * i) := pk_mul 16 i
    rw [if_pos nI_0, e16, ckI_ok (by omega) (by decide), nI_clamp (by omega)]
    have := (hg 0 (by omega)).2
    rw [Nat.add_zero] at this
    rw [this]
    rfl
  · rw [if_neg (nI_ne0 (by omega) (by omega))]
    have ec : cof q g k = NG q (csum q g (q - 1 - k) q) := if_neg h0
    rw [ec]
    unfold X4_coefficientOf_19
    refine itr_for (ap := fun (t : Int32 → Int32 → Option Int32) n => t (nI (csum q g (q - 1 - k) n)) (nI n)) q (fun t => ?_) (fun t n hn => ?_) FU 0 (Nat.zero_le _) (FU_lt (by omega))
    · unfold X4_coefficientOf_19_b
      rw [if_pos (Int32.le_refl _), a_minus hs hM (csum_lt hs hgl _ q (Nat.le_refl q))]
      rfl
    · unfold X4_coefficientOf_19_b
      have hp := PW_lt hs hn (q - 1 - k)
      rw [if_neg (nI_ge hn (by omega)), idx16, ckI_ok (by omega) (by decide), nI_sub2 hk, a_power hs hM hn (by omega), Option.bind_some, nI_clamp (by omega), (hg n hn).2, a_by hs hM (hgl n hn) hp, Option.bind_some, a_add hs hM (csum_lt hs hgl _ n (by omega)) (MU_lt hs (hgl n hn) hp), Option.bind_some, nI_1]
      rfl
theorem x_coef (hs : q ∈ sizes) {j k : Nat} (hg : ∀ x, x < q → g x < q ∧ RR j x = nI (g x)) (hk : k < q) : X3_coefficientOf FU q (nI q) RR (nI q) (T0 q) (T1 q) (T2 q) (T3 q) j (nI k) = some (nI (cof q g k)) := by
  have hq := sz_2 q hs
  have hgl : ∀ x, x < q → g x < q := fun x hx => (hg x hx).1
  unfold X3_coefficientOf
  by_cases h0 : k = 0
  · subst h0
    rw [if_pos nI_0]
    show ckI (nI 0) 16 (some (RR j (nI 0).toNatClampNeg)) = _
    rw [ckI_ok (by decide) (by decide), nI_clamp (by decide), (hg 0 (by omega)).2]
    rfl
  · rw [if_neg (nI_ne0 (by omega) (by omega))]
    have ec : cof q g k = NG q (csum q g (q - 1 - k) q) := if_neg h0
    rw [ec]
    unfold X3_coefficientOf_13
    refine itr_for (ap := fun (t : Int32 → Int32 → Option Int32) n => t (nI (csum q g (q - 1 - k) n)) (nI n)) q (fun t => ?_) (fun t n hn => ?_) FU 0 (Nat.zero_le _) (FU_lt (by omega))
    · unfold X3_coefficientOf_13_b
      have hc := csum_lt hs hgl (q - 1 - k) q (Nat.le_refl q)
      rw [if_pos (Int32.le_refl _), show (0 : Int32) = nI 0 from rfl, x_less hs (by omega) hc, (k_unit q hs _ (NG_lt hs hc)).1]
      rfl
    · unfold X3_coefficientOf_13_b
      have hp := PW_lt hs hn (q - 1 - k)
      rw [if_neg (nI_ge hn (by omega)), ckI_ok (show n < 16 by omega) (by decide), nI_sub2 hk, x_raised hs hn (by omega), Option.bind_some, nI_clamp (by omega), (hg n hn).2, x_product hs (hgl n hn) hp, Option.bind_some, x_sum hs (csum_lt hs hgl _ n (by omega)) (MU_lt hs (hgl n hn) hp), Option.bind_some, nI_1]
      rfl
theorem Rel.x (hR : Rel q f RR ms) {i : Nat} (hi : i < 4) : ∀ x, x < q → f i x < q ∧ RR i x = nI (f i x) := fun x hx => ⟨(hR i hi x hx).1, (hR i hi x hx).2.1⟩
theorem Rel.a (hR : Rel q f RR ms) {i : Nat} (hi : i < 4) : ∀ x, x < q → f i x < q ∧ ms (16 * i + x) = nI (f i x) := fun x hx => ⟨(hR i hi x hx).1, (hR i hi x hx).2.2⟩
theorem R_coefficient (hs : q ∈ sizes) (hM : MS q su pr) (hR : Rel q f RR ms) (v1 v2 : Int32) : ∃ r, X3_coefficient FU q (nI q) RR (nI q) (T0 q) (T1 q) (T2 q) (T3 q) v1 v2 = some r ∧ X4_coefficient FU th (nI q) su pr ms v1 v2 = some (r, 0) := by
  have hq := sz_2 q hs
  rcases ixc v1 (n := 4) (by omega) with h | ⟨i, hi, rfl⟩
  · exact ⟨-1, by unfold X3_coefficient; rw [x_mapN h]; rfl, by unfold X4_coefficient; rw [a_mapN h]; rfl⟩
  · rcases ixc v2 (n := q) (by omega) with h | ⟨k, hk, rfl⟩
    · exact ⟨-1, by unfold X3_coefficient; rw [x_map hi, x_numN h]; rfl, by unfold X4_coefficient; rw [a_map hi, a_numN hs h]; rfl⟩
    · refine ⟨nI (cof q (f i) k), ?_, ?_⟩
      · unfold X3_coefficient
        rw [x_map hi, x_num hs hk, ckI_ok hi (by decide), nI_clamp (by omega), x_coef hs (hR.x hi) hk]
        rfl
      · unfold X4_coefficient
        rw [a_map hi, a_num hs hk, a_coef hs hM hi (hR.a hi) hk]
        rfl
theorem R_change (hs : q ∈ sizes) (hM : MS q su pr) (hR : Rel q f RR ms) (v1 v2 v3 : Int32) : ∃ r RR2 ms2 f2, X3_change FU q (nI q) RR (nI q) (T0 q) (T1 q) (T2 q) (T3 q) v1 v2 v3 = some (r, RR2) ∧ X4_change FU th (nI q) su pr ms v1 v2 v3 = some (r, 0, ms2) ∧ Rel q f2 RR2 ms2 := by
  have hq := sz_2 q hs
  rcases ixc v1 (n := 4) (by omega) with h | ⟨i, hi, rfl⟩
  · exact ⟨-1, RR, ms, f, by unfold X3_change; rw [x_mapN h]; rfl, by unfold X4_change; rw [a_mapN h]; rfl, hR⟩
  rcases ixc v2 (n := q) (by omega) with h | ⟨k, hk, rfl⟩
  · exact ⟨-1, RR, ms, f, by unfold X3_change; rw [x_map hi, x_numN h]; rfl, by unfold X4_change; rw [a_map hi, a_numN hs h]; rfl, hR⟩
  rcases ixc v3 (n := q) (by omega) with h | ⟨v, hv, rfl⟩
  · exact ⟨-1, RR, ms, f, by unfold X3_change; rw [x_map hi, x_num hs hk, x_numN h]; rfl, by unfold X4_change; rw [a_map hi, a_num hs hk, a_numN hs h]; rfl, hR⟩
  have hgl : ∀ x, x < q → f i x < q := fun x hx => (hR i hi x hx).1
  have hc := cof_lt hs hgl k
  have hst := AD_lt hs hv (NG_lt hs hc)
  obtain ⟨sp, esp⟩ : ∃ sp, sp = AD q v (NG q (cof q (f i) k)) := ⟨_, rfl⟩
  obtain ⟨h, eh⟩ : ∃ h : Nat → Nat, h = fun x => AD q (f i x) (MU q sp (PW q x k)) := ⟨_, rfl⟩
  have hsp : sp < q := by rw [esp]; exact hst
  have hh : ∀ x, x < q → h x < q := fun x hx => by rw [eh]; exact AD_lt hs (hgl x hx) (MU_lt hs hsp (PW_lt hs hx k))
  refine ⟨nI (cof q (f i) k), va_up RR i (put (RR i) (fun x => nI (h x)) 0 q), put ms (fun x => nI (h x)) (16 * i) q, fup f i h, ?_, ?_, ?_⟩
  · unfold X3_change
    rw [x_map hi, x_num hs hk, x_num hs hv, ckI_ok hi (by decide), nI_clamp (by omega), x_coef hs (hR.x hi) hk]
    show Option.bind (X0_less FU q (nI q) (T0 q) (T3 q) (nI v) (nI (cof q (f i) k))) _ = _
    rw [x_less hs hv hc, ← esp, Option.bind_some]
    unfold X3_change_57
    have key := itr_for (bot := fun (_ : Nat → Nat → Int32) (_ : Int32) => (none : Option (Int32 × (Nat → Nat → Int32)))) (F := X3_change_57_b FU q (nI q) (nI q) (T0 q) (T1 q) (T2 q) (T3 q) (nI k) i (nI (cof q (f i) k)) (nI sp)) (ap := fun t n => t (va_up RR i (put (RR i) (fun x => nI (h x)) 0 n)) (nI n)) (R := some (nI (cof q (f i) k), va_up RR i (put (RR i) (fun x => nI (h x)) 0 q))) q (fun t => ?_) (fun t n hn => ?_) FU 0 (Nat.zero_le _) (FU_lt (by omega))
    · rw [show va_up RR i (put (RR i) (fun x => nI (h x)) 0 0) = RR by rw [put_0, vu_id]] at key
      exact key
    · show X3_change_57_b FU q (nI q) (nI q) (T0 q) (T1 q) (T2 q) (T3 q) (nI k) i (nI (cof q (f i) k)) (nI sp) t (va_up RR i (put (RR i) (fun x => nI (h x)) 0 q)) (nI q) = _
      unfold X3_change_57_b
      rw [if_pos (Int32.le_refl _)]
    · show X3_change_57_b FU q (nI q) (nI q) (T0 q) (T1 q) (T2 q) (T3 q) (nI k) i (nI (cof q (f i) k)) (nI sp) t (va_up RR i (put (RR i) (fun x => nI (h x)) 0 n)) (nI n) = t (va_up RR i (put (RR i) (fun x => nI (h x)) 0 (n + 1))) (nI (n + 1))
      unfold X3_change_57_b
      have hp := PW_lt hs hn k
      rw [if_neg (nI_ge hn (by omega)), ckI_ok (show n < 16 by omega) (by decide), x_raised hs hn (by omega), Option.bind_some, x_product hs hsp hp, Option.bind_some, nI_clamp (by omega), vu_s, put_out (Or.inr (by omega)), (hR i hi n hn).2.1, x_sum hs (hgl n hn) (MU_lt hs hsp hp), Option.bind_some, ckI_ok (show n < 16 by omega) (by decide), bx_uu, nI_1, ← put_s0, eh]
  · unfold X4_change
    rw [a_map hi, a_num hs hk, a_num hs hv, a_coef hs hM hi (hR.a hi) hk]
    show Option.bind (X4_minus FU su (nI (cof q (f i) k))) _ = _
    rw [a_minus hs hM hc, Option.bind_some, a_add hs hM hv (NG_lt hs hc), ← esp, Option.bind_some]
    unfold X4_change_54
    have key := itr_for (bot := fun (_ : Nat → Int32) (_ : Int32) => (none : Option (Int32 × Int32 × (Nat → Int32)))) (F := X4_change_54_b FU 0 (nI q) su pr (nI i) (nI k) (nI (cof q (f i) k)) (nI sp)) (ap := fun t n => t (put ms (fun x => nI (h x)) (16 * i) n) (nI n)) (R := some (nI (cof q (f i) k), 0, put ms (fun x => nI (h x)) (16 * i) q)) q (fun t => ?_) (fun t n hn => ?_) FU 0 (Nat.zero_le _) (FU_lt (by omega))
    · rw [put_0] at key
      exact key
    · show X4_change_54_b FU 0 (nI q) su pr (nI i) (nI k) (nI (cof q (f i) k)) (nI sp) t (put ms (fun x => nI (h x)) (16 * i) q) (nI q) = _
      unfold X4_change_54_b
      rw [if_pos (Int32.le_refl _)]
    · show X4_change_54_b FU 0 (nI q) su pr (nI i) (nI k) (nI (cof q (f i) k)) (nI sp) t (put ms (fun x => nI (h x)) (16 * i) n) (nI n) = t (put ms (fun x => nI (h x)) (16 * i) (n + 1)) (nI (n + 1))
      unfold X4_change_54_b
      have hp := PW_lt hs hn k
      rw [if_neg (nI_ge hn (by omega)), idx16, ckI_ok (by omega) (by decide), a_power hs hM hn (by omega), Option.bind_some, a_by hs hM hsp hp, Option.bind_some, nI_clamp (by omega), put_out (Or.inr (by omega)), (hR i hi n hn).2.2, a_add hs hM (hgl n hn) (MU_lt hs hsp hp), Option.bind_some, ckI_ok (by omega) (by decide), nI_1, ← put_s, eh]
  · exact Rel_lay hR hh (fun j _ hne x _ => by rw [vu_n hne]) (fun x hx => by rw [vu_s, put_in0 hx]) (fun j _ hne x hx => ms_out hq.2 hne hx) (fun x hx => put_in hx)
/-- the degree: the greatest k below n with a coefficient that isn't 0, as n - k; none: n -/
theorem deg_ex (P : Nat → Bool) : ∀ n : Nat, ∃ k, k ≤ n ∧ (k = n ∨ P (n - 1 - k) = true) ∧ ∀ j, j < k → P (n - 1 - j) = false
  | 0 => ⟨0, Nat.le_refl _, Or.inl rfl, fun j hj => by omega⟩
  | n + 1 => by
    by_cases h : P n = true
    · exact ⟨0, Nat.zero_le _, Or.inr (by rw [show n + 1 - 1 - 0 = n by omega]; exact h), fun j hj => by omega⟩
    · obtain ⟨k, h1, h2, h3⟩ := deg_ex P n
      refine ⟨k + 1, by omega, ?_, fun j hj => ?_⟩
      · rcases h2 with h2 | h2
        · exact Or.inl (by omega)
        · exact Or.inr (by rw [show n + 1 - 1 - (k + 1) = n - 1 - k by omega]; exact h2)
      · by_cases hj0 : j = 0
        · subst hj0
          rw [show n + 1 - 1 - 0 = n by omega]
          exact Bool.eq_false_iff.mpr h
        · have := h3 (j - 1) (by omega)
          rw [show n + 1 - 1 - j = n - 1 - (j - 1) by omega]
          exact this
/-- n - 1 - k as an int: -1 where k is n -/
def dn (n k : Nat) : Int32 := if k < n then nI (n - 1 - k) else -1
theorem dn_s {n k : Nat} (h : k < n) : dn n k + (-1) = dn n (k + 1) := by
  unfold dn
  rw [if_pos h]
  by_cases h2 : k + 1 < n
  · rw [if_pos h2]
    have := pk_m1 (n - 1 - (k + 1))
    rw [show n - 1 - (k + 1) + 1 = n - 1 - k by omega] at this
    exact this
  · rw [if_neg h2, show n - 1 - k = 0 by omega]
    rfl
theorem R_degree (hs : q ∈ sizes) (hM : MS q su pr) (hR : Rel q f RR ms) (v1 : Int32) : ∃ r, X3_degree FU q (nI q) RR (nI q) (T0 q) (T1 q) (T2 q) (T3 q) v1 = some r ∧ X4_degree FU th (nI q) su pr ms v1 = some (r, 0) := by
  have hq := sz_2 q hs
  rcases ixc v1 (n := 4) (by omega) with h | ⟨i, hi, rfl⟩
  · exact ⟨-1, by unfold X3_degree; rw [x_mapN h]; rfl, by unfold X4_degree; rw [a_mapN h]; rfl⟩
  have hgl : ∀ x, x < q → f i x < q := fun x hx => (hR i hi x hx).1
  obtain ⟨k, hk, hend, hbef⟩ := deg_ex (fun n => decide (cof q (f i) n ≠ 0)) q
  have hbef' : ∀ j, j < k → cof q (f i) (q - 1 - j) = 0 := fun j hj => by
    have := hbef j hj
    simpa using this
  refine ⟨if k < q then nI (q - 1 - k) else -9, ?_, ?_⟩
  · unfold X3_degree
    rw [x_map hi]
    show X3_degree_16 FU q (nI q) RR (nI q) (T0 q) (T1 q) (T2 q) (T3 q) (nI i) FU (nI q - 1) = _
    rw [show nI q - 1 = dn q 0 by unfold dn; rw [if_pos (by omega), nI_m1 (by omega)]; rfl]
    unfold X3_degree_16
    refine itr_for (ap := fun (t : Int32 → Option Int32) n => t (dn q n)) k (fun t => ?_) (fun t n hn => ?_) FU 0 (Nat.zero_le _) (FU_lt (by omega))
    · unfold X3_degree_16_b dn
      by_cases hkq : k < q
      · have hne : cof q (f i) (q - 1 - k) ≠ 0 := by
          rcases hend with e | e
          · omega
          · simpa using e
        have hc := cof_lt hs hgl (q - 1 - k)
        rw [if_pos hkq, if_pos hkq, if_neg (nI_pos (by omega)), ckI_ok hi (by decide), nI_clamp (by omega), x_coef hs (hR.x hi) (by omega), Option.bind_some, if_neg (nI_ne0 (by omega) (by omega))]
      · rw [if_neg hkq, if_neg hkq, if_pos (by decide)]
    · have hnq : n < q := by omega
      unfold X3_degree_16_b
      rw [← dn_s hnq]
      have e : dn q n = nI (q - 1 - n) := if_pos hnq
      rw [e, if_neg (nI_pos (by omega)), ckI_ok hi (by decide), nI_clamp (by omega), x_coef hs (hR.x hi) (by omega), Option.bind_some, hbef' n hn, if_pos nI_0]
  · unfold X4_degree
    rw [a_map hi]
    show X4_degree_21 FU 0 (nI q) su pr ms (nI i) FU (nI q - 1) = _
    rw [show nI q - 1 = dn q 0 by unfold dn; rw [if_pos (by omega), nI_m1 (by omega)]; rfl]
    unfold X4_degree_21
    refine itr_for (ap := fun (t : Int32 → Option (Int32 × Int32)) n => t (dn q n)) k (fun t => ?_) (fun t n hn => ?_) FU 0 (Nat.zero_le _) (FU_lt (by omega))
    · unfold X4_degree_21_b X4_degree_40 dn
      by_cases hkq : k < q
      · have hne : cof q (f i) (q - 1 - k) ≠ 0 := by
          rcases hend with e | e
          · omega
          · simpa using e
        have hc := cof_lt hs hgl (q - 1 - k)
        rw [if_pos hkq, if_pos hkq, if_neg (nI_pos (by omega)), a_coef hs hM hi (hR.a hi) (by omega), Option.bind_some, if_neg (nI_ne0 (by omega) (by omega)), if_pos (nI_pos' (by omega))]
      · rw [if_neg hkq, if_neg hkq, if_pos (by decide), if_neg (by decide)]
    · have hnq : n < q := by omega
      unfold X4_degree_21_b
      rw [← dn_s hnq]
      have e : dn q n = nI (q - 1 - n) := if_pos hnq
      rw [e, if_neg (nI_pos (by omega)), a_coef hs hM hi (hR.a hi) (by omega), Option.bind_some, hbef' n hn, if_pos nI_0]
end
