/-- the reference's tables hold the field -/
def MS (q : Nat) (su pr : Nat → Int32) : Prop := ∀ a, a < q → ∀ b, b < q → su (16 * a + b) = nI (AD q a b) ∧ pr (16 * a + b) = nI (MU q a b)
/-- both sides hold the maps f -/
def Rel (q : Nat) (f : Nat → Nat → Nat) (RR : Nat → Nat → Int32) (ms : Nat → Int32) : Prop := ∀ i, i < 4 → ∀ x, x < q → f i x < q ∧ RR i x = nI (f i x) ∧ ms (16 * i + x) = nI (f i x)
theorem one0 : ((1 : Int32) = 0) = False := by decide
theorem dm1 {q a b : Nat} (hb : b < q) : (a * q + b) / q = a := by
  rw [Nat.mul_comm, Nat.mul_add_div (by omega), Nat.div_eq_of_lt hb, Nat.add_zero]
theorem dm2 {q a b : Nat} (hb : b < q) : (a * q + b) % q = b := by
  rw [Nat.mul_comm, Nat.mul_add_mod, Nat.mod_eq_of_lt hb]
theorem dm3 {q a b : Nat} (ha : a < q) (hb : b < q) : a * q + b < q * q := by
  have h : (a + 1) * q ≤ q * q := Nat.mul_le_mul_right q ha
  rw [Nat.succ_mul] at h
  omega
theorem dm4 {q : Nat} (h : q ≤ 16) : q * q < 2 ^ 31 := Nat.lt_of_le_of_lt (Nat.mul_le_mul h h) (by decide)
section
variable {q a b : Nat} {fu : Nat} {su pr : Nat → Int32}
theorem a_add (hs : q ∈ sizes) (h : MS q su pr) (ha : a < q) (hb : b < q) : X4_add fu su (nI a) (nI b) = some (nI (AD q a b)) := by
  have := (sz_2 q hs).2
  unfold X4_add
  rw [idx16, ckI_ok (by omega) (by decide), nI_clamp (by omega), (h a ha b hb).1]
theorem a_by (hs : q ∈ sizes) (h : MS q su pr) (ha : a < q) (hb : b < q) : X4_by fu pr (nI a) (nI b) = some (nI (MU q a b)) := by
  have := (sz_2 q hs).2
  unfold X4_by
  rw [idx16, ckI_ok (by omega) (by decide), nI_clamp (by omega), (h a ha b hb).2]
theorem a_minus (hs : q ∈ sizes) (h : MS q su pr) (ha : a < q) : X4_minus FU su (nI a) = some (nI (NG q a)) := by
  have hq := (sz_2 q hs).2
  have hn := NG_lt hs ha
  have hu := k_unit q hs a ha
  unfold X4_minus X4_minus_2
  refine itr_for (ap := fun (t : Int32 → Option Int32) i => t (nI i)) (NG q a) (fun t => ?_) (fun t i hi => ?_) FU 0 (Nat.zero_le _) (FU_lt (by omega))
  · unfold X4_minus_2_b
    rw [a_add hs h ha hn, hu.2.2.2.2.2.2.2.1, Option.bind_some, if_pos nI_0]
  · unfold X4_minus_2_b
    have hne := (k_first q hs a ha).1 i hi
    rw [a_add hs h ha (by omega), Option.bind_some, if_neg (nI_ne0 (by omega) (by have := AD_lt hs ha (show i < q by omega); omega)), nI_1]
theorem a_power (hs : q ∈ sizes) (h : MS q su pr) (ha : a < q) {e : Nat} (he : e < 100000) : X4_power FU pr (nI a) (nI e) = some (nI (PW q a e)) := by
  unfold X4_power X4_power_5
  refine itr_for (ap := fun (t : Int32 → Int32 → Option Int32) i => t (nI (PW q a i)) (nI i)) e (fun t => ?_) (fun t i hi => ?_) FU 0 (Nat.zero_le _) (FU_lt (by omega))
  · unfold X4_power_5_b
    rw [if_pos (Int32.le_refl _)]
  · unfold X4_power_5_b
    rw [if_neg (nI_ge hi (by omega)), a_by hs h (PW_lt hs ha i) ha, Option.bind_some, nI_1]
    rfl
theorem a_num (hs : q ∈ sizes) (ha : a < q) : X4_isNumber fu (nI q) (nI a) = some 1 := by
  have hq := sz_2 q hs
  unfold X4_isNumber X4_in
  rw [nI_m1 (by omega), if_neg (nI_pos (by omega)), if_neg (nI_nlt (by omega) (by omega)), Option.bind_some, ckB_ok (Or.inr rfl)]
theorem a_numN (hs : q ∈ sizes) {v : Int32} (h : v < 0 ∨ nI q ≤ v) : X4_isNumber fu (nI q) v = some 0 := by
  have hq := sz_2 q hs
  unfold X4_isNumber X4_in
  rw [nI_m1 (by omega)]
  by_cases h0 : v < 0
  · rw [if_pos h0, Option.bind_some, ckB_ok (Or.inl rfl)]
  · have h1 := h.resolve_left h0
    have h2 : nI (q - 1) < v := Int32.lt_of_lt_of_le (nI_lt (by omega) (by omega)) h1
    rw [if_neg h0, if_pos h2, Option.bind_some, ckB_ok (Or.inl rfl)]
theorem a_map {i : Nat} (hi : i < 4) : X4_isMap fu (nI i) = some 1 := by
  unfold X4_isMap X4_in
  rw [if_neg (nI_pos (by omega)), if_neg (show ¬ (3 : Int32) < nI i from nI_nlt (a := 3) (b := i) (by omega) (by decide)), Option.bind_some, ckB_ok (Or.inr rfl)]
theorem a_mapN {v : Int32} (h : v < 0 ∨ nI 4 ≤ v) : X4_isMap fu v = some 0 := by
  unfold X4_isMap X4_in
  by_cases h0 : v < 0
  · rw [if_pos h0, Option.bind_some, ckB_ok (Or.inl rfl)]
  · have h2 : (3 : Int32) < v := Int32.lt_of_lt_of_le (show (3 : Int32) < nI 4 by decide) (h.resolve_left h0)
    rw [if_neg h0, if_pos h2, Option.bind_some, ckB_ok (Or.inl rfl)]
theorem x_num {N : Nat} (hs : q ∈ sizes) (ha : a < q) : X3_isNumber fu N (nI q) (nI a) = some 1 := by
  have hq := sz_2 q hs
  unfold X3_isNumber
  rw [if_neg (nI_pos (by omega)), if_neg (nI_ge ha (by omega))]
theorem x_numN {N : Nat} {v : Int32} (h : v < 0 ∨ nI q ≤ v) : X3_isNumber fu N (nI q) v = some 0 := by
  unfold X3_isNumber
  by_cases h0 : v < 0
  · rw [if_pos h0]
  · rw [if_neg h0, if_pos (h.resolve_left h0)]
theorem x_map {i : Nat} (hi : i < 4) : X3_isMap fu (nI i) = some 1 := by
  unfold X3_isMap
  rw [if_neg (nI_pos (by omega)), if_neg (show ¬ (4 : Int32) ≤ nI i from nI_ge (a := i) (b := 4) hi (by decide))]
theorem x_mapN {v : Int32} (h : v < 0 ∨ nI 4 ≤ v) : X3_isMap fu v = some 0 := by
  unfold X3_isMap
  by_cases h0 : v < 0
  · rw [if_pos h0]
  · rw [if_neg h0, if_pos (show (4 : Int32) ≤ v from h.resolve_left h0)]
theorem x_sum (hs : q ∈ sizes) (ha : a < q) (hb : b < q) : X0_sum fu q (nI q) (T0 q) (nI a) (nI b) = some (nI (AD q a b)) := by
  have hq := (sz_2 q hs).2
  have h1 := dm3 ha hb
  have h2 := dm4 hq
  unfold X0_sum
  rw [idxq, ckI_ok h1 h2, nI_clamp (by omega)]
  unfold T0
  rw [dm1 hb, dm2 hb]
theorem x_product (hs : q ∈ sizes) (ha : a < q) (hb : b < q) : X0_product fu q (nI q) (T1 q) (nI a) (nI b) = some (nI (MU q a b)) := by
  have hq := (sz_2 q hs).2
  have h1 := dm3 ha hb
  have h2 := dm4 hq
  unfold X0_product
  rw [idxq, ckI_ok h1 h2, nI_clamp (by omega)]
  unfold T1
  rw [dm1 hb, dm2 hb]
theorem x_less (hs : q ∈ sizes) (ha : a < q) (hb : b < q) : X0_less fu q (nI q) (T0 q) (T3 q) (nI a) (nI b) = some (nI (AD q a (NG q b))) := by
  have hq := (sz_2 q hs).2
  have hn := NG_lt hs hb
  have h1 := dm3 ha hn
  have h2 := dm4 hq
  unfold X0_less
  rw [ckI_ok hb (by omega), nI_clamp (by omega)]
  show ckI (nI a * nI q + nI (NG q b)) (q * q) (some (T0 q (nI a * nI q + nI (NG q b)).toNatClampNeg)) = _
  rw [idxq, ckI_ok h1 h2, nI_clamp (by omega)]
  unfold T0
  rw [dm1 hn, dm2 hn]
theorem x_inverse (hs : q ∈ sizes) (ha : a < q) : X0_inverse fu q (T4 q) (nI a) = some (nI (IV q a)) := by
  have hq := (sz_2 q hs).2
  unfold X0_inverse
  rw [ckI_ok ha (by omega), nI_clamp (by omega)]
  rfl
theorem x_raised (hs : q ∈ sizes) (ha : a < q) {e : Nat} (he : e < 100000) : X0_raised fu q (nI q) (T2 q) (nI a) (nI e) = some (nI (PW q a e)) := by
  have hq := sz_2 q hs
  have h2 := dm4 hq.2
  have key : ∀ k, k < q → X0_raised_34 fu q (nI q) (T2 q) (nI k) (nI a * nI q) = some (nI (PW q a k)) := fun k hk => by
    have h1 := dm3 ha hk
    unfold X0_raised_34
    rw [idxq, ckI_ok h1 h2, nI_clamp (by omega)]
    unfold T2
    rw [dm1 hk, dm2 hk]
  unfold X0_raised
  by_cases hlt : e < q
  · rw [if_neg (nI_ge hlt (by omega)), key e hlt]
  · rw [if_pos (nI_le (by omega) (by omega)), nI_m1 (by omega), nI_m1 (by omega), ckZ_ok (by omega) (by omega), pk_rem (by omega) (by omega) (by omega)]
    have hm : (e - 1) % (q - 1) < q - 1 := Nat.mod_lt _ (by omega)
    rw [show (1 : Int32) = nI 1 from rfl, nI_add, key _ (by omega)]
    have := PW_mod hs ha (e - 1) (e - 1) (Nat.le_refl _)
    rw [show 1 + (e - 1) = e by omega] at this
    rw [this]
end
