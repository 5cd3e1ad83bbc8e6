/-- digits of a polynomial's number -/
def dgt (q n j : Nat) : Nat := n / q ^ j % q
/-- c(k) of polynomial n of degree d -/
def cfn (q d n k : Nat) : Nat := if k = d then 1 else dgt q n (k - 1)
/-- sums of c(k) x^k for k from 1 to m -/
def sm (q x : Nat) (c : Nat → Nat) : Nat → Nat
  | 0 => 0
  | k + 1 => AD q (sm q x c k) (MU q (c (k + 1)) (PW q x (k + 1)))
/-- Horner's way -/
def hr (q x : Nat) (c : Nat → Nat) : Nat → Nat → Nat
  | v, 0 => v
  | v, m + 1 => hr q x c (MU q (AD q v (c (m + 1))) x) m
def pv (q d n x : Nat) : Nat := sm q x (cfn q d n) d
def rct (g : Nat → Nat) : Nat → Nat
  | 0 => 0
  | n + 1 => rct g n + mk g n / 2 ^ g n % 2
theorem rct_0 {g : Nat → Nat} : ∀ n, (rct g n = 0 ↔ ∀ x, x < n → mk g x / 2 ^ g x % 2 = 0)
  | 0 => ⟨fun _ x h => by omega, fun _ => rfl⟩
  | n + 1 => by
    have ih := rct_0 (g := g) n
    show rct g n + mk g n / 2 ^ g n % 2 = 0 ↔ _
    constructor
    · intro h x hx
      by_cases e : x = n
      · rw [e]; omega
      · exact ih.mp (by omega) x (by omega)
    · intro h
      have h1 := ih.mpr fun x hx => h x (by omega)
      have h2 := h n (by omega)
      omega
theorem rct_le {g : Nat → Nat} : ∀ n, rct g n ≤ n
  | 0 => Nat.le_refl _
  | n + 1 => by have := rct_le (g := g) n; show rct g n + mk g n / 2 ^ g n % 2 ≤ n + 1; omega
def shq (q d k : Nat) : Bool := decide (rct (pv q d k) q = 0)
def ca (q : Nat) : Nat → Nat
  | 0 => 1
  | k + 1 => if ca q k ≤ 5000 then ca q k * q else ca q k
theorem k_ca : ∀ q ∈ sizes, ∀ k, k < 5 → (ca q k ≤ 5000 ↔ q ^ k ≤ 5000) ∧ (q ^ k ≤ 5000 → ca q k = q ^ k ∧ q ^ k ≤ 4096) ∧ ca q k < 2 ^ 31 ∧ q ^ k < 2 ^ 31 ∧ 1 ≤ q ^ k := by decide +kernel
section
variable {q : Nat} {su pr ms ro be t5 : Nat → Int32} {RR : Nat → Nat → Int32} {f : Nat → Nat → Nat} {th : Int32} {tr ak : Int64} {g c : Nat → Nat}
theorem dgt_lt (hs : q ∈ sizes) {n j : Nat} : dgt q n j < q := Nat.mod_lt _ (by have := sz_2 q hs; omega)
theorem cfn_lt (hs : q ∈ sizes) {d n k : Nat} : cfn q d n k < q := by
  unfold cfn
  split
  · have := sz_2 q hs; omega
  · exact dgt_lt hs
theorem sm_lt (hs : q ∈ sizes) (hc : ∀ k, c k < q) {x : Nat} (hx : x < q) : ∀ m, sm q x c m < q
  | 0 => by have := sz_2 q hs; show 0 < q; omega
  | m + 1 => AD_lt hs (sm_lt hs hc hx m) (MU_lt hs (hc _) (PW_lt hs hx _))
theorem hr_sm (hs : q ∈ sizes) (hc : ∀ k, c k < q) {x : Nat} (hx : x < q) : ∀ m v, v < q → hr q x c v m = AD q (MU q v (PW q x m)) (sm q x c m)
  | 0, v, hv => by
    show v = AD q (MU q v 1) 0
    rw [(k_unit q hs v hv).2.2.2.1, (k_unit q hs v hv).2.1]
  | m + 1, v, hv => by
    have hP := PW_lt hs hx m
    have hP1 := PW_lt hs hx (m + 1)
    have hcm := hc (m + 1)
    have ha := AD_lt hs hv hcm
    have hS := sm_lt hs hc hx m
    show hr q x c (MU q (AD q v (c (m + 1))) x) m = AD q (MU q v (PW q x (m + 1))) (AD q (sm q x c m) (MU q (c (m + 1)) (PW q x (m + 1))))
    rw [hr_sm hs hc hx m _ (MU_lt hs ha hx), (k_ass q hs _ ha _ hx _ hP).2.1, MU_comm hs hx hP]
    show AD q (MU q (AD q v (c (m + 1))) (PW q x (m + 1))) (sm q x c m) = _
    rw [(k_ass q hs _ hv _ hcm _ hP1).2.2, (k_ass q hs _ (MU_lt hs hv hP1) _ (MU_lt hs hcm hP1) _ hS).1, AD_comm hs (MU_lt hs hcm hP1) hS]
theorem pv_lt (hs : q ∈ sizes) {d n x : Nat} (hx : x < q) : pv q d n x < q := sm_lt hs (fun _ => cfn_lt hs) hx d
theorem x_polyAt (hs : q ∈ sizes) {d x : Nat} (hd : d < 6) (hc : ∀ k, c k < q) (ht : ∀ k, 1 ≤ k → k ≤ d → t5 k = nI (c k)) (hx : x < q) : X0_polynomialAt FU q (nI q) (T0 q) (T1 q) t5 (nI d) (nI x) = some (nI (sm q x c d)) := by
  have hq := sz_2 q hs
  have hv0 : 0 < q := by omega
  have hfin : hr q x c 0 d = sm q x c d := by
    rw [hr_sm hs hc hx d 0 hv0, (k_unit q hs _ (PW_lt hs hx d)).2.2.2.2.1, (k_unit q hs _ (sm_lt hs hc hx d)).1]
  have gen : ∀ (fk m v : Nat), m < fk → m ≤ d → v < q → X0_polynomialAt_5 FU q (nI q) (T0 q) (T1 q) t5 (nI x) fk (nI v) (nI m) = some (nI (hr q x c v m)) := by
    intro fk
    induction fk with
    | zero => intro m v h; omega
    | succ fk ih =>
      intro m v hf hm hv
      show X0_polynomialAt_5_b FU q (nI q) (T0 q) (T1 q) t5 (nI x) (X0_polynomialAt_5 FU q (nI q) (T0 q) (T1 q) t5 (nI x) fk) (nI v) (nI m) = _
      unfold X0_polynomialAt_5_b
      cases m with
      | zero => rw [if_pos (show nI 0 ≤ (0 : Int32) by decide)]; rfl
      | succ m =>
        have hcm := hc (m + 1)
        have ha := AD_lt hs hv hcm
        have em : nI (m + 1) + (-1) = nI m := by
          rw [← Int32.sub_eq_add_neg, nI_m1 (by omega)]
          rfl
        rw [if_neg (show ¬ nI (m + 1) ≤ (0 : Int32) from nI_ge (a := 0) (b := m + 1) (by omega) (by omega)), ckI_ok (by omega) (by decide), nI_clamp (by omega), ht (m + 1) (by omega) hm, x_sum hs hv hcm, Option.bind_some, x_product hs ha hx, Option.bind_some, em, ih m _ (by omega) (by omega) (MU_lt hs ha hx)]
        rfl
  unfold X0_polynomialAt
  rw [← hfin]
  exact gen FU d 0 (FU_lt (by omega)) (Nat.le_refl d) hv0
theorem x_write (hs : q ∈ sizes) {d n : Nat} (hd1 : 1 ≤ d) (hd : d < 6) (hn : n < 2 ^ 31) : ∃ t6 : Nat → Int32, X0_writePolynomial FU q (nI q) t5 (nI d) (nI n) = some t6 ∧ ∀ k, 1 ≤ k → k ≤ d → t6 k = nI (cfn q d n k) := by
  have hq := sz_2 q hs
  refine ⟨upd (put t5 (fun j => nI (dgt q n j)) 1 (d - 1)) d 1, ?_, fun k h1 h2 => ?_⟩
  · unfold X0_writePolynomial X0_writePolynomial_5
    have key := itr_for (bot := fun (_ : Nat → Int32) (_ _ : Int32) => (none : Option (Nat → Int32))) (F := X0_writePolynomial_5_b FU q (nI q) (nI d)) (ap := fun t k => t (put t5 (fun j => nI (dgt q n j)) 1 k) (nI (n / q ^ k)) (nI (k + 1))) (R := some (upd (put t5 (fun j => nI (dgt q n j)) 1 (d - 1)) d 1)) (d - 1) (fun t => ?_) (fun t k hk => ?_) FU 0 (Nat.zero_le _) (FU_lt (by omega))
    · rw [put_0, Nat.pow_zero, Nat.div_one] at key
      exact key
    · show X0_writePolynomial_5_b FU q (nI q) (nI d) t (put t5 (fun j => nI (dgt q n j)) 1 (d - 1)) (nI (n / q ^ (d - 1))) (nI (d - 1 + 1)) = _
      unfold X0_writePolynomial_5_b
      rw [if_pos (nI_le (by omega) (by omega)), ckI_ok (by omega) (by decide), nI_clamp (by omega)]
    · show X0_writePolynomial_5_b FU q (nI q) (nI d) t (put t5 (fun j => nI (dgt q n j)) 1 k) (nI (n / q ^ k)) (nI (k + 1)) = t (put t5 (fun j => nI (dgt q n j)) 1 (k + 1)) (nI (n / q ^ (k + 1))) (nI (k + 1 + 1))
      unfold X0_writePolynomial_5_b
      have hl : n / q ^ k < 2 ^ 31 := Nat.lt_of_le_of_lt (Nat.div_le_self _ _) hn
      have e2 : n / q ^ k / q = n / q ^ (k + 1) := by rw [Nat.div_div_eq_div_mul, Nat.pow_succ]
      rw [if_neg (nI_ge (by omega) (by omega)), ckZ_ok (by omega) (by omega), ckZ_ok (by omega) (by omega), ckI_ok (show k + 1 < 6 by omega) (by decide), pk_rem hl (by omega) (by omega), pk_div hl (by omega) (by omega), e2, nI_clamp (by omega), nI_1, ← put_s t5 _ 1 k, Nat.add_comm 1 k]
      rfl
  · unfold cfn
    by_cases e : k = d
    · rw [if_pos e, e, pk_us]
      rfl
    · rw [if_neg e, pk_un e]
      have := put_in (f := t5) (h := fun j => nI (dgt q n j)) (a := 1) (n := d - 1) (x := k - 1) (by omega)
      rw [show 1 + (k - 1) = k by omega] at this
      exact this
theorem and_pow (M v : Nat) : M &&& 2 ^ v = 0 ↔ M / 2 ^ v % 2 = 0 := by
  rw [bit2]
  constructor
  · intro h
    have h2 : (M &&& 2 ^ v).testBit v = false := by rw [h]; exact Nat.zero_testBit v
    rw [Nat.testBit_and, Nat.testBit_two_pow_self, Bool.and_true] at h2
    rw [h2]
    rfl
  · intro h
    have h1 : M.testBit v = false := by
      cases e : M.testBit v
      · rfl
      · rw [e] at h; exact absurd h (by decide)
    apply Nat.eq_of_testBit_eq
    intro j
    rw [Nat.testBit_and, Nat.testBit_two_pow, Nat.zero_testBit]
    by_cases e : v = j
    · rw [← e, h1]; rfl
    · rw [decide_eq_false e, Bool.and_false]
theorem x_polySh (hs : q ∈ sizes) {d n : Nat} (hd : d < 6) (ht : ∀ k, 1 ≤ k → k ≤ d → t5 k = nI (cfn q d n k)) : X0_polynomialShuffles FU q (nI q) (T0 q) (T1 q) t5 (nI d) = some (if shq q d n then 1 else 0) := by
  have hq := sz_2 q hs
  have hp : ∀ x, x < q → pv q d n x < q := fun x hx => pv_lt hs hx
  have hpoly : ∀ x, x < q → X0_polynomialAt FU q (nI q) (T0 q) (T1 q) t5 (nI d) (nI x) = some (nI (pv q d n x)) := fun x hx => x_polyAt hs hd (fun _ => cfn_lt hs) ht hx
  unfold X0_polynomialShuffles X0_polynomialShuffles_4
  have pre : ∀ (t : Int32 → Int32 → Option Int32) x, x < q → X0_polynomialShuffles_4_b FU q (nI q) (T0 q) (T1 q) t5 (nI d) t (nI (mk (pv q d n) x)) (nI x) = if mk (pv q d n) x / 2 ^ pv q d n x % 2 = 0 then t (nI (mk (pv q d n) (x + 1))) (nI (x + 1)) else some 0 := fun t x hx => by
    unfold X0_polynomialShuffles_4_b
    have hl := hp x hx
    have hm := mk_lt hp x (by omega)
    have h16 : mk (pv q d n) x < 65536 := Nat.lt_of_lt_of_le hm (Nat.pow_le_pow_right (n := 2) (j := 16) (by decide) hq.2)
    have ha : mk (pv q d n) x &&& 2 ^ pv q d n x ≤ mk (pv q d n) x := Nat.and_le_left
    rw [if_neg (nI_ge hx (by omega)), hpoly x hx, Option.bind_some, or_s (by omega), sh1 _ (by omega), fa_and, nI_1]
    by_cases e : mk (pv q d n) x / 2 ^ pv q d n x % 2 = 0
    · rw [if_pos e, (and_pow _ _).mpr e, if_pos nI_0]
      rfl
    · rw [if_neg e, if_neg (nI_ne0 (Nat.pos_of_ne_zero fun z => e ((and_pow _ _).mp z)) (by omega))]
  have key := itr_any (bot := fun (_ _ : Int32) => (none : Option Int32)) (F := X0_polynomialShuffles_4_b FU q (nI q) (T0 q) (T1 q) t5 (nI d)) (ap := fun t x => t (nI (mk (pv q d n) x)) (nI x)) (R1 := some 0) (RE := some 1) (fun x => ¬ mk (pv q d n) x / 2 ^ pv q d n x % 2 = 0) 0 q (fun t => ?_) (fun t x _ hx hP => by rw [pre t x hx, if_neg hP]) (fun t x _ hx hP => by rw [pre t x hx, if_pos (Decidable.not_not.mp hP)]) FU (by omega) (FU_lt (by omega))
  · by_cases e : rct (pv q d n) q = 0
    · have h := (rct_0 q).mp e
      have e2 : shq q d n = true := decide_eq_true e
      rw [e2]
      exact key.2 fun ⟨x, _, hx, hP⟩ => hP (h x hx)
    · have e2 : shq q d n = false := decide_eq_false e
      rw [e2]
      refine key.1 ?_
      by_cases hE : ∃ x, 0 ≤ x ∧ x < q ∧ ¬ mk (pv q d n) x / 2 ^ pv q d n x % 2 = 0
      · exact hE
      · exact absurd ((rct_0 q).mpr fun x hx => Decidable.not_not.mp fun z => hE ⟨x, Nat.zero_le _, hx, z⟩) e
  · unfold X0_polynomialShuffles_4_b
    rw [if_pos (Int32.le_refl _)]
theorem hsh (hs : q ∈ sizes) {d : Nat} (hd1 : 1 ≤ d) (hd : d < 6) (hall : q ^ (d - 1) ≤ 4096) : Hsh FU q (nI q) (T0 q) (T1 q) d (q ^ (d - 1)) (shq q d) := fun k hk t5 => by
  obtain ⟨t6, h1, h2⟩ := x_write (t5 := t5) hs hd1 hd (show k < 2 ^ 31 by omega)
  exact ⟨t6, h1, x_polySh hs hd h2⟩
theorem x_polys (hs : q ∈ sizes) {d : Nat} (hd1 : 1 ≤ d) (hd : d < 6) : X0_polynomials FU q (nI q) (nI d) = some (nI (q ^ (d - 1))) := by
  have hq := sz_2 q hs
  unfold X0_polynomials X0_polynomials_4
  refine itr_for (ap := fun (t : Int32 → Int32 → Option Int32) k => t (nI (q ^ k)) (nI (k + 1))) (d - 1) (fun t => ?_) (fun t k hk => ?_) FU 0 (Nat.zero_le _) (FU_lt (by omega))
  · unfold X0_polynomials_4_b
    rw [if_pos (nI_le (by omega) (by omega))]
  · unfold X0_polynomials_4_b
    rw [if_neg (nI_ge (by omega) (by omega)), pk_mul, nI_1]
    rfl
theorem a_all (hs : q ∈ sizes) {d : Nat} (hd1 : 1 ≤ d) (hd : d < 6) : X4_allOf FU (nI q) (nI d) = some (nI (ca q (d - 1))) := by
  have hq := sz_2 q hs
  unfold X4_allOf X4_allOf_4
  refine itr_for (ap := fun (t : Int32 → Int32 → Option Int32) k => t (nI (ca q k)) (nI (k + 1))) (d - 1) (fun t => ?_) (fun t k hk => ?_) FU 0 (Nat.zero_le _) (FU_lt (by omega))
  · unfold X4_allOf_4_b
    rw [if_pos (nI_le (by omega) (by omega))]
  · unfold X4_allOf_4_b X4_allOf_25
    have hk2 := (k_ca q hs k (by omega)).2.2.1
    have es : ca q (k + 1) = if ca q k ≤ 5000 then ca q k * q else ca q k := rfl
    rw [if_neg (nI_ge (by omega) (by omega)), nI_1, es]
    by_cases e : ca q k ≤ 5000
    · rw [if_pos (show nI (ca q k) ≤ (5000 : Int32) from nI_le (b := 5000) e (by decide)), if_pos e, pk_mul]
    · rw [if_neg (show ¬ nI (ca q k) ≤ (5000 : Int32) from nI_ge (a := 5000) (by omega) hk2), if_neg e, show (1 : Int32) = nI 1 from rfl, pk_mul, Nat.mul_one]
theorem ref_pv (hs : q ∈ sizes) {d n x : Nat} (hx : x < q) (hd1 : 1 ≤ d) : AD q (PW q x d) (sm q x (cfn q d n) (d - 1)) = pv q d n x := by
  have hS := sm_lt hs (c := cfn q d n) (fun _ => cfn_lt hs) hx (d - 1)
  have hP := PW_lt hs hx d
  unfold pv
  obtain ⟨m, rfl⟩ : ∃ m, d = m + 1 := ⟨d - 1, by omega⟩
  rw [show m + 1 - 1 = m from rfl] at hS ⊢
  show _ = AD q (sm q x (cfn q (m + 1) n) m) (MU q (cfn q (m + 1) n (m + 1)) (PW q x (m + 1)))
  have e1 : cfn q (m + 1) n (m + 1) = 1 := if_pos rfl
  rw [e1, (k_unit q hs _ hP).2.2.1, AD_comm hs hP hS]
theorem a_shAt (hs : q ∈ sizes) (hM : MS q su pr) {d n : Nat} (hd1 : 1 ≤ d) (hd : d < 6) (hn : n < 2 ^ 31) : X4_shufflesAt FU (nI q) su pr ro (nI d) (nI n) = some (if shq q d n then 1 else 0, put ro (fun x => nI (pv q d n x)) 0 q) := by
  have hq := sz_2 q hs
  have hp : ∀ x, x < q → pv q d n x < q := fun x hx => pv_lt hs hx
  have inner : ∀ (rc : (Nat → Int32) → Int32 → Int32 → Int32 → Option (Int32 × (Nat → Int32))) (W : Nat → Int32) (M r x : Nat), x < q → M < 65536 → X4_shufflesAt_32 FU rc (nI q) su pr W (nI d) (nI n) (nI M) (nI r) (nI x) FU (nI (PW q x d)) (nI n) 1 = rc (upd W x (nI (pv q d n x))) (nI (M ||| 2 ^ pv q d n x)) (nI (r + M / 2 ^ pv q d n x % 2)) (nI (x + 1)) := fun rc W M r x hx hM16 => by
    unfold X4_shufflesAt_32
    have hP := PW_lt hs hx d
    have hSl : ∀ k, sm q x (cfn q d n) k < q := fun k => sm_lt hs (fun _ => cfn_lt hs) hx k
    have key := itr_for (bot := fun (_ _ _ : Int32) => (none : Option (Int32 × (Nat → Int32)))) (F := X4_shufflesAt_32_b FU rc (nI q) su pr W (nI d) (nI n) (nI M) (nI r) (nI x)) (ap := fun t k => t (nI (AD q (PW q x d) (sm q x (cfn q d n) k))) (nI (n / q ^ k)) (nI (k + 1))) (R := rc (upd W x (nI (pv q d n x))) (nI (M ||| 2 ^ pv q d n x)) (nI (r + M / 2 ^ pv q d n x % 2)) (nI (x + 1))) (d - 1) (fun t => ?_) (fun t k hk => ?_) FU 0 (Nat.zero_le _) (FU_lt (by omega))
    · rw [Nat.pow_zero, Nat.div_one, show sm q x (cfn q d n) 0 = 0 from rfl, (k_unit q hs _ hP).2.1] at key
      exact key
    · show X4_shufflesAt_32_b FU rc (nI q) su pr W (nI d) (nI n) (nI M) (nI r) (nI x) t (nI (AD q (PW q x d) (sm q x (cfn q d n) (d - 1)))) (nI (n / q ^ (d - 1))) (nI (d - 1 + 1)) = _
      unfold X4_shufflesAt_32_b
      have hl := hp x hx
      rw [if_pos (nI_le (by omega) (by omega)), ckI_ok (show x < 16 by omega) (by decide), nI_clamp (by omega), ref_pv hs hx hd1, or_s (by omega), pk_shrN (by omega) _ (pv q d n x) (bitat _ (by omega)), pk_andN (Nat.lt_of_le_of_lt (Nat.div_le_self _ _) (by omega)) 1 (by decide), nI_add, nI_1]
    · show X4_shufflesAt_32_b FU rc (nI q) su pr W (nI d) (nI n) (nI M) (nI r) (nI x) t (nI (AD q (PW q x d) (sm q x (cfn q d n) k))) (nI (n / q ^ k)) (nI (k + 1)) = t (nI (AD q (PW q x d) (sm q x (cfn q d n) (k + 1)))) (nI (n / q ^ (k + 1))) (nI (k + 1 + 1))
      unfold X4_shufflesAt_32_b
      have hl : n / q ^ k < 2 ^ 31 := Nat.lt_of_le_of_lt (Nat.div_le_self _ _) hn
      have e2 : n / q ^ k / q = n / q ^ (k + 1) := by rw [Nat.div_div_eq_div_mul, Nat.pow_succ]
      have hg := dgt_lt hs (n := n) (j := k)
      have hP1 := PW_lt hs hx (k + 1)
      have e3 : cfn q d n (k + 1) = dgt q n k := if_neg (by omega)
      have es : sm q x (cfn q d n) (k + 1) = AD q (sm q x (cfn q d n) k) (MU q (cfn q d n (k + 1)) (PW q x (k + 1))) := rfl
      have e4 : nI (n / q ^ k) - nI (n / q ^ k) / nI q * nI q = nI (dgt q n k) := pk_rem hl (by omega) (by omega)
      rw [if_neg (nI_ge (by omega) (by omega)), ckZ_ok (by omega) (by omega), a_power hs hM hx (by omega), Option.bind_some, e4, a_by hs hM hg hP1, Option.bind_some, a_add hs hM (AD_lt hs hP (hSl k)) (MU_lt hs hg hP1), Option.bind_some, ckZ_ok (by omega) (by omega), pk_div hl (by omega) (by omega), e2, nI_1, es, e3, (k_ass q hs _ hP _ (hSl k) _ (MU_lt hs hg hP1)).1]
  unfold X4_shufflesAt X4_shufflesAt_8
  have key := itr_for (bot := fun (_ : Nat → Int32) (_ _ _ : Int32) => (none : Option (Int32 × (Nat → Int32)))) (F := X4_shufflesAt_8_b FU (nI q) su pr (nI d) (nI n)) (ap := fun t x => t (put ro (fun x => nI (pv q d n x)) 0 x) (nI (mk (pv q d n) x)) (nI (rct (pv q d n) x)) (nI x)) (R := some (if shq q d n then 1 else 0, put ro (fun x => nI (pv q d n x)) 0 q)) q (fun t => ?_) (fun t x hx => ?_) FU 0 (Nat.zero_le _) (FU_lt (by omega))
  · rw [put_0] at key
    exact key
  · show X4_shufflesAt_8_b FU (nI q) su pr (nI d) (nI n) t (put ro (fun x => nI (pv q d n x)) 0 q) (nI (mk (pv q d n) q)) (nI (rct (pv q d n) q)) (nI q) = _
    unfold X4_shufflesAt_8_b
    have hr := rct_le (g := pv q d n) q
    rw [if_pos (Int32.le_refl _)]
    by_cases e : rct (pv q d n) q = 0
    · have e2 : shq q d n = true := decide_eq_true e
      rw [e2, e, if_pos nI_0]
      rfl
    · have e2 : shq q d n = false := decide_eq_false e
      rw [e2, if_neg (nI_ne0 (by omega) (by omega))]
      rfl
  · show X4_shufflesAt_8_b FU (nI q) su pr (nI d) (nI n) t (put ro (fun x => nI (pv q d n x)) 0 x) (nI (mk (pv q d n) x)) (nI (rct (pv q d n) x)) (nI x) = t (put ro (fun x => nI (pv q d n x)) 0 (x + 1)) (nI (mk (pv q d n) (x + 1))) (nI (rct (pv q d n) (x + 1))) (nI (x + 1))
    unfold X4_shufflesAt_8_b
    have hm := mk_lt hp x (by omega)
    have h16 : mk (pv q d n) x < 65536 := Nat.lt_of_lt_of_le hm (Nat.pow_le_pow_right (n := 2) (j := 16) (by decide) hq.2)
    rw [if_neg (nI_ge hx (by omega)), a_power hs hM hx (by omega), Option.bind_some, inner t _ _ _ x hx h16, ← put_s0]
    rfl
theorem lsh_mono (sh : Nat → Bool) : ∀ a b, a ≤ b → (lsh sh a).length ≤ (lsh sh b).length := fun a b h => by
  induction b with
  | zero => rw [Nat.le_zero.mp h]; exact Nat.le_refl _
  | succ b ih =>
    by_cases e : a = b + 1
    · rw [e]; exact Nat.le_refl _
    · rw [lsh_s, List.length_append]
      have := ih (by omega)
      omega
theorem lsh_t {sh : Nat → Bool} {k : Nat} (h : sh k = true) : (lsh sh (k + 1)).length = (lsh sh k).length + 1 := by
  rw [lsh_s, if_pos h, List.length_append]
  rfl
theorem lsh_f {sh : Nat → Bool} {k : Nat} (h : sh k = false) : (lsh sh (k + 1)).length = (lsh sh k).length := by
  rw [lsh_s, if_neg (by rw [h]; decide), List.append_nil]
theorem lsh_get (sh : Nat → Bool) : ∀ all m, m < (lsh sh all).length → ∃ n, n < all ∧ sh n = true ∧ (lsh sh n).length = m ∧ (lsh sh all).getD m 0 = n := by
  intro all
  induction all with
  | zero => intro m h; exact absurd h (Nat.not_lt_zero _)
  | succ k ih =>
    intro m h
    by_cases c : m < (lsh sh k).length
    · obtain ⟨n, h1, h2, h3, h4⟩ := ih m c
      refine ⟨n, by omega, h2, h3, ?_⟩
      rw [lsh_s]
      simp only [List.getD_eq_getElem?_getD] at h4 ⊢
      rw [List.getElem?_append_left c]
      exact h4
    · cases e : sh k
      · rw [lsh_f e] at h
        exact absurd h c
      · rw [lsh_t e] at h
        have hm : m = (lsh sh k).length := by omega
        refine ⟨k, by omega, e, hm.symm, ?_⟩
        rw [lsh_s, if_pos e]
        simp only [List.getD_eq_getElem?_getD]
        rw [List.getElem?_append_right (by omega), hm, Nat.sub_self]
        rfl
theorem degc (v : Int32) : (v < 1 ∨ 5 < v) ∨ ∃ d, 1 ≤ d ∧ d < 6 ∧ v = nI d := by
  rcases ixc v (n := 6) (by omega) with (h | h) | ⟨d, hd, rfl⟩
  · exact Or.inl (Or.inl (Int32.lt_trans h (by decide)))
  · exact Or.inl (Or.inr (Int32.lt_of_lt_of_le (by decide) h))
  · by_cases z : d = 0
    · subst z; exact Or.inl (Or.inl (by decide))
    · exact Or.inr ⟨d, by omega, hd, rfl⟩
theorem deg_n {fu : Nat} {v : Int32} (h : v < 1 ∨ 5 < v) : X3_isListDegree fu v = some 0 ∧ X4_in fu v 1 5 = some 0 := by
  unfold X3_isListDegree X4_in
  by_cases c : v < 1
  · rw [if_pos c]; exact ⟨rfl, rfl⟩
  · rw [if_neg c, if_pos (h.resolve_left c)]; exact ⟨rfl, rfl⟩
theorem deg_y {fu d : Nat} (h1 : 1 ≤ d) (hd : d < 6) : X3_isListDegree fu (nI d) = some 1 ∧ X4_in fu (nI d) 1 5 = some 1 := by
  unfold X3_isListDegree X4_in
  rw [if_neg (show ¬ nI d < (1 : Int32) from nI_nlt (b := 1) h1 (by omega)), if_neg (show ¬ (5 : Int32) < nI d from nI_nlt (a := 5) (by omega) (by decide))]
  exact ⟨rfl, rfl⟩
theorem a_count (hs : q ∈ sizes) (hM : MS q su pr) {d all : Nat} (hd1 : 1 ≤ d) (hd : d < 6) (hall : all ≤ 4096) : ∃ ro2, True ∧ X4_many_37 FU th (nI q) su pr (nI d) (nI all) FU ro 0 0 = some (nI (lsh (shq q d) all).length, th, ro2) := by
  unfold X4_many_37
  refine itr_ex (ap := fun (t : (Nat → Int32) → Int32 → Int32 → Option (Int32 × Int32 × (Nat → Int32))) n (S : Nat → Int32) => t S (nI (lsh (shq q d) n).length) (nI n)) (RE := fun ro2 => some (nI (lsh (shq q d) all).length, th, ro2)) (fun _ _ => True) all (fun t S _ => ?_) (fun t n S hn _ => ?_) FU 0 ro (Nat.zero_le _) (FU_lt (by omega)) trivial
  · unfold X4_many_37_b
    rw [if_pos (Int32.le_refl _)]
  · refine ⟨put S (fun x => nI (pv q d n x)) 0 q, trivial, ?_⟩
    unfold X4_many_37_b X4_many_59
    rw [if_neg (nI_ge hn (by omega)), a_shAt hs hM hd1 hd (by omega), Option.bind_some]
    dsimp only
    cases e : shq q d n
    · rw [lsh_f e, if_pos (by decide), nI_1, show (0 : Int32) = nI 0 from rfl, nI_add]
      rfl
    · rw [lsh_t e, if_pos rfl, if_neg (by decide), nI_1, show (1 : Int32) = nI 1 from rfl, nI_add]
theorem R_many (hs : q ∈ sizes) (hM : MS q su pr) (v : Int32) : (X3_isListDegree FU v = some 0 ∧ X4_many FU th (nI q) su pr ro v = some (-1, 0, ro)) ∨ (∃ x, X3_isListDegree FU v = some 1 ∧ X0_polynomials FU q (nI q) v = some x ∧ ¬ x ≤ 5000 ∧ X4_many FU th (nI q) su pr ro v = some (-3, 0, ro)) ∨ ∃ d ro2, v = nI d ∧ 1 ≤ d ∧ d < 6 ∧ X3_isListDegree FU (nI d) = some 1 ∧ q ^ (d - 1) ≤ 4096 ∧ nI (q ^ (d - 1)) ≤ 5000 ∧ X0_polynomials FU q (nI q) (nI d) = some (nI (q ^ (d - 1))) ∧ X4_many FU th (nI q) su pr ro (nI d) = some (nI (lsh (shq q d) (q ^ (d - 1))).length, 0, ro2) := by
  rcases degc v with h | ⟨d, hd1, hd, rfl⟩
  · refine Or.inl ⟨(deg_n h).1, ?_⟩
    unfold X4_many
    rw [(deg_n h).2]
    rfl
  have hk := k_ca q hs (d - 1) (by omega)
  by_cases c : q ^ (d - 1) ≤ 5000
  · have h2 := hk.2.1 c
    obtain ⟨ro2, -, e⟩ := a_count (th := 0) (ro := ro) hs hM hd1 hd h2.2
    refine Or.inr (Or.inr ⟨d, ro2, rfl, hd1, hd, (deg_y hd1 hd).1, h2.2, nI_le (b := 5000) c (by decide), x_polys hs hd1 hd, ?_⟩)
    unfold X4_many
    rw [(deg_y hd1 hd).2, Option.bind_some, if_neg (by decide), a_all hs hd1 hd, Option.bind_some, h2.1, if_pos (show nI (q ^ (d - 1)) ≤ (5000 : Int32) from nI_le (b := 5000) c (by decide)), e]
  · refine Or.inr (Or.inl ⟨nI (q ^ (d - 1)), (deg_y hd1 hd).1, x_polys hs hd1 hd, nI_ge (a := 5000) (by omega) hk.2.2.2.1, ?_⟩)
    have c2 : ¬ ca q (d - 1) ≤ 5000 := fun z => c (hk.1.mp z)
    unfold X4_many
    rw [(deg_y hd1 hd).2, Option.bind_some, if_neg (by decide), a_all hs hd1 hd, Option.bind_some, if_neg (show ¬ nI (ca q (d - 1)) ≤ (5000 : Int32) from nI_ge (a := 5000) (by omega) hk.2.2.1)]
end
