/-- how many x below n have f(x + a) = f(x) + v -/
def dfc (q : Nat) (g : Nat → Nat) (a v : Nat) : Nat → Nat
  | 0 => 0
  | n + 1 => dfc q g a v n + (if g (AD q n a) = AD q (g n) v then 1 else 0)
theorem dfc_s (q : Nat) (g : Nat → Nat) (a v n : Nat) : dfc q g a v (n + 1) = dfc q g a v n + (if g (AD q n a) = AD q (g n) v then 1 else 0) := rfl
theorem dfc_le (q : Nat) (g : Nat → Nat) (a v : Nat) : ∀ n, dfc q g a v n ≤ n
  | 0 => Nat.le_refl _
  | n + 1 => by
    have := dfc_le q g a v n
    rw [dfc_s]
    split <;> omega
/-- greatest of m and h below n -/
def mx (m : Nat) (h : Nat → Nat) : Nat → Nat
  | 0 => m
  | n + 1 => max (mx m h n) (h n)
theorem mx_le {m B : Nat} {h : Nat → Nat} (hm : m ≤ B) : ∀ n, (∀ i, i < n → h i ≤ B) → mx m h n ≤ B
  | 0, _ => hm
  | n + 1, hh => Nat.max_le.mpr ⟨mx_le hm n (fun i hi => hh i (by omega)), hh n (by omega)⟩
theorem le_mx0 {m : Nat} {h : Nat → Nat} : ∀ n, m ≤ mx m h n
  | 0 => Nat.le_refl _
  | n + 1 => Nat.le_trans (le_mx0 n) (Nat.le_max_left _ _)
theorem le_mx {m : Nat} {h : Nat → Nat} : ∀ n i, i < n → h i ≤ mx m h n
  | 0, i, hi => by omega
  | n + 1, i, hi => by
    by_cases e : i = n
    · rw [e]; exact Nat.le_max_right _ _
    · exact Nat.le_trans (le_mx n i (by omega)) (Nat.le_max_left _ _)
def mo (h : Nat → Nat → Nat) (q : Nat) : Nat → Nat
  | 0 => 0
  | k + 1 => mx (mo h q k) (h k) q
theorem mo_le {B q : Nat} {h : Nat → Nat → Nat} : ∀ K, (∀ k, k < K → ∀ a, a < q → h k a ≤ B) → mo h q K ≤ B
  | 0, _ => Nat.zero_le _
  | K + 1, hh => mx_le (mo_le K (fun k hk => hh k (by omega))) q (hh K (by omega))
theorem le_mo {q : Nat} {h : Nat → Nat → Nat} : ∀ K k a, k < K → a < q → h k a ≤ mo h q K
  | 0, k, a, hk, _ => by omega
  | K + 1, k, a, hk, ha => by
    by_cases e : k = K
    · rw [e]; exact le_mx q a ha
    · exact Nat.le_trans (le_mo K k a (by omega) ha) (le_mx0 q)
theorem nI_max {a b : Nat} (ha : a < 2 ^ 31) (hb : b < 2 ^ 31) : (if nI a < nI b then nI b else nI a) = nI (max a b) := by
  by_cases h : a < b
  · rw [if_pos (nI_lt h hb), Nat.max_eq_right (by omega)]
  · rw [if_neg (nI_nlt (by omega) (by omega)), Nat.max_eq_left (by omega)]
theorem nI_max2 {β : Type} {a b : Nat} (t : Int32 → β) (ha : a < 2 ^ 31) (hb : b < 2 ^ 31) : (if nI b ≤ nI a then t (nI a) else t (nI b)) = t (nI (max a b)) := by
  by_cases h : a < b
  · rw [if_neg (nI_ge h hb), Nat.max_eq_right (by omega)]
  · rw [if_pos (nI_le (by omega) (by omega)), Nat.max_eq_left (by omega)]
section
variable {q : Nat} {su pr ms ro : Nat → Int32} {RR : Nat → Nat → Int32} {f : Nat → Nat → Nat} {th : Int32} {tr ak : Int64} {g : Nat → Nat}
theorem x_dAt (hs : q ∈ sizes) {j a x : Nat} (hg : ∀ x, x < q → g x < q ∧ RR j x = nI (g x)) (ha : a < q) (hx : x < q) : X3_differenceAt FU q RR (nI q) (T0 q) (T3 q) j (nI a) (nI x) = some (nI (AD q (g (AD q x a)) (NG q (g x)))) := by
  have hq := sz_2 q hs
  have h1 := AD_lt hs hx ha
  unfold X3_differenceAt
  rw [x_sum hs hx ha, Option.bind_some, ckI_ok (show AD q x a < 16 by omega) (by decide), ckI_ok (show x < 16 by omega) (by decide), nI_clamp (by omega), nI_clamp (by omega), (hg _ h1).2, (hg x hx).2, x_less hs (hg _ h1).1 (hg x hx).1]
  rfl
theorem a_diff (hs : q ∈ sizes) (hM : MS q su pr) {i a v : Nat} (hi : i < 4) (hg : ∀ x, x < q → g x < q ∧ ms (16 * i + x) = nI (g x)) (ha : a < q) (hv : v < q) : X4_differenceOf FU (nI q) su ms (nI i) (nI a) (nI v) = some (nI (dfc q g a v q)) := by
  have hq := sz_2 q hs
  unfold X4_differenceOf X4_differenceOf_6
  refine itr_for (ap := fun (t : Int32 → Int32 → Option Int32) n => t (nI (dfc q g a v n)) (nI n)) q (fun t => ?_) (fun t n hn => ?_) FU 0 (Nat.zero_le _) (FU_lt (by omega))
  · unfold X4_differenceOf_6_b
    rw [if_pos (Int32.le_refl _)]
  · unfold X4_differenceOf_6_b X4_differenceOf_59
    have h1 := AD_lt hs hn ha
    have h2 := AD_lt hs (hg n hn).1 hv
    have h3 := (hg _ h1).1
    rw [if_neg (nI_ge hn (by omega)), a_add hs hM hn ha, Option.bind_some, idx16, idx16, ckI_ok (by omega) (by decide), ckI_ok (by omega) (by decide), nI_clamp (show 16 * i + n < 2 ^ 31 by omega), nI_clamp (show 16 * i + AD q n a < 2 ^ 31 by omega), (hg n hn).2, (hg _ h1).2, a_add hs hM (hg n hn).1 hv, Option.bind_some, dfc_s]
    by_cases e : g (AD q n a) = AD q (g n) v
    · rw [if_pos (by rw [e]), if_pos e, show (1 : Int32) = nI 1 from rfl, nI_add, nI_add]
    · rw [if_neg (fun z => e ((nI_eq (by omega) (by omega)).mp z)), if_neg e, nI_1, show (0 : Int32) = nI 0 from rfl, nI_add]
theorem R_difference (hs : q ∈ sizes) (hM : MS q su pr) (hR : Rel q f RR ms) (v1 v2 v3 : Int32) : ∃ r, X3_difference FU q (nI q) RR (nI q) (T0 q) (T3 q) v1 v2 v3 = some r ∧ X4_difference FU th (nI q) su ms v1 v2 v3 = some (r, 0) := by
  have hq := sz_2 q hs
  rcases ixc v1 (n := 4) (by omega) with h | ⟨i, hi, rfl⟩
  · exact ⟨-1, by unfold X3_difference; rw [x_mapN h]; rfl, by unfold X4_difference; rw [a_mapN h]; rfl⟩
  have bad : (v2 < 0 ∨ nI q ≤ v2) ∨ v2 = 0 → X4_in FU v2 1 (nI q - 1) = some 0 := fun h => by
    unfold X4_in
    rw [nI_m1 (by omega)]
    rcases h with (h | h) | h
    · rw [if_pos (Int32.lt_trans h (by decide))]
    · rw [if_pos (Int32.lt_of_lt_of_le (nI_lt (show q - 1 < q by omega) (by omega)) h)]
      split <;> rfl
    · rw [h, if_pos (by decide)]
  rcases ixc v2 (n := q) (by omega) with h | ⟨a, ha, rfl⟩
  · exact ⟨-1, by unfold X3_difference; rw [x_map hi, x_numN h]; rfl, by unfold X4_difference; rw [a_map hi, bad (Or.inl h)]; rfl⟩
  by_cases h0 : a = 0
  · subst h0
    exact ⟨-1, by unfold X3_difference; rw [x_map hi, x_num hs ha]; rfl, by unfold X4_difference; rw [a_map hi, bad (Or.inr rfl)]; rfl⟩
  have good : X4_in FU (nI a) 1 (nI q - 1) = some 1 := by
    unfold X4_in
    rw [nI_m1 (by omega), if_neg (show ¬ nI a < (1 : Int32) from nI_nlt (b := 1) (by omega) (by omega)), if_neg (nI_nlt (by omega) (by omega))]
  have hne : ¬ nI a = 0 := nI_ne0 (by omega) (by omega)
  rcases ixc v3 (n := q) (by omega) with h | ⟨v, hv, rfl⟩
  · exact ⟨-1, by unfold X3_difference; rw [x_map hi, x_num hs ha, x_numN h, Option.bind_some, if_neg (by decide), Option.bind_some, if_neg (by decide), if_neg hne]; rfl, by unfold X4_difference; rw [a_map hi, good, a_numN hs h]; rfl⟩
  refine ⟨nI (dfc q (f i) a v q), ?_, ?_⟩
  · unfold X3_difference
    rw [x_map hi, x_num hs ha, x_num hs hv, Option.bind_some, if_neg (by decide), Option.bind_some, if_neg (by decide), if_neg hne, Option.bind_some, if_neg (by decide)]
    unfold X3_difference_35
    refine itr_for (ap := fun (t : Int32 → Int32 → Option Int32) n => t (nI (dfc q (f i) a v n)) (nI n)) q (fun t => ?_) (fun t n hn => ?_) FU 0 (Nat.zero_le _) (FU_lt (by omega))
    · unfold X3_difference_35_b
      rw [if_pos (Int32.le_refl _)]
    · unfold X3_difference_35_b X3_difference_68
      have h1 := (hR i hi _ (AD_lt hs hn ha)).1
      have h2 := (hR i hi n hn).1
      have h3 := AD_lt hs h1 (NG_lt hs h2)
      have hk := k_sub q hs _ h1 _ h2 v hv
      rw [if_neg (nI_ge hn (by omega)), ckI_ok hi (by decide), nI_clamp (by omega), x_dAt hs (hR.x hi) ha hn, Option.bind_some, dfc_s]
      by_cases e : f i (AD q n a) = AD q (f i n) v
      · rw [if_pos (by rw [hk.mpr e]), if_pos e]
        show t (nI (dfc q (f i) a v n) + nI 1) (nI n + 1) = _
        rw [nI_add, nI_1]
      · rw [if_neg (fun z => e (hk.mp ((nI_eq (by omega) (by omega)).mp z))), if_neg e]
        show t (nI (dfc q (f i) a v n) + nI 0) (nI n + 1) = _
        rw [nI_add, nI_1]
  · unfold X4_difference
    rw [a_map hi, good, a_num hs hv, a_diff hs hM hi (hR.a hi) ha hv]
    rfl
/-- the greatest of all spreads -/
def spr (q : Nat) (g : Nat → Nat) (k : Nat) : Nat := mo (fun a v => dfc q g (a + 1) v q) q k
theorem spr_le {k : Nat} : spr q g k ≤ q := mo_le k fun _ _ _ _ => dfc_le _ _ _ _ _
theorem a_spread (hs : q ∈ sizes) (hM : MS q su pr) {i : Nat} (hi : i < 4) (hg : ∀ x, x < q → g x < q ∧ ms (16 * i + x) = nI (g x)) : X4_spreadOf FU (nI q) su ms (nI i) = some (nI (spr q g (q - 1))) := by
  have hq := sz_2 q hs
  unfold X4_spreadOf X4_spreadOf_4
  refine itr_for (ap := fun (t : Int32 → Int32 → Option Int32) k => t (nI (spr q g k)) (nI (k + 1))) (q - 1) (fun t => ?_) (fun t k hk => ?_) FU 0 (Nat.zero_le _) (FU_lt (by omega))
  · unfold X4_spreadOf_4_b
    rw [if_pos (nI_le (by omega) (by omega))]
  · unfold X4_spreadOf_4_b X4_spreadOf_15
    rw [if_neg (nI_ge (show k + 1 < q by omega) (by omega))]
    have hsp := spr_le (q := q) (g := g) (k := k)
    refine itr_for (ap := fun (t : Int32 → Int32 → Option Int32) n => t (nI (mx (spr q g k) (fun v => dfc q g (k + 1) v q) n)) (nI n)) q (fun t2 => ?_) (fun t2 n hn => ?_) FU 0 (Nat.zero_le _) (FU_lt (by omega))
    · unfold X4_spreadOf_15_b
      rw [if_pos (Int32.le_refl _), nI_1]
      rfl
    · unfold X4_spreadOf_15_b X4_spreadOf_46
      have hb := dfc_le q g (k + 1) n q
      have hm := mx_le (h := fun v => dfc q g (k + 1) v q) hsp n (fun v _ => dfc_le _ _ _ _ _)
      rw [if_neg (nI_ge hn (by omega)), a_diff hs hM hi hg (show k + 1 < q by omega) hn, Option.bind_some, nI_1, nI_max2 (fun z => t2 z (nI (n + 1))) (by omega) (by omega)]
      rfl
/-- the tallies -/
def tly (q : Nat) (g : Nat → Nat) (W : Nat → Int32) (a n : Nat) : Nat → Int32 := put (put W (fun _ => 0) 0 16) (fun v => nI (dfc q g a v n)) 0 q
theorem tly_0 (hs : q ∈ sizes) {W : Nat → Int32} {a : Nat} : tly q g W a 0 = put W (fun _ => 0) 0 16 := put_same fun k hk => by
  have := sz_2 q hs
  rw [Nat.zero_add, put_in0 (by omega)]
  rfl
theorem tly_s {W : Nat → Int32} {a n v0 : Nat} (hv : v0 < q) (h : ∀ v, v < q → (g (AD q n a) = AD q (g n) v ↔ v0 = v)) : upd (tly q g W a n) v0 (tly q g W a n v0 + 1) = tly q g W a (n + 1) := funext fun k => by
  by_cases e : k = v0
  · subst e
    unfold tly
    rw [pk_us, put_in0 hv, put_in0 hv, dfc_s, if_pos ((h k hv).mpr rfl), nI_1]
  · rw [pk_un e]
    unfold tly
    by_cases c : k < q
    · rw [put_in0 c, put_in0 c, dfc_s, if_neg (fun z => e ((h k c).mp z).symm), Nat.add_zero]
    · exact (put_out (Or.inr (by omega))).trans (put_out (Or.inr (by omega))).symm
theorem mx_tly {m a n v0 : Nat} (hv : v0 < q) (h : ∀ v, v < q → (g (AD q n a) = AD q (g n) v ↔ v0 = v)) : max (mx m (fun v => dfc q g a v n) q) (dfc q g a v0 (n + 1)) = mx m (fun v => dfc q g a v (n + 1)) q := by
  apply Nat.le_antisymm
  · refine Nat.max_le.mpr ⟨mx_le (le_mx0 q) q (fun v hv2 => Nat.le_trans ?_ (le_mx q v hv2)), le_mx (h := fun v => dfc q g a v (n + 1)) q v0 hv⟩
    show dfc q g a v n ≤ dfc q g a v (n + 1)
    rw [dfc_s]
    omega
  · refine mx_le (Nat.le_trans (le_mx0 q) (Nat.le_max_left _ _)) q (fun v hv2 => ?_)
    by_cases e : v0 = v
    · rw [← e]; exact Nat.le_max_right _ _
    · refine Nat.le_trans ?_ (Nat.le_max_left _ _)
      show dfc q g a v (n + 1) ≤ _
      rw [dfc_s, if_neg (fun z => e ((h v hv2).mp z)), Nat.add_zero]
      exact le_mx (h := fun v => dfc q g a v n) q v hv2
theorem mx_0 {m n : Nat} : mx m (fun _ => 0) n = m := Nat.le_antisymm (mx_le (Nat.le_refl _) n (fun _ _ => Nat.zero_le _)) (le_mx0 n)
theorem x_spread_in (hs : q ∈ sizes) {j a m : Nat} {W : Nat → Int32} (hj : j ≠ 5) (hg : ∀ x, x < q → g x < q ∧ RR j x = nI (g x)) (ha : a < q) (hm : m ≤ q) (rc : (Nat → Nat → Int32) → Int32 → Int32 → Option (Int32 × (Nat → Nat → Int32))) : X3_greatestSpread_23 FU q rc (nI q) (nI q) (T0 q) (T3 q) j (nI a) FU (va_up RR 5 (tly q g W a 0)) (nI m) 0 = rc (va_up RR 5 (tly q g W a q)) (nI (mx m (fun v => dfc q g a v q) q)) (nI (a + 1)) := by
  have hq := sz_2 q hs
  unfold X3_greatestSpread_23
  have key := itr_for (bot := fun (_ : Nat → Nat → Int32) (_ _ : Int32) => (none : Option (Int32 × (Nat → Nat → Int32)))) (F := X3_greatestSpread_23_b FU q rc (nI q) (nI q) (T0 q) (T3 q) j (nI a)) (ap := fun t n => t (va_up RR 5 (tly q g W a n)) (nI (mx m (fun v => dfc q g a v n) q)) (nI n)) (R := rc (va_up RR 5 (tly q g W a q)) (nI (mx m (fun v => dfc q g a v q) q)) (nI (a + 1))) q (fun t => ?_) (fun t n hn => ?_) FU 0 (Nat.zero_le _) (FU_lt (by omega))
  · have e0 : mx m (fun v => dfc q g a v 0) q = m := mx_0
    rw [e0] at key
    exact key
  · show X3_greatestSpread_23_b FU q rc (nI q) (nI q) (T0 q) (T3 q) j (nI a) t (va_up RR 5 (tly q g W a q)) (nI (mx m (fun v => dfc q g a v q) q)) (nI q) = _
    unfold X3_greatestSpread_23_b
    rw [if_pos (Int32.le_refl _), nI_1]
  · show X3_greatestSpread_23_b FU q rc (nI q) (nI q) (T0 q) (T3 q) j (nI a) t (va_up RR 5 (tly q g W a n)) (nI (mx m (fun v => dfc q g a v n) q)) (nI n) = t (va_up RR 5 (tly q g W a (n + 1))) (nI (mx m (fun v => dfc q g a v (n + 1)) q)) (nI (n + 1))
    unfold X3_greatestSpread_23_b
    have h1 := (hg _ (AD_lt hs hn ha)).1
    have h2 := (hg n hn).1
    obtain ⟨v0, ev⟩ : ∃ v0, v0 = AD q (g (AD q n a)) (NG q (g n)) := ⟨_, rfl⟩
    have hv : v0 < q := by rw [ev]; exact AD_lt hs h1 (NG_lt hs h2)
    have hiff : ∀ v, v < q → (g (AD q n a) = AD q (g n) v ↔ v0 = v) := fun v hv => by rw [ev]; exact (k_sub q hs _ h1 _ h2 v hv).symm
    have hd := dfc_le q g a v0 (n + 1)
    have hmx := mx_le (h := fun v => dfc q g a v n) (B := 16) (show m ≤ 16 by omega) q (fun v _ => Nat.le_trans (dfc_le _ _ _ _ _) (by omega))
    have hval : tly q g W a (n + 1) v0 = nI (dfc q g a v0 (n + 1)) := put_in0 hv
    rw [if_neg (nI_ge hn (by omega)), x_dAt (RR := va_up RR 5 (tly q g W a n)) (g := g) hs (fun x hx => by rw [vu_n hj]; exact hg x hx) ha hn, ← ev, Option.bind_some, ckI_ok (show v0 < 16 by omega) (by decide), ckI_ok (show v0 < 16 by omega) (by decide), ckI_ok (show v0 < 16 by omega) (by decide), nI_clamp (show v0 < 2 ^ 31 by omega)]
    simp only [vu_s, bx_uu]
    rw [tly_s hv hiff, hval, nI_max (by omega) (by omega), mx_tly hv hiff, nI_1]
/-- the tally row behind k of a -/
def srow (q : Nat) (g : Nat → Nat) (W : Nat → Int32) : Nat → Nat → Int32
  | 0 => W
  | k + 1 => tly q g (srow q g W k) (k + 1) q
theorem x_spread (hs : q ∈ sizes) {j : Nat} (hj : j ≠ 5) (hg : ∀ x, x < q → g x < q ∧ RR j x = nI (g x)) : X3_greatestSpread FU q (nI q) RR (nI q) (T0 q) (T3 q) j = some (nI (spr q g (q - 1)), va_up RR 5 (srow q g (RR 5) (q - 1))) := by
  have hq := sz_2 q hs
  unfold X3_greatestSpread X3_greatestSpread_4
  have key := itr_for (bot := fun (_ : Nat → Nat → Int32) (_ _ : Int32) => (none : Option (Int32 × (Nat → Nat → Int32)))) (F := X3_greatestSpread_4_b FU q (nI q) (nI q) (T0 q) (T3 q) j) (ap := fun t k => t (va_up RR 5 (srow q g (RR 5) k)) (nI (spr q g k)) (nI (k + 1))) (R := some (nI (spr q g (q - 1)), va_up RR 5 (srow q g (RR 5) (q - 1)))) (q - 1) (fun t => ?_) (fun t k hk => ?_) FU 0 (Nat.zero_le _) (FU_lt (by omega))
  · rw [show va_up RR 5 (srow q g (RR 5) 0) = RR from vu_id RR 5] at key
    exact key
  · show X3_greatestSpread_4_b FU q (nI q) (nI q) (T0 q) (T3 q) j t (va_up RR 5 (srow q g (RR 5) (q - 1))) (nI (spr q g (q - 1))) (nI (q - 1 + 1)) = _
    unfold X3_greatestSpread_4_b
    rw [if_pos (nI_le (by omega) (by omega))]
  · show X3_greatestSpread_4_b FU q (nI q) (nI q) (T0 q) (T3 q) j t (va_up RR 5 (srow q g (RR 5) k)) (nI (spr q g k)) (nI (k + 1)) = t (va_up RR 5 (srow q g (RR 5) (k + 1))) (nI (spr q g (k + 1))) (nI (k + 1 + 1))
    unfold X3_greatestSpread_4_b
    rw [if_neg (nI_ge (show k + 1 < q by omega) (by omega)), fill_ok, Option.bind_some, vu_s, bx_uu, ← tly_0 (g := g) (a := k + 1) hs, x_spread_in hs hj hg (show k + 1 < q by omega) spr_le t]
    rfl
theorem Rel_5 (hR : Rel q f RR ms) (W : Nat → Int32) : Rel q f (va_up RR 5 W) ms := fun j hj x hx => by rw [vu_n (by omega)]; exact hR j hj x hx
theorem R_spread (hs : q ∈ sizes) (hM : MS q su pr) (hR : Rel q f RR ms) (v1 : Int32) : ∃ r RR2, X3_spread FU q (nI q) RR (nI q) (T0 q) (T3 q) v1 = some (r, RR2) ∧ X4_spread FU th (nI q) su ms v1 = some (r, 0) ∧ Rel q f RR2 ms := by
  have hq := sz_2 q hs
  rcases ixc v1 (n := 4) (by omega) with h | ⟨i, hi, rfl⟩
  · exact ⟨-1, RR, by unfold X3_spread; rw [x_mapN h]; rfl, by unfold X4_spread; rw [a_mapN h]; rfl, hR⟩
  refine ⟨nI (spr q (f i) (q - 1)), va_up RR 5 (srow q (f i) (RR 5) (q - 1)), ?_, ?_, Rel_5 hR _⟩
  · unfold X3_spread
    rw [x_map hi, ckI_ok hi (by decide), nI_clamp (by omega), x_spread hs (by omega) (hR.x hi)]
    rfl
  · unfold X4_spread
    rw [a_map hi, a_spread hs hM hi (hR.a hi)]
    rfl
theorem R_planar (hs : q ∈ sizes) (hM : MS q su pr) (hR : Rel q f RR ms) (v1 : Int32) : ∃ r RR2, X3_planar FU q (nI q) RR (nI q) (T0 q) (T3 q) v1 = some (r, RR2) ∧ X4_planar FU th (nI q) su ms v1 = some (r, 0) ∧ Rel q f RR2 ms := by
  have hq := sz_2 q hs
  rcases ixc v1 (n := 4) (by omega) with h | ⟨i, hi, rfl⟩
  · exact ⟨-1, RR, by unfold X3_planar; rw [x_mapN h]; rfl, by unfold X4_planar; rw [a_mapN h]; rfl, hR⟩
  refine ⟨if nI (spr q (f i) (q - 1)) = 1 then 1 else 0, va_up RR 5 (srow q (f i) (RR 5) (q - 1)), ?_, ?_, Rel_5 hR _⟩
  · unfold X3_planar X3_planar_28
    rw [x_map hi, Option.bind_some, if_neg (by decide), ckI_ok hi (by decide), nI_clamp (by omega), x_spread hs (by omega) (hR.x hi), Option.bind_some]
    dsimp only
    by_cases e : nI (spr q (f i) (q - 1)) = 1
    · rw [if_pos e, if_pos e]; rfl
    · rw [if_neg e, if_neg e]; rfl
  · unfold X4_planar
    rw [a_map hi, Option.bind_some, if_neg (by decide), a_spread hs hM hi (hR.a hi), Option.bind_some]
    by_cases e : nI (spr q (f i) (q - 1)) = 1
    · rw [if_pos e, if_pos e]
    · rw [if_neg e, if_neg e]
end
