theorem nI_ne1 {n : Nat} (h : n < 2 ^ 31) (hne : n ≠ 1) : ¬ nI n = (1 : Int32) := fun z => hne ((nI_eq h (by decide)).mp (show nI n = nI 1 from z))
theorem itr_from {τ : Type} {β : Type} {bot : τ} {F : τ → τ} {ap : τ → Nat → Option β} {R : Option β} (a n : Nat) (hex : ∀ t, ap (F t) n = R) (hst : ∀ t i, a ≤ i → i < n → ap (F t) i = ap t (i + 1)) : ∀ (fk i : Nat), a ≤ i → i ≤ n → n - i < fk → ap (itr bot F fk) i = R := by
  intro fk
  induction fk with
  | zero => intro i _ _ h; omega
  | succ fk ih =>
    intro i ha hi hf
    show ap (F (itr bot F fk)) i = R
    by_cases he : i = n
    · rw [he]; exact hex _
    · rw [hst _ i ha (by omega)]
      exact ih (i + 1) (by omega) (by omega) (by omega)
theorem firstly (P : Nat → Prop) (a : Nat) : ∀ n, (∀ i, a ≤ i → i < n → ¬ P i) ∨ ∃ j, a ≤ j ∧ j < n ∧ P j ∧ ∀ i, a ≤ i → i < j → ¬ P i := by
  intro n
  induction n with
  | zero => exact Or.inl fun i _ h => by omega
  | succ n ih =>
    rcases ih with h | ⟨j, h1, h2, h3, h4⟩
    · by_cases hp : a ≤ n ∧ P n
      · exact Or.inr ⟨n, hp.1, by omega, hp.2, h⟩
      · refine Or.inl fun i hi hn => ?_
        by_cases e : i = n
        · rw [e]; exact fun z => hp ⟨by omega, z⟩
        · exact h i hi (by omega)
    · exact Or.inr ⟨j, h1, by omega, h3, h4⟩
theorem itr_any {τ : Type} {β : Type} {bot : τ} {F : τ → τ} {ap : τ → Nat → Option β} {R1 RE : Option β} (P : Nat → Prop) (a n : Nat) (hex : ∀ t, ap (F t) n = RE) (h1 : ∀ t i, a ≤ i → i < n → P i → ap (F t) i = R1) (h2 : ∀ t i, a ≤ i → i < n → ¬ P i → ap (F t) i = ap t (i + 1)) (fk : Nat) (han : a ≤ n) (hf : n - a < fk) : ((∃ j, a ≤ j ∧ j < n ∧ P j) → ap (itr bot F fk) a = R1) ∧ ((¬ ∃ j, a ≤ j ∧ j < n ∧ P j) → ap (itr bot F fk) a = RE) := by
  have none : (∀ j, a ≤ j → j < n → ¬ P j) → ap (itr bot F fk) a = RE := fun h => itr_from a n hex (fun t i hi hn => h2 t i hi hn (h i hi hn)) fk a (Nat.le_refl _) han hf
  have one : ∀ k, a ≤ k → k < n → P k → (∀ i, a ≤ i → i < k → ¬ P i) → ap (itr bot F fk) a = R1 := fun k hk hn hp h => itr_from a k (fun t => h1 t k hk hn hp) (fun t i hi hl => h2 t i hi (by omega) (h i hi hl)) fk a (Nat.le_refl _) hk (by omega)
  constructor
  · rintro ⟨j, j1, j2, j3⟩
    rcases firstly P a n with h | ⟨k, k1, k2, k3, k4⟩
    · exact absurd j3 (h j j1 j2)
    · exact one k k1 k2 k3 k4
  · intro h
    exact none fun j j1 j2 j3 => h ⟨j, j1, j2, j3⟩
theorem put_put (f g h : Nat → Int32) (a n : Nat) : put (put f g a n) h a n = put f h a n := funext fun k => by
  unfold put
  by_cases e : a ≤ k ∧ k < a + n
  · rw [if_pos e, if_pos e]
  · rw [if_neg e, if_neg e, if_neg e]
theorem put_same {f h : Nat → Int32} {a n : Nat} (e : ∀ k, k < n → f (a + k) = h k) : put f h a n = f := funext fun k => by
  unfold put
  by_cases c : a ≤ k ∧ k < a + n
  · rw [if_pos c, ← e (k - a) (by omega), show a + (k - a) = k by omega]
  · rw [if_neg c]
theorem fill_ok {ar : Nat → Int32} {v : Int32} : J7_fill_53178 FU 16 ar v = some (put ar (fun _ => v) 0 16) := by
  unfold J7_fill_53178 J7_fill_53178_5
  have key := itr_for (bot := fun (_ : Nat → Int32) (_ : Int32) => (none : Option (Nat → Int32))) (F := J7_fill_53178_5_b FU 16 v (Int32.ofNat 16)) (ap := fun t n => t (put ar (fun _ => v) 0 n) (nI n)) (R := some (put ar (fun _ => v) 0 16)) 16 (fun t => ?_) (fun t n hn => ?_) FU 0 (Nat.zero_le _) (FU_lt (by omega))
  · rw [put_0] at key
    exact key
  · show J7_fill_53178_5_b FU 16 v (nI 16) t (put ar (fun _ => v) 0 16) (nI 16) = _
    unfold J7_fill_53178_5_b
    rw [if_pos (Int32.le_refl _)]
  · show J7_fill_53178_5_b FU 16 v (nI 16) t (put ar (fun _ => v) 0 n) (nI n) = t (put ar (fun _ => v) 0 (n + 1)) (nI (n + 1))
    unfold J7_fill_53178_5_b
    rw [if_neg (nI_ge hn (by omega)), ckI_ok hn (by decide), nI_clamp (by omega), nI_1, ← put_s0]
/-- the sum of the powers -/
def psum (q : Nat) (g : Nat → Nat) (t : Nat) : Nat → Nat
  | 0 => 0
  | n + 1 => AD q (psum q g t n) (PW q (g n) t)
theorem k_ng0 : ∀ q ∈ sizes, ∀ a, a < q → (NG q a = 0 ↔ a = 0) := by decide +kernel
section
variable {q : Nat} {su pr ms ro : Nat → Int32} {RR : Nat → Nat → Int32} {f : Nat → Nat → Nat} {th : Int32} {tr ak : Int64} {g : Nat → Nat}
theorem psum_lt (hs : q ∈ sizes) (hg : ∀ x, x < q → g x < q) (e : Nat) : ∀ n, n ≤ q → psum q g e n < q
  | 0, _ => by have := (sz_2 q hs).1; show 0 < q; omega
  | n + 1, hn => AD_lt hs (psum_lt hs hg e n (by omega)) (PW_lt hs (hg n (by omega)) e)
theorem psum_c (hs : q ∈ sizes) (hg : ∀ x, x < q → g x < q) (e : Nat) : ∀ n, n ≤ q → csum q (fun x => PW q (g x) e) 0 n = psum q g e n
  | 0, _ => rfl
  | n + 1, hn => by
    show AD q (csum q (fun x => PW q (g x) e) 0 n) (MU q (PW q (g n) e) 1) = AD q (psum q g e n) (PW q (g n) e)
    rw [psum_c hs hg e n (by omega), (k_unit q hs _ (PW_lt hs (hg n (by omega)) e)).2.2.2.1]
theorem cof_top (hs : q ∈ sizes) (hg : ∀ x, x < q → g x < q) (e : Nat) : cof q (fun x => PW q (g x) e) (q - 1) = NG q (psum q g e q) := by
  have hq := sz_2 q hs
  unfold cof
  rw [if_neg (by omega), Nat.sub_self, psum_c hs hg e q (Nat.le_refl q)]
theorem x_taken (hs : q ∈ sizes) {j v : Nat} (hv : v < q) (hg : ∀ x, x < q → g x < q ∧ RR j x = nI (g x)) : X3_timesTaken FU q (nI q) RR j (nI v) = some (nI (eqs g (fun _ => v) q)) := by
  have hq := sz_2 q hs
  unfold X3_timesTaken X3_timesTaken_5
  refine itr_for (ap := fun (t : Int32 → Int32 → Option Int32) n => t (nI (eqs g (fun _ => v) n)) (nI n)) q (fun t => ?_) (fun t n hn => ?_) FU 0 (Nat.zero_le _) (FU_lt (by omega))
  · unfold X3_timesTaken_5_b
    rw [if_pos (Int32.le_refl _)]
  · unfold X3_timesTaken_5_b X3_timesTaken_28
    have hl := (hg n hn).1
    rw [if_neg (nI_ge hn (by omega)), ckI_ok (show n < 16 by omega) (by decide), nI_clamp (show n < 2 ^ 31 by omega), (hg n hn).2, eqs_s]
    by_cases e : g n = v
    · rw [if_pos (by rw [e]), if_pos e]
      show t (nI (eqs g (fun _ => v) n) + nI 1) (nI n + 1) = _
      rw [nI_add, nI_1]
    · rw [if_neg (fun z => e ((nI_eq (by omega) (by omega)).mp z)), if_neg e]
      show t (nI (eqs g (fun _ => v) n) + nI 0) (nI n + 1) = _
      rw [nI_add, nI_1]
/-- the end of fails -/
def fend (q : Nat) (g : Nat → Nat) : Int32 := if eqs g (fun _ => 0) q = 1 then 0 else nI (q - 1)
theorem a_fend (hs : q ∈ sizes) {i : Nat} (hi : i < 4) (hg : ∀ x, x < q → g x < q ∧ ms (16 * i + x) = nI (g x)) : X4_fails_85 FU th (nI q) su pr ms (nI i) FU 0 0 = some (fend q g, th) := by
  have hq := sz_2 q hs
  unfold X4_fails_85
  refine itr_for (ap := fun (t : Int32 → Int32 → Option (Int32 × Int32)) n => t (nI (eqs g (fun _ => 0) n)) (nI n)) q (fun t => ?_) (fun t n hn => ?_) FU 0 (Nat.zero_le _) (FU_lt (by omega))
  · unfold X4_fails_85_b fend
    have hl := eqs_le g (fun _ => 0) q
    rw [if_pos (Int32.le_refl _)]
    by_cases e : eqs g (fun _ => 0) q = 1
    · rw [if_pos (by rw [e]; rfl), if_pos e]
    · rw [if_neg (nI_ne1 (by omega) e), if_neg e, nI_m1 (by omega)]
  · unfold X4_fails_85_b X4_fails_113
    have hl := (hg n hn).1
    rw [if_neg (nI_ge hn (by omega)), idx16, ckI_ok (by omega) (by decide), nI_clamp (by omega), (hg n hn).2, eqs_s]
    by_cases e : g n = 0
    · rw [if_pos (by rw [e]; rfl), if_pos e]
      show t (nI (eqs g (fun _ => 0) n) + nI 1) (nI n + 1) = _
      rw [nI_add, nI_1]
    · rw [if_neg (nI_ne0 (by omega) (by omega)), if_neg e]
      show t (nI (eqs g (fun _ => 0) n) + nI 0) (nI n + 1) = _
      rw [nI_add, nI_1]
theorem a_fails_in (hs : q ∈ sizes) (hM : MS q su pr) {i k : Nat} (hi : i < 4) (hk : k < 100) (hg : ∀ x, x < q → g x < q ∧ ms (16 * i + x) = nI (g x)) (rc : Int32 → Option (Int32 × Int32)) : X4_fails_31 FU rc th (nI q) su pr ms (nI i) (nI k) FU 0 0 = if psum q g k q = 0 then rc (nI (k + 1)) else some (nI k, th) := by
  have hq := sz_2 q hs
  have hgl : ∀ x, x < q → g x < q := fun x hx => (hg x hx).1
  unfold X4_fails_31
  refine itr_for (ap := fun (t : Int32 → Int32 → Option (Int32 × Int32)) n => t (nI (psum q g k n)) (nI n)) q (fun t => ?_) (fun t n hn => ?_) FU 0 (Nat.zero_le _) (FU_lt (by omega))
  · unfold X4_fails_31_b
    have hl := psum_lt hs hgl k q (Nat.le_refl q)
    rw [if_pos (Int32.le_refl _), nI_1]
    by_cases e : psum q g k q = 0
    · rw [if_pos (by rw [e]; rfl), if_pos e]
    · rw [if_neg (nI_ne0 (by omega) (by omega)), if_neg e]
  · unfold X4_fails_31_b
    rw [if_neg (nI_ge hn (by omega)), idx16, ckI_ok (by omega) (by decide), nI_clamp (by omega), (hg n hn).2, a_power hs hM (hgl n hn) (by omega), Option.bind_some, a_add hs hM (psum_lt hs hgl k n (by omega)) (PW_lt hs (hgl n hn) k), Option.bind_some, nI_1]
    rfl
/-- the spare row behind t steps of fails -/
def frow (q : Nat) (g : Nat → Nat) (B : Nat → Int32) (t : Nat) : Nat → Int32 := put B (fun x => nI (PW q (g x) t)) 0 q
theorem x_fails_in (hs : q ∈ sizes) {j k : Nat} {B : Nat → Int32} (hj : j ≠ 4) (hk : k < 100) (hg : ∀ x, x < q → g x < q ∧ RR j x = nI (g x)) (rc : (Nat → Nat → Int32) → Int32 → Option (Int32 × (Nat → Nat → Int32))) : X3_fails_39 FU q rc (nI q) (nI q) (T0 q) (T1 q) (T2 q) (T3 q) j (nI (k + 1)) FU (va_up RR 4 (frow q g B k)) 0 = if psum q g (k + 1) q = 0 then rc (va_up RR 4 (frow q g B (k + 1))) (nI (k + 1 + 1)) else some (nI (k + 1), va_up RR 4 (frow q g B (k + 1))) := by
  have hq := sz_2 q hs
  have hgl : ∀ x, x < q → g x < q := fun x hx => (hg x hx).1
  unfold X3_fails_39
  have key := itr_for (bot := fun (_ : Nat → Nat → Int32) (_ : Int32) => (none : Option (Int32 × (Nat → Nat → Int32)))) (F := X3_fails_39_b FU q rc (nI q) (nI q) (T0 q) (T1 q) (T2 q) (T3 q) j (nI (k + 1))) (ap := fun t n => t (va_up RR 4 (put (frow q g B k) (fun x => nI (PW q (g x) (k + 1))) 0 n)) (nI n)) (R := if psum q g (k + 1) q = 0 then rc (va_up RR 4 (frow q g B (k + 1))) (nI (k + 1 + 1)) else some (nI (k + 1), va_up RR 4 (frow q g B (k + 1)))) q (fun t => ?_) (fun t n hn => ?_) FU 0 (Nat.zero_le _) (FU_lt (by omega))
  · rw [put_0] at key
    exact key
  · show X3_fails_39_b FU q rc (nI q) (nI q) (T0 q) (T1 q) (T2 q) (T3 q) j (nI (k + 1)) t (va_up RR 4 (put (frow q g B k) (fun x => nI (PW q (g x) (k + 1))) 0 q)) (nI q) = _
    unfold X3_fails_39_b
    have hl := psum_lt hs hgl (k + 1) q (Nat.le_refl q)
    have hgs : ∀ x, x < q → PW q (g x) (k + 1) < q ∧ va_up RR 4 (frow q g B (k + 1)) 4 x = nI (PW q (g x) (k + 1)) := fun x hx => ⟨PW_lt hs (hgl x hx) _, by rw [vu_s]; exact put_in0 hx⟩
    rw [if_pos (Int32.le_refl _), show put (frow q g B k) (fun x => nI (PW q (g x) (k + 1))) 0 q = frow q g B (k + 1) from put_put _ _ _ _ _, nI_m1 (by omega), x_coef hs (g := fun x => PW q (g x) (k + 1)) hgs (by omega), Option.bind_some, cof_top hs hgl, nI_1]
    by_cases e : psum q g (k + 1) q = 0
    · rw [if_pos (by rw [(k_ng0 q hs _ hl).mpr e]; rfl), if_pos e]
    · have h2 := NG_lt hs hl
      have h3 : NG q (psum q g (k + 1) q) ≠ 0 := fun z => e ((k_ng0 q hs _ hl).mp z)
      rw [if_neg (nI_ne0 (by omega) (by omega)), if_neg e]
  · show X3_fails_39_b FU q rc (nI q) (nI q) (T0 q) (T1 q) (T2 q) (T3 q) j (nI (k + 1)) t (va_up RR 4 (put (frow q g B k) (fun x => nI (PW q (g x) (k + 1))) 0 n)) (nI n) = t (va_up RR 4 (put (frow q g B k) (fun x => nI (PW q (g x) (k + 1))) 0 (n + 1))) (nI (n + 1))
    unfold X3_fails_39_b
    have h1 : put (frow q g B k) (fun x => nI (PW q (g x) (k + 1))) 0 n n = nI (PW q (g n) k) := by
      rw [put_out (Or.inr (by omega))]
      exact put_in0 hn
    rw [if_neg (nI_ge hn (by omega)), ckI_ok (show n < 16 by omega) (by decide), ckI_ok (show n < 16 by omega) (by decide), nI_clamp (show n < 2 ^ 31 by omega), vu_s, vu_n hj, h1, (hg n hn).2, x_product hs (PW_lt hs (hgl n hn) k) (hgl n hn), Option.bind_some, ckI_ok (show n < 16 by omega) (by decide), bx_uu, nI_1, ← put_s0]
    rfl
theorem R_fails (hs : q ∈ sizes) (hM : MS q su pr) (hR : Rel q f RR ms) (v1 : Int32) : ∃ r RR2, X3_fails FU q (nI q) RR (nI q) (T0 q) (T1 q) (T2 q) (T3 q) v1 = some (r, RR2) ∧ X4_fails FU th (nI q) su pr ms v1 = some (r, 0) ∧ Rel q f RR2 ms := by
  have hq := sz_2 q hs
  rcases ixc v1 (n := 4) (by omega) with h | ⟨i, hi, rfl⟩
  · exact ⟨-1, RR, by unfold X3_fails; rw [x_mapN h]; rfl, by unfold X4_fails; rw [a_mapN h]; rfl, hR⟩
  obtain ⟨B, eB⟩ : ∃ B, B = put (RR 4) (fun _ => (1 : Int32)) 0 16 := ⟨_, rfl⟩
  have e0 : frow q (f i) B 0 = B := put_same fun k hk => by rw [eB, Nat.zero_add, put_in0 (by omega)]; rfl
  have hRel : ∀ t, Rel q f (va_up RR 4 (frow q (f i) B t)) ms := fun t j hj x hx => by rw [vu_n (by omega)]; exact hR j hj x hx
  have hX : X3_fails FU q (nI q) RR (nI q) (T0 q) (T1 q) (T2 q) (T3 q) (nI i) = X3_fails_26 FU q (nI q) (nI q) (T0 q) (T1 q) (T2 q) (T3 q) i FU (va_up RR 4 (frow q (f i) B 0)) 1 := by
    unfold X3_fails
    rw [x_map hi, Option.bind_some, if_neg (by decide), ckI_ok hi (by decide), nI_clamp (by omega), fill_ok, Option.bind_some, e0, eB]
  have hA : X4_fails FU th (nI q) su pr ms (nI i) = X4_fails_16 FU 0 (nI q) su pr ms (nI i) FU 1 := by
    unfold X4_fails
    rw [a_map hi, Option.bind_some, if_neg (by decide)]
  have e2 : nI q - 2 = nI (q - 2) := pk_sub (b := 2) (by omega)
  have sX : ∀ (t : (Nat → Nat → Int32) → Int32 → Option (Int32 × (Nat → Nat → Int32))) k, k < q - 2 → X3_fails_26_b FU q (nI q) (nI q) (T0 q) (T1 q) (T2 q) (T3 q) i t (va_up RR 4 (frow q (f i) B k)) (nI (k + 1)) = if psum q (f i) (k + 1) q = 0 then t (va_up RR 4 (frow q (f i) B (k + 1))) (nI (k + 1 + 1)) else some (nI (k + 1), va_up RR 4 (frow q (f i) B (k + 1))) := fun t k hk => by
    unfold X3_fails_26_b
    rw [e2, if_neg (nI_nlt (by omega) (by omega))]
    exact x_fails_in hs (by omega) (by omega) (hR.x hi) t
  have sA : ∀ (t : Int32 → Option (Int32 × Int32)) k, k < q - 2 → X4_fails_16_b FU 0 (nI q) su pr ms (nI i) t (nI (k + 1)) = if psum q (f i) (k + 1) q = 0 then t (nI (k + 1 + 1)) else some (nI (k + 1), 0) := fun t k hk => by
    unfold X4_fails_16_b
    rw [nI_m1 (by omega), if_neg (nI_ge (by omega) (by omega))]
    exact a_fails_in hs hM hi (by omega) (hR.a hi) t
  rw [hA, hX]
  unfold X3_fails_26 X4_fails_16
  rcases firstly (fun k => psum q (f i) (k + 1) q ≠ 0) 0 (q - 2) with h | ⟨n, -, hn, hp, h⟩
  · refine ⟨fend q (f i), va_up RR 4 (frow q (f i) B (q - 2)), ?_, ?_, hRel _⟩
    · refine itr_for (ap := fun (t : (Nat → Nat → Int32) → Int32 → Option (Int32 × (Nat → Nat → Int32))) k => t (va_up RR 4 (frow q (f i) B k)) (nI (k + 1))) (q - 2) (fun t => ?_) (fun t k hk => ?_) FU 0 (Nat.zero_le _) (FU_lt (by omega))
      · unfold X3_fails_26_b fend
        have hl := eqs_le (f i) (fun _ => 0) q
        rw [e2, if_pos (nI_lt (by omega) (by omega)), show (0 : Int32) = nI 0 from rfl, x_taken (g := f i) hs (by omega) (fun x hx => by rw [vu_n (by omega)]; exact hR.x hi x hx), Option.bind_some]
        by_cases e : eqs (f i) (fun _ => 0) q = 1
        · rw [if_pos (by rw [e]; rfl), if_pos e]
        · rw [if_neg (nI_ne1 (by omega) e), if_neg e, nI_m1 (by omega)]
      · rw [sX t k hk, if_pos (Decidable.not_not.mp (h k (Nat.zero_le _) hk))]
    · refine itr_for (ap := fun (t : Int32 → Option (Int32 × Int32)) k => t (nI (k + 1))) (q - 2) (fun t => ?_) (fun t k hk => ?_) FU 0 (Nat.zero_le _) (FU_lt (by omega))
      · unfold X4_fails_16_b
        rw [nI_m1 (by omega), if_pos (nI_le (by omega) (by omega))]
        exact a_fend hs hi (hR.a hi)
      · rw [sA t k hk, if_pos (Decidable.not_not.mp (h k (Nat.zero_le _) hk))]
  · refine ⟨nI (n + 1), va_up RR 4 (frow q (f i) B (n + 1)), ?_, ?_, hRel _⟩
    · refine itr_for (ap := fun (t : (Nat → Nat → Int32) → Int32 → Option (Int32 × (Nat → Nat → Int32))) k => t (va_up RR 4 (frow q (f i) B k)) (nI (k + 1))) n (fun t => ?_) (fun t k hk => ?_) FU 0 (Nat.zero_le _) (FU_lt (by omega))
      · rw [sX t n hn, if_neg hp]
      · rw [sX t k (by omega), if_pos (Decidable.not_not.mp (h k (Nat.zero_le _) hk))]
    · refine itr_for (ap := fun (t : Int32 → Option (Int32 × Int32)) k => t (nI (k + 1))) n (fun t => ?_) (fun t k hk => ?_) FU 0 (Nat.zero_le _) (FU_lt (by omega))
      · rw [sA t n hn, if_neg hp]
      · rw [sA t k (by omega), if_pos (Decidable.not_not.mp (h k (Nat.zero_le _) hk))]
end
