theorem itr_ex {τ σ β : Type} {bot : τ} {F : τ → τ} {ap : τ → Nat → σ → Option β} {RE : σ → Option β} (Inv : Nat → σ → Prop) (n : Nat) (hex : ∀ t s, Inv n s → ap (F t) n s = RE s) (hst : ∀ t i s, i < n → Inv i s → ∃ s2, Inv (i + 1) s2 ∧ ap (F t) i s = ap t (i + 1) s2) : ∀ (fk i : Nat) (s : σ), i ≤ n → n - i < fk → Inv i s → ∃ s2, Inv n s2 ∧ ap (itr bot F fk) i s = RE s2 := by
  intro fk
  induction fk with
  | zero => intro i s _ h; omega
  | succ fk ih =>
    intro i s hi hf hI
    by_cases he : i = n
    · subst he
      exact ⟨s, hI, hex _ s hI⟩
    · obtain ⟨s2, h2, e⟩ := hst (itr bot F fk) i s (by omega) hI
      obtain ⟨s3, h3, e3⟩ := ih (i + 1) s2 (by omega) (by omega) h2
      exact ⟨s3, h3, Eq.trans e e3⟩
/-- is row r less than row B, from i on, k places? -/
def lx (r B : Nat → Nat) : Nat → Nat → Bool
  | 0, _ => false
  | k + 1, i => if r i < B i then true else if B i < r i then false else lx r B k (i + 1)
theorem lx_eq {r B : Nat → Nat} : ∀ k i, (∀ x, i ≤ x → x < i + k → r x = B x) → lx r B k i = false
  | 0, _, _ => rfl
  | k + 1, i, h => by
    have e := h i (Nat.le_refl _) (by omega)
    show (if r i < B i then true else if B i < r i then false else lx r B k (i + 1)) = false
    rw [if_neg (by omega), if_neg (by omega)]
    exact lx_eq k (i + 1) fun x h1 h2 => h x (by omega) (by omega)
theorem lx_ne {r B : Nat → Nat} {j : Nat} : ∀ k i, i ≤ j → j < i + k → (∀ x, i ≤ x → x < j → r x = B x) → (r j < B j → lx r B k i = true) ∧ (B j < r j → lx r B k i = false)
  | 0, i, h1, h2, _ => by omega
  | k + 1, i, h1, h2, h => by
    have hd : lx r B (k + 1) i = if r i < B i then true else if B i < r i then false else lx r B k (i + 1) := rfl
    rw [hd]
    by_cases e : i = j
    · subst e
      exact ⟨fun z => if_pos z, fun z => by rw [if_neg (by omega), if_pos z]⟩
    · have e2 := h i (Nat.le_refl _) (by omega)
      rw [if_neg (by omega), if_neg (by omega)]
      exact lx_ne k (i + 1) (by omega) (by omega) fun x h1 h2 => h x (by omega) h2
/-- the lesser of two rows -/
def kp (q : Nat) (r B : Nat → Nat) : Nat → Nat := if lx r B q 0 = true then r else B
theorem kp_cases (q : Nat) (r B : Nat → Nat) : ((∀ x, x < q → r x = B x) ∧ kp q r B = B) ∨ ∃ j, j < q ∧ (∀ x, x < j → r x = B x) ∧ ((r j < B j ∧ kp q r B = r) ∨ (B j < r j ∧ kp q r B = B)) := by
  unfold kp
  rcases firstly (fun x => r x ≠ B x) 0 q with h | ⟨j, -, hj, hp, hl⟩
  · have h2 : ∀ x, x < q → r x = B x := fun x hx => Decidable.not_not.mp (h x (Nat.zero_le _) hx)
    rw [lx_eq q 0 fun x _ hx => h2 x (by omega)]
    exact Or.inl ⟨h2, if_neg (by decide)⟩
  · have h2 : ∀ x, x < j → r x = B x := fun x hx => Decidable.not_not.mp (hl x (Nat.zero_le _) hx)
    have h3 := lx_ne (r := r) (B := B) (j := j) q 0 (Nat.zero_le _) (by omega) fun x _ hx => h2 x hx
    refine Or.inr ⟨j, hj, h2, ?_⟩
    rcases Nat.lt_or_gt_of_ne hp with z | z
    · exact Or.inl ⟨z, by rw [h3.1 z, if_pos rfl]⟩
    · exact Or.inr ⟨z, by rw [h3.2 z, if_neg (by decide)]⟩
theorem kp_le {q : Nat} {r B : Nat → Nat} (hr : ∀ x, x < q → r x < q) (hB : ∀ x, x < q → B x ≤ q) : ∀ x, x < q → kp q r B x ≤ q := fun x hx => by
  unfold kp
  split
  · exact Nat.le_of_lt (hr x hx)
  · exact hB x hx
theorem kp_lt {q : Nat} {r B : Nat → Nat} (hq : 0 < q) (hr : ∀ x, x < q → r x < q) (hB : (∀ x, x < q → B x < q) ∨ ∀ x, x < q → B x = q) : ∀ x, x < q → kp q r B x < q := fun x hx => by
  rcases kp_cases q r B with ⟨h1, h2⟩ | ⟨j, hj, h1, ⟨h2, h3⟩ | ⟨h2, h3⟩⟩
  · rw [h2, ← h1 x hx]; exact hr x hx
  · rw [h3]; exact hr x hx
  · rw [h3]
    rcases hB with h | h
    · exact h x hx
    · have := h j hj
      have := hr j hj
      omega
theorem k_dif : ∀ a, a < 17 → ∀ b, b < 17 → (a < b → nI a - nI b < 0) ∧ (b < a → 0 ≤ nI a - nI b) ∧ (a ≠ b → nI a - nI b ≠ 0) ∧ nI a - nI a = 0 := by decide +kernel
/-- a f(b x + c), so that it begins with 0 -/
def lrow (q : Nat) (g : Nat → Nat) (a b c x : Nat) : Nat := AD q (dra q g a b c x) (NG q (MU q a (g c)))
def L0 (q : Nat) (g : Nat → Nat) (a b : Nat) (B : Nat → Nat) : Nat → Nat → Nat
  | 0 => B
  | c + 1 => kp q (lrow q g a b c) (L0 q g a b B c)
def L1 (q : Nat) (g : Nat → Nat) (a : Nat) (B : Nat → Nat) : Nat → Nat → Nat
  | 0 => B
  | k + 1 => L0 q g a (k + 1) (L1 q g a B k) q
def L2 (q : Nat) (g : Nat → Nat) (B : Nat → Nat) : Nat → Nat → Nat
  | 0 => B
  | k + 1 => L1 q g (k + 1) (L2 q g B k) (q - 1)
section
variable {q : Nat} {su pr ms ro be : Nat → Int32} {RR : Nat → Nat → Int32} {f : Nat → Nat → Nat} {th : Int32} {tr ak : Int64} {g : Nat → Nat}
theorem lrow_lt (hs : q ∈ sizes) (hg : ∀ x, x < q → g x < q) {a b c : Nat} (ha : a < q) (hb : b < q) (hc : c < q) : ∀ x, x < q → lrow q g a b c x < q := fun x hx => AD_lt hs (dra_lt hs hg ha hb hc hx) (NG_lt hs (MU_lt hs ha (hg c hc)))
/-- all below q, or all q -/
def GQ (q : Nat) (B : Nat → Nat) : Prop := (∀ x, x < q → B x < q) ∨ ∀ x, x < q → B x = q
theorem GQ.le {B : Nat → Nat} (h : GQ q B) : ∀ x, x < q → B x ≤ q := fun x hx => h.elim (fun z => Nat.le_of_lt (z x hx)) (fun z => Nat.le_of_eq (z x hx))
theorem L0_ok (hs : q ∈ sizes) (hg : ∀ x, x < q → g x < q) {a b : Nat} {B : Nat → Nat} (ha : a < q) (hb : b < q) (hB : GQ q B) : ∀ c, c ≤ q → GQ q (L0 q g a b B c) ∧ (0 < c → ∀ x, x < q → L0 q g a b B c x < q)
  | 0, _ => ⟨hB, fun h => by omega⟩
  | c + 1, hc => by
    have h := kp_lt (by omega) (lrow_lt hs hg ha hb (show c < q by omega)) (L0_ok hs hg ha hb hB c (by omega)).1
    exact ⟨Or.inl h, fun _ => h⟩
theorem L1_ok (hs : q ∈ sizes) (hg : ∀ x, x < q → g x < q) {a : Nat} {B : Nat → Nat} (ha : a < q) (hB : GQ q B) : ∀ k, k ≤ q - 1 → GQ q (L1 q g a B k) ∧ (0 < k → ∀ x, x < q → L1 q g a B k x < q)
  | 0, _ => ⟨hB, fun h => by omega⟩
  | k + 1, hk => by
    have hq := sz_2 q hs
    have h := L0_ok hs hg ha (show k + 1 < q by omega) (L1_ok hs hg ha hB k (by omega)).1 q (Nat.le_refl q)
    exact ⟨h.1, fun _ => h.2 (by omega)⟩
theorem L2_ok (hs : q ∈ sizes) (hg : ∀ x, x < q → g x < q) {B : Nat → Nat} (hB : GQ q B) : ∀ k, k ≤ q - 1 → GQ q (L2 q g B k) ∧ (0 < k → ∀ x, x < q → L2 q g B k x < q)
  | 0, _ => ⟨hB, fun h => by omega⟩
  | k + 1, hk => by
    have hq := sz_2 q hs
    have h := L1_ok hs hg (show k + 1 < q by omega) (L2_ok hs hg hB k (by omega)).1 (q - 1) (Nat.le_refl _)
    exact ⟨h.1, fun _ => h.2 (by omega)⟩
theorem x_keep (hs : q ∈ sizes) {i a b c : Nat} {S : Nat → Int32} {B : Nat → Nat} (hi : i ≠ 4) (hg : ∀ x, x < q → g x < q ∧ RR i x = nI (g x)) (ha : a < q) (hb : b < q) (hc : c < q) (hB : ∀ x, x < q → B x ≤ q) (hS : ∀ x, x < q → S x = nI (B x)) : ∃ S2, X3_keepIfLess FU q (nI q) (va_up RR 4 S) (nI q) (T0 q) (T1 q) (T3 q) i (nI a) (nI b) (nI c) = some (va_up RR 4 S2) ∧ ∀ x, x < q → S2 x = nI (kp q (lrow q g a b c) B x) := by
  have hq := sz_2 q hs
  have hgl : ∀ x, x < q → g x < q := fun x hx => (hg x hx).1
  have hr := lrow_lt hs hgl ha hb hc
  have hmu := MU_lt hs ha (hgl c hc)
  have hn := NG_lt hs hmu
  have hgs : ∀ (W : Nat → Int32) x, x < q → g x < q ∧ va_up RR 4 W i x = nI (g x) := fun W x hx => by rw [vu_n hi]; exact hg x hx
  have start : X3_keepIfLess FU q (nI q) (va_up RR 4 S) (nI q) (T0 q) (T1 q) (T3 q) i (nI a) (nI b) (nI c) = X3_keepIfLess_26 FU q (nI q) (nI q) (T0 q) (T1 q) (T3 q) i (nI a) (nI b) (nI c) (nI (NG q (MU q a (g c)))) FU (va_up RR 4 S) 0 0 := by
    unfold X3_keepIfLess
    have e1 := x_dr (x := 0) hs (hgs S) ha hb hc (by omega)
    have e2 := x_less (fu := FU) (a := 0) hs (by omega) hmu
    rw [(k_unit q hs _ hn).1] at e2
    rw [dra_0 hs hb hc] at e1
    rw [show X3_dressedAt FU q (va_up RR 4 S) (nI q) (T0 q) (T1 q) i (nI a) (nI b) (nI c) 0 = some (nI (MU q a (g c))) from e1, Option.bind_some, show X0_less FU q (nI q) (T0 q) (T3 q) 0 (nI (MU q a (g c))) = some (nI (NG q (MU q a (g c)))) from e2, Option.bind_some]
  have pre : ∀ (t : (Nat → Nat → Int32) → Int32 → Int32 → Option (Nat → Nat → Int32)) (W : Nat → Int32) x, x < q → X3_keepIfLess_26_b FU q (nI q) (nI q) (T0 q) (T1 q) (T3 q) i (nI a) (nI b) (nI c) (nI (NG q (MU q a (g c)))) t (va_up RR 4 W) 0 (nI x) = if nI (lrow q g a b c x) ≤ W x then (if W x ≤ nI (lrow q g a b c x) then t (va_up RR 4 (upd W x (nI (lrow q g a b c x)))) 0 (nI (x + 1)) else t (va_up RR 4 (upd W x (nI (lrow q g a b c x)))) 1 (nI (x + 1))) else some (va_up RR 4 W) := fun t W x hx => by
    unfold X3_keepIfLess_26_b X3_keepIfLess_75 X3_keepIfLess_92 X3_keepIfLess_97
    have h1 := dra_lt hs hgl ha hb hc hx
    rw [if_neg (nI_ge hx (by omega)), x_dr hs (hgs W) ha hb hc hx, Option.bind_some, x_sum hs h1 hn, Option.bind_some, if_pos rfl, ckI_ok (show x < 16 by omega) (by decide), ckI_ok (show x < 16 by omega) (by decide), ckI_ok (show x < 16 by omega) (by decide), ckI_ok (show x < 16 by omega) (by decide), nI_clamp (by omega), if_pos rfl, vu_s, bx_uu, nI_1]
    rfl
  have pre1 : ∀ (t : (Nat → Nat → Int32) → Int32 → Int32 → Option (Nat → Nat → Int32)) (W : Nat → Int32) x, x < q → X3_keepIfLess_26_b FU q (nI q) (nI q) (T0 q) (T1 q) (T3 q) i (nI a) (nI b) (nI c) (nI (NG q (MU q a (g c)))) t (va_up RR 4 W) 1 (nI x) = t (va_up RR 4 (upd W x (nI (lrow q g a b c x)))) 1 (nI (x + 1)) := fun t W x hx => by
    unfold X3_keepIfLess_26_b X3_keepIfLess_75 X3_keepIfLess_92 X3_keepIfLess_97
    have h1 := dra_lt hs hgl ha hb hc hx
    rw [if_neg (nI_ge hx (by omega)), x_dr hs (hgs W) ha hb hc hx, Option.bind_some, x_sum hs h1 hn, Option.bind_some, if_neg (by decide), if_neg (by decide), ckI_ok (show x < 16 by omega) (by decide), nI_clamp (by omega), vu_s, bx_uu, nI_1]
    rfl
  have lastX : ∀ (t : (Nat → Nat → Int32) → Int32 → Int32 → Option (Nat → Nat → Int32)) (W : Nat → Int32) (v : Int32), X3_keepIfLess_26_b FU q (nI q) (nI q) (T0 q) (T1 q) (T3 q) i (nI a) (nI b) (nI c) (nI (NG q (MU q a (g c)))) t (va_up RR 4 W) v (nI q) = some (va_up RR 4 W) := fun t W v => by
    unfold X3_keepIfLess_26_b
    rw [if_pos (Int32.le_refl _)]
  obtain ⟨r, er⟩ : ∃ r, r = lrow q g a b c := ⟨_, rfl⟩
  have row : ∀ n x, x < q → n ≤ x → put S (fun x => nI (r x)) 0 n x = nI (B x) := fun n x hx hn => by rw [put_out (Or.inr (by omega)), hS x hx]
  rw [start]
  unfold X3_keepIfLess_26
  rw [← er] at pre pre1 hr ⊢
  rcases kp_cases q r B with ⟨h1, h2⟩ | ⟨j, hj, h1, ⟨h2, h3⟩ | ⟨h2, h3⟩⟩
  · refine ⟨put S (fun x => nI (r x)) 0 q, ?_, fun x hx => by rw [put_in0 hx, h2, h1 x hx]⟩
    have key := itr_for (bot := fun (_ : Nat → Nat → Int32) (_ _ : Int32) => (none : Option (Nat → Nat → Int32))) (F := X3_keepIfLess_26_b FU q (nI q) (nI q) (T0 q) (T1 q) (T3 q) i (nI a) (nI b) (nI c) (nI (NG q (MU q a (g c))))) (ap := fun t n => t (va_up RR 4 (put S (fun x => nI (r x)) 0 n)) 0 (nI n)) (R := some (va_up RR 4 (put S (fun x => nI (r x)) 0 q))) q (fun t => lastX t _ _) (fun t n hn => ?_) FU 0 (Nat.zero_le _) (FU_lt (by omega))
    · rw [put_0] at key
      exact key
    · show X3_keepIfLess_26_b FU q (nI q) (nI q) (T0 q) (T1 q) (T3 q) i (nI a) (nI b) (nI c) (nI (NG q (MU q a (g c)))) t (va_up RR 4 (put S (fun x => nI (r x)) 0 n)) 0 (nI n) = t (va_up RR 4 (put S (fun x => nI (r x)) 0 (n + 1))) 0 (nI (n + 1))
      rw [pre t _ n hn, row n n hn (Nat.le_refl _), ← h1 n hn, if_pos (Int32.le_refl _), if_pos (Int32.le_refl _), ← put_s0]
  · refine ⟨put S (fun x => nI (r x)) 0 q, ?_, fun x hx => by rw [put_in0 hx, h3]⟩
    have key := itr_for (bot := fun (_ : Nat → Nat → Int32) (_ _ : Int32) => (none : Option (Nat → Nat → Int32))) (F := X3_keepIfLess_26_b FU q (nI q) (nI q) (T0 q) (T1 q) (T3 q) i (nI a) (nI b) (nI c) (nI (NG q (MU q a (g c))))) (ap := fun t n => t (va_up RR 4 (put S (fun x => nI (r x)) 0 n)) (if n ≤ j then 0 else 1) (nI n)) (R := some (va_up RR 4 (put S (fun x => nI (r x)) 0 q))) q (fun t => lastX t _ _) (fun t n hn => ?_) FU 0 (Nat.zero_le _) (FU_lt (by omega))
    · rw [put_0, if_pos (Nat.zero_le _)] at key
      exact key
    · show X3_keepIfLess_26_b FU q (nI q) (nI q) (T0 q) (T1 q) (T3 q) i (nI a) (nI b) (nI c) (nI (NG q (MU q a (g c)))) t (va_up RR 4 (put S (fun x => nI (r x)) 0 n)) (if n ≤ j then 0 else 1) (nI n) = t (va_up RR 4 (put S (fun x => nI (r x)) 0 (n + 1))) (if n + 1 ≤ j then 0 else 1) (nI (n + 1))
      have hrn := hr n hn
      have hBn := hB n hn
      by_cases c1 : n ≤ j
      · rw [if_pos c1, pre t _ n hn, row n n hn (Nat.le_refl _), ← put_s0]
        by_cases c2 : n = j
        · subst c2
          rw [if_pos (nI_le (by omega) (by omega)), if_neg (nI_ge h2 (by omega)), if_neg (by omega)]
        · rw [← h1 n (by omega), if_pos (Int32.le_refl _), if_pos (Int32.le_refl _), if_pos (by omega)]
      · rw [if_neg c1, pre1 t _ n hn, if_neg (by omega), ← put_s0]
  · refine ⟨put S (fun x => nI (r x)) 0 j, ?_, fun x hx => ?_⟩
    · have key := itr_for (bot := fun (_ : Nat → Nat → Int32) (_ _ : Int32) => (none : Option (Nat → Nat → Int32))) (F := X3_keepIfLess_26_b FU q (nI q) (nI q) (T0 q) (T1 q) (T3 q) i (nI a) (nI b) (nI c) (nI (NG q (MU q a (g c))))) (ap := fun t n => t (va_up RR 4 (put S (fun x => nI (r x)) 0 n)) 0 (nI n)) (R := some (va_up RR 4 (put S (fun x => nI (r x)) 0 j))) j (fun t => ?_) (fun t n hn => ?_) FU 0 (Nat.zero_le _) (FU_lt (by omega))
      · rw [put_0] at key
        exact key
      · show X3_keepIfLess_26_b FU q (nI q) (nI q) (T0 q) (T1 q) (T3 q) i (nI a) (nI b) (nI c) (nI (NG q (MU q a (g c)))) t (va_up RR 4 (put S (fun x => nI (r x)) 0 j)) 0 (nI j) = _
        have hrj := hr j hj
        rw [pre t _ j hj, row j j hj (Nat.le_refl _), if_neg (nI_ge h2 (by omega))]
      · show X3_keepIfLess_26_b FU q (nI q) (nI q) (T0 q) (T1 q) (T3 q) i (nI a) (nI b) (nI c) (nI (NG q (MU q a (g c)))) t (va_up RR 4 (put S (fun x => nI (r x)) 0 n)) 0 (nI n) = t (va_up RR 4 (put S (fun x => nI (r x)) 0 (n + 1))) 0 (nI (n + 1))
        rw [pre t _ n (by omega), row n n (by omega) (Nat.le_refl _), ← h1 n hn, if_pos (Int32.le_refl _), if_pos (Int32.le_refl _), ← put_s0]
    · rw [h3]
      by_cases c1 : x < j
      · rw [put_in0 c1, h1 x c1]
      · rw [row j x hx (by omega)]
theorem a_keep (hs : q ∈ sizes) (hM : MS q su pr) {i a b c : Nat} {B : Nat → Nat} (hi : i < 4) (hg : ∀ x, x < q → g x < q ∧ ms (16 * i + x) = nI (g x)) (ha : a < q) (hb : b < q) (hc : c < q) (hB : ∀ x, x < q → B x ≤ q) (hS : ∀ x, x < q → be x = nI (B x)) (r1 r2 t : (Nat → Int32) → (Nat → Int32) → Int32 → Option (Int32 × Int32 × (Nat → Int32) × (Nat → Int32) × (Nat → Int32))) : ∃ ro2 be2, X4_least_63_b FU r1 r2 th (nI q) su pr ms (nI i) (nI a) (nI b) t ro be (nI c) = t ro2 be2 (nI (c + 1)) ∧ ∀ x, x < q → be2 x = nI (kp q (lrow q g a b c) B x) := by
  have hq := sz_2 q hs
  have hgl : ∀ x, x < q → g x < q := fun x hx => (hg x hx).1
  have hr := lrow_lt hs hgl ha hb hc
  have hmu := MU_lt hs ha (hgl c hc)
  have hn := NG_lt hs hmu
  have start : X4_least_63_b FU r1 r2 th (nI q) su pr ms (nI i) (nI a) (nI b) t ro be (nI c) = X4_least_101 FU r1 r2 t th (nI q) su pr ms (nI i) (nI a) (nI b) (nI c) (nI (NG q (MU q a (g c)))) FU ro be 0 0 := by
    unfold X4_least_63_b
    rw [if_neg (nI_ge hc (by omega)), idx16, ckI_ok (by omega) (by decide), nI_clamp (by omega), (hg c hc).2, a_by hs hM ha (hgl c hc), Option.bind_some, a_minus hs hM hmu, Option.bind_some]
  have pre : ∀ (t2 : (Nat → Int32) → (Nat → Int32) → Int32 → Int32 → Option (Int32 × Int32 × (Nat → Int32) × (Nat → Int32) × (Nat → Int32))) (W : Nat → Int32) (v : Int32) x, x < q → X4_least_101_b FU r1 r2 t th (nI q) su pr ms (nI i) (nI a) (nI b) (nI c) (nI (NG q (MU q a (g c)))) t2 W be v (nI x) = if v = 0 then t2 (upd W x (nI (lrow q g a b c x))) be (nI (lrow q g a b c x) - be x) (nI (x + 1)) else t2 (upd W x (nI (lrow q g a b c x))) be v (nI (x + 1)) := fun t2 W v x hx => by
    unfold X4_least_101_b X4_least_176
    have h1 := MU_lt hs hb hx
    have h2 := AD_lt hs h1 hc
    have h3 := MU_lt hs ha (hgl _ h2)
    rw [if_neg (nI_ge hx (by omega)), a_by hs hM hb hx, Option.bind_some, a_add hs hM h1 hc, Option.bind_some, idx16, ckI_ok (by omega) (by decide), nI_clamp (show 16 * i + AD q (MU q b x) c < 2 ^ 31 by omega), (hg _ h2).2, a_by hs hM ha (hgl _ h2), Option.bind_some, a_add hs hM h3 hn, Option.bind_some, ckI_ok (show x < 16 by omega) (by decide), ckI_ok (show x < 16 by omega) (by decide), ckI_ok (show x < 16 by omega) (by decide), nI_clamp (show x < 2 ^ 31 by omega), pk_us, nI_1]
    rfl
  obtain ⟨r, er⟩ : ∃ r, r = lrow q g a b c := ⟨_, rfl⟩
  have copy : ∀ (W : Nat → Int32) (v : Int32), (∀ x, x < q → W x = nI (r x)) → v < 0 → X4_least_187 FU r1 r2 t th (nI q) su pr ms (nI i) (nI a) (nI b) (nI c) v FU W be 0 = t W (put be (fun x => nI (r x)) 0 q) (nI (c + 1)) := fun W v hW hv => by
    have hnv : ¬ (0 : Int32) ≤ v := Int32.not_le.mpr hv
    unfold X4_least_187
    have key := itr_for (bot := fun (_ _ : Nat → Int32) (_ : Int32) => (none : Option (Int32 × Int32 × (Nat → Int32) × (Nat → Int32) × (Nat → Int32)))) (F := X4_least_187_b FU r1 r2 t th (nI q) su pr ms (nI i) (nI a) (nI b) (nI c) v) (ap := fun t n => t W (put be (fun x => nI (r x)) 0 n) (nI n)) (R := t W (put be (fun x => nI (r x)) 0 q) (nI (c + 1))) q (fun t2 => ?_) (fun t2 n hn => ?_) FU 0 (Nat.zero_le _) (FU_lt (by omega))
    · rw [put_0] at key
      exact key
    · show X4_least_187_b FU r1 r2 t th (nI q) su pr ms (nI i) (nI a) (nI b) (nI c) v t2 W (put be (fun x => nI (r x)) 0 q) (nI q) = _
      unfold X4_least_187_b X4_least_221
      rw [if_pos (Int32.le_refl _), nI_1]
    · show X4_least_187_b FU r1 r2 t th (nI q) su pr ms (nI i) (nI a) (nI b) (nI c) v t2 W (put be (fun x => nI (r x)) 0 n) (nI n) = t2 W (put be (fun x => nI (r x)) 0 (n + 1)) (nI (n + 1))
      unfold X4_least_187_b
      rw [if_neg (nI_ge hn (by omega)), if_neg hnv, ckI_ok (show n < 16 by omega) (by decide), ckI_ok (show n < 16 by omega) (by decide), nI_clamp (by omega), hW n hn, nI_1, ← put_s0]
  have skip : ∀ (W : Nat → Int32) (v : Int32), 0 ≤ v → X4_least_187 FU r1 r2 t th (nI q) su pr ms (nI i) (nI a) (nI b) (nI c) v FU W be 0 = t W be (nI (c + 1)) := fun W v hv => by
    unfold X4_least_187
    refine itr_for (ap := fun (t : (Nat → Int32) → (Nat → Int32) → Int32 → Option (Int32 × Int32 × (Nat → Int32) × (Nat → Int32) × (Nat → Int32))) n => t W be (nI n)) 0 (fun t2 => ?_) (fun t2 n hn => by omega) FU 0 (Nat.zero_le _) (FU_lt (by omega))
    unfold X4_least_187_b X4_least_221
    rw [if_neg (nI_ge (by omega) (by omega)), if_pos hv, nI_1]
  rw [start]
  unfold X4_least_101
  rw [← er] at pre hr ⊢
  have last : ∀ (t2 : (Nat → Int32) → (Nat → Int32) → Int32 → Int32 → Option (Int32 × Int32 × (Nat → Int32) × (Nat → Int32) × (Nat → Int32))) (W : Nat → Int32) (v : Int32), X4_least_101_b FU r1 r2 t th (nI q) su pr ms (nI i) (nI a) (nI b) (nI c) (nI (NG q (MU q a (g c)))) t2 W be v (nI q) = X4_least_187 FU r1 r2 t th (nI q) su pr ms (nI i) (nI a) (nI b) (nI c) v FU W be 0 := fun t2 W v => by
    unfold X4_least_101_b
    rw [if_pos (Int32.le_refl _)]
  have hrow : ∀ x, x < q → put ro (fun x => nI (r x)) 0 q x = nI (r x) := fun x hx => put_in0 hx
  have kd : ∀ n, n < q → _ := fun n hn => k_dif (r n) (by have := hr n hn; omega) (B n) (by have := hB n hn; omega)
  -- the flag, and what comes of it
  have run : ∀ (D : Nat → Int32) (R : Option (Int32 × Int32 × (Nat → Int32) × (Nat → Int32) × (Nat → Int32))), D 0 = 0 → (∀ n, n < q → D (n + 1) = if D n = 0 then nI (r n) - nI (B n) else D n) → X4_least_187 FU r1 r2 t th (nI q) su pr ms (nI i) (nI a) (nI b) (nI c) (D q) FU (put ro (fun x => nI (r x)) 0 q) be 0 = R → itr (fun _ _ _ _ => none) (X4_least_101_b FU r1 r2 t th (nI q) su pr ms (nI i) (nI a) (nI b) (nI c) (nI (NG q (MU q a (g c))))) FU ro be 0 0 = R := fun D R h0 hD hR => by
    have key := itr_for (bot := fun (_ _ : Nat → Int32) (_ _ : Int32) => (none : Option (Int32 × Int32 × (Nat → Int32) × (Nat → Int32) × (Nat → Int32)))) (F := X4_least_101_b FU r1 r2 t th (nI q) su pr ms (nI i) (nI a) (nI b) (nI c) (nI (NG q (MU q a (g c))))) (ap := fun t2 n => t2 (put ro (fun x => nI (r x)) 0 n) be (D n) (nI n)) (R := R) q (fun t2 => by rw [last]; exact hR) (fun t2 n hn => ?_) FU 0 (Nat.zero_le _) (FU_lt (by omega))
    · rw [put_0, h0] at key
      exact key
    · show X4_least_101_b FU r1 r2 t th (nI q) su pr ms (nI i) (nI a) (nI b) (nI c) (nI (NG q (MU q a (g c)))) t2 (put ro (fun x => nI (r x)) 0 n) be (D n) (nI n) = t2 (put ro (fun x => nI (r x)) 0 (n + 1)) be (D (n + 1)) (nI (n + 1))
      rw [pre t2 _ _ n hn, hS n hn, ← put_s0, hD n hn]
      by_cases z : D n = 0
      · rw [if_pos z, if_pos z]
      · rw [if_neg z, if_neg z]
  rcases kp_cases q r B with ⟨h1, h2⟩ | ⟨j, hj, h1, h2⟩
  · refine ⟨put ro (fun x => nI (r x)) 0 q, be, run (fun _ => 0) _ rfl (fun n hn => ?_) (skip _ _ (Int32.le_refl _)), fun x hx => by rw [h2]; exact hS x hx⟩
    show (0 : Int32) = if (0 : Int32) = 0 then nI (r n) - nI (B n) else 0
    rw [if_pos rfl, ← h1 n hn]
    exact ((k_dif (r n) (by have := hr n hn; omega) 0 (by decide)).2.2.2).symm
  · have hDs : ∀ n, n < q → (if n + 1 ≤ j then (0 : Int32) else nI (r j) - nI (B j)) = if (if n ≤ j then (0 : Int32) else nI (r j) - nI (B j)) = 0 then nI (r n) - nI (B n) else (if n ≤ j then (0 : Int32) else nI (r j) - nI (B j)) := fun n hn => by
      by_cases c1 : n ≤ j
      · rw [if_pos c1, if_pos rfl]
        by_cases c2 : n = j
        · rw [if_neg (by omega), c2]
        · rw [if_pos (by omega), ← h1 n (by omega)]
          exact ((k_dif (r n) (by have := hr n hn; omega) 0 (by decide)).2.2.2).symm
      · have hne : nI (r j) - nI (B j) ≠ 0 := (kd j hj).2.2.1 (by rcases h2 with z | z <;> omega)
        rw [if_neg c1, if_neg hne, if_neg (by omega)]
    rcases h2 with ⟨h2, h3⟩ | ⟨h2, h3⟩
    · refine ⟨put ro (fun x => nI (r x)) 0 q, put be (fun x => nI (r x)) 0 q, run (fun n => if n ≤ j then 0 else nI (r j) - nI (B j)) _ (if_pos (Nat.zero_le _)) hDs ?_, fun x hx => by rw [h3, put_in0 hx]⟩
      show X4_least_187 FU r1 r2 t th (nI q) su pr ms (nI i) (nI a) (nI b) (nI c) (if q ≤ j then 0 else nI (r j) - nI (B j)) FU (put ro (fun x => nI (r x)) 0 q) be 0 = _
      rw [if_neg (by omega)]
      exact copy _ _ hrow ((kd j hj).1 h2)
    · refine ⟨put ro (fun x => nI (r x)) 0 q, be, run (fun n => if n ≤ j then 0 else nI (r j) - nI (B j)) _ (if_pos (Nat.zero_le _)) hDs ?_, fun x hx => by rw [h3]; exact hS x hx⟩
      show X4_least_187 FU r1 r2 t th (nI q) su pr ms (nI i) (nI a) (nI b) (nI c) (if q ≤ j then 0 else nI (r j) - nI (B j)) FU (put ro (fun x => nI (r x)) 0 q) be 0 = _
      rw [if_neg (by omega)]
      exact skip _ _ ((kd j hj).2.1 h2)
theorem x_least (hs : q ∈ sizes) {i : Nat} {S : Nat → Int32} {B : Nat → Nat} (hi : i < 4) (hg : ∀ x, x < q → g x < q ∧ RR i x = nI (g x)) (hB : GQ q B) (hS : ∀ x, x < q → S x = nI (B x)) : ∃ S2, X3_least_22 FU q (nI q) (nI q) (T0 q) (T1 q) (T3 q) (nI i) FU (va_up RR 4 S) 1 = Option.bind (X3_putSpare FU q (nI q) (va_up RR 4 S2) (nI i)) (fun x5 => some (1, x5)) ∧ ∀ x, x < q → S2 x = nI (L2 q g B (q - 1) x) := by
  have hq := sz_2 q hs
  have hgl : ∀ x, x < q → g x < q := fun x hx => (hg x hx).1
  have lc : ∀ (r1 r2 : (Nat → Nat → Int32) → Int32 → Option (Int32 × (Nat → Nat → Int32))) a b (B : Nat → Nat) (S : Nat → Int32), a < q → b < q → GQ q B → (∀ x, x < q → S x = nI (B x)) → ∃ S2, (∀ x, x < q → S2 x = nI (L0 q g a b B q x)) ∧ X3_least_43 FU q r1 r2 (nI q) (nI q) (T0 q) (T1 q) (T3 q) (nI i) (nI a) (nI b) FU (va_up RR 4 S) 0 = r2 (va_up RR 4 S2) (nI (b + 1)) := fun r1 r2 a b B S ha hb hB hS => by
    unfold X3_least_43
    refine itr_ex (ap := fun (t : (Nat → Nat → Int32) → Int32 → Option (Int32 × (Nat → Nat → Int32))) n (S : Nat → Int32) => t (va_up RR 4 S) (nI n)) (RE := fun S2 => r2 (va_up RR 4 S2) (nI (b + 1))) (fun c S => ∀ x, x < q → S x = nI (L0 q g a b B c x)) q (fun t S _ => ?_) (fun t c S hc hI => ?_) FU 0 S (Nat.zero_le _) (FU_lt (by omega)) hS
    · unfold X3_least_43_b
      rw [if_pos (Int32.le_refl _), nI_1]
    · obtain ⟨S2, e, h2⟩ := x_keep hs (show i ≠ 4 by omega) hg ha hb hc (L0_ok hs hgl ha hb hB c (by omega)).1.le hI
      refine ⟨S2, h2, ?_⟩
      unfold X3_least_43_b
      rw [if_neg (nI_ge hc (by omega)), ckI_ok hi (by decide), nI_clamp (by omega), e, Option.bind_some, nI_1]
  have lb : ∀ (r1 : (Nat → Nat → Int32) → Int32 → Option (Int32 × (Nat → Nat → Int32))) a (B : Nat → Nat) (S : Nat → Int32), a < q → GQ q B → (∀ x, x < q → S x = nI (B x)) → ∃ S2, (∀ x, x < q → S2 x = nI (L1 q g a B (q - 1) x)) ∧ X3_least_32 FU q r1 (nI q) (nI q) (T0 q) (T1 q) (T3 q) (nI i) (nI a) FU (va_up RR 4 S) 1 = r1 (va_up RR 4 S2) (nI (a + 1)) := fun r1 a B S ha hB hS => by
    unfold X3_least_32
    refine itr_ex (ap := fun (t : (Nat → Nat → Int32) → Int32 → Option (Int32 × (Nat → Nat → Int32))) n (S : Nat → Int32) => t (va_up RR 4 S) (nI (n + 1))) (RE := fun S2 => r1 (va_up RR 4 S2) (nI (a + 1))) (fun k S => ∀ x, x < q → S x = nI (L1 q g a B k x)) (q - 1) (fun t S _ => ?_) (fun t k S hk hI => ?_) FU 0 S (Nat.zero_le _) (FU_lt (by omega)) hS
    · unfold X3_least_32_b
      rw [if_pos (nI_le (by omega) (by omega)), nI_1]
    · obtain ⟨S2, h2, e⟩ := lc r1 t a (k + 1) _ S ha (by omega) (L1_ok hs hgl ha hB k (by omega)).1 hI
      refine ⟨S2, h2, ?_⟩
      unfold X3_least_32_b
      rw [if_neg (nI_ge (show k + 1 < q by omega) (by omega)), e]
  have la := itr_ex (bot := fun (_ : Nat → Nat → Int32) (_ : Int32) => (none : Option (Int32 × (Nat → Nat → Int32)))) (F := X3_least_22_b FU q (nI q) (nI q) (T0 q) (T1 q) (T3 q) (nI i)) (ap := fun t n (S : Nat → Int32) => t (va_up RR 4 S) (nI (n + 1))) (RE := fun S2 => Option.bind (X3_putSpare FU q (nI q) (va_up RR 4 S2) (nI i)) (fun x5 => some (1, x5))) (fun k S => ∀ x, x < q → S x = nI (L2 q g B k x)) (q - 1) (fun t S _ => ?_) (fun t k S hk hI => ?_) FU 0 S (Nat.zero_le _) (FU_lt (by omega)) hS
  · obtain ⟨S2, h2, e⟩ := la
    unfold X3_least_22
    exact ⟨S2, e, h2⟩
  · unfold X3_least_22_b
    rw [if_pos (nI_le (by omega) (by omega))]
  · obtain ⟨S2, h2, e⟩ := lb t (k + 1) _ S (by omega) (L2_ok hs hgl hB k (by omega)).1 hI
    refine ⟨S2, h2, ?_⟩
    unfold X3_least_22_b
    rw [if_neg (nI_ge (show k + 1 < q by omega) (by omega)), e]
theorem a_least (hs : q ∈ sizes) (hM : MS q su pr) {i : Nat} {B : Nat → Nat} (hi : i < 4) (hg : ∀ x, x < q → g x < q ∧ ms (16 * i + x) = nI (g x)) (hB : GQ q B) (hS : ∀ x, x < q → be x = nI (B x)) : ∃ ro2 be2, X4_least_42 FU th (nI q) su pr ms (nI i) FU ro be 1 = X4_least_241 FU th (nI q) su pr ms (nI i) FU ro2 be2 0 ∧ ∀ x, x < q → be2 x = nI (L2 q g B (q - 1) x) := by
  have hq := sz_2 q hs
  have hgl : ∀ x, x < q → g x < q := fun x hx => (hg x hx).1
  have lc : ∀ (r1 r2 : (Nat → Int32) → (Nat → Int32) → Int32 → Option (Int32 × Int32 × (Nat → Int32) × (Nat → Int32) × (Nat → Int32))) a b (B : Nat → Nat) (S : (Nat → Int32) × (Nat → Int32)), a < q → b < q → GQ q B → (∀ x, x < q → S.2 x = nI (B x)) → ∃ S2 : (Nat → Int32) × (Nat → Int32), (∀ x, x < q → S2.2 x = nI (L0 q g a b B q x)) ∧ X4_least_63 FU r1 r2 th (nI q) su pr ms (nI i) (nI a) (nI b) FU S.1 S.2 0 = r2 S2.1 S2.2 (nI (b + 1)) := fun r1 r2 a b B S ha hb hB hS => by
    unfold X4_least_63
    refine itr_ex (ap := fun (t : (Nat → Int32) → (Nat → Int32) → Int32 → Option (Int32 × Int32 × (Nat → Int32) × (Nat → Int32) × (Nat → Int32))) n (S : (Nat → Int32) × (Nat → Int32)) => t S.1 S.2 (nI n)) (RE := fun S2 => r2 S2.1 S2.2 (nI (b + 1))) (fun c S => ∀ x, x < q → S.2 x = nI (L0 q g a b B c x)) q (fun t S _ => ?_) (fun t c S hc hI => ?_) FU 0 S (Nat.zero_le _) (FU_lt (by omega)) hS
    · unfold X4_least_63_b
      rw [if_pos (Int32.le_refl _), nI_1]
    · obtain ⟨ro2, be2, e, h2⟩ := a_keep (th := th) (ro := S.1) (be := S.2) hs hM hi hg ha hb hc (L0_ok hs hgl ha hb hB c (by omega)).1.le hI r1 r2 t
      exact ⟨(ro2, be2), h2, e⟩
  have lb : ∀ (r1 : (Nat → Int32) → (Nat → Int32) → Int32 → Option (Int32 × Int32 × (Nat → Int32) × (Nat → Int32) × (Nat → Int32))) a (B : Nat → Nat) (S : (Nat → Int32) × (Nat → Int32)), a < q → GQ q B → (∀ x, x < q → S.2 x = nI (B x)) → ∃ S2 : (Nat → Int32) × (Nat → Int32), (∀ x, x < q → S2.2 x = nI (L1 q g a B (q - 1) x)) ∧ X4_least_52 FU r1 th (nI q) su pr ms (nI i) (nI a) FU S.1 S.2 1 = r1 S2.1 S2.2 (nI (a + 1)) := fun r1 a B S ha hB hS => by
    unfold X4_least_52
    refine itr_ex (ap := fun (t : (Nat → Int32) → (Nat → Int32) → Int32 → Option (Int32 × Int32 × (Nat → Int32) × (Nat → Int32) × (Nat → Int32))) n (S : (Nat → Int32) × (Nat → Int32)) => t S.1 S.2 (nI (n + 1))) (RE := fun S2 => r1 S2.1 S2.2 (nI (a + 1))) (fun k S => ∀ x, x < q → S.2 x = nI (L1 q g a B k x)) (q - 1) (fun t S _ => ?_) (fun t k S hk hI => ?_) FU 0 S (Nat.zero_le _) (FU_lt (by omega)) hS
    · unfold X4_least_52_b
      rw [if_pos (nI_le (by omega) (by omega)), nI_1]
    · obtain ⟨S2, h2, e⟩ := lc r1 t a (k + 1) _ S ha (by omega) (L1_ok hs hgl ha hB k (by omega)).1 hI
      refine ⟨S2, h2, ?_⟩
      unfold X4_least_52_b
      rw [if_neg (nI_ge (show k + 1 < q by omega) (by omega)), e]
  have la := itr_ex (bot := fun (_ _ : Nat → Int32) (_ : Int32) => (none : Option (Int32 × Int32 × (Nat → Int32) × (Nat → Int32) × (Nat → Int32)))) (F := X4_least_42_b FU th (nI q) su pr ms (nI i)) (ap := fun t n (S : (Nat → Int32) × (Nat → Int32)) => t S.1 S.2 (nI (n + 1))) (RE := fun S2 => X4_least_241 FU th (nI q) su pr ms (nI i) FU S2.1 S2.2 0) (fun k S => ∀ x, x < q → S.2 x = nI (L2 q g B k x)) (q - 1) (fun t S _ => ?_) (fun t k S hk hI => ?_) FU 0 (ro, be) (Nat.zero_le _) (FU_lt (by omega)) hS
  · obtain ⟨S2, h2, e⟩ := la
    unfold X4_least_42
    exact ⟨S2.1, S2.2, e, h2⟩
  · unfold X4_least_42_b
    rw [if_pos (nI_le (by omega) (by omega))]
  · obtain ⟨S2, h2, e⟩ := lb t (k + 1) _ S (by omega) (L2_ok hs hgl hB k (by omega)).1 hI
    refine ⟨S2, h2, ?_⟩
    unfold X4_least_42_b
    rw [if_neg (nI_ge (show k + 1 < q by omega) (by omega)), e]
theorem R_least (hs : q ∈ sizes) (hM : MS q su pr) (hR : Rel q f RR ms) (v1 : Int32) : ∃ r RR2 ms2 ro2 be2 f2, X3_least FU q (nI q) RR (nI q) (T0 q) (T1 q) (T3 q) v1 = some (r, RR2) ∧ X4_least FU th (nI q) su pr ms ro be v1 = some (r, 0, ms2, ro2, be2) ∧ Rel q f2 RR2 ms2 := by
  have hq := sz_2 q hs
  rcases ixc v1 (n := 4) (by omega) with h | ⟨i, hi, rfl⟩
  · exact ⟨-1, RR, ms, ro, be, f, by unfold X3_least; rw [x_mapN h]; rfl, by unfold X4_least; rw [a_mapN h]; rfl, hR⟩
  have hgl : ∀ x, x < q → f i x < q := fun x hx => (hR i hi x hx).1
  have hB : GQ q (fun _ => q) := Or.inr fun _ _ => rfl
  obtain ⟨S2, e1, h1⟩ := x_least (S := put (RR 4) (fun _ => nI q) 0 16) (B := fun _ => q) hs hi (hR.x hi) hB (fun x hx => put_in0 (by omega))
  obtain ⟨ro2, be2, e2, h2⟩ := a_least (th := 0) (ro := ro) (be := put be (fun _ => nI q) 0 q) (B := fun _ => q) hs hM hi (hR.a hi) hB (fun x hx => put_in0 hx)
  have hlt := (L2_ok hs hgl hB (q - 1) (Nat.le_refl _)).2 (by omega)
  obtain ⟨S, eS⟩ : ∃ S, S = va_up RR 4 S2 := ⟨_, rfl⟩
  refine ⟨1, va_up S i (va_cpy (S 4) (S i) 0 0 q), put ms (put ro2 be2 0 q) (16 * i) q, put ro2 be2 0 q, be2, fup f i (L2 q (f i) (fun _ => q) (q - 1)), ?_, ?_, ?_⟩
  · unfold X3_least
    rw [x_map hi, Option.bind_some, if_neg (by decide), fill_ok, Option.bind_some, e1, ← eS, x_putSpare hs hi, Option.bind_some]
  · unfold X4_least
    rw [a_map hi, Option.bind_some, if_neg (by decide)]
    unfold X4_least_16
    have key := itr_for (bot := fun (_ _ : Nat → Int32) (_ : Int32) => (none : Option (Int32 × Int32 × (Nat → Int32) × (Nat → Int32) × (Nat → Int32)))) (F := X4_least_16_b FU 0 (nI q) su pr ms (nI i)) (ap := fun t n => t ro (put be (fun _ => nI q) 0 n) (nI n)) (R := some (1, 0, put ms (put ro2 be2 0 q) (16 * i) q, put ro2 be2 0 q, be2)) q (fun t => ?_) (fun t n hn => ?_) FU 0 (Nat.zero_le _) (FU_lt (by omega))
    · rw [put_0] at key
      exact key
    · show X4_least_16_b FU 0 (nI q) su pr ms (nI i) t ro (put be (fun _ => nI q) 0 q) (nI q) = _
      unfold X4_least_16_b
      rw [if_pos (Int32.le_refl _), e2]
      unfold X4_least_241
      have key2 := itr_for (bot := fun (_ _ : Nat → Int32) (_ : Int32) => (none : Option (Int32 × Int32 × (Nat → Int32) × (Nat → Int32) × (Nat → Int32)))) (F := X4_least_241_b FU 0 (nI q) su pr ms (nI i)) (ap := fun t n => t (put ro2 be2 0 n) be2 (nI n)) (R := some (1, 0, put ms (put ro2 be2 0 q) (16 * i) q, put ro2 be2 0 q, be2)) q (fun t => ?_) (fun t n hn => ?_) FU 0 (Nat.zero_le _) (FU_lt (by omega))
      · rw [put_0] at key2
        exact key2
      · show X4_least_241_b FU 0 (nI q) su pr ms (nI i) t (put ro2 be2 0 q) be2 (nI q) = _
        unfold X4_least_241_b
        rw [if_pos (Int32.le_refl _), a_lays hs hi, Option.bind_some]
      · show X4_least_241_b FU 0 (nI q) su pr ms (nI i) t (put ro2 be2 0 n) be2 (nI n) = t (put ro2 be2 0 (n + 1)) be2 (nI (n + 1))
        unfold X4_least_241_b
        rw [if_neg (nI_ge hn (by omega)), ckI_ok (show n < 16 by omega) (by decide), ckI_ok (show n < 16 by omega) (by decide), nI_clamp (by omega), nI_1, ← put_s0]
    · show X4_least_16_b FU 0 (nI q) su pr ms (nI i) t ro (put be (fun _ => nI q) 0 n) (nI n) = t ro (put be (fun _ => nI q) 0 (n + 1)) (nI (n + 1))
      unfold X4_least_16_b
      rw [if_neg (nI_ge hn (by omega)), ckI_ok (show n < 16 by omega) (by decide), nI_clamp (by omega), nI_1, ← put_s0]
  · exact Rel_spare hs hR hi hlt (fun x hx => by rw [eS, vu_s, h1 x hx]) (fun j hj x _ => by rw [eS, vu_n (by omega)]) (fun x hx => by rw [put_in0 hx, h2 x hx])
end
