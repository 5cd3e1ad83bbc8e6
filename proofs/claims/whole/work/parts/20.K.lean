theorem php : ∀ (n : Nat) (g : Nat → Nat), (∀ i, i ≤ n → g i < n) → ∃ i j, i < j ∧ j ≤ n ∧ g i = g j
  | 0, g, h => absurd (h 0 (Nat.le_refl _)) (Nat.not_lt_zero _)
  | n + 1, g, h => by
    by_cases hx : ∃ i, i ≤ n ∧ g i = g (n + 1)
    · obtain ⟨i, hi, e⟩ := hx
      exact ⟨i, n + 1, by omega, Nat.le_refl _, e⟩
    · have hne : ∀ i, i ≤ n → g i ≠ g (n + 1) := fun i hi e => hx ⟨i, hi, e⟩
      have hl := h (n + 1) (Nat.le_refl _)
      obtain ⟨i, j, h1, h2, e⟩ := php n (fun i => if g i = n then g (n + 1) else g i) (fun i hi => by
        have h1 := h i (by omega)
        have h2 := hne i hi
        by_cases c : g i = n
        · rw [if_pos c]; omega
        · rw [if_neg c]; omega)
      refine ⟨i, j, h1, by omega, ?_⟩
      have e1 := hne i (by omega)
      have e2 := hne j (by omega)
      by_cases c : g i = n
      · by_cases d : g j = n
        · rw [c, d]
        · rw [if_pos c, if_neg d] at e
          exact absurd e.symm e2
      · by_cases d : g j = n
        · rw [if_neg c, if_pos d] at e
          exact absurd e e1
        · rw [if_neg c, if_neg d] at e
          exact e
/-- g, k times -/
def itf (g : Nat → Nat) : Nat → Nat → Nat
  | 0, x => x
  | k + 1, x => g (itf g k x)
theorem itf_add (g : Nat → Nat) (b x : Nat) : ∀ a, itf g (a + b) x = itf g a (itf g b x)
  | 0 => by rw [Nat.zero_add]; rfl
  | a + 1 => by
    rw [Nat.succ_add]
    show g (itf g (a + b) x) = g (itf g a (itf g b x))
    rw [itf_add g b x a]
theorem itf_lt {g : Nat → Nat} {q x : Nat} (hg : ∀ x, x < q → g x < q) (hx : x < q) : ∀ k, itf g k x < q
  | 0 => hx
  | k + 1 => hg _ (itf_lt hg hx k)
theorem itf_inv {g h : Nat → Nat} {q x : Nat} (hh : ∀ v, v < q → h v < q ∧ g (h v) = v) (hx : x < q) : ∀ k, itf g k (itf h k x) = x
  | 0 => rfl
  | k + 1 => by
    rw [itf_add g 1 _ k]
    show itf g k (g (h (itf h k x))) = x
    rw [(hh _ (itf_lt (fun v hv => (hh v hv).1) hx k)).2]
    exact itf_inv hh hx k
theorem itf_round {g : Nat → Nat} {q : Nat} (hsur : ∀ v, v < q → ∃ x, x < q ∧ g x = v) {x : Nat} (hx : x < q) : ∃ d, 1 ≤ d ∧ d < q + 1 ∧ itf g d x = x := by
  obtain ⟨h, hh⟩ := Classical.axiomOfChoice (r := fun v x => v < q → x < q ∧ g x = v) (fun v => by
    by_cases c : v < q
    · obtain ⟨x, h1, h2⟩ := hsur v c
      exact ⟨x, fun _ => ⟨h1, h2⟩⟩
    · exact ⟨0, fun z => absurd z c⟩)
  have hl : ∀ v, v < q → h v < q := fun v hv => (hh v hv).1
  obtain ⟨i, j, h1, h2, e⟩ := php q (fun k => itf h k x) (fun k _ => itf_lt hl hx k)
  have e : itf h i x = itf h j x := e
  have hd : x = itf h (j - i) x := by
    have a1 := itf_inv hh hx i
    rw [e, show j = i + (j - i) by omega, itf_add, itf_inv hh (itf_lt hl hx _) i] at a1
    exact a1.symm
  refine ⟨j - i, by omega, by omega, ?_⟩
  have a2 := itf_inv hh hx (j - i)
  rw [← hd] at a2
  exact a2
/-- r is the length of the round that x is on -/
def Rnd (q : Nat) (g : Nat → Nat) (x r : Nat) : Prop := 1 ≤ r ∧ r ≤ q ∧ itf g r x = x ∧ ∀ k, 1 ≤ k → k < r → itf g k x ≠ x
theorem rnd_all {g : Nat → Nat} {q : Nat} (hsur : ∀ v, v < q → ∃ x, x < q ∧ g x = v) : ∃ rn : Nat → Nat, ∀ x, x < q → Rnd q g x (rn x) :=
  Classical.axiomOfChoice (r := fun x r => x < q → Rnd q g x r) (fun x => by
    by_cases c : x < q
    · rcases firstly (fun k => itf g k x = x) 1 (q + 1) with h | ⟨r, h1, h2, h3, h4⟩
      · obtain ⟨d, d1, d2, d3⟩ := itf_round hsur c
        exact absurd d3 (h d d1 d2)
      · exact ⟨r, fun _ => ⟨h1, by omega, h3, h4⟩⟩
    · exact ⟨0, fun z => absurd z c⟩)
theorem rnd_mul {q : Nat} {g : Nat → Nat} {x r : Nat} (h : Rnd q g x r) : ∀ m, itf g (m * r) x = x
  | 0 => by rw [Nat.zero_mul]; rfl
  | m + 1 => by rw [Nat.succ_mul, itf_add, h.2.2.1, rnd_mul h m]
theorem rnd_dvd {q : Nat} {g : Nat → Nat} {x r k : Nat} (h : Rnd q g x r) (hk : itf g k x = x) : r ∣ k := by
  by_cases c : k % r = 0
  · exact Nat.dvd_of_mod_eq_zero c
  · have e : k = k % r + k / r * r := by rw [Nat.mul_comm]; exact (Nat.mod_add_div k r).symm
    rw [e, itf_add, rnd_mul h] at hk
    exact absurd hk (h.2.2.2 _ (by omega) (Nat.mod_lt _ h.1))
/-- the least common multiple of the first n rounds -/
def ol (rn : Nat → Nat) : Nat → Nat
  | 0 => 1
  | n + 1 => Nat.lcm (ol rn n) (rn n)
theorem ol_dvd {rn : Nat → Nat} {k : Nat} : ∀ n, (∀ x, x < n → rn x ∣ k) → ol rn n ∣ k
  | 0, _ => Nat.one_dvd k
  | n + 1, h => Nat.lcm_dvd (ol_dvd n (fun x hx => h x (by omega))) (h n (by omega))
theorem dvd_ol {rn : Nat → Nat} : ∀ n x, x < n → rn x ∣ ol rn n
  | 0, x, h => by omega
  | n + 1, x, h => by
    by_cases e : x = n
    · rw [e]; exact Nat.dvd_lcm_right _ _
    · exact Nat.dvd_trans (dvd_ol n x (by omega)) (Nat.dvd_lcm_left _ _)
theorem k_720 : ∀ r, r < 17 → 0 < r → 720720 % r = 0 := by decide
theorem ol_b {q : Nat} {g rn : Nat → Nat} (hq : q ≤ 16) (h : ∀ x, x < q → Rnd q g x (rn x)) {n : Nat} (hn : n ≤ q) : 1 ≤ ol rn n ∧ ol rn n ≤ 720720 := by
  have h1 : ol rn n ∣ 720720 := ol_dvd n fun x hx => by
    have := h x (by omega)
    exact Nat.dvd_of_mod_eq_zero (k_720 _ (by have := this.2.1; omega) this.1)
  exact ⟨Nat.pos_of_dvd_of_pos h1 (by decide), Nat.le_of_dvd (by decide) h1⟩
section
variable {q : Nat} {su pr ms ro : Nat → Int32} {RR : Nat → Nat → Int32} {f : Nat → Nat → Nat} {th : Int32} {tr ak : Int64} {g rn : Nat → Nat}
theorem x_round (hs : q ∈ sizes) {j x r : Nat} (hg : ∀ x, x < q → g x < q ∧ RR j x = nI (g x)) (hx : x < q) (hr : Rnd q g x r) : X3_roundOf FU q (nI q) RR j (nI x) = some (nI r) := by
  have hq := sz_2 q hs
  have hgl : ∀ x, x < q → g x < q := fun x hx => (hg x hx).1
  obtain ⟨h1, h2, h3, h4⟩ := hr
  unfold X3_roundOf X3_roundOf_7
  rw [ckI_ok (show x < 16 by omega) (by decide), nI_clamp (by omega), (hg x hx).2]
  refine itr_from (ap := fun (t : Int32 → Int32 → Option Int32) k => t (nI (itf g k x)) (nI k)) 1 r (fun t => ?_) (fun t k hk1 hk => ?_) FU 1 (Nat.le_refl _) h1 (FU_lt (by omega))
  · unfold X3_roundOf_7_b
    rw [h3, if_pos rfl]
  · unfold X3_roundOf_7_b
    have hl := itf_lt hgl hx k
    rw [if_neg (fun z => h4 k hk1 hk ((nI_eq (by omega) (by omega)).mp z)), if_neg (nI_ge (by omega) (by omega)), ckI_ok (show itf g k x < 16 by omega) (by decide), nI_clamp (by omega), (hg _ hl).2, nI_1]
    rfl
theorem x_lcm {m n : Nat} (hm : 1 ≤ m) (hm2 : m ≤ 720720) (hn : 1 ≤ n) (hn2 : n ≤ 16) : X3_leastCommonMultiple FU (nI m) (nI n) = some (nI (Nat.lcm m n)) := by
  obtain ⟨k0, hk⟩ := Nat.dvd_lcm_left m n
  have hp : 0 < Nat.lcm m n := Nat.lcm_pos hm hn
  have hk1 : 1 ≤ k0 := by
    rcases Nat.eq_zero_or_pos k0 with z | z
    · rw [hk, z, Nat.mul_zero] at hp; omega
    · exact z
  have hk2 : k0 ≤ n := by
    have h1 : Nat.lcm m n ∣ m * n := Nat.lcm_dvd (Nat.dvd_mul_right m n) (Nat.dvd_mul_left n m)
    have h2 := Nat.le_of_dvd (Nat.mul_pos hm hn) h1
    rw [hk] at h2
    exact Nat.le_of_mul_le_mul_left h2 hm
  have hb : ∀ k, k ≤ 16 → m * k < 2 ^ 31 := fun k hk => Nat.lt_of_le_of_lt (Nat.mul_le_mul hm2 hk) (by decide)
  unfold X3_leastCommonMultiple X3_leastCommonMultiple_4
  have key := itr_from (bot := fun (_ _ : Int32) => (none : Option Int32)) (F := X3_leastCommonMultiple_4_b FU (nI m) (nI n)) (ap := fun t k => t (nI (m * k)) (nI k)) (R := some (nI (Nat.lcm m n))) 1 k0 (fun t => ?_) (fun t k hka hkb => ?_) FU 1 (Nat.le_refl _) hk1 (FU_lt (by omega))
  · rw [Nat.mul_one] at key
    exact key
  · show X3_leastCommonMultiple_4_b FU (nI m) (nI n) t (nI (m * k0)) (nI k0) = _
    unfold X3_leastCommonMultiple_4_b
    have hb0 := hb k0 (by omega)
    by_cases c : n ≤ k0
    · rw [if_pos (nI_le c (by omega)), hk]
    · have hd : m * k0 % n = 0 := by rw [← hk]; exact Nat.mod_eq_zero_of_dvd (Nat.dvd_lcm_right m n)
      rw [if_neg (nI_ge (by omega) (by omega)), ckZ_ok (by omega) (by omega), pk_rem (by omega) (by omega) (by omega), hd, if_pos nI_0, hk]
  · show X3_leastCommonMultiple_4_b FU (nI m) (nI n) t (nI (m * k)) (nI k) = t (nI (m * (k + 1))) (nI (k + 1))
    unfold X3_leastCommonMultiple_4_b
    have hb0 := hb k (by omega)
    have hr : m * k % n ≠ 0 := fun z => by
      have h1 : Nat.lcm m n ∣ m * k := Nat.lcm_dvd (Nat.dvd_mul_right m k) (Nat.dvd_of_mod_eq_zero z)
      have h2 := Nat.le_of_dvd (Nat.mul_pos hm hka) h1
      rw [hk] at h2
      have := Nat.le_of_mul_le_mul_left h2 hm
      omega
    have hl : m * k % n < n := Nat.mod_lt _ hn
    rw [if_neg (nI_ge (by omega) (by omega)), ckZ_ok (by omega) (by omega), pk_rem (by omega) (by omega) (by omega), if_neg (nI_ne0 (by omega) (by omega)), nI_add, nI_1]
    rfl
theorem x_order (hs : q ∈ sizes) {i : Nat} (hi : i < 4) (hg : ∀ x, x < q → g x < q ∧ RR i x = nI (g x)) (hr : ∀ x, x < q → Rnd q g x (rn x)) : X3_order_29 FU q (nI q) RR (nI i) FU 1 0 = some (nI (ol rn q)) := by
  have hq := sz_2 q hs
  unfold X3_order_29
  refine itr_for (ap := fun (t : Int32 → Int32 → Option Int32) n => t (nI (ol rn n)) (nI n)) q (fun t => ?_) (fun t n hn => ?_) FU 0 (Nat.zero_le _) (FU_lt (by omega))
  · unfold X3_order_29_b
    rw [if_pos (Int32.le_refl _)]
  · unfold X3_order_29_b
    have hb := ol_b hq.2 hr (n := n) (by omega)
    have hrn := hr n hn
    rw [if_neg (nI_ge hn (by omega)), ckI_ok hi (by decide), nI_clamp (by omega), x_round hs hg hn hrn, Option.bind_some, x_lcm hb.1 hb.2 hrn.1 (by have := hrn.2.1; omega), Option.bind_some, nI_1]
    rfl
/-- 1 if g, k times, leaves all below n -/
def idn (g : Nat → Nat) (k : Nat) : Nat → Nat
  | 0 => 1
  | n + 1 => if itf g k n = n then idn g k n else 0
theorem idn_01 (g : Nat → Nat) (k : Nat) : ∀ n, idn g k n = 0 ∨ idn g k n = 1
  | 0 => Or.inr rfl
  | n + 1 => by
    show (if itf g k n = n then idn g k n else 0) = 0 ∨ (if itf g k n = n then idn g k n else 0) = 1
    split
    · exact idn_01 g k n
    · exact Or.inl rfl
theorem idn_1 {g : Nat → Nat} {k : Nat} : ∀ n, (idn g k n = 1 ↔ ∀ x, x < n → itf g k x = x)
  | 0 => ⟨fun _ x h => by omega, fun _ => rfl⟩
  | n + 1 => by
    show (if itf g k n = n then idn g k n else 0) = 1 ↔ _
    by_cases c : itf g k n = n
    · rw [if_pos c, idn_1 n]
      constructor
      · intro h x hx
        by_cases e : x = n
        · rw [e]; exact c
        · exact h x (by omega)
      · intro h x hx
        exact h x (by omega)
    · rw [if_neg c]
      exact ⟨fun z => by omega, fun h => absurd (h n (by omega)) c⟩
theorem a_id (hs : q ∈ sizes) {R : Nat → Int32} {k : Nat} {i v2 : Int32} (hgl : ∀ x, x < q → g x < q) (hR : ∀ x, x < q → R x = nI (itf g k x)) (rc : (Nat → Int32) → Int32 → Int32 → Option (Int32 × Int32 × (Nat → Int32))) : X4_order_71 FU rc th (nI q) ms R i v2 FU 1 0 = if nI (idn g k q) = 0 then X4_order_116 FU rc th (nI q) ms i (v2 + 1) (nI (idn g k q)) FU R 0 else rc R v2 (nI (idn g k q)) := by
  have hq := sz_2 q hs
  rw [show X4_order_71 FU rc th (nI q) ms R i v2 FU = itr (fun _ _ => none) (X4_order_71_b FU rc th (nI q) ms R i v2) FU from rfl]
  refine itr_for (ap := fun (t : Int32 → Int32 → Option (Int32 × Int32 × (Nat → Int32))) n => t (nI (idn g k n)) (nI n)) q (fun t => ?_) (fun t n hn => ?_) FU 0 (Nat.zero_le _) (FU_lt (by omega))
  · unfold X4_order_71_b
    rw [if_pos (Int32.le_refl _)]
  · unfold X4_order_71_b X4_order_98
    have hl := itf_lt hgl hn k
    have es : idn g k (n + 1) = if itf g k n = n then idn g k n else 0 := rfl
    rw [if_neg (nI_ge hn (by omega)), ckI_ok (show n < 16 by omega) (by decide), nI_clamp (by omega), hR n hn, es, nI_1]
    by_cases c : itf g k n = n
    · rw [if_pos (by rw [c]), if_pos c]
      rcases idn_01 g k n with z | z <;> rw [z] <;> rfl
    · rw [if_neg (fun z => c ((nI_eq (by omega) (by omega)).mp z)), if_neg c]
      rcases idn_01 g k n with z | z <;> rw [z] <;> rfl
theorem a_next (hs : q ∈ sizes) {B : Nat → Int32} {k i : Nat} {v2 v3 : Int32} (hi : i < 4) (hg : ∀ x, x < q → g x < q ∧ ms (16 * i + x) = nI (g x)) (rc : (Nat → Int32) → Int32 → Int32 → Option (Int32 × Int32 × (Nat → Int32))) : X4_order_116 FU rc th (nI q) ms (nI i) v2 v3 FU (put B (fun x => nI (itf g k x)) 0 q) 0 = rc (put B (fun x => nI (itf g (k + 1) x)) 0 q) v2 v3 := by
  have hq := sz_2 q hs
  have hgl : ∀ x, x < q → g x < q := fun x hx => (hg x hx).1
  unfold X4_order_116
  have key := itr_for (bot := fun (_ : Nat → Int32) (_ : Int32) => (none : Option (Int32 × Int32 × (Nat → Int32)))) (F := X4_order_116_b FU rc th (nI q) ms (nI i) v2 v3) (ap := fun t n => t (put (put B (fun x => nI (itf g k x)) 0 q) (fun x => nI (itf g (k + 1) x)) 0 n) (nI n)) (R := rc (put B (fun x => nI (itf g (k + 1) x)) 0 q) v2 v3) q (fun t => ?_) (fun t n hn => ?_) FU 0 (Nat.zero_le _) (FU_lt (by omega))
  · rw [put_0] at key
    exact key
  · show X4_order_116_b FU rc th (nI q) ms (nI i) v2 v3 t (put (put B (fun x => nI (itf g k x)) 0 q) (fun x => nI (itf g (k + 1) x)) 0 q) (nI q) = _
    unfold X4_order_116_b
    rw [if_pos (Int32.le_refl _), put_put]
  · show X4_order_116_b FU rc th (nI q) ms (nI i) v2 v3 t (put (put B (fun x => nI (itf g k x)) 0 q) (fun x => nI (itf g (k + 1) x)) 0 n) (nI n) = t (put (put B (fun x => nI (itf g k x)) 0 q) (fun x => nI (itf g (k + 1) x)) 0 (n + 1)) (nI (n + 1))
    unfold X4_order_116_b
    have hl := itf_lt hgl hn k
    have h1 : put (put B (fun x => nI (itf g k x)) 0 q) (fun x => nI (itf g (k + 1) x)) 0 n n = nI (itf g k n) := by
      rw [put_out (Or.inr (by omega))]
      exact put_in0 hn
    rw [if_neg (nI_ge hn (by omega)), ckI_ok (show n < 16 by omega) (by decide), ckI_ok (show n < 16 by omega) (by decide), nI_clamp (show n < 2 ^ 31 by omega), h1, idx16, ckI_ok (by omega) (by decide), nI_clamp (show 16 * i + itf g k n < 2 ^ 31 by omega), (hg _ hl).2, nI_1, ← put_s0]
    rfl
theorem a_order (hs : q ∈ sizes) {B : Nat → Int32} {i : Nat} (hi : i < 4) (hg : ∀ x, x < q → g x < q ∧ ms (16 * i + x) = nI (g x)) (hr : ∀ x, x < q → Rnd q g x (rn x)) : X4_order_62 FU th (nI q) ms (nI i) FU (put B (fun x => nI (itf g 1 x)) 0 q) 1 0 = some (nI (ol rn q), th, put B (fun x => nI (itf g (ol rn q) x)) 0 q) := by
  have hq := sz_2 q hs
  have hgl : ∀ x, x < q → g x < q := fun x hx => (hg x hx).1
  have hb := ol_b hq.2 hr (Nat.le_refl q)
  have hend : idn g (ol rn q) q = 1 := (idn_1 q).mpr fun x hx => by
    obtain ⟨m, hm⟩ := dvd_ol (rn := rn) q x hx
    rw [hm, Nat.mul_comm]
    exact rnd_mul (hr x hx) m
  have hnot : ∀ k, 1 ≤ k → k < ol rn q → idn g k q = 0 := fun k h1 h2 => (idn_01 g k q).resolve_right fun z => by
    have h3 := (idn_1 q).mp z
    have h4 : ol rn q ∣ k := ol_dvd q fun x hx => rnd_dvd (hr x hx) (h3 x hx)
    have := Nat.le_of_dvd h1 h4
    omega
  have hrow : ∀ k x, x < q → put B (fun x => nI (itf g k x)) 0 q x = nI (itf g k x) := fun k x hx => put_in0 hx
  unfold X4_order_62
  have key := itr_from (bot := fun (_ : Nat → Int32) (_ _ : Int32) => (none : Option (Int32 × Int32 × (Nat → Int32)))) (F := X4_order_62_b FU th (nI q) ms (nI i)) (ap := fun t k => t (put B (fun x => nI (itf g (if k ≤ ol rn q then k else ol rn q) x)) 0 q) (nI (if k ≤ ol rn q then k else ol rn q)) (if k ≤ ol rn q then 0 else 1)) (R := some (nI (ol rn q), th, put B (fun x => nI (itf g (ol rn q) x)) 0 q)) 1 (ol rn q + 1) (fun t => ?_) (fun t k hk1 hk => ?_) FU 1 (Nat.le_refl _) (by omega) (FU_lt (by omega))
  · rw [if_pos hb.1, if_pos hb.1] at key
    exact key
  · have hc : ¬ ol rn q + 1 ≤ ol rn q := by omega
    rw [if_neg hc, if_neg hc]
    unfold X4_order_62_b
    rw [if_neg (by decide)]
  · have hc : k ≤ ol rn q := by omega
    rw [if_pos hc, if_pos hc]
    show X4_order_62_b FU th (nI q) ms (nI i) t (put B (fun x => nI (itf g k x)) 0 q) (nI k) 0 = _
    unfold X4_order_62_b
    rw [if_pos rfl, a_id hs hgl (hrow k) t]
    by_cases e : k = ol rn q
    · subst e
      have hc2 : ¬ ol rn q + 1 ≤ ol rn q := by omega
      rw [hend, if_neg (by decide), if_neg hc2, if_neg hc2]
      rfl
    · have hc2 : k + 1 ≤ ol rn q := by omega
      rw [hnot k hk1 (by omega), if_pos nI_0, a_next hs hi hg t, if_pos hc2, if_pos hc2, nI_1]
      rfl
theorem R_order (hs : q ∈ sizes) (hR : Rel q f RR ms) (v1 : Int32) : ∃ r ro2, X3_order FU q (nI q) RR v1 = some r ∧ X4_order FU th (nI q) ms ro v1 = some (r, 0, ro2) := by
  have hq := sz_2 q hs
  rcases ixc v1 (n := 4) (by omega) with h | ⟨i, hi, rfl⟩
  · exact ⟨-1, ro, by unfold X3_order; rw [x_mapN h]; rfl, by unfold X4_order; rw [a_mapN h]; rfl⟩
  rcases shf01 (q := q) (g := f i) with e | e
  · refine ⟨-2, ro, ?_, ?_⟩
    · unfold X3_order
      rw [x_map hi, ckI_ok hi (by decide), nI_clamp (by omega), x_isShuffle hs (hR.x hi), e]
      rfl
    · unfold X4_order
      rw [a_map hi, a_isShuffle hs hi (hR.a hi), e]
      rfl
  obtain ⟨rn, hr⟩ := rnd_all (img_full (shf_1 e))
  refine ⟨nI (ol rn q), put ro (fun x => nI (itf (f i) (ol rn q) x)) 0 q, ?_, ?_⟩
  · unfold X3_order
    rw [x_map hi, Option.bind_some, if_neg (by decide), ckI_ok hi (by decide), nI_clamp (by omega), x_isShuffle hs (hR.x hi), e, Option.bind_some, if_neg (by decide), x_order hs hi (hR.x hi) hr]
  · unfold X4_order
    rw [a_map hi, Option.bind_some, if_neg (by decide), a_isShuffle hs hi (hR.a hi), e, Option.bind_some, if_neg (by decide)]
    unfold X4_order_27
    have key := itr_for (bot := fun (_ : Nat → Int32) (_ : Int32) => (none : Option (Int32 × Int32 × (Nat → Int32)))) (F := X4_order_27_b FU 0 (nI q) ms (nI i)) (ap := fun t n => t (put ro (fun x => nI (itf (f i) 1 x)) 0 n) (nI n)) (R := some (nI (ol rn q), 0, put ro (fun x => nI (itf (f i) (ol rn q) x)) 0 q)) q (fun t => ?_) (fun t n hn => ?_) FU 0 (Nat.zero_le _) (FU_lt (by omega))
    · rw [put_0] at key
      exact key
    · show X4_order_27_b FU 0 (nI q) ms (nI i) t (put ro (fun x => nI (itf (f i) 1 x)) 0 q) (nI q) = _
      unfold X4_order_27_b
      rw [if_pos (Int32.le_refl _), a_order hs hi (hR.a hi) hr]
    · show X4_order_27_b FU 0 (nI q) ms (nI i) t (put ro (fun x => nI (itf (f i) 1 x)) 0 n) (nI n) = t (put ro (fun x => nI (itf (f i) 1 x)) 0 (n + 1)) (nI (n + 1))
      unfold X4_order_27_b
      rw [if_neg (nI_ge hn (by omega)), idx16, ckI_ok (by omega) (by decide), ckI_ok (show n < 16 by omega) (by decide), nI_clamp (show 16 * i + n < 2 ^ 31 by omega), nI_clamp (show n < 2 ^ 31 by omega), (hR i hi n hn).2.2, nI_1, ← put_s0]
      rfl
end
