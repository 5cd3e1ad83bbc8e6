theorem fa_and (a b : Nat) : nI a &&& nI b = nI (a &&& b) := by
  apply Int32.toBitVec_inj.1
  show BitVec.ofNat 32 a &&& BitVec.ofNat 32 b = BitVec.ofNat 32 (a &&& b)
  apply BitVec.eq_of_getLsbD_eq
  intro i hi
  simp [hi]
theorem fa_or (a b : Nat) : nI a ||| nI b = nI (a ||| b) := by
  apply Int32.toBitVec_inj.1
  show BitVec.ofNat 32 a ||| BitVec.ofNat 32 b = BitVec.ofNat 32 (a ||| b)
  apply BitVec.eq_of_getLsbD_eq
  intro i hi
  simp [hi]
theorem fb_xorI (a b : Nat) : nI a ^^^ nI b = nI (a ^^^ b) := by
  apply Int32.toBitVec_inj.1
  show BitVec.ofNat 32 a ^^^ BitVec.ofNat 32 b = BitVec.ofNat 32 (a ^^^ b)
  apply BitVec.eq_of_getLsbD_eq
  intro i hi
  simp [hi]
/-- the bits that are set, counted below n -/
def pc (M : Nat) : Nat → Nat
  | 0 => 0
  | n + 1 => pc M n + M / 2 ^ n % 2
def sw (M : Nat) : Nat :=
  let s1 := M - ((M / 2 ^ 1) &&& 1431655765)
  let s2 := (s1 &&& 858993459) + ((s1 / 2 ^ 2) &&& 858993459)
  let s3 := (s2 + s2 / 2 ^ 4) &&& 252645135
  let s4 := s3 + s3 / 2 ^ 8
  let s5 := s4 + s4 / 2 ^ 16
  s5 &&& 63
theorem and_sp {a b c d : Nat} (hb : b < 2 ^ 8) (hd : d < 2 ^ 8) : (2 ^ 8 * a + b) &&& (2 ^ 8 * c + d) = 2 ^ 8 * (a &&& c) + (b &&& d) := by
  apply Nat.eq_of_testBit_eq
  intro j
  rw [Nat.testBit_and, Nat.testBit_two_pow_mul_add _ hb, Nat.testBit_two_pow_mul_add _ hd, Nat.testBit_two_pow_mul_add _ (Nat.lt_of_le_of_lt Nat.and_le_left hb)]
  by_cases h : j < 8
  · rw [if_pos h, if_pos h, if_pos h, Nat.testBit_and]
  · rw [if_neg h, if_neg h, if_neg h, Nat.testBit_and]
def u1 (a : Nat) : Nat := a - ((a / 2) &&& 85)
def u2 (a : Nat) : Nat := (a &&& 51) + ((a / 4) &&& 51)
def u3 (a : Nat) : Nat := (a + a / 16) &&& 15
set_option maxRecDepth 100000 in
theorem by1 : ∀ a, a < 256 → (a / 2) &&& 5592405 = (a / 2) &&& 85 ∧ (a / 2) &&& 85 ≤ a ∧ a &&& 3355443 = a &&& 51 ∧ (a / 4) &&& 3355443 = (a / 4) &&& 51 ∧ a &&& 986895 = a &&& 15 ∧ u2 a ≤ 102 ∧ u2 a % 16 ≤ 6 ∧ u3 (u2 (u1 a)) = pc a 8 ∧ pc a 8 ≤ 8 := by decide +kernel
set_option maxRecDepth 100000 in
theorem by2 : ∀ b, b < 256 → (∀ e, e < 2 → (128 * e + b / 2) &&& 85 = (b / 2) &&& 85) ∧ (∀ e, e < 4 → (64 * e + b / 4) &&& 51 = (b / 4) &&& 51) := by decide +kernel
set_option maxRecDepth 100000 in
theorem by3 : ∀ b, b < 103 → ∀ e, e < 7 → (b + b / 16 + 16 * e) &&& 15 = u3 b := by decide +kernel
theorem by4 : ∀ a, a < 9 → ∀ b, b < 9 → (256 * a + (b + a)) &&& 63 = b + a := by decide +kernel
theorem pc_split (M : Nat) : ∀ n, pc M (8 + n) = pc M 8 + pc (M / 256) n
  | 0 => rfl
  | n + 1 => by
    show pc M (8 + n) + M / 2 ^ (8 + n) % 2 = pc M 8 + (pc (M / 256) n + M / 256 / 2 ^ n % 2)
    rw [pc_split M n, Nat.div_div_eq_div_mul, show 256 * 2 ^ n = 2 ^ (8 + n) by rw [Nat.pow_add], Nat.add_assoc]
theorem pc_low {a b : Nat} (hb : b < 256) : pc (256 * a + b) 8 = pc b 8 := by
  have h : ∀ k, k < 8 → (256 * a + b) / 2 ^ k % 2 = b / 2 ^ k % 2 := fun k hk => by
    have e : k = 0 ∨ k = 1 ∨ k = 2 ∨ k = 3 ∨ k = 4 ∨ k = 5 ∨ k = 6 ∨ k = 7 := by omega
    rcases e with rfl | rfl | rfl | rfl | rfl | rfl | rfl | rfl <;> omega
  simp only [pc, h 0 (by decide), h 1 (by decide), h 2 (by decide), h 3 (by decide), h 4 (by decide), h 5 (by decide), h 6 (by decide), h 7 (by decide)]
theorem u1_lt {a : Nat} (h : a < 256) : u1 a < 256 := by unfold u1; omega
theorem sw_ok (a : Nat) (ha : a < 256) (b : Nat) (hb : b < 256) : sw (256 * a + b) = pc (256 * a + b) 16 := by
  have A := by1 a ha
  have B := by1 b hb
  have e1 : (256 * a + b) - (((256 * a + b) / 2 ^ 1) &&& 1431655765) = 256 * u1 a + u1 b := by
    have h1 : (256 * a + b) / 2 ^ 1 = 2 ^ 8 * (a / 2) + (128 * (a % 2) + b / 2) := by omega
    have h2 := (by2 b hb).1 (a % 2) (by omega)
    rw [h1, show (1431655765 : Nat) = 2 ^ 8 * 5592405 + 85 from rfl, and_sp (by omega) (by decide), h2, A.1]
    unfold u1
    omega
  have a1 := u1_lt ha
  have b1 := u1_lt hb
  have A1 := by1 _ a1
  have B1 := by1 _ b1
  have e2 : ((256 * u1 a + u1 b) &&& 858993459) + (((256 * u1 a + u1 b) / 2 ^ 2) &&& 858993459) = 256 * u2 (u1 a) + u2 (u1 b) := by
    have h1 : (256 * u1 a + u1 b) / 2 ^ 2 = 2 ^ 8 * (u1 a / 4) + (64 * (u1 a % 4) + u1 b / 4) := by omega
    have h2 := (by2 _ b1).2 (u1 a % 4) (by omega)
    rw [h1, show (858993459 : Nat) = 2 ^ 8 * 3355443 + 51 from rfl, and_sp (by omega) (by decide), A1.2.2.1, and_sp (by omega) (by decide), h2, A1.2.2.2.1]
    unfold u2
    omega
  have e3 : ((256 * u2 (u1 a) + u2 (u1 b)) + (256 * u2 (u1 a) + u2 (u1 b)) / 2 ^ 4) &&& 252645135 = 256 * u3 (u2 (u1 a)) + u3 (u2 (u1 b)) := by
    have a2 := A1.2.2.2.2.2.1
    have b2 := B1.2.2.2.2.2.1
    have a3 := A1.2.2.2.2.2.2.1
    have h1 : (256 * u2 (u1 a) + u2 (u1 b)) + (256 * u2 (u1 a) + u2 (u1 b)) / 2 ^ 4 = 2 ^ 8 * (u2 (u1 a) + u2 (u1 a) / 16) + (u2 (u1 b) + u2 (u1 b) / 16 + 16 * (u2 (u1 a) % 16)) := by omega
    have h2 := by3 (u2 (u1 b)) (by omega) (u2 (u1 a) % 16) (by omega)
    have h3 := (by1 (u2 (u1 a) + u2 (u1 a) / 16) (by omega)).2.2.2.2.1
    rw [h1, show (252645135 : Nat) = 2 ^ 8 * 986895 + 15 from rfl, and_sp (by omega) (by decide), h2, h3]
    rfl
  have A8 := A.2.2.2.2.2.2.2
  have B8 := B.2.2.2.2.2.2.2
  unfold sw
  dsimp only
  rw [e1, e2, e3, A8.1, B8.1, show (16 : Nat) = 8 + 8 from rfl, pc_split, pc_low hb, show (256 * a + b) / 256 = a by omega]
  have h4 : 256 * pc a 8 + pc b 8 + (256 * pc a 8 + pc b 8) / 2 ^ 8 = 256 * pc a 8 + (pc b 8 + pc a 8) := by omega
  rw [h4, show (256 * pc a 8 + (pc b 8 + pc a 8)) / 2 ^ (8 + 8) = 0 by omega, Nat.add_zero, by4 _ (by omega) _ (by omega)]
theorem sw_pc {M : Nat} (h : M < 65536) : sw M = pc M 16 := by
  have := sw_ok (M / 256) (by omega) (M % 256) (by omega)
  rw [show 256 * (M / 256) + M % 256 = M by omega] at this
  exact this
theorem ush (M : Nat) (h : M < 2 ^ 32) (k : Nat) (c : Int32) (hc : ((c.toUInt32 &&& Int32.toUInt32 31).toBitVec % 32).toNat = k) : ((nI M).toUInt32 >>> (c.toUInt32 &&& Int32.toUInt32 31)).toInt32 = nI (M / 2 ^ k) := pk_ushrN h c k hc
theorem bc_ok {M fu : Nat} (h : M < 65536) : J6_bitCount_0f7a4 fu (nI M) = some (nI (pc M 16)) := by
  rw [← sw_pc h]
  unfold J6_bitCount_0f7a4 sw
  have b1 : (M / 2 ^ 1) &&& 1431655765 ≤ M / 2 ^ 1 := Nat.and_le_left
  obtain ⟨s1, e1⟩ : ∃ s, s = M - ((M / 2 ^ 1) &&& 1431655765) := ⟨_, rfl⟩
  have E1 : nI M - (((nI M).toUInt32 >>> ((1 : Int32).toUInt32 &&& Int32.toUInt32 31)).toInt32 &&& 1431655765) = nI s1 := by
    rw [ush M (by omega) 1 1 (by decide), show (1431655765 : Int32) = nI 1431655765 from rfl, fa_and, pk_sub (by omega), ← e1]
  have l1 : s1 < 65536 := by omega
  obtain ⟨s2, e2⟩ : ∃ s, s = (s1 &&& 858993459) + ((s1 / 2 ^ 2) &&& 858993459) := ⟨_, rfl⟩
  have b2 : s1 &&& 858993459 ≤ s1 := Nat.and_le_left
  have b3 : (s1 / 2 ^ 2) &&& 858993459 ≤ s1 / 2 ^ 2 := Nat.and_le_left
  have E2 : (nI s1 &&& 858993459) + (((nI s1).toUInt32 >>> ((2 : Int32).toUInt32 &&& Int32.toUInt32 31)).toInt32 &&& 858993459) = nI s2 := by
    rw [ush s1 (by omega) 2 2 (by decide), show (858993459 : Int32) = nI 858993459 from rfl, fa_and, fa_and, nI_add, ← e2]
  have l2 : s2 < 131072 := by omega
  obtain ⟨s3, e3⟩ : ∃ s, s = (s2 + s2 / 2 ^ 4) &&& 252645135 := ⟨_, rfl⟩
  have b4 : (s2 + s2 / 2 ^ 4) &&& 252645135 ≤ s2 + s2 / 2 ^ 4 := Nat.and_le_left
  have E3 : (nI s2 + ((nI s2).toUInt32 >>> ((4 : Int32).toUInt32 &&& Int32.toUInt32 31)).toInt32) &&& 252645135 = nI s3 := by
    rw [ush s2 (by omega) 4 4 (by decide), nI_add, show (252645135 : Int32) = nI 252645135 from rfl, fa_and, ← e3]
  have l3 : s3 < 200000 := by omega
  obtain ⟨s4, e4⟩ : ∃ s, s = s3 + s3 / 2 ^ 8 := ⟨_, rfl⟩
  have E4 : nI s3 + ((nI s3).toUInt32 >>> ((8 : Int32).toUInt32 &&& Int32.toUInt32 31)).toInt32 = nI s4 := by
    rw [ush s3 (by omega) 8 8 (by decide), nI_add, ← e4]
  have l4 : s4 < 400000 := by omega
  have E5 : nI s4 + ((nI s4).toUInt32 >>> ((16 : Int32).toUInt32 &&& Int32.toUInt32 31)).toInt32 = nI (s4 + s4 / 2 ^ 16) := by
    rw [ush s4 (by omega) 16 16 (by decide), nI_add]
  rw [E1, E2, E3, E4, E5, show (63 : Int32) = nI 63 from rfl, fa_and, e4, e3, e2, e1]
/-- the numbers that g takes something to, below n, as bits -/
def mk (g : Nat → Nat) : Nat → Nat
  | 0 => 0
  | n + 1 => mk g n ||| 2 ^ g n
theorem sh1 : ∀ v, v < 16 → (1 : Int32) <<< (nI v &&& 31) = nI (2 ^ v) := by decide
theorem bitat : ∀ v, v < 16 → ((nI v &&& 31).toBitVec.smod 32).toNat = v := by decide
theorem mk_lt {g : Nat → Nat} {q : Nat} (hg : ∀ x, x < q → g x < q) : ∀ n, n ≤ q → mk g n < 2 ^ q
  | 0, _ => Nat.two_pow_pos q
  | n + 1, h => Nat.or_lt_two_pow (mk_lt hg n (by omega)) (Nat.pow_lt_pow_right (by decide) (hg n (by omega)))
theorem mk_bit (g : Nat → Nat) (v : Nat) : ∀ n, (mk g n).testBit v = true ↔ ∃ x, x < n ∧ g x = v
  | 0 => by simp [mk]
  | n + 1 => by
    show (mk g n ||| 2 ^ g n).testBit v = true ↔ _
    rw [Nat.testBit_or, Bool.or_eq_true, mk_bit g v n, Nat.testBit_two_pow, decide_eq_true_eq]
    constructor
    · rintro (⟨x, hx, e⟩ | e)
      · exact ⟨x, by omega, e⟩
      · exact ⟨n, by omega, e⟩
    · rintro ⟨x, hx, e⟩
      by_cases h : x = n
      · exact Or.inr (by rw [← h]; exact e)
      · exact Or.inl ⟨x, by omega, e⟩
theorem bit2 (M v : Nat) : M / 2 ^ v % 2 = if M.testBit v then 1 else 0 := by
  rw [Nat.testBit_eq_decide_div_mod_eq]
  by_cases h : M / 2 ^ v % 2 = 1
  · simp [h]
  · have : M / 2 ^ v % 2 = 0 := by omega
    simp [this]
theorem pc_le (M : Nat) : ∀ n, pc M n ≤ n
  | 0 => Nat.le_refl _
  | n + 1 => by have := pc_le M n; show pc M n + M / 2 ^ n % 2 ≤ n + 1; omega
theorem pc_full {M : Nat} : ∀ n, pc M n = n → ∀ v, v < n → M.testBit v = true
  | 0, _, v, h => by omega
  | n + 1, e, v, h => by
    have h1 := pc_le M n
    have e' : pc M n + M / 2 ^ n % 2 = n + 1 := e
    by_cases hv : v = n
    · subst hv
      have : M / 2 ^ v % 2 = 1 := by omega
      rw [Nat.testBit_eq_decide_div_mod_eq, this]
      rfl
    · exact pc_full n (by omega) v (by omega)
theorem pc_ext {M q : Nat} (h : M < 2 ^ q) : ∀ n, q ≤ n → pc M n = pc M q := by
  intro n
  induction n with
  | zero => intro hn; rw [Nat.le_zero.mp hn]
  | succ n ih =>
    intro hn
    by_cases e : q = n + 1
    · rw [e]
    · show pc M n + M / 2 ^ n % 2 = _
      rw [ih (by omega)]
      have h2 : M < 2 ^ n := Nat.lt_of_lt_of_le h (Nat.pow_le_pow_right (by decide) (by omega))
      rw [Nat.div_eq_of_lt h2]
      rfl
/-- how many numbers a map takes something to -/
def img (q : Nat) (g : Nat → Nat) : Nat := pc (mk g q) q
section
variable {q : Nat} {su pr ms ro : Nat → Int32} {RR : Nat → Nat → Int32} {f : Nat → Nat → Nat} {th : Int32} {tr ak : Int64} {g : Nat → Nat}
theorem img_le : img q g ≤ q := pc_le _ q
theorem img_full (h : img q g = q) : ∀ v, v < q → ∃ x, x < q ∧ g x = v := fun v hv => (mk_bit g v q).mp (pc_full q h v hv)
theorem or_s {M v : Nat} (hv : v < 16) : nI M ||| (1 <<< (nI v &&& 31)) = nI (M ||| 2 ^ v) := by rw [sh1 v hv, fa_or]
theorem x_image (hs : q ∈ sizes) {j : Nat} (hg : ∀ x, x < q → g x < q ∧ RR j x = nI (g x)) : X3_imageSize FU q (nI q) RR j = some (nI (img q g)) := by
  have hq := sz_2 q hs
  have hgl : ∀ x, x < q → g x < q := fun x hx => (hg x hx).1
  have hlt := mk_lt hgl q (Nat.le_refl q)
  have h16 : mk g q < 65536 := Nat.lt_of_lt_of_le hlt (Nat.pow_le_pow_right (n := 2) (j := 16) (by decide) hq.2)
  unfold X3_imageSize X3_imageSize_4
  refine itr_for (ap := fun (t : Int32 → Int32 → Option Int32) n => t (nI (mk g n)) (nI n)) q (fun t => ?_) (fun t n hn => ?_) FU 0 (Nat.zero_le _) (FU_lt (by omega))
  · unfold X3_imageSize_4_b
    rw [if_pos (Int32.le_refl _), bc_ok h16, pc_ext hlt 16 hq.2]
    rfl
  · unfold X3_imageSize_4_b
    rw [if_neg (nI_ge hn (by omega)), ckI_ok (show n < 16 by omega) (by decide), nI_clamp (by omega), (hg n hn).2, or_s (by have := hgl n hn; omega), nI_1]
    rfl
theorem a_image (hs : q ∈ sizes) {i : Nat} (hi : i < 4) (hg : ∀ x, x < q → g x < q ∧ ms (16 * i + x) = nI (g x)) : X4_imageOf FU (nI q) ms (nI i) = some (nI (img q g)) := by
  have hq := sz_2 q hs
  have hgl : ∀ x, x < q → g x < q := fun x hx => (hg x hx).1
  have hlt := mk_lt hgl q (Nat.le_refl q)
  have h16 : mk g q < 65536 := Nat.lt_of_lt_of_le hlt (Nat.pow_le_pow_right (n := 2) (j := 16) (by decide) hq.2)
  have inner : X4_imageOf_39 FU (nI q) ms (nI (mk g q)) FU 0 0 = some (nI (img q g)) := by
    unfold X4_imageOf_39
    refine itr_for (ap := fun (t : Int32 → Int32 → Option Int32) n => t (nI (pc (mk g q) n)) (nI n)) q (fun t => ?_) (fun t n hn => ?_) FU 0 (Nat.zero_le _) (FU_lt (by omega))
    · unfold X4_imageOf_39_b
      rw [if_pos (Int32.le_refl _)]
      rfl
    · unfold X4_imageOf_39_b
      rw [if_neg (nI_ge hn (by omega)), pk_shrN (by omega) _ n (bitat n (by omega)), pk_andN (Nat.lt_of_le_of_lt (Nat.div_le_self _ _) (by omega)) 1 (by decide), nI_add, nI_1]
      rfl
  unfold X4_imageOf X4_imageOf_4
  refine itr_for (ap := fun (t : Int32 → Int32 → Option Int32) n => t (nI (mk g n)) (nI n)) q (fun t => ?_) (fun t n hn => ?_) FU 0 (Nat.zero_le _) (FU_lt (by omega))
  · unfold X4_imageOf_4_b
    rw [if_pos (Int32.le_refl _)]
    exact inner
  · unfold X4_imageOf_4_b
    rw [if_neg (nI_ge hn (by omega)), idx16, ckI_ok (by omega) (by decide), nI_clamp (by omega), (hg n hn).2, or_s (by have := hgl n hn; omega), nI_1]
    rfl
/-- 1 if a map shuffles, else 0 -/
def shf (q : Nat) (g : Nat → Nat) : Nat := if img q g = q then 1 else 0
theorem x_isShuffle (hs : q ∈ sizes) {j : Nat} (hg : ∀ x, x < q → g x < q ∧ RR j x = nI (g x)) : X3_isShuffle FU q (nI q) RR j = some (nI (shf q g)) := by
  have hq := sz_2 q hs
  have hl := img_le (q := q) (g := g)
  unfold X3_isShuffle shf
  rw [x_image hs hg, Option.bind_some]
  by_cases h : img q g = q
  · rw [h, if_pos rfl, if_pos rfl]; rfl
  · rw [if_neg (fun e => h ((nI_eq (by omega) (by omega)).mp e)), if_neg h]; rfl
theorem a_isShuffle (hs : q ∈ sizes) {i : Nat} (hi : i < 4) (hg : ∀ x, x < q → g x < q ∧ ms (16 * i + x) = nI (g x)) : X4_isShuffle FU (nI q) ms (nI i) = some (nI (shf q g)) := by
  have hq := sz_2 q hs
  have hl := img_le (q := q) (g := g)
  unfold X4_isShuffle shf
  rw [a_image hs hi hg, Option.bind_some]
  by_cases h : img q g = q
  · rw [h, if_pos rfl, if_pos rfl]; rfl
  · rw [if_neg (fun e => h ((nI_eq (by omega) (by omega)).mp e)), if_neg h]; rfl
theorem shf01 : shf q g = 0 ∨ shf q g = 1 := by
  unfold shf
  split
  · exact Or.inr rfl
  · exact Or.inl rfl
theorem shf_1 (h : shf q g = 1) : img q g = q := by
  unfold shf at h
  split at h
  · assumption
  · cases h
theorem R_image (hs : q ∈ sizes) (hR : Rel q f RR ms) (v1 : Int32) : ∃ r, X3_image FU q (nI q) RR v1 = some r ∧ X4_image FU th (nI q) ms v1 = some (r, 0) := by
  have hq := sz_2 q hs
  rcases ixc v1 (n := 4) (by omega) with h | ⟨i, hi, rfl⟩
  · exact ⟨-1, by unfold X3_image; rw [x_mapN h]; rfl, by unfold X4_image; rw [a_mapN h]; rfl⟩
  · refine ⟨nI (img q (f i)), ?_, ?_⟩
    · unfold X3_image
      rw [x_map hi, ckI_ok hi (by decide), nI_clamp (by omega), x_image hs (hR.x hi)]
      rfl
    · unfold X4_image
      rw [a_map hi, a_image hs hi (hR.a hi)]
      rfl
theorem x_truth {fu : Nat} {b : Nat} (h : b = 0 ∨ b = 1) : X3_truth fu (nI b) = some (nI b) := by
  rcases h with rfl | rfl <;> rfl
theorem R_shuffles (hs : q ∈ sizes) (hR : Rel q f RR ms) (v1 : Int32) : ∃ r, X3_shuffles FU q (nI q) RR v1 = some r ∧ X4_shuffles FU th (nI q) ms v1 = some (r, 0) := by
  have hq := sz_2 q hs
  rcases ixc v1 (n := 4) (by omega) with h | ⟨i, hi, rfl⟩
  · exact ⟨-1, by unfold X3_shuffles; rw [x_mapN h]; rfl, by unfold X4_shuffles; rw [a_mapN h]; rfl⟩
  · refine ⟨nI (shf q (f i)), ?_, ?_⟩
    · unfold X3_shuffles
      rw [x_map hi, ckI_ok hi (by decide), nI_clamp (by omega), x_isShuffle hs (hR.x hi)]
      show Option.bind (X3_truth FU (nI (shf q (f i)))) _ = _
      rw [x_truth shf01]
      rfl
    · unfold X4_shuffles
      rw [a_map hi, a_isShuffle hs hi (hR.a hi)]
      rcases shf01 (q := q) (g := f i) with e | e <;> rw [e] <;> rfl
/-- how many of the first n maps shuffle -/
def cnt (q : Nat) (f : Nat → Nat → Nat) : Nat → Nat
  | 0 => 0
  | n + 1 => cnt q f n + shf q (f n)
theorem R_count (hs : q ∈ sizes) (hR : Rel q f RR ms) (v1 : Int32) : ∃ r, X3_count FU q (nI q) RR (nI (prm q)) v1 = some r ∧ X4_count FU th (nI q) (nI (prm q)) ms v1 = some (r, 0) := by
  have hq := sz_2 q hs
  have hx : X3_shufflingMaps FU q (nI q) RR = some (nI (cnt q f 4)) := by
    unfold X3_shufflingMaps X3_shufflingMaps_4
    refine itr_for (ap := fun (t : Int32 → Int32 → Option Int32) n => t (nI (cnt q f n)) (nI n)) 4 (fun t => ?_) (fun t n hn => ?_) FU 0 (Nat.zero_le _) (FU_lt (by omega))
    · unfold X3_shufflingMaps_4_b
      rw [if_pos (show (4 : Int32) ≤ nI 4 by decide)]
    · unfold X3_shufflingMaps_4_b
      rw [if_neg (show ¬ (4 : Int32) ≤ nI n from nI_ge (a := n) (b := 4) hn (by decide)), ckI_ok hn (by decide), nI_clamp (by omega), x_isShuffle hs (hR.x hn), Option.bind_some, x_truth shf01, Option.bind_some, nI_add, nI_1]
      rfl
  have ha : X4_count FU th (nI q) (nI (prm q)) ms v1 = (if v1 = 0 then (some (nI q, 0)) else (if v1 = 1 then (some (nI (prm q), 0)) else (if v1 = 2 then (some (nI (cnt q f 4), 0)) else (some ((-1), 0))))) := by
    unfold X4_count X4_count_9
    refine itr_for (ap := fun (t : Int32 → Int32 → Option (Int32 × Int32)) n => t (nI (cnt q f n)) (nI n)) 4 (fun t => ?_) (fun t n hn => ?_) FU 0 (Nat.zero_le _) (FU_lt (by omega))
    · unfold X4_count_9_b
      rw [if_pos (show (4 : Int32) ≤ nI 4 by decide)]
    · unfold X4_count_9_b X4_count_28
      rw [if_neg (show ¬ (4 : Int32) ≤ nI n from nI_ge (a := n) (b := 4) hn (by decide)), a_isShuffle hs hn (hR.a hn), Option.bind_some]
      have es : cnt q f (n + 1) = cnt q f n + shf q (f n) := rfl
      rcases shf01 (q := q) (g := f n) with e | e
      · rw [e, if_pos nI_0, es, e, nI_1, show (0 : Int32) = nI 0 from rfl, nI_add]
      · rw [e, if_neg (by decide), es, e, nI_1, show (1 : Int32) = nI 1 from rfl, nI_add]
  rw [ha]
  unfold X3_count
  rw [hx, Option.bind_some]
  by_cases h0 : v1 = 0
  · exact ⟨nI q, if_pos h0, if_pos h0⟩
  rw [if_neg h0, if_neg h0]
  by_cases h1 : v1 = 1
  · exact ⟨nI (prm q), if_pos h1, if_pos h1⟩
  rw [if_neg h1, if_neg h1]
  by_cases h2 : v1 = 2
  · exact ⟨nI (cnt q f 4), if_pos h2, if_pos h2⟩
  · exact ⟨-1, if_neg h2, if_neg h2⟩
/-- how many x below n go to c x -/
def eqs (g c : Nat → Nat) : Nat → Nat
  | 0 => 0
  | n + 1 => eqs g c n + (if g n = c n then 1 else 0)
theorem eqs_le (g c : Nat → Nat) : ∀ n, eqs g c n ≤ n
  | 0 => Nat.le_refl _
  | n + 1 => by
    have := eqs_le g c n
    show eqs g c n + (if g n = c n then 1 else 0) ≤ n + 1
    split <;> omega
theorem eqs_s (g c : Nat → Nat) (n : Nat) : eqs g c (n + 1) = eqs g c n + (if g n = c n then 1 else 0) := rfl
theorem R_fixed (hs : q ∈ sizes) (hR : Rel q f RR ms) (v1 : Int32) : ∃ r, X3_fixed FU q (nI q) RR v1 = some r ∧ X4_fixed FU th (nI q) ms v1 = some (r, 0) := by
  have hq := sz_2 q hs
  rcases ixc v1 (n := 4) (by omega) with h | ⟨i, hi, rfl⟩
  · exact ⟨-1, by unfold X3_fixed; rw [x_mapN h]; rfl, by unfold X4_fixed; rw [a_mapN h]; rfl⟩
  have hgl : ∀ x, x < q → f i x < q := fun x hx => (hR i hi x hx).1
  refine ⟨nI (eqs (f i) (fun x => x) q), ?_, ?_⟩
  · unfold X3_fixed
    rw [x_map hi, Option.bind_some, if_neg (by decide)]
    unfold X3_fixed_13
    refine itr_for (ap := fun (t : Int32 → Int32 → Option Int32) n => t (nI (eqs (f i) (fun x => x) n)) (nI n)) q (fun t => ?_) (fun t n hn => ?_) FU 0 (Nat.zero_le _) (FU_lt (by omega))
    · unfold X3_fixed_13_b
      rw [if_pos (Int32.le_refl _)]
    · unfold X3_fixed_13_b X3_fixed_39
      have hl := hgl n hn
      rw [if_neg (nI_ge hn (by omega)), ckI_ok hi (by decide), ckI_ok (show n < 16 by omega) (by decide), nI_clamp (show i < 2 ^ 31 by omega), nI_clamp (show n < 2 ^ 31 by omega), (hR i hi n hn).2.1, eqs_s]
      by_cases e : f i n = n
      · rw [if_pos (by rw [e]), if_pos e]
        show t (nI (eqs (f i) (fun x => x) n) + nI 1) (nI n + 1) = _
        rw [nI_add, nI_1]
      · rw [if_neg (fun z => e ((nI_eq (by omega) (by omega)).mp z)), if_neg e]
        show t (nI (eqs (f i) (fun x => x) n) + nI 0) (nI n + 1) = _
        rw [nI_add, nI_1]
  · unfold X4_fixed
    rw [a_map hi, Option.bind_some, if_neg (by decide)]
    unfold X4_fixed_18
    refine itr_for (ap := fun (t : Int32 → Int32 → Option (Int32 × Int32)) n => t (nI (eqs (f i) (fun x => x) n)) (nI n)) q (fun t => ?_) (fun t n hn => ?_) FU 0 (Nat.zero_le _) (FU_lt (by omega))
    · unfold X4_fixed_18_b
      rw [if_pos (Int32.le_refl _)]
    · unfold X4_fixed_18_b X4_fixed_47
      have hl := hgl n hn
      rw [if_neg (nI_ge hn (by omega)), idx16, ckI_ok (by omega) (by decide), nI_clamp (by omega), (hR i hi n hn).2.2, eqs_s]
      by_cases e : f i n = n
      · rw [if_pos (by rw [e]), if_pos e]
        show t (nI (eqs (f i) (fun x => x) n) + nI 1) (nI n + 1) = _
        rw [nI_add, nI_1]
      · rw [if_neg (fun z => e ((nI_eq (by omega) (by omega)).mp z)), if_neg e]
        show t (nI (eqs (f i) (fun x => x) n) + nI 0) (nI n + 1) = _
        rw [nI_add, nI_1]
/-- rows as they are turned back, x by x -/
def trn (base : Nat → Int32) (g : Nat → Nat) : Nat → Nat → Int32
  | 0 => base
  | n + 1 => upd (trn base g n) (g n) (nI n)
/-- the last x below n that goes to v -/
def inv (g : Nat → Nat) (v : Nat) : Nat → Nat
  | 0 => 0
  | n + 1 => if g n = v then n else inv g v n
theorem inv_lt {g : Nat → Nat} {v : Nat} : ∀ n, 0 < n → inv g v n < n
  | 0, h => by omega
  | n + 1, _ => by
    show (if g n = v then n else inv g v n) < n + 1
    split
    · omega
    · rcases Nat.eq_zero_or_pos n with z | z
      · subst z; show 0 < 0 + 1; omega
      · have := inv_lt (g := g) (v := v) n z; omega
theorem trn_at {base : Nat → Int32} {g : Nat → Nat} {v : Nat} : ∀ n, (∃ x, x < n ∧ g x = v) → trn base g n v = nI (inv g v n)
  | 0, h => by obtain ⟨x, hx, _⟩ := h; omega
  | n + 1, h => by
    show upd (trn base g n) (g n) (nI n) v = nI (if g n = v then n else inv g v n)
    by_cases e : g n = v
    · rw [if_pos e, ← e, pk_us]
    · rw [if_neg e, pk_un (Ne.symm e)]
      refine trn_at n ?_
      obtain ⟨x, hx, hv⟩ := h
      exact ⟨x, by
        rcases Nat.lt_or_ge x n with z | z
        · exact z
        · have : x = n := by omega
          subst this
          exact absurd hv e, hv⟩
theorem R_turn (hs : q ∈ sizes) (hR : Rel q f RR ms) (v1 : Int32) : ∃ r RR2 ms2 ro2 f2, X3_turn FU q (nI q) RR v1 = some (r, RR2) ∧ X4_turn FU th (nI q) ms ro v1 = some (r, 0, ms2, ro2) ∧ Rel q f2 RR2 ms2 := by
  have hq := sz_2 q hs
  rcases ixc v1 (n := 4) (by omega) with h | ⟨i, hi, rfl⟩
  · exact ⟨-1, RR, ms, ro, f, by unfold X3_turn; rw [x_mapN h]; rfl, by unfold X4_turn; rw [a_mapN h]; rfl, hR⟩
  have hgl : ∀ x, x < q → f i x < q := fun x hx => (hR i hi x hx).1
  rcases shf01 (q := q) (g := f i) with e | e
  · refine ⟨-2, RR, ms, ro, f, ?_, ?_, hR⟩
    · unfold X3_turn
      rw [x_map hi, ckI_ok hi (by decide), nI_clamp (by omega), x_isShuffle hs (hR.x hi), e]
      rfl
    · unfold X4_turn
      rw [a_map hi, a_isShuffle hs hi (hR.a hi), e]
      rfl
  have hsur := img_full (shf_1 e)
  obtain ⟨S, eS⟩ : ∃ S : Nat → Nat → Int32, S = va_up RR 4 (trn (RR 4) (f i) q) := ⟨_, rfl⟩
  refine ⟨1, va_up S i (va_cpy (S 4) (S i) 0 0 q), put ms (trn ro (f i) q) (16 * i) q, trn ro (f i) q, fup f i (fun v => inv (f i) v q), ?_, ?_, ?_⟩
  · unfold X3_turn
    rw [x_map hi, Option.bind_some, if_neg (by decide), ckI_ok hi (by decide), nI_clamp (by omega), x_isShuffle hs (hR.x hi), e, Option.bind_some, if_neg (by decide)]
    unfold X3_turn_27
    have key := itr_for (bot := fun (_ : Nat → Nat → Int32) (_ : Int32) => (none : Option (Int32 × (Nat → Nat → Int32)))) (F := X3_turn_27_b FU q (nI q) (nI i)) (ap := fun t n => t (va_up RR 4 (trn (RR 4) (f i) n)) (nI n)) (R := some (1, va_up S i (va_cpy (S 4) (S i) 0 0 q))) q (fun t => ?_) (fun t n hn => ?_) FU 0 (Nat.zero_le _) (FU_lt (by omega))
    · rw [show va_up RR 4 (trn (RR 4) (f i) 0) = RR from vu_id RR 4] at key
      exact key
    · show X3_turn_27_b FU q (nI q) (nI i) t (va_up RR 4 (trn (RR 4) (f i) q)) (nI q) = _
      unfold X3_turn_27_b
      rw [if_pos (Int32.le_refl _), ← eS, x_putSpare hs hi]
      rfl
    · show X3_turn_27_b FU q (nI q) (nI i) t (va_up RR 4 (trn (RR 4) (f i) n)) (nI n) = t (va_up RR 4 (trn (RR 4) (f i) (n + 1))) (nI (n + 1))
      unfold X3_turn_27_b
      have hl := hgl n hn
      rw [if_neg (nI_ge hn (by omega)), ckI_ok hi (by decide), ckI_ok (show n < 16 by omega) (by decide), nI_clamp (show i < 2 ^ 31 by omega), nI_clamp (show n < 2 ^ 31 by omega), vu_n (show i ≠ 4 by omega), (hR i hi n hn).2.1, ckI_ok (show f i n < 16 by omega) (by decide), nI_clamp (show f i n < 2 ^ 31 by omega), vu_s, bx_uu, nI_1]
      rfl
  · unfold X4_turn
    rw [a_map hi, Option.bind_some, if_neg (by decide), a_isShuffle hs hi (hR.a hi), e, Option.bind_some, if_neg (by decide)]
    unfold X4_turn_27
    refine itr_for (bot := fun (_ : Nat → Int32) (_ : Int32) => (none : Option (Int32 × Int32 × (Nat → Int32) × (Nat → Int32)))) (F := X4_turn_27_b FU 0 (nI q) ms (nI i)) (ap := fun t n => t (trn ro (f i) n) (nI n)) (R := some (1, 0, put ms (trn ro (f i) q) (16 * i) q, trn ro (f i) q)) q (fun t => ?_) (fun t n hn => ?_) FU 0 (Nat.zero_le _) (FU_lt (by omega))
    · show X4_turn_27_b FU 0 (nI q) ms (nI i) t (trn ro (f i) q) (nI q) = _
      unfold X4_turn_27_b
      rw [if_pos (Int32.le_refl _), a_lays hs hi]
      rfl
    · show X4_turn_27_b FU 0 (nI q) ms (nI i) t (trn ro (f i) n) (nI n) = t (trn ro (f i) (n + 1)) (nI (n + 1))
      unfold X4_turn_27_b
      have hl := hgl n hn
      rw [if_neg (nI_ge hn (by omega)), idx16, ckI_ok (by omega) (by decide), nI_clamp (by omega), (hR i hi n hn).2.2, ckI_ok (show f i n < 16 by omega) (by decide), nI_clamp (show f i n < 2 ^ 31 by omega), nI_1]
      rfl
  · exact Rel_spare hs hR hi (fun v hv => inv_lt q (by omega)) (fun v hv => by rw [eS, vu_s, trn_at q (hsur v hv)]) (fun j hj x _ => by rw [eS, vu_n (by omega)]) (fun v hv => trn_at q (hsur v hv))
end
