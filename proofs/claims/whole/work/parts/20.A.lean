def tabA (q : Nat) : Nat := if q = 2 then 0x10000000000000010 else if q = 3 then 0x10200000000000000210000000000000210 else if q = 4 then 0x123000000000000103200000000000023010000000000003210 else if q = 5 then 0x321040000000000021043000000000001043200000000000043210000000000043210 else if q = 7 then 0x5432106000000000432106500000000032106540000000002106543000000000106543200000000006543210000000006543210 else if q = 8 then 0x12345670000000010325476000000002301674500000000321076540000000045670123000000005476103200000000674523010000000076543210 else if q = 9 then 0x43510276800000003540216870000000543210876000000010276843500000000216873540000000210876543000000076843510200000006873540210000000876543210 else if q = 11 then 0x9876543210a00000876543210a90000076543210a98000006543210a98700000543210a98760000043210a98765000003210a98765400000210a98765430000010a98765432000000a98765432100000a9876543210 else if q = 13 then 0xba9876543210c000a9876543210cb0009876543210cba000876543210cba900076543210cba980006543210cba987000543210cba987600043210cba987650003210cba987654000210cba987654300010cba987654320000cba987654321000cba9876543210 else if q = 16 then 0x123456789abcdef1032547698badcfe23016745ab89efcd32107654ba98fedc45670123cdef89ab54761032dcfe98ba67452301efcdab8976543210fedcba9889abcdef0123456798badcfe10325476ab89efcd23016745ba98fedc32107654cdef89ab45670123dcfe98ba54761032efcdab8967452301fedcba9876543210 else 0
def tabM (q : Nat) : Nat := if q = 2 then 0x100000000000000000 else if q = 3 then 0x12000000000000002100000000000000000 else if q = 4 then 0x2130000000000000132000000000000032100000000000000000 else if q = 5 then 0x123400000000000024130000000000003142000000000000432100000000000000000 else if q = 7 then 0x1234560000000000246135000000000036251400000000004152630000000000531642000000000065432100000000000000000 else if q = 8 then 0x346125700000000042351760000000006372415000000000152673400000000021475630000000005713642000000000765432100000000000000000 else if q = 9 then 0x61523748000000001386245700000000582471360000000026431875000000003271658400000000741852630000000045378612000000008765432100000000000000000 else if q = 11 then 0x123456789a0000002468a13579000000369147a2580000004815926a370000005a4938271600000061728394a500000073a6295184000000852a74196300000097531a8642000000a98765432100000000000000000 else if q = 13 then 0x123456789abc00002468ac13579b0000369c258b147a000048c37b26a15900005a27c4916b3800006c5b4a3928170000718293a4b5c6000083b6194c72a50000951a62b73c840000a741b852c9630000b97531ca86420000cba98765432100000000000000000 else if q = 16 then 0xa5783ce1b4692df05ba48679c23d1fe07ae36bf258c149d0843fd16a2e957bc0386d92c74f1ae5b0c6b1285f394ed7a0e7f6c5d4a3b28190192a7f4cd5e6b380bc5243ad618f9e70428ef93517dbac6063c914be8d27fa509d15ae26fb73c8402147ed8b9afc5630df9b5713eca86420fedcba98765432100000000000000000 else 0
def tabN (q : Nat) : Nat := if q = 2 then 0x10 else if q = 3 then 0x120 else if q = 4 then 0x3210 else if q = 5 then 0x12340 else if q = 7 then 0x1234560 else if q = 8 then 0x76543210 else if q = 9 then 0x453786120 else if q = 11 then 0x123456789a0 else if q = 13 then 0x123456789abc0 else if q = 16 then 0xfedcba9876543210 else 0
def tabI (q : Nat) : Nat := if q = 2 then 0x10 else if q = 3 then 0x210 else if q = 4 then 0x2310 else if q = 5 then 0x42310 else if q = 7 then 0x6325410 else if q = 8 then 0x43276510 else if q = 9 then 0x783456210 else if q = 11 then 0xa5782934610 else if q = 13 then 0xc64352b8a9710 else if q = 16 then 0x834a5c2f67bde910 else 0
def AD (q a b : Nat) : Nat := (tabA q >>> (4 * (16 * a + b))) % 16
def MU (q a b : Nat) : Nat := (tabM q >>> (4 * (16 * a + b))) % 16
def NG (q a : Nat) : Nat := (tabN q >>> (4 * a)) % 16
def IV (q a : Nat) : Nat := (tabI q >>> (4 * a)) % 16
def sizes : List Nat := [2, 3, 4, 5, 7, 8, 9, 11, 13, 16]
def prm (q : Nat) : Nat := if q = 4 ∨ q = 8 ∨ q = 16 then 2 else if q = 9 then 3 else q
def PW (q a : Nat) : Nat → Nat
  | 0 => 1
  | e + 1 => MU q (PW q a e) a
theorem sz_2 : ∀ q ∈ sizes, 2 ≤ q ∧ q ≤ 16 := by decide
theorem k_AD : ∀ q ∈ sizes, ∀ a, a < q → ∀ b, b < q → AD q a b < q ∧ AD q a b = AD q b a ∧ MU q a b < q ∧ MU q a b = MU q b a := by decide +kernel
theorem k_ass : ∀ q ∈ sizes, ∀ a, a < q → ∀ b, b < q → ∀ c, c < q → AD q (AD q a b) c = AD q a (AD q b c) ∧ MU q (MU q a b) c = MU q a (MU q b c) ∧ MU q (AD q a b) c = AD q (MU q a c) (MU q b c) := by decide +kernel
theorem k_unit : ∀ q ∈ sizes, ∀ a, a < q → AD q 0 a = a ∧ AD q a 0 = a ∧ MU q 1 a = a ∧ MU q a 1 = a ∧ MU q 0 a = 0 ∧ MU q a 0 = 0 ∧ NG q a < q ∧ AD q a (NG q a) = 0 ∧ IV q a < q ∧ (a ≠ 0 → MU q a (IV q a) = 1 ∧ IV q a ≠ 0) := by decide +kernel
theorem k_first : ∀ q ∈ sizes, ∀ a, a < q → (∀ v, v < NG q a → AD q a v ≠ 0) ∧ (∀ v, v < IV q a → MU q a v ≠ 1) := by decide +kernel
theorem k_sub : ∀ q ∈ sizes, ∀ a, a < q → ∀ b, b < q → ∀ v, v < q → (AD q a (NG q b) = v ↔ a = AD q b v) := by decide +kernel
theorem k_pow : ∀ q ∈ sizes, ∀ a, a < q → PW q a q = a := by decide +kernel
section
variable {q a b c : Nat}
theorem AD_lt (h : q ∈ sizes) (ha : a < q) (hb : b < q) : AD q a b < q := (k_AD q h a ha b hb).1
theorem MU_lt (h : q ∈ sizes) (ha : a < q) (hb : b < q) : MU q a b < q := (k_AD q h a ha b hb).2.2.1
theorem AD_comm (h : q ∈ sizes) (ha : a < q) (hb : b < q) : AD q a b = AD q b a := (k_AD q h a ha b hb).2.1
theorem MU_comm (h : q ∈ sizes) (ha : a < q) (hb : b < q) : MU q a b = MU q b a := (k_AD q h a ha b hb).2.2.2
theorem NG_lt (h : q ∈ sizes) (ha : a < q) : NG q a < q := (k_unit q h a ha).2.2.2.2.2.2.1
theorem IV_lt (h : q ∈ sizes) (ha : a < q) : IV q a < q := (k_unit q h a ha).2.2.2.2.2.2.2.2.1
theorem PW_lt (h : q ∈ sizes) (ha : a < q) : ∀ e, PW q a e < q
  | 0 => by have := (sz_2 q h).1; show 1 < q; omega
  | e + 1 => MU_lt h (PW_lt h ha e) ha
theorem PW_1 (h : q ∈ sizes) (ha : a < q) : PW q a 1 = a := (k_unit q h a ha).2.2.1
/-- behind the power q - 1 the powers come again -/
theorem PW_per (h : q ∈ sizes) (ha : a < q) : ∀ e, PW q a (q + e) = PW q a (1 + e)
  | 0 => by rw [Nat.add_zero, k_pow q h a ha, Nat.add_zero, PW_1 h ha]
  | e + 1 => by
    show MU q (PW q a (q + e)) a = MU q (PW q a (1 + e)) a
    rw [PW_per h ha e]
theorem PW_mod (h : q ∈ sizes) (ha : a < q) : ∀ (n e : Nat), e ≤ n → PW q a (1 + e) = PW q a (1 + e % (q - 1)) := by
  have h2 := (sz_2 q h).1
  intro n
  induction n with
  | zero => intro e he; rw [Nat.le_zero.mp he, Nat.zero_mod]
  | succ n ih =>
    intro e he
    by_cases hlt : e < q - 1
    · rw [Nat.mod_eq_of_lt hlt]
    · have e1 : 1 + e = q + (e - (q - 1)) := by omega
      rw [e1, PW_per h ha, ih (e - (q - 1)) (by omega)]
      have e2 : e = (q - 1) + (e - (q - 1)) := by omega
      have e3 : e % (q - 1) = (e - (q - 1)) % (q - 1) := by
        conv => lhs; rw [e2]
        rw [Nat.add_mod_left]
      rw [e3]
end
/-- a loop whose states are known: it comes to R -/
theorem itr_for {τ : Type} {β : Type} {bot : τ} {F : τ → τ} {ap : τ → Nat → Option β} {R : Option β} (n : Nat) (hex : ∀ t, ap (F t) n = R) (hst : ∀ t i, i < n → ap (F t) i = ap t (i + 1)) : ∀ (fk i : Nat), i ≤ n → n - i < fk → ap (itr bot F fk) i = R := by
  intro fk
  induction fk with
  | zero => intro i _ h; omega
  | succ fk ih =>
    intro i hi hf
    show ap (F (itr bot F fk)) i = R
    by_cases he : i = n
    · rw [he]; exact hex _
    · rw [hst _ i (by omega)]
      exact ih (i + 1) (by omega) (by omega)
def FU : Nat := 1000000
theorem FU_lt {n : Nat} (h : n < 1000000) : n < FU := h
theorem ckI_ok {α : Type} {i n : Nat} {k : Option α} (h : i < n) (hn : n < 2 ^ 31) : ckI (nI i) n k = k := by
  unfold ckI
  exact if_neg (nI_in h hn)
theorem ckZ_ok {α : Type} {y : Nat} {k : Option α} (h : 0 < y) (hn : y < 2 ^ 31) : ckZ (nI y) k = k := by
  unfold ckZ
  exact if_neg (nI_ne0 h hn)
theorem ckB_ok {α : Type} {v : Int32} {k : Option α} (h : v = 0 ∨ v = 1) : ckB v k = k := by
  unfold ckB
  exact if_pos h
theorem idx16 (a b : Nat) : 16 * nI a + nI b = nI (16 * a + b) := by
  rw [show (16 : Int32) = nI 16 from rfl, pk_mul, nI_add]
theorem idxq (q a b : Nat) : nI a * nI q + nI b = nI (a * q + b) := by
  rw [pk_mul, nI_add]
theorem nI_m1 {n : Nat} (h : 0 < n) : nI n - 1 = nI (n - 1) := by
  rw [show (1 : Int32) = nI 1 from rfl, pk_sub (by omega)]
/-- the tables of the class -/
def T0 (q : Nat) : Nat → Int32 := fun i => nI (AD q (i / q) (i % q))
def T1 (q : Nat) : Nat → Int32 := fun i => nI (MU q (i / q) (i % q))
def T2 (q : Nat) : Nat → Int32 := fun i => nI (PW q (i / q) (i % q))
def T3 (q : Nat) : Nat → Int32 := fun i => nI (NG q i)
def T4 (q : Nat) : Nat → Int32 := fun i => nI (IV q i)
