def X0_sum (fu : Nat) (N : Nat)  (fq : Int32) (t0 : Nat → Int32) (v1 : Int32) (v2 : Int32) : Option Int32 :=
  (ckI ((v1 * fq) + v2) (N * N) (some (t0 ((v1 * fq) + v2).toNatClampNeg)))
def X0_less (fu : Nat) (N : Nat)  (fq : Int32) (t0 : Nat → Int32) (t3 : Nat → Int32) (v1 : Int32) (v2 : Int32) : Option Int32 :=
  (ckI v2 N (ckI ((v1 * fq) + (t3 v2.toNatClampNeg)) (N * N) (some (t0 ((v1 * fq) + (t3 v2.toNatClampNeg)).toNatClampNeg))))
def X0_product (fu : Nat) (N : Nat)  (fq : Int32) (t1 : Nat → Int32) (v1 : Int32) (v2 : Int32) : Option Int32 :=
  (ckI ((v1 * fq) + v2) (N * N) (some (t1 ((v1 * fq) + v2).toNatClampNeg)))
def X0_inverse (fu : Nat) (N : Nat)  (t4 : Nat → Int32) (v1 : Int32) : Option Int32 :=
  (ckI v1 N (some (t4 v1.toNatClampNeg)))
def X0_raised_34 (fu : Nat) (N : Nat)  (fq : Int32) (t2 : Nat → Int32) (s0 : Int32) (s1 : Int32) : Option Int32 :=
  (ckI (s1 + s0) (N * N) (some (t2 (s1 + s0).toNatClampNeg)))
def X0_raised (fu : Nat) (N : Nat)  (fq : Int32) (t2 : Nat → Int32) (v1 : Int32) (v2 : Int32) : Option Int32 :=
  (if fq ≤ v2 then (ckZ (fq - 1) (X0_raised_34 fu N  fq t2 (1 + ((v2 - 1) - (v2 - 1) / (fq - 1) * (fq - 1))) (v1 * fq))) else (X0_raised_34 fu N  fq t2 v2 (v1 * fq)))
def X0_primeOf (fu : Nat)  (v0 : Int32) : Option Int32 :=
  (if v0 = 4 then (some (2)) else (if v0 = 8 then (some (2)) else (if v0 = 9 then (some (3)) else (if v0 = 16 then (some (2)) else (some (v0))))))
def X0_digitwise_5_b (fu : Nat) (N : Nat)  (fp : Int32) (fq : Int32) (v1 : Int32) (v2 : Int32) (rc5 : Int32 → Int32 → Option Int32) (v3 : Int32) (v4 : Int32) : Option Int32 :=
  (if fq ≤ v4 then (some (v3)) else (ckZ v4 (ckZ v4 (ckZ fp (rc5 (v3 + ((((v1 / v4) + (v2 / v4)) - ((v1 / v4) + (v2 / v4)) / fp * fp) * v4)) (v4 * fp))))))
def X0_digitwise_5 (fu : Nat) (N : Nat)  (fp : Int32) (fq : Int32) (v1 : Int32) (v2 : Int32) (fk : Nat) : Int32 → Int32 → Option Int32 := itr (fun _ _ => none) (X0_digitwise_5_b fu N  fp fq v1 v2) fk
def X0_digitwise (fu : Nat) (N : Nat)  (fp : Int32) (fq : Int32) (v1 : Int32) (v2 : Int32) : Option Int32 :=
  (X0_digitwise_5 fu N  fp fq v1 v2 fu 0 1)
def X0_fillSums_52 (fu : Nat) (N : Nat) (rc2 : (Nat → Int32) → (Nat → Int32) → Int32 → Option ((Nat → Int32) × (Nat → Int32))) (rc12 : (Nat → Int32) → (Nat → Int32) → Int32 → Option ((Nat → Int32) × (Nat → Int32))) (fp : Int32) (fq : Int32) (t0 : Nat → Int32) (t3 : Nat → Int32) (v1 : Int32) (v2 : Int32) : Option ((Nat → Int32) × (Nat → Int32)) :=
  (rc12 t0 t3 (v2 + 1))
def X0_fillSums_12_b (fu : Nat) (N : Nat) (rc2 : (Nat → Int32) → (Nat → Int32) → Int32 → Option ((Nat → Int32) × (Nat → Int32))) (fp : Int32) (fq : Int32) (v1 : Int32) (rc12 : (Nat → Int32) → (Nat → Int32) → Int32 → Option ((Nat → Int32) × (Nat → Int32))) (t0 : Nat → Int32) (t3 : Nat → Int32) (v2 : Int32) : Option ((Nat → Int32) × (Nat → Int32)) :=
  (if fq ≤ v2 then (rc2 t0 t3 (v1 + 1)) else (Option.bind (X0_digitwise fu N fp fq v1 v2) (fun x3 => (ckI ((v1 * fq) + v2) (N * N) (if x3 = 0 then (ckI v1 N (X0_fillSums_52 fu N rc2 rc12 fp fq (upd t0 ((v1 * fq) + v2).toNatClampNeg x3) (upd t3 v1.toNatClampNeg v2) v1 v2)) else (X0_fillSums_52 fu N rc2 rc12 fp fq (upd t0 ((v1 * fq) + v2).toNatClampNeg x3) t3 v1 v2))))))
def X0_fillSums_12 (fu : Nat) (N : Nat) (rc2 : (Nat → Int32) → (Nat → Int32) → Int32 → Option ((Nat → Int32) × (Nat → Int32))) (fp : Int32) (fq : Int32) (v1 : Int32) (fk : Nat) : (Nat → Int32) → (Nat → Int32) → Int32 → Option ((Nat → Int32) × (Nat → Int32)) := itr (fun _ _ _ => none) (X0_fillSums_12_b fu N rc2 fp fq v1) fk
def X0_fillSums_2_b (fu : Nat) (N : Nat)  (fp : Int32) (fq : Int32) (rc2 : (Nat → Int32) → (Nat → Int32) → Int32 → Option ((Nat → Int32) × (Nat → Int32))) (t0 : Nat → Int32) (t3 : Nat → Int32) (v1 : Int32) : Option ((Nat → Int32) × (Nat → Int32)) :=
  (if fq ≤ v1 then (some (t0, t3)) else (X0_fillSums_12 fu N rc2 fp fq v1 fu t0 t3 0))
def X0_fillSums_2 (fu : Nat) (N : Nat)  (fp : Int32) (fq : Int32) (fk : Nat) : (Nat → Int32) → (Nat → Int32) → Int32 → Option ((Nat → Int32) × (Nat → Int32)) := itr (fun _ _ _ => none) (X0_fillSums_2_b fu N  fp fq) fk
def X0_fillSums (fu : Nat) (N : Nat)  (fp : Int32) (fq : Int32) (t0 : Nat → Int32) (t3 : Nat → Int32) : Option ((Nat → Int32) × (Nat → Int32)) :=
  (X0_fillSums_2 fu N  fp fq fu t0 t3 0)
def X0_repeated_5_b (fu : Nat) (N : Nat)  (fq : Int32) (t0 : Nat → Int32) (v1 : Int32) (v2 : Int32) (rc5 : Int32 → Int32 → Option Int32) (v3 : Int32) (v4 : Int32) : Option Int32 :=
  (if v2 ≤ v4 then (some (v3)) else (ckI ((v3 * fq) + v1) (N * N) (rc5 (t0 ((v3 * fq) + v1).toNatClampNeg) (v4 + 1))))
def X0_repeated_5 (fu : Nat) (N : Nat)  (fq : Int32) (t0 : Nat → Int32) (v1 : Int32) (v2 : Int32) (fk : Nat) : Int32 → Int32 → Option Int32 := itr (fun _ _ => none) (X0_repeated_5_b fu N  fq t0 v1 v2) fk
def X0_repeated (fu : Nat) (N : Nat)  (fq : Int32) (t0 : Nat → Int32) (v1 : Int32) (v2 : Int32) : Option Int32 :=
  (X0_repeated_5 fu N  fq t0 v1 v2 fu 0 0)
def X0_timesZ_23 (fu : Nat) (N : Nat)  (fp : Int32) (fq : Int32) (t0 : Nat → Int32) (s0 : Int32) (v1 : Int32) (v2 : Int32) : Option Int32 :=
  (ckZ v2 (ckZ v2 (Option.bind (X0_repeated fu N fq t0 s0 (v1 / v2)) (fun x5 => (Option.bind (X0_sum fu N fq t0 ((v1 - v1 / v2 * v2) * fp) x5) (fun x6 => (some (x6))))))))
def X0_timesZ (fu : Nat) (N : Nat)  (fp : Int32) (fq : Int32) (t0 : Nat → Int32) (v1 : Int32) : Option Int32 :=
  (ckZ fp (if fp = 2 then (X0_timesZ_23 fu N  fp fq t0 3 v1 (fq / fp)) else (X0_timesZ_23 fu N  fp fq t0 2 v1 (fq / fp))))
def X0_polynomialProduct_13_b (fu : Nat) (N : Nat)  (fp : Int32) (fq : Int32) (t0 : Nat → Int32) (v1 : Int32) (v2 : Int32) (rc13 : Int32 → Int32 → Option Int32) (v3 : Int32) (v4 : Int32) : Option Int32 :=
  (if v4 ≤ 0 then (some (v3)) else (Option.bind (X0_timesZ fu N fp fq t0 v3) (fun x3 => (ckZ v4 (ckZ fp (Option.bind (X0_repeated fu N fq t0 v1 ((v2 / v4) - (v2 / v4) / fp * fp)) (fun x6 => (Option.bind (X0_sum fu N fq t0 x3 x6) (fun x7 => (ckZ fp (rc13 x7 (v4 / fp))))))))))))
def X0_polynomialProduct_13 (fu : Nat) (N : Nat)  (fp : Int32) (fq : Int32) (t0 : Nat → Int32) (v1 : Int32) (v2 : Int32) (fk : Nat) : Int32 → Int32 → Option Int32 := itr (fun _ _ => none) (X0_polynomialProduct_13_b fu N  fp fq t0 v1 v2) fk
def X0_polynomialProduct (fu : Nat) (N : Nat)  (fp : Int32) (fq : Int32) (t0 : Nat → Int32) (v1 : Int32) (v2 : Int32) : Option Int32 :=
  (ckZ fp (X0_polynomialProduct_13 fu N  fp fq t0 v1 v2 fu 0 (fq / fp)))
def X0_fillProducts_75 (fu : Nat) (N : Nat) (rc2 : (Nat → Int32) → (Nat → Int32) → Int32 → Option ((Nat → Int32) × (Nat → Int32))) (rc12 : (Nat → Int32) → (Nat → Int32) → Int32 → Option ((Nat → Int32) × (Nat → Int32))) (fp : Int32) (fq : Int32) (t0 : Nat → Int32) (t1 : Nat → Int32) (t4 : Nat → Int32) (v1 : Int32) (v2 : Int32) : Option ((Nat → Int32) × (Nat → Int32)) :=
  (rc12 t1 t4 (v2 + 1))
def X0_fillProducts_48 (fu : Nat) (N : Nat) (rc2 : (Nat → Int32) → (Nat → Int32) → Int32 → Option ((Nat → Int32) × (Nat → Int32))) (rc12 : (Nat → Int32) → (Nat → Int32) → Int32 → Option ((Nat → Int32) × (Nat → Int32))) (fp : Int32) (fq : Int32) (t0 : Nat → Int32) (t1 : Nat → Int32) (t4 : Nat → Int32) (s0 : Int32) (v1 : Int32) (v2 : Int32) : Option ((Nat → Int32) × (Nat → Int32)) :=
  (ckI ((v1 * fq) + v2) (N * N) (if s0 = 1 then (ckI v1 N (X0_fillProducts_75 fu N rc2 rc12 fp fq t0 (upd t1 ((v1 * fq) + v2).toNatClampNeg s0) (upd t4 v1.toNatClampNeg v2) v1 v2)) else (X0_fillProducts_75 fu N rc2 rc12 fp fq t0 (upd t1 ((v1 * fq) + v2).toNatClampNeg s0) t4 v1 v2)))
def X0_fillProducts_12_b (fu : Nat) (N : Nat) (rc2 : (Nat → Int32) → (Nat → Int32) → Int32 → Option ((Nat → Int32) × (Nat → Int32))) (fp : Int32) (fq : Int32) (t0 : Nat → Int32) (v1 : Int32) (rc12 : (Nat → Int32) → (Nat → Int32) → Int32 → Option ((Nat → Int32) × (Nat → Int32))) (t1 : Nat → Int32) (t4 : Nat → Int32) (v2 : Int32) : Option ((Nat → Int32) × (Nat → Int32)) :=
  (if fq ≤ v2 then (rc2 t1 t4 (v1 + 1)) else (if fp = fq then (ckZ fq (X0_fillProducts_48 fu N rc2 rc12 fp fq t0 t1 t4 ((v1 * v2) - (v1 * v2) / fq * fq) v1 v2)) else (Option.bind (X0_polynomialProduct fu N fp fq t0 v1 v2) (fun x4 => (X0_fillProducts_48 fu N rc2 rc12 fp fq t0 t1 t4 x4 v1 v2)))))
def X0_fillProducts_12 (fu : Nat) (N : Nat) (rc2 : (Nat → Int32) → (Nat → Int32) → Int32 → Option ((Nat → Int32) × (Nat → Int32))) (fp : Int32) (fq : Int32) (t0 : Nat → Int32) (v1 : Int32) (fk : Nat) : (Nat → Int32) → (Nat → Int32) → Int32 → Option ((Nat → Int32) × (Nat → Int32)) := itr (fun _ _ _ => none) (X0_fillProducts_12_b fu N rc2 fp fq t0 v1) fk
def X0_fillProducts_2_b (fu : Nat) (N : Nat)  (fp : Int32) (fq : Int32) (t0 : Nat → Int32) (rc2 : (Nat → Int32) → (Nat → Int32) → Int32 → Option ((Nat → Int32) × (Nat → Int32))) (t1 : Nat → Int32) (t4 : Nat → Int32) (v1 : Int32) : Option ((Nat → Int32) × (Nat → Int32)) :=
  (if fq ≤ v1 then (some (t1, t4)) else (X0_fillProducts_12 fu N rc2 fp fq t0 v1 fu t1 t4 0))
def X0_fillProducts_2 (fu : Nat) (N : Nat)  (fp : Int32) (fq : Int32) (t0 : Nat → Int32) (fk : Nat) : (Nat → Int32) → (Nat → Int32) → Int32 → Option ((Nat → Int32) × (Nat → Int32)) := itr (fun _ _ _ => none) (X0_fillProducts_2_b fu N  fp fq t0) fk
def X0_fillProducts (fu : Nat) (N : Nat)  (fp : Int32) (fq : Int32) (t0 : Nat → Int32) (t1 : Nat → Int32) (t4 : Nat → Int32) : Option ((Nat → Int32) × (Nat → Int32)) :=
  (X0_fillProducts_2 fu N  fp fq t0 fu t1 t4 0)
def X0_fillPowers_14_b (fu : Nat) (N : Nat) (rc2 : (Nat → Int32) → Int32 → Option ((Nat → Int32))) (fq : Int32) (t1 : Nat → Int32) (v1 : Int32) (rc14 : (Nat → Int32) → Int32 → Int32 → Option ((Nat → Int32))) (t2 : Nat → Int32) (v2 : Int32) (v3 : Int32) : Option ((Nat → Int32)) :=
  (if fq ≤ v3 then (rc2 t2 (v1 + 1)) else (ckI ((v1 * fq) + v3) (N * N) (Option.bind (X0_product fu N fq t1 v2 v1) (fun x4 => (rc14 (upd t2 ((v1 * fq) + v3).toNatClampNeg v2) x4 (v3 + 1))))))
def X0_fillPowers_14 (fu : Nat) (N : Nat) (rc2 : (Nat → Int32) → Int32 → Option ((Nat → Int32))) (fq : Int32) (t1 : Nat → Int32) (v1 : Int32) (fk : Nat) : (Nat → Int32) → Int32 → Int32 → Option ((Nat → Int32)) := itr (fun _ _ _ => none) (X0_fillPowers_14_b fu N rc2 fq t1 v1) fk
def X0_fillPowers_2_b (fu : Nat) (N : Nat)  (fq : Int32) (t1 : Nat → Int32) (rc2 : (Nat → Int32) → Int32 → Option ((Nat → Int32))) (t2 : Nat → Int32) (v1 : Int32) : Option ((Nat → Int32)) :=
  (if fq ≤ v1 then (some (t2)) else (X0_fillPowers_14 fu N rc2 fq t1 v1 fu t2 1 0))
def X0_fillPowers_2 (fu : Nat) (N : Nat)  (fq : Int32) (t1 : Nat → Int32) (fk : Nat) : (Nat → Int32) → Int32 → Option ((Nat → Int32)) := itr (fun _ _ => none) (X0_fillPowers_2_b fu N  fq t1) fk
def X0_fillPowers (fu : Nat) (N : Nat)  (fq : Int32) (t1 : Nat → Int32) (t2 : Nat → Int32) : Option ((Nat → Int32)) :=
  (X0_fillPowers_2 fu N  fq t1 fu t2 0)
def X0_polynomials_4_b (fu : Nat) (N : Nat)  (fq : Int32) (v1 : Int32) (rc4 : Int32 → Int32 → Option Int32) (v2 : Int32) (v3 : Int32) : Option Int32 :=
  (if v1 ≤ v3 then (some (v2)) else (rc4 (v2 * fq) (v3 + 1)))
def X0_polynomials_4 (fu : Nat) (N : Nat)  (fq : Int32) (v1 : Int32) (fk : Nat) : Int32 → Int32 → Option Int32 := itr (fun _ _ => none) (X0_polynomials_4_b fu N  fq v1) fk
def X0_polynomials (fu : Nat) (N : Nat)  (fq : Int32) (v1 : Int32) : Option Int32 :=
  (X0_polynomials_4 fu N  fq v1 fu 1 1)
def X0_writePolynomial_5_b (fu : Nat) (N : Nat)  (fq : Int32) (v1 : Int32) (rc5 : (Nat → Int32) → Int32 → Int32 → Option ((Nat → Int32))) (t5 : Nat → Int32) (v3 : Int32) (v4 : Int32) : Option ((Nat → Int32)) :=
  (if v1 ≤ v4 then (ckI v1 6 (some (upd t5 v1.toNatClampNeg 1))) else (ckZ fq (ckI v4 6 (ckZ fq (rc5 (upd t5 v4.toNatClampNeg (v3 - v3 / fq * fq)) (v3 / fq) (v4 + 1))))))
def X0_writePolynomial_5 (fu : Nat) (N : Nat)  (fq : Int32) (v1 : Int32) (fk : Nat) : (Nat → Int32) → Int32 → Int32 → Option ((Nat → Int32)) := itr (fun _ _ _ => none) (X0_writePolynomial_5_b fu N  fq v1) fk
def X0_writePolynomial (fu : Nat) (N : Nat)  (fq : Int32) (t5 : Nat → Int32) (v1 : Int32) (v2 : Int32) : Option ((Nat → Int32)) :=
  (X0_writePolynomial_5 fu N  fq v1 fu t5 v2 1)
def X0_polynomialAt_5_b (fu : Nat) (N : Nat)  (fq : Int32) (t0 : Nat → Int32) (t1 : Nat → Int32) (t5 : Nat → Int32) (v2 : Int32) (rc5 : Int32 → Int32 → Option Int32) (v3 : Int32) (v4 : Int32) : Option Int32 :=
  (if v4 ≤ 0 then (some (v3)) else (ckI v4 6 (Option.bind (X0_sum fu N fq t0 v3 (t5 v4.toNatClampNeg)) (fun x3 => (Option.bind (X0_product fu N fq t1 x3 v2) (fun x4 => (rc5 x4 (v4 + (-1)))))))))
def X0_polynomialAt_5 (fu : Nat) (N : Nat)  (fq : Int32) (t0 : Nat → Int32) (t1 : Nat → Int32) (t5 : Nat → Int32) (v2 : Int32) (fk : Nat) : Int32 → Int32 → Option Int32 := itr (fun _ _ => none) (X0_polynomialAt_5_b fu N  fq t0 t1 t5 v2) fk
def X0_polynomialAt (fu : Nat) (N : Nat)  (fq : Int32) (t0 : Nat → Int32) (t1 : Nat → Int32) (t5 : Nat → Int32) (v1 : Int32) (v2 : Int32) : Option Int32 :=
  (X0_polynomialAt_5 fu N  fq t0 t1 t5 v2 fu 0 v1)
def X0_polynomialShuffles_4_b (fu : Nat) (N : Nat)  (fq : Int32) (t0 : Nat → Int32) (t1 : Nat → Int32) (t5 : Nat → Int32) (v1 : Int32) (rc4 : Int32 → Int32 → Option Int32) (v2 : Int32) (v3 : Int32) : Option Int32 :=
  (if fq ≤ v3 then (some (1)) else (Option.bind (X0_polynomialAt fu N fq t0 t1 t5 v1 v3) (fun x2 => (if (v2 &&& (1 <<< (x2 &&& 31))) = 0 then (rc4 (v2 ||| (1 <<< (x2 &&& 31))) (v3 + 1)) else (some (0))))))
def X0_polynomialShuffles_4 (fu : Nat) (N : Nat)  (fq : Int32) (t0 : Nat → Int32) (t1 : Nat → Int32) (t5 : Nat → Int32) (v1 : Int32) (fk : Nat) : Int32 → Int32 → Option Int32 := itr (fun _ _ => none) (X0_polynomialShuffles_4_b fu N  fq t0 t1 t5 v1) fk
def X0_polynomialShuffles (fu : Nat) (N : Nat)  (fq : Int32) (t0 : Nat → Int32) (t1 : Nat → Int32) (t5 : Nat → Int32) (v1 : Int32) : Option Int32 :=
  (X0_polynomialShuffles_4 fu N  fq t0 t1 t5 v1 fu 0 0)
