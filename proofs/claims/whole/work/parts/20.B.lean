def fchk1 (q : Nat) : Bool := match X0_fillSums FU q (nI (prm q)) (nI q) (fun _ => 0) (fun _ => 0) with
  | none => false
  | some x => (List.range (q * q)).all (fun i => decide (x.1 i = T0 q i)) && (List.range q).all (fun i => decide (x.2 i = T3 q i))
def fchk2 (q : Nat) : Bool := match X0_fillProducts FU q (nI (prm q)) (nI q) (T0 q) (fun _ => 0) (fun _ => 0) with
  | none => false
  | some x => (List.range (q * q)).all (fun i => decide (x.1 i = T1 q i)) && (List.range q).all (fun i => decide (x.2 i = T4 q i))
def fchk3 (q : Nat) : Bool := match X0_fillPowers FU q (nI q) (T1 q) (fun _ => 0) with
  | none => false
  | some x => (List.range (q * q)).all (fun i => decide (x i = T2 q i))
set_option maxRecDepth 100000 in
theorem fchk1_ok : ∀ q ∈ sizes, fchk1 q = true := by decide +kernel
set_option maxRecDepth 100000 in
theorem fchk2_ok : ∀ q ∈ sizes, fchk2 q = true := by decide +kernel
set_option maxRecDepth 100000 in
theorem fchk3_ok : ∀ q ∈ sizes, fchk3 q = true := by decide +kernel
theorem k_prime : ∀ q ∈ sizes, X0_primeOf FU (nI q) = some (nI (prm q)) := by decide +kernel
theorem all_rng {n : Nat} {f g : Nat → Int32} (h : (List.range n).all (fun i => decide (f i = g i)) = true) : ∀ i, i < n → f i = g i := fun i hi => by
  have := List.all_eq_true.mp h i (List.mem_range.mpr hi)
  exact of_decide_eq_true this
theorem fok {q : Nat} (h : q ∈ sizes) : Fok FU q (nI (prm q)) (T0 q) (T1 q) (T2 q) (T3 q) (T4 q) := by
  have h1 := fchk1_ok q h
  have h2 := fchk2_ok q h
  have h3 := fchk3_ok q h
  unfold fchk1 at h1
  unfold fchk2 at h2
  unfold fchk3 at h3
  refine ⟨k_prime q h, ?_⟩
  split at h1
  · cases h1
  · rename_i x1 e1
    split at h2
    · cases h2
    · rename_i x2 e2
      split at h3
      · cases h3
      · rename_i x3 e3
        rw [Bool.and_eq_true] at h1 h2
        exact ⟨x1.1, x1.2, x2.1, x2.2, x3, e1, e2, e3, all_rng h1.1, all_rng h2.1, all_rng h3, all_rng h1.2, all_rng h2.2⟩
set_option maxRecDepth 100000 in
theorem k_sumOf : ∀ q ∈ sizes, ∀ a, a < q → ∀ b, b < q → X4_sumOf FU (nI (prm q)) (nI a) (nI b) = some (nI (AD q a b)) := by decide +kernel
set_option maxRecDepth 100000 in
theorem k_prodOf : ∀ q ∈ [4, 8, 9, 16], ∀ a, a < q → ∀ b, b < q → (X4_productOf_46 FU (nI q) (nI (prm q)) (nI b) FU (fun _ => 0) (nI a) 0).map Prod.fst = some (nI (MU q a b)) := by decide +kernel
theorem k_prodP : ∀ q ∈ [2, 3, 5, 7, 11, 13], ∀ a, a < q → ∀ b, b < q → (nI a * nI b) - (nI a * nI b) / nI q * nI q = nI (MU q a b) := by decide +kernel
