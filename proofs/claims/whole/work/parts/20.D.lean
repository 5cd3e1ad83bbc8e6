theorem ixc (v : Int32) {n : Nat} (hn : n < 2 ^ 31) : (v < 0 ∨ nI n ≤ v) ∨ ∃ j, j < n ∧ v = nI j := by
  rcases pk_ix v hn with h | h | h
  · exact Or.inl (Or.inl h)
  · exact Or.inl (Or.inr h)
  · exact Or.inr h
/-- a row laid from a on, n places of h -/
def put (f h : Nat → Int32) (a n : Nat) : Nat → Int32 := fun k => if a ≤ k ∧ k < a + n then h (k - a) else f k
theorem put_0 (f h : Nat → Int32) (a : Nat) : put f h a 0 = f := funext fun k => if_neg (by omega)
theorem put_s (f h : Nat → Int32) (a n : Nat) : upd (put f h a n) (a + n) (h n) = put f h a (n + 1) := funext fun k => by
  by_cases hk : k = a + n
  · subst hk
    rw [pk_us]
    unfold put
    rw [if_pos ⟨by omega, by omega⟩, Nat.add_sub_cancel_left]
  · rw [pk_un hk]
    unfold put
    by_cases h1 : a ≤ k ∧ k < a + n
    · rw [if_pos h1, if_pos ⟨h1.1, by omega⟩]
    · rw [if_neg h1, if_neg (by omega)]
theorem put_in {f h : Nat → Int32} {a n x : Nat} (hx : x < n) : put f h a n (a + x) = h x := by
  unfold put
  rw [if_pos ⟨by omega, by omega⟩, Nat.add_sub_cancel_left]
theorem put_in0 {f h : Nat → Int32} {n x : Nat} (hx : x < n) : put f h 0 n x = h x := by
  unfold put
  rw [if_pos ⟨by omega, by omega⟩, Nat.sub_zero]
theorem put_out {f h : Nat → Int32} {a n k : Nat} (hk : k < a ∨ a + n ≤ k) : put f h a n k = f k := by
  unfold put
  exact if_neg (by omega)
theorem put_s0 (f h : Nat → Int32) (n : Nat) : upd (put f h 0 n) n (h n) = put f h 0 (n + 1) := by
  have := put_s f h 0 n
  rw [Nat.zero_add] at this
  exact this
theorem vu_id {α : Type} (f : Nat → α) (k : Nat) : va_up f k (f k) = f := funext fun j => by
  unfold va_up
  by_cases h : j = k
  · rw [if_pos h, h]
  · rw [if_neg h]
theorem vu_s {α : Type} (f : Nat → α) (k : Nat) (v : α) : va_up f k v k = v := if_pos rfl
theorem vu_n {α : Type} {f : Nat → α} {k j : Nat} {v : α} (h : j ≠ k) : va_up f k v j = f j := if_neg h
/-- the maps, one of them another -/
def fup (f : Nat → Nat → Nat) (m : Nat) (h : Nat → Nat) : Nat → Nat → Nat := fun i x => if i = m then h x else f i x
theorem Rel_lay {q m : Nat} {f : Nat → Nat → Nat} {h : Nat → Nat} {RR RR2 : Nat → Nat → Int32} {ms ms2 : Nat → Int32} (hR : Rel q f RR ms) (hh : ∀ x, x < q → h x < q) (h1 : ∀ i, i < 4 → i ≠ m → ∀ x, x < q → RR2 i x = RR i x) (h2 : ∀ x, x < q → RR2 m x = nI (h x)) (h3 : ∀ i, i < 4 → i ≠ m → ∀ x, x < q → ms2 (16 * i + x) = ms (16 * i + x)) (h4 : ∀ x, x < q → ms2 (16 * m + x) = nI (h x)) : Rel q (fup f m h) RR2 ms2 := by
  intro i hi x hx
  unfold fup
  by_cases e : i = m
  · subst e
    rw [if_pos rfl]
    exact ⟨hh x hx, h2 x hx, h4 x hx⟩
  · rw [if_neg e, h1 i hi e x hx, h3 i hi e x hx]
    exact hR i hi x hx
theorem ms_out {q m i x : Nat} {f h : Nat → Int32} (hq : q ≤ 16) (e : i ≠ m) (hx : x < q) : put f h (16 * m) q (16 * i + x) = f (16 * i + x) := put_out (by omega)
section
variable {q : Nat} {su pr ms : Nat → Int32} {RR : Nat → Nat → Int32} {f : Nat → Nat → Nat} {th : Int32} {tr ak : Int64}
theorem R_plus (hs : q ∈ sizes) (hM : MS q su pr) (v1 v2 : Int32) : ∃ r, X3_plus FU q (nI q) (nI q) (T0 q) v1 v2 = some r ∧ X4_plus FU th (nI q) su v1 v2 = some (r, 0) := by
  have hq := sz_2 q hs
  rcases ixc v1 (n := q) (by omega) with h | ⟨a, ha, rfl⟩
  · exact ⟨-1, by unfold X3_plus; rw [x_numN h]; rfl, by unfold X4_plus; rw [a_numN hs h]; rfl⟩
  · rcases ixc v2 (n := q) (by omega) with h | ⟨b, hb, rfl⟩
    · exact ⟨-1, by unfold X3_plus; rw [x_num hs ha, x_numN h]; rfl, by unfold X4_plus; rw [a_num hs ha, a_numN hs h]; rfl⟩
    · exact ⟨nI (AD q a b), by unfold X3_plus; rw [x_num hs ha, x_num hs hb, x_sum hs ha hb]; rfl, by unfold X4_plus; rw [a_num hs ha, a_num hs hb, a_add hs hM ha hb]; rfl⟩
theorem R_times (hs : q ∈ sizes) (hM : MS q su pr) (v1 v2 : Int32) : ∃ r, X3_times FU q (nI q) (nI q) (T1 q) v1 v2 = some r ∧ X4_times FU th (nI q) pr v1 v2 = some (r, 0) := by
  have hq := sz_2 q hs
  rcases ixc v1 (n := q) (by omega) with h | ⟨a, ha, rfl⟩
  · exact ⟨-1, by unfold X3_times; rw [x_numN h]; rfl, by unfold X4_times; rw [a_numN hs h]; rfl⟩
  · rcases ixc v2 (n := q) (by omega) with h | ⟨b, hb, rfl⟩
    · exact ⟨-1, by unfold X3_times; rw [x_num hs ha, x_numN h]; rfl, by unfold X4_times; rw [a_num hs ha, a_numN hs h]; rfl⟩
    · exact ⟨nI (MU q a b), by unfold X3_times; rw [x_num hs ha, x_num hs hb, x_product hs ha hb]; rfl, by unfold X4_times; rw [a_num hs ha, a_num hs hb, a_by hs hM ha hb]; rfl⟩
theorem R_over (hs : q ∈ sizes) (hM : MS q su pr) (v1 : Int32) : ∃ r, X3_over FU q (nI q) (T4 q) v1 = some r ∧ X4_over FU th (nI q) pr v1 = some (r, 0) := by
  have hq := sz_2 q hs
  rcases ixc v1 (n := q) (by omega) with h | ⟨a, ha, rfl⟩
  · exact ⟨-1, by unfold X3_over; rw [x_numN h]; rfl, by unfold X4_over; rw [a_numN hs h]; rfl⟩
  · by_cases h0 : a = 0
    · subst h0
      exact ⟨-2, by unfold X3_over; rw [x_num hs ha]; rfl, by unfold X4_over; rw [a_num hs ha]; rfl⟩
    · have hu := (k_unit q hs a ha).2.2.2.2.2.2.2.2
      have hne : ¬ nI a = 0 := nI_ne0 (by omega) (by omega)
      refine ⟨nI (IV q a), ?_, ?_⟩
      · unfold X3_over
        rw [x_num hs ha, Option.bind_some, if_neg (by decide), if_neg hne, x_inverse hs ha]
        rfl
      · unfold X4_over
        rw [a_num hs ha, Option.bind_some, if_neg (by decide), if_neg hne]
        unfold X4_over_24
        refine itr_for (ap := fun (t : Int32 → Option (Int32 × Int32)) i => t (nI i)) (IV q a) (fun t => ?_) (fun t i hi => ?_) FU 1 (by have := (hu.2 h0).2; omega) (FU_lt (by omega))
        · unfold X4_over_24_b
          rw [a_by hs hM ha hu.1, (hu.2 h0).1, Option.bind_some, if_pos (show nI 1 = (1 : Int32) from rfl)]
        · unfold X4_over_24_b
          have hm := (k_first q hs a ha).2 i hi
          have hlt := MU_lt hs ha (show i < q by omega)
          rw [a_by hs hM ha (by omega), Option.bind_some, if_neg (show ¬ nI (MU q a i) = (1 : Int32) from fun e => hm ((nI_eq (by omega) (by decide)).mp (show nI (MU q a i) = nI 1 from e))), nI_1]
theorem R_at (hs : q ∈ sizes) (hR : Rel q f RR ms) (v1 v2 : Int32) : ∃ r, X3_at FU q (nI q) RR v1 v2 = some r ∧ X4_at FU th (nI q) ms v1 v2 = some (r, 0) := by
  have hq := sz_2 q hs
  rcases ixc v1 (n := 4) (by omega) with h | ⟨i, hi, rfl⟩
  · exact ⟨-1, by unfold X3_at; rw [x_mapN h]; rfl, by unfold X4_at; rw [a_mapN h]; rfl⟩
  · rcases ixc v2 (n := q) (by omega) with h | ⟨x, hx, rfl⟩
    · exact ⟨-1, by unfold X3_at; rw [x_map hi, x_numN h]; rfl, by unfold X4_at; rw [a_map hi, a_numN hs h]; rfl⟩
    · refine ⟨nI (f i x), ?_, ?_⟩
      · unfold X3_at
        rw [x_map hi, x_num hs hx, ckI_ok hi (by decide), ckI_ok (show x < 16 by omega) (by decide), nI_clamp (by omega), nI_clamp (by omega), (hR i hi x hx).2.1]
        rfl
      · unfold X4_at
        rw [a_map hi, a_num hs hx, idx16, ckI_ok (by omega) (by decide), nI_clamp (by omega), (hR i hi x hx).2.2]
        rfl
theorem R_set (hs : q ∈ sizes) (hR : Rel q f RR ms) (v1 v2 v3 : Int32) : ∃ r RR2 ms2 f2, X3_set FU q (nI q) RR v1 v2 v3 = some (r, RR2) ∧ X4_set FU th (nI q) ms v1 v2 v3 = some (r, 0, ms2) ∧ Rel q f2 RR2 ms2 := by
  have hq := sz_2 q hs
  rcases ixc v1 (n := 4) (by omega) with h | ⟨i, hi, rfl⟩
  · exact ⟨-1, RR, ms, f, by unfold X3_set; rw [x_mapN h]; rfl, by unfold X4_set; rw [a_mapN h]; rfl, hR⟩
  · rcases ixc v2 (n := q) (by omega) with h | ⟨x, hx, rfl⟩
    · exact ⟨-1, RR, ms, f, by unfold X3_set; rw [x_map hi, x_numN h]; rfl, by unfold X4_set; rw [a_map hi, a_numN hs h]; rfl, hR⟩
    · rcases ixc v3 (n := q) (by omega) with h | ⟨v, hv, rfl⟩
      · exact ⟨-1, RR, ms, f, by unfold X3_set; rw [x_map hi, x_num hs hx, x_numN h]; rfl, by unfold X4_set; rw [a_map hi, a_num hs hx, a_numN hs h]; rfl, hR⟩
      · refine ⟨nI (f i x), va_up RR i (upd (RR i) x (nI v)), upd ms (16 * i + x) (nI v), fup f i (fun y => if y = x then v else f i y), ?_, ?_, ?_⟩
        · unfold X3_set
          rw [x_map hi, x_num hs hx, x_num hs hv, ckI_ok hi (by decide), ckI_ok (show x < 16 by omega) (by decide), ckI_ok hi (by decide), ckI_ok (show x < 16 by omega) (by decide), nI_clamp (by omega), nI_clamp (by omega), (hR i hi x hx).2.1]
          rfl
        · unfold X4_set
          rw [a_map hi, a_num hs hx, a_num hs hv, idx16, ckI_ok (by omega) (by decide), ckI_ok (by omega) (by decide), nI_clamp (by omega), (hR i hi x hx).2.2]
          rfl
        · refine Rel_lay hR (fun y hy => ?_) (fun j _ hne y _ => by rw [vu_n hne]) (fun y hy => ?_) (fun j _ hne y hy => by rw [pk_un (by omega)]) (fun y hy => ?_)
          · by_cases e : y = x
            · rw [if_pos e]; exact hv
            · rw [if_neg e]; exact (hR i hi y hy).1
          · rw [vu_s]
            by_cases e : y = x
            · subst e
              rw [pk_us, if_pos rfl]
            · rw [pk_un e, if_neg e]
              exact (hR i hi y hy).2.1
          · by_cases e : y = x
            · subst e
              rw [pk_us, if_pos rfl]
            · rw [pk_un (by omega), if_neg e]
              exact (hR i hi y hy).2.2
end
