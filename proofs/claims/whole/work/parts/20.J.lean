def od (u : Nat) : Nat := pc u 4 % 2
theorem od_a : ∀ u, u < 16 → (((nI u ^^^ (nI u >>> (1 &&& 31))) ^^^ (nI u >>> (2 &&& 31))) ^^^ (nI u >>> (3 &&& 31))) &&& 1 = nI (od u) := by decide +kernel
theorem od_x : ∀ u, u < 16 → ∀ w, w < 16 → (pc (u ^^^ w) 16 % 2 = 0 ↔ od u = od w) := by decide +kernel
theorem od_2 (u : Nat) : od u < 2 := Nat.mod_lt _ (by decide)
theorem and16 {a b : Nat} (h : a < 16) : a &&& b < 16 := Nat.lt_of_le_of_lt Nat.and_le_left h
theorem xor16 {a b : Nat} (ha : a < 16) (hb : b < 16) : a ^^^ b < 16 := Nat.xor_lt_two_pow (n := 4) ha hb
/-- the x below n at which both are even or both odd -/
def agr (g : Nat → Nat) (a b : Nat) : Nat → Nat
  | 0 => 0
  | n + 1 => agr g a b n + (if od (a &&& n) = od (b &&& g n) then 1 else 0)
theorem agr_s (g : Nat → Nat) (a b n : Nat) : agr g a b (n + 1) = agr g a b n + (if od (a &&& n) = od (b &&& g n) then 1 else 0) := rfl
theorem agr_le (g : Nat → Nat) (a b : Nat) : ∀ n, agr g a b n ≤ n
  | 0 => Nat.le_refl _
  | n + 1 => by
    have := agr_le g a b n
    rw [agr_s]
    split <;> omega
def wv (n c : Nat) : Int32 := nI c - nI (n - c)
def ab (n c : Nat) : Nat := (c - (n - c)) + ((n - c) - c)
theorem wv_k : ∀ n, n < 17 → ∀ c, c < n + 1 → wv n c + 1 = wv (n + 1) (c + 1) ∧ wv n c + (-1) = wv (n + 1) c ∧ (if 0 ≤ wv n c then wv n c else 0 - wv n c) = nI (ab n c) ∧ (0 ≤ wv n c → wv n c = nI (ab n c)) ∧ (¬ 0 ≤ wv n c → -wv n c = nI (ab n c)) ∧ ab n c ≤ 16 := by decide +kernel
theorem k_back : ∀ q ∈ sizes, ∀ u, u < q → ∀ w, w < q → AD q u (AD q w (NG q u)) = w := by decide +kernel
section
variable {q : Nat} {su pr ms ro : Nat → Int32} {RR : Nat → Nat → Int32} {f : Nat → Nat → Nat} {th : Int32} {tr ak : Int64} {g : Nat → Nat}
theorem x_walk (hs : q ∈ sizes) {j a b : Nat} (ha : a < q) (hb : b < q) (hg : ∀ x, x < q → g x < q ∧ RR j x = nI (g x)) : X3_walkOf FU q (nI q) RR j (nI a) (nI b) = some (wv q (agr g a b q)) := by
  have hq := sz_2 q hs
  unfold X3_walkOf X3_walkOf_6
  have h00 : wv 0 (agr g a b 0) = 0 := (by decide : wv 0 0 = 0)
  have key := itr_for (bot := fun (_ _ : Int32) => (none : Option Int32)) (F := X3_walkOf_6_b FU q (nI q) RR j (nI a) (nI b)) (ap := fun t n => t (wv n (agr g a b n)) (nI n)) (R := some (wv q (agr g a b q))) q (fun t => ?_) (fun t n hn => ?_) FU 0 (Nat.zero_le _) (FU_lt (by omega))
  · rw [h00] at key
    exact key
  · unfold X3_walkOf_6_b
    rw [if_pos (Int32.le_refl _)]
  · unfold X3_walkOf_6_b X3_walkOf_45
    have hu := and16 (b := n) (show a < 16 by omega)
    have hw := and16 (b := g n) (show b < 16 by omega)
    have hx := xor16 hu hw
    have hl := agr_le g a b n
    have hk := wv_k n (by omega) (agr g a b n) (by omega)
    have hp := pc_le (a &&& n ^^^ (b &&& g n)) 16
    rw [if_neg (nI_ge hn (by omega)), ckI_ok (show n < 16 by omega) (by decide), nI_clamp (by omega), (hg n hn).2, fa_and, fa_and, fb_xorI, bc_ok (by omega), Option.bind_some, pk_andN (by omega) 1 (by decide), agr_s, nI_1]
    have hod := od_x _ hu _ hw
    by_cases e : od (a &&& n) = od (b &&& g n)
    · rw [if_pos (by rw [show pc (a &&& n ^^^ (b &&& g n)) 16 % _ = 0 from hod.mpr e]; rfl), if_pos e, hk.1]
    · have h2 : pc (a &&& n ^^^ (b &&& g n)) 16 % 2 ≠ 0 := fun z => e (hod.mp z)
      rw [if_neg (nI_ne0 (Nat.pos_of_ne_zero h2) (Nat.lt_of_lt_of_le (Nat.mod_lt _ (by decide)) (by decide))), if_neg e, hk.2.1]
      rfl
theorem a_walk (hs : q ∈ sizes) {i a b : Nat} (hi : i < 4) (ha : a < q) (hb : b < q) (hg : ∀ x, x < q → g x < q ∧ ms (16 * i + x) = nI (g x)) : X4_walkOf FU (nI q) ms (nI i) (nI a) (nI b) = some (wv q (agr g a b q)) := by
  have hq := sz_2 q hs
  unfold X4_walkOf X4_walkOf_6
  have h00 : wv 0 (agr g a b 0) = 0 := (by decide : wv 0 0 = 0)
  have key := itr_for (bot := fun (_ _ : Int32) => (none : Option Int32)) (F := X4_walkOf_6_b FU (nI q) ms (nI i) (nI a) (nI b)) (ap := fun t n => t (wv n (agr g a b n)) (nI n)) (R := some (wv q (agr g a b q))) q (fun t => ?_) (fun t n hn => ?_) FU 0 (Nat.zero_le _) (FU_lt (by omega))
  · rw [h00] at key
    exact key
  · unfold X4_walkOf_6_b
    rw [if_pos (Int32.le_refl _)]
  · unfold X4_walkOf_6_b X4_walkOf_49 X4_odd
    have hu := and16 (b := n) (show a < 16 by omega)
    have hw := and16 (b := g n) (show b < 16 by omega)
    have hl := agr_le g a b n
    have hk := wv_k n (by omega) (agr g a b n) (by omega)
    have h1 := od_2 (a &&& n)
    have h2 := od_2 (b &&& g n)
    rw [if_neg (nI_ge hn (by omega)), fa_and, od_a _ hu, Option.bind_some, idx16, ckI_ok (by omega) (by decide), nI_clamp (by omega), (hg n hn).2, fa_and, od_a _ hw, Option.bind_some, agr_s, nI_1]
    by_cases e : od (a &&& n) = od (b &&& g n)
    · rw [if_pos (by rw [e]), if_pos e, hk.1]
    · rw [if_neg (fun z => e ((nI_eq (by omega) (by omega)).mp z)), if_neg e, hk.2.1]
      rfl
theorem nI_prm2 (hs : q ∈ sizes) : nI (prm q) = (2 : Int32) ↔ prm q = 2 := by
  have : ∀ q ∈ sizes, prm q < 100 := by decide
  have h := this q hs
  exact (nI_eq (b := 2) (by omega) (by decide))
theorem R_walk (hs : q ∈ sizes) (hR : Rel q f RR ms) (v1 v2 v3 : Int32) : ∃ r, X3_walk FU q (nI q) RR (nI (prm q)) v1 v2 v3 = some r ∧ X4_walk FU th (nI q) (nI (prm q)) ms v1 v2 v3 = some (r, 0) := by
  have hq := sz_2 q hs
  rcases ixc v1 (n := 4) (by omega) with h | ⟨i, hi, rfl⟩
  · exact ⟨-1000000, by unfold X3_walk; rw [x_mapN h]; rfl, by unfold X4_walk; rw [a_mapN h]; rfl⟩
  rcases ixc v2 (n := q) (by omega) with h | ⟨a, ha, rfl⟩
  · exact ⟨-1000000, by unfold X3_walk; rw [x_map hi, x_numN h]; rfl, by unfold X4_walk; rw [a_map hi, a_numN hs h]; rfl⟩
  rcases ixc v3 (n := q) (by omega) with h | ⟨b, hb, rfl⟩
  · exact ⟨-1000000, by unfold X3_walk; rw [x_map hi, x_num hs ha, x_numN h]; rfl, by unfold X4_walk; rw [a_map hi, a_num hs ha, a_numN hs h]; rfl⟩
  by_cases e : nI (prm q) = (2 : Int32)
  · refine ⟨wv q (agr (f i) a b q), ?_, ?_⟩
    · unfold X3_walk X3_hasBits
      rw [x_map hi, x_num hs ha, x_num hs hb, if_pos e, ckI_ok hi (by decide), nI_clamp (by omega), x_walk hs ha hb (hR.x hi)]
      rfl
    · unfold X4_walk X4_isTwos
      rw [a_map hi, a_num hs ha, a_num hs hb, if_pos e, a_walk hs hi ha hb (hR.a hi)]
      rfl
  · refine ⟨-1000000, ?_, ?_⟩
    · unfold X3_walk X3_hasBits
      rw [x_map hi, x_num hs ha, x_num hs hb, if_neg e]
      rfl
    · unfold X4_walk X4_isTwos
      rw [a_map hi, a_num hs ha, a_num hs hb, if_neg e]
      rfl
def wab (q : Nat) (g : Nat → Nat) (a b : Nat) : Nat := ab q (agr g a b q)
theorem wab_le (hs : q ∈ sizes) {a b : Nat} : wab q g a b ≤ 16 := (wv_k q (by have := sz_2 q hs; omega) _ (by have := agr_le g a b q; omega)).2.2.2.2.2
theorem lin_eq (q : Nat) (g : Nat → Nat) : mo (fun k a => wab q g a (k + 1)) q (q - 1) = mo (fun a k => wab q g a (k + 1)) (q - 1) q := Nat.le_antisymm
  (mo_le _ fun k hk a ha => le_mo (h := fun a k => wab q g a (k + 1)) q a k ha hk)
  (mo_le _ fun a ha k hk => le_mo (h := fun k a => wab q g a (k + 1)) (q - 1) k a hk ha)
theorem x_linear (hs : q ∈ sizes) {fp : Int32} {i : Nat} (hi : i < 4) (hg : ∀ x, x < q → g x < q ∧ RR i x = nI (g x)) : X3_linear_23 FU q (nI q) RR fp (nI i) FU 0 1 = some (nI (mo (fun k a => wab q g a (k + 1)) q (q - 1))) := by
  have hq := sz_2 q hs
  unfold X3_linear_23
  refine itr_for (ap := fun (t : Int32 → Int32 → Option Int32) k => t (nI (mo (fun k a => wab q g a (k + 1)) q k)) (nI (k + 1))) (q - 1) (fun t => ?_) (fun t k hk => ?_) FU 0 (Nat.zero_le _) (FU_lt (by omega))
  · unfold X3_linear_23_b
    rw [if_pos (nI_le (by omega) (by omega))]
  · unfold X3_linear_23_b X3_linear_34
    rw [if_neg (nI_ge (show k + 1 < q by omega) (by omega))]
    have hsp := mo_le (h := fun k a => wab q g a (k + 1)) (B := 16) (q := q) k (fun _ _ _ _ => wab_le hs)
    refine itr_for (ap := fun (t : Int32 → Int32 → Option Int32) n => t (nI (mx (mo (fun k a => wab q g a (k + 1)) q k) (fun a => wab q g a (k + 1)) n)) (nI n)) q (fun t2 => ?_) (fun t2 n hn => ?_) FU 0 (Nat.zero_le _) (FU_lt (by omega))
    · unfold X3_linear_34_b
      rw [if_pos (Int32.le_refl _), nI_1]
      rfl
    · unfold X3_linear_34_b
      have hm := mx_le (h := fun a => wab q g a (k + 1)) hsp n (fun v _ => wab_le hs)
      have hb := wab_le (g := g) (a := n) (b := k + 1) hs
      have hk2 := (wv_k q (by omega) (agr g n (k + 1) q) (by have := agr_le g n (k + 1) q; omega)).2.2.1
      rw [if_neg (nI_ge hn (by omega)), ckI_ok hi (by decide), nI_clamp (by omega), x_walk hs hn (show k + 1 < q by omega) hg, Option.bind_some, hk2, nI_1]
      show t2 (if nI _ < nI (wab q g n (k + 1)) then nI (wab q g n (k + 1)) else nI _) _ = _
      rw [nI_max (by omega) (by omega)]
      rfl
theorem a_linear (hs : q ∈ sizes) {kp : Int32} {i : Nat} (hi : i < 4) (hg : ∀ x, x < q → g x < q ∧ ms (16 * i + x) = nI (g x)) : X4_linear_28 FU th (nI q) kp ms (nI i) FU 0 0 = some (nI (mo (fun a k => wab q g a (k + 1)) (q - 1) q), th) := by
  have hq := sz_2 q hs
  unfold X4_linear_28
  refine itr_for (ap := fun (t : Int32 → Int32 → Option (Int32 × Int32)) k => t (nI (mo (fun a k => wab q g a (k + 1)) (q - 1) k)) (nI k)) q (fun t => ?_) (fun t a ha => ?_) FU 0 (Nat.zero_le _) (FU_lt (by omega))
  · unfold X4_linear_28_b
    rw [if_pos (Int32.le_refl _)]
  · unfold X4_linear_28_b X4_linear_39
    rw [if_neg (nI_ge ha (by omega))]
    have hsp := mo_le (h := fun a k => wab q g a (k + 1)) (B := 16) (q := q - 1) a (fun _ _ _ _ => wab_le hs)
    refine itr_for (ap := fun (t : Int32 → Int32 → Option (Int32 × Int32)) n => t (nI (mx (mo (fun a k => wab q g a (k + 1)) (q - 1) a) (fun k => wab q g a (k + 1)) n)) (nI (n + 1))) (q - 1) (fun t2 => ?_) (fun t2 n hn => ?_) FU 0 (Nat.zero_le _) (FU_lt (by omega))
    · unfold X4_linear_39_b
      rw [if_pos (nI_le (by omega) (by omega)), nI_1]
      rfl
    · unfold X4_linear_39_b X4_linear_71 X4_linear_85
      have hm := mx_le (h := fun k => wab q g a (k + 1)) hsp n (fun v _ => wab_le hs)
      have hb := wab_le (g := g) (a := a) (b := n + 1) hs
      have hk2 := (wv_k q (by omega) (agr g a (n + 1) q) (by have := agr_le g a (n + 1) q; omega)).2.2.2
      rw [if_neg (nI_ge (show n + 1 < q by omega) (by omega)), a_walk hs hi ha (show n + 1 < q by omega) hg, Option.bind_some]
      have fin : (if nI (wab q g a (n + 1)) ≤ nI (mx (mo (fun a k => wab q g a (k + 1)) (q - 1) a) (fun k => wab q g a (k + 1)) n) then t2 (nI (mx (mo (fun a k => wab q g a (k + 1)) (q - 1) a) (fun k => wab q g a (k + 1)) n)) (nI (n + 1) + 1) else t2 (nI (wab q g a (n + 1))) (nI (n + 1) + 1)) = t2 (nI (mx (mo (fun a k => wab q g a (k + 1)) (q - 1) a) (fun k => wab q g a (k + 1)) (n + 1))) (nI (n + 1 + 1)) := by
        rw [nI_1, nI_max2 (fun z => t2 z (nI (n + 1 + 1))) (by omega) (by omega)]
        rfl
      by_cases e : 0 ≤ wv q (agr g a (n + 1) q)
      · rw [if_pos e, hk2.1 e]
        exact fin
      · rw [if_neg e, hk2.2.1 e]
        exact fin
theorem R_linear (hs : q ∈ sizes) (hR : Rel q f RR ms) (v1 : Int32) : ∃ r, X3_linear FU q (nI q) RR (nI (prm q)) v1 = some r ∧ X4_linear FU th (nI q) (nI (prm q)) ms v1 = some (r, 0) := by
  have hq := sz_2 q hs
  rcases ixc v1 (n := 4) (by omega) with h | ⟨i, hi, rfl⟩
  · exact ⟨-1, by unfold X3_linear; rw [x_mapN h]; rfl, by unfold X4_linear; rw [a_mapN h]; rfl⟩
  by_cases e : nI (prm q) = (2 : Int32)
  · refine ⟨nI (mo (fun k a => wab q (f i) a (k + 1)) q (q - 1)), ?_, ?_⟩
    · unfold X3_linear X3_hasBits
      rw [x_map hi, Option.bind_some, if_neg (by decide), if_pos e, Option.bind_some, if_neg (by decide), x_linear hs hi (hR.x hi)]
    · unfold X4_linear X4_isTwos
      rw [a_map hi, Option.bind_some, if_neg (by decide), if_pos e, Option.bind_some, if_neg (by decide), a_linear hs hi (hR.a hi), lin_eq]
  · refine ⟨-2, ?_, ?_⟩
    · unfold X3_linear X3_hasBits
      rw [x_map hi, if_neg e]
      rfl
    · unfold X4_linear X4_isTwos
      rw [a_map hi, if_neg e]
      rfl
/-- a f(b x + c) -/
def dra (q : Nat) (g : Nat → Nat) (a b c x : Nat) : Nat := MU q a (g (AD q (MU q b x) c))
def dd (q : Nat) (g : Nat → Nat) (w a c : Nat) : Nat := AD q w (NG q (MU q a (g c)))
theorem dra_lt (hs : q ∈ sizes) (hg : ∀ x, x < q → g x < q) {a b c x : Nat} (ha : a < q) (hb : b < q) (hc : c < q) (hx : x < q) : dra q g a b c x < q := MU_lt hs ha (hg _ (AD_lt hs (MU_lt hs hb hx) hc))
theorem dra_0 (hs : q ∈ sizes) {a b c : Nat} (hb : b < q) (hc : c < q) : dra q g a b c 0 = MU q a (g c) := by
  unfold dra
  rw [(k_unit q hs b hb).2.2.2.2.2.1, (k_unit q hs c hc).1]
theorem dd_lt (hs : q ∈ sizes) (hg : ∀ x, x < q → g x < q) {w a c : Nat} (hw : w < q) (ha : a < q) (hc : c < q) : dd q g w a c < q := AD_lt hs hw (NG_lt hs (MU_lt hs ha (hg c hc)))
theorem x_dr (hs : q ∈ sizes) {j a b c x : Nat} (hg : ∀ x, x < q → g x < q ∧ RR j x = nI (g x)) (ha : a < q) (hb : b < q) (hc : c < q) (hx : x < q) : X3_dressedAt FU q RR (nI q) (T0 q) (T1 q) j (nI a) (nI b) (nI c) (nI x) = some (nI (dra q g a b c x)) := by
  have hq := sz_2 q hs
  have h1 := MU_lt hs hb hx
  have h2 := AD_lt hs h1 hc
  unfold X3_dressedAt
  rw [x_product hs hb hx, Option.bind_some, x_sum hs h1 hc, Option.bind_some, ckI_ok (show AD q (MU q b x) c < 16 by omega) (by decide), nI_clamp (by omega), (hg _ h2).2, x_product hs ha (hg _ h2).1]
  rfl
/-- a, b, c make h of g -/
def Drs (q : Nat) (g h : Nat → Nat) (a b c : Nat) : Prop := ∀ x, x < q → h x = AD q (dra q g a b c x) (dd q g (h 0) a c)
theorem x_isDress (hs : q ∈ sizes) {i j a b c : Nat} {h : Nat → Nat} (hg : ∀ x, x < q → g x < q ∧ RR i x = nI (g x)) (hh : ∀ x, x < q → h x < q ∧ RR j x = nI (h x)) (ha : a < q) (hb : b < q) (hc : c < q) : (Drs q g h a b c → X3_isDress FU q (nI q) RR (nI q) (T0 q) (T1 q) (T3 q) i j (nI a) (nI b) (nI c) = some 1) ∧ (¬ Drs q g h a b c → X3_isDress FU q (nI q) RR (nI q) (T0 q) (T1 q) (T3 q) i j (nI a) (nI b) (nI c) = some 0) := by
  have hq := sz_2 q hs
  have hgl : ∀ x, x < q → g x < q := fun x hx => (hg x hx).1
  have h0 := (hh 0 (by omega)).1
  have hd := dd_lt hs hgl h0 ha hc
  have start : X3_isDress FU q (nI q) RR (nI q) (T0 q) (T1 q) (T3 q) i j (nI a) (nI b) (nI c) = X3_isDress_26 FU q (nI q) RR (nI q) (T0 q) (T1 q) (T3 q) i j (nI a) (nI b) (nI c) (nI (dd q g (h 0) a c)) FU 1 := by
    unfold X3_isDress dd
    rw [show (0 : Int32) = nI 0 from rfl, ckI_ok (show 0 < 16 by decide) (by decide), x_dr hs hg ha hb hc (by omega), Option.bind_some, nI_clamp (by decide), (hh 0 (by omega)).2, dra_0 hs hb hc, x_less hs h0 (MU_lt hs ha (hgl c hc)), Option.bind_some]
  rw [start]
  unfold X3_isDress_26
  have key := itr_any (bot := fun (_ : Int32) => (none : Option Int32)) (F := X3_isDress_26_b FU q (nI q) RR (nI q) (T0 q) (T1 q) (T3 q) i j (nI a) (nI b) (nI c) (nI (dd q g (h 0) a c))) (ap := fun t n => t (nI n)) (R1 := some 0) (RE := some 1) (fun x => h x ≠ AD q (dra q g a b c x) (dd q g (h 0) a c)) 1 q (fun t => ?_) (fun t x _ hx hp => ?_) (fun t x _ hx hp => ?_) FU (by omega) (FU_lt (by omega))
  · constructor
    · intro hD
      exact key.2 fun ⟨x, _, hx, hp⟩ => hp (hD x hx)
    · intro hD
      refine key.1 ?_
      by_cases e : ∃ x, 1 ≤ x ∧ x < q ∧ h x ≠ AD q (dra q g a b c x) (dd q g (h 0) a c)
      · exact e
      · refine absurd (fun x hx => ?_) hD
        by_cases z : x = 0
        · rw [z, dra_0 hs hb hc]
          exact (k_back q hs _ (MU_lt hs ha (hgl c hc)) _ h0).symm
        · exact Decidable.not_not.mp fun p => e ⟨x, by omega, hx, p⟩
  · unfold X3_isDress_26_b
    rw [if_pos (Int32.le_refl _)]
  · unfold X3_isDress_26_b
    have h1 := dra_lt hs hgl ha hb hc hx
    have h2 := AD_lt hs h1 hd
    have h3 := (hh x hx).1
    rw [if_neg (nI_ge hx (by omega)), x_dr hs hg ha hb hc hx, Option.bind_some, x_sum hs h1 hd, Option.bind_some, ckI_ok (show x < 16 by omega) (by decide), nI_clamp (by omega), (hh x hx).2, if_neg (fun z => hp ((nI_eq (by omega) (by omega)).mp z).symm)]
  · unfold X3_isDress_26_b
    have h1 := dra_lt hs hgl ha hb hc hx
    rw [if_neg (nI_ge hx (by omega)), x_dr hs hg ha hb hc hx, Option.bind_some, x_sum hs h1 hd, Option.bind_some, ckI_ok (show x < 16 by omega) (by decide), nI_clamp (by omega), (hh x hx).2, if_pos (by rw [← Decidable.not_not.mp hp]), nI_1]
theorem a_isDress (hs : q ∈ sizes) (hM : MS q su pr) {i j a b c : Nat} {h : Nat → Nat} (hi : i < 4) (hj : j < 4) (hg : ∀ x, x < q → g x < q ∧ ms (16 * i + x) = nI (g x)) (hh : ∀ x, x < q → h x < q ∧ ms (16 * j + x) = nI (h x)) (ha : a < q) (hb : b < q) (hc : c < q) (r1 r2 rc : Int32 → Option (Int32 × Int32)) : (Drs q g h a b c → X4_like_97 FU r1 r2 rc th (nI q) su pr ms (nI i) (nI j) (nI a) (nI b) (nI c) (nI (dd q g (h 0) a c)) FU 1 0 = some (1, th)) ∧ (¬ Drs q g h a b c → X4_like_97 FU r1 r2 rc th (nI q) su pr ms (nI i) (nI j) (nI a) (nI b) (nI c) (nI (dd q g (h 0) a c)) FU 1 0 = rc (nI (c + 1))) := by
  have hq := sz_2 q hs
  have hgl : ∀ x, x < q → g x < q := fun x hx => (hg x hx).1
  have h0 := (hh 0 (by omega)).1
  have hd := dd_lt hs hgl h0 ha hc
  have step : ∀ (t : Int32 → Int32 → Option (Int32 × Int32)) x, x < q → X4_like_97_b FU r1 r2 rc th (nI q) su pr ms (nI i) (nI j) (nI a) (nI b) (nI c) (nI (dd q g (h 0) a c)) t 1 (nI x) = if h x = AD q (dra q g a b c x) (dd q g (h 0) a c) then t 1 (nI (x + 1)) else t 0 (nI (x + 1)) := fun t x hx => by
    unfold X4_like_97_b X4_like_166
    have h1 := MU_lt hs hb hx
    have h2 := AD_lt hs h1 hc
    have h3 := MU_lt hs ha (hgl _ h2)
    have h4 := AD_lt hs h3 hd
    have h5 := (hh x hx).1
    rw [if_neg (nI_ge hx (by omega)), if_neg (by decide), idx16, ckI_ok (by omega) (by decide), a_by hs hM hb hx, Option.bind_some, a_add hs hM h1 hc, Option.bind_some, idx16, ckI_ok (by omega) (by decide), nI_clamp (show 16 * i + AD q (MU q b x) c < 2 ^ 31 by omega), (hg _ h2).2, a_by hs hM ha (hgl _ h2), Option.bind_some, a_add hs hM h3 hd, Option.bind_some, nI_clamp (show 16 * j + x < 2 ^ 31 by omega), (hh x hx).2, nI_1]
    change (if nI (h x) = nI (AD q (dra q g a b c x) (dd q g (h 0) a c)) then _ else _) = _
    have h6 : AD q (dra q g a b c x) (dd q g (h 0) a c) < q := h4
    by_cases e : h x = AD q (dra q g a b c x) (dd q g (h 0) a c)
    · rw [if_pos e, if_pos (by rw [← e])]
    · rw [if_neg e, if_neg (fun z => e ((nI_eq (by omega) (by omega)).mp z))]
  unfold X4_like_97
  constructor
  · intro hD
    refine itr_for (ap := fun (t : Int32 → Int32 → Option (Int32 × Int32)) n => t 1 (nI n)) q (fun t => ?_) (fun t x hx => ?_) FU 0 (Nat.zero_le _) (FU_lt (by omega))
    · unfold X4_like_97_b X4_like_174
      rw [if_pos (Int32.le_refl _), if_neg (by decide)]
    · rw [step t x hx, if_pos (hD x hx)]
  · intro hD
    rcases firstly (fun x => h x ≠ AD q (dra q g a b c x) (dd q g (h 0) a c)) 0 q with hn | ⟨n, -, hn, hp, hl⟩
    · exact absurd (fun x hx => Decidable.not_not.mp (hn x (Nat.zero_le _) hx)) hD
    · refine itr_for (ap := fun (t : Int32 → Int32 → Option (Int32 × Int32)) k => t (if k ≤ n then 1 else 0) (nI k)) (n + 1) (fun t => ?_) (fun t x hx => ?_) FU 0 (Nat.zero_le _) (FU_lt (by omega))
      · rw [if_neg (by omega)]
        unfold X4_like_97_b X4_like_174
        rw [if_pos rfl, if_pos rfl, nI_1]
        split <;> rfl
      · rw [if_pos (by omega), step t x (by omega)]
        by_cases e : x = n
        · subst e
          rw [if_neg hp, if_neg (by omega)]
        · rw [if_pos (Decidable.not_not.mp (hl x (Nat.zero_le _) (by omega))), if_pos (by omega)]
theorem R_like (hs : q ∈ sizes) (hM : MS q su pr) (hR : Rel q f RR ms) (v1 v2 : Int32) : ∃ r, X3_like FU q (nI q) RR (nI q) (T0 q) (T1 q) (T3 q) v1 v2 = some r ∧ X4_like FU th (nI q) su pr ms v1 v2 = some (r, 0) := by
  have hq := sz_2 q hs
  rcases ixc v1 (n := 4) (by omega) with h | ⟨i, hi, rfl⟩
  · exact ⟨-1, by unfold X3_like; rw [x_mapN h]; rfl, by unfold X4_like; rw [a_mapN h]; rfl⟩
  rcases ixc v2 (n := 4) (by omega) with h | ⟨j, hj, rfl⟩
  · exact ⟨-1, by unfold X3_like; rw [x_map hi, x_mapN h]; rfl, by unfold X4_like; rw [a_map hi, a_mapN h]; rfl⟩
  have hX : X3_like FU q (nI q) RR (nI q) (T0 q) (T1 q) (T3 q) (nI i) (nI j) = X3_like_18 FU q (nI q) RR (nI q) (T0 q) (T1 q) (T3 q) (nI i) (nI j) FU 1 := by
    unfold X3_like
    rw [x_map hi, Option.bind_some, if_neg (by decide), x_map hj, Option.bind_some, if_neg (by decide)]
  have hA : X4_like FU th (nI q) su pr ms (nI i) (nI j) = X4_like_23 FU 0 (nI q) su pr ms (nI i) (nI j) FU 1 := by
    unfold X4_like
    rw [a_map hi, Option.bind_some, if_neg (by decide), a_map hj, Option.bind_some, if_neg (by decide)]
  rw [hX, hA]
  have xc : ∀ (r1 r2 : Int32 → Option Int32) a b, a < q → b < q → ((∃ c, 0 ≤ c ∧ c < q ∧ Drs q (f i) (f j) a b c) → X3_like_41 FU q r1 r2 (nI q) RR (nI q) (T0 q) (T1 q) (T3 q) (nI i) (nI j) (nI a) (nI b) FU 0 = some 1) ∧ ((¬ ∃ c, 0 ≤ c ∧ c < q ∧ Drs q (f i) (f j) a b c) → X3_like_41 FU q r1 r2 (nI q) RR (nI q) (T0 q) (T1 q) (T3 q) (nI i) (nI j) (nI a) (nI b) FU 0 = r2 (nI (b + 1))) := fun r1 r2 a b ha hb => by
    unfold X3_like_41
    refine itr_any (ap := fun (t : Int32 → Option Int32) n => t (nI n)) (fun c => Drs q (f i) (f j) a b c) 0 q (fun t => ?_) (fun t c _ hc hp => ?_) (fun t c _ hc hp => ?_) FU (by omega) (FU_lt (by omega))
    · unfold X3_like_41_b
      rw [if_pos (Int32.le_refl _), nI_1]
    · unfold X3_like_41_b
      rw [if_neg (nI_ge hc (by omega)), ckI_ok hi (by decide), ckI_ok hj (by decide), nI_clamp (by omega), nI_clamp (by omega), (x_isDress hs (hR.x hi) (hR.x hj) ha hb hc).1 hp, Option.bind_some, if_neg (by decide)]
    · unfold X3_like_41_b
      rw [if_neg (nI_ge hc (by omega)), ckI_ok hi (by decide), ckI_ok hj (by decide), nI_clamp (by omega), nI_clamp (by omega), (x_isDress hs (hR.x hi) (hR.x hj) ha hb hc).2 hp, Option.bind_some, if_pos rfl, nI_1]
  have ac : ∀ (r1 r2 : Int32 → Option (Int32 × Int32)) a b, a < q → b < q → ((∃ c, 0 ≤ c ∧ c < q ∧ Drs q (f i) (f j) a b c) → X4_like_46 FU r1 r2 0 (nI q) su pr ms (nI i) (nI j) (nI a) (nI b) FU 0 = some (1, 0)) ∧ ((¬ ∃ c, 0 ≤ c ∧ c < q ∧ Drs q (f i) (f j) a b c) → X4_like_46 FU r1 r2 0 (nI q) su pr ms (nI i) (nI j) (nI a) (nI b) FU 0 = r2 (nI (b + 1))) := fun r1 r2 a b ha hb => by
    unfold X4_like_46
    have e16 : (16 : Int32) * nI j = nI (16 * j) := pk_mul 16 j
    have g0 : ms (16 * j) = nI (f j 0) := (hR j hj 0 (by omega)).2.2
    have pre : ∀ (t : Int32 → Option (Int32 × Int32)) c, c < q → X4_like_46_b FU r1 r2 0 (nI q) su pr ms (nI i) (nI j) (nI a) (nI b) t (nI c) = X4_like_97 FU r1 r2 t 0 (nI q) su pr ms (nI i) (nI j) (nI a) (nI b) (nI c) (nI (dd q (f i) (f j 0) a c)) FU 1 0 := fun t c hc => by
      unfold X4_like_46_b dd
      have h1 := (hR i hi c hc).1
      have h2 := MU_lt hs ha h1
      rw [if_neg (nI_ge hc (by omega)), e16, ckI_ok (by omega) (by decide), idx16, ckI_ok (by omega) (by decide), nI_clamp (show 16 * i + c < 2 ^ 31 by omega), (hR i hi c hc).2.2, a_by hs hM ha h1, Option.bind_some, a_minus hs hM h2, Option.bind_some, nI_clamp (by omega), g0, a_add hs hM (hR j hj 0 (by omega)).1 (NG_lt hs h2), Option.bind_some]
    refine itr_any (ap := fun (t : Int32 → Option (Int32 × Int32)) n => t (nI n)) (fun c => Drs q (f i) (f j) a b c) 0 q (fun t => ?_) (fun t c _ hc hp => ?_) (fun t c _ hc hp => ?_) FU (by omega) (FU_lt (by omega))
    · unfold X4_like_46_b
      rw [if_pos (Int32.le_refl _), nI_1]
    · rw [pre t c hc]
      exact (a_isDress hs hM hi hj (hR.a hi) (hR.a hj) ha hb hc r1 r2 t).1 hp
    · rw [pre t c hc]
      exact (a_isDress hs hM hi hj (hR.a hi) (hR.a hj) ha hb hc r1 r2 t).2 hp
  have xb : ∀ (r1 : Int32 → Option Int32) a, a < q → ((∃ b, 1 ≤ b ∧ b < q ∧ ∃ c, 0 ≤ c ∧ c < q ∧ Drs q (f i) (f j) a b c) → X3_like_29 FU q r1 (nI q) RR (nI q) (T0 q) (T1 q) (T3 q) (nI i) (nI j) (nI a) FU 1 = some 1) ∧ ((¬ ∃ b, 1 ≤ b ∧ b < q ∧ ∃ c, 0 ≤ c ∧ c < q ∧ Drs q (f i) (f j) a b c) → X3_like_29 FU q r1 (nI q) RR (nI q) (T0 q) (T1 q) (T3 q) (nI i) (nI j) (nI a) FU 1 = r1 (nI (a + 1))) := fun r1 a ha => by
    unfold X3_like_29
    refine itr_any (ap := fun (t : Int32 → Option Int32) n => t (nI n)) (fun b => ∃ c, 0 ≤ c ∧ c < q ∧ Drs q (f i) (f j) a b c) 1 q (fun t => ?_) (fun t b _ hb hp => ?_) (fun t b _ hb hp => ?_) FU (by omega) (FU_lt (by omega))
    · unfold X3_like_29_b
      rw [if_pos (Int32.le_refl _), nI_1]
    · unfold X3_like_29_b
      rw [if_neg (nI_ge hb (by omega))]
      exact (xc r1 t a b ha hb).1 hp
    · unfold X3_like_29_b
      rw [if_neg (nI_ge hb (by omega))]
      exact (xc r1 t a b ha hb).2 hp
  have abb : ∀ (r1 : Int32 → Option (Int32 × Int32)) a, a < q → ((∃ b, 1 ≤ b ∧ b < q ∧ ∃ c, 0 ≤ c ∧ c < q ∧ Drs q (f i) (f j) a b c) → X4_like_34 FU r1 0 (nI q) su pr ms (nI i) (nI j) (nI a) FU 1 = some (1, 0)) ∧ ((¬ ∃ b, 1 ≤ b ∧ b < q ∧ ∃ c, 0 ≤ c ∧ c < q ∧ Drs q (f i) (f j) a b c) → X4_like_34 FU r1 0 (nI q) su pr ms (nI i) (nI j) (nI a) FU 1 = r1 (nI (a + 1))) := fun r1 a ha => by
    unfold X4_like_34
    refine itr_any (ap := fun (t : Int32 → Option (Int32 × Int32)) n => t (nI n)) (fun b => ∃ c, 0 ≤ c ∧ c < q ∧ Drs q (f i) (f j) a b c) 1 q (fun t => ?_) (fun t b _ hb hp => ?_) (fun t b _ hb hp => ?_) FU (by omega) (FU_lt (by omega))
    · unfold X4_like_34_b
      rw [if_pos (Int32.le_refl _), nI_1]
    · unfold X4_like_34_b
      rw [if_neg (nI_ge hb (by omega))]
      exact (ac r1 t a b ha hb).1 hp
    · unfold X4_like_34_b
      rw [if_neg (nI_ge hb (by omega))]
      exact (ac r1 t a b ha hb).2 hp
  have xa : ((∃ a, 1 ≤ a ∧ a < q ∧ ∃ b, 1 ≤ b ∧ b < q ∧ ∃ c, 0 ≤ c ∧ c < q ∧ Drs q (f i) (f j) a b c) → X3_like_18 FU q (nI q) RR (nI q) (T0 q) (T1 q) (T3 q) (nI i) (nI j) FU 1 = some 1) ∧ ((¬ ∃ a, 1 ≤ a ∧ a < q ∧ ∃ b, 1 ≤ b ∧ b < q ∧ ∃ c, 0 ≤ c ∧ c < q ∧ Drs q (f i) (f j) a b c) → X3_like_18 FU q (nI q) RR (nI q) (T0 q) (T1 q) (T3 q) (nI i) (nI j) FU 1 = some 0) := by
    unfold X3_like_18
    refine itr_any (ap := fun (t : Int32 → Option Int32) n => t (nI n)) (fun a => ∃ b, 1 ≤ b ∧ b < q ∧ ∃ c, 0 ≤ c ∧ c < q ∧ Drs q (f i) (f j) a b c) 1 q (fun t => ?_) (fun t a _ ha hp => ?_) (fun t a _ ha hp => ?_) FU (by omega) (FU_lt (by omega))
    · unfold X3_like_18_b
      rw [if_pos (Int32.le_refl _)]
    · unfold X3_like_18_b
      rw [if_neg (nI_ge ha (by omega))]
      exact (xb t a ha).1 hp
    · unfold X3_like_18_b
      rw [if_neg (nI_ge ha (by omega))]
      exact (xb t a ha).2 hp
  have aa : ((∃ a, 1 ≤ a ∧ a < q ∧ ∃ b, 1 ≤ b ∧ b < q ∧ ∃ c, 0 ≤ c ∧ c < q ∧ Drs q (f i) (f j) a b c) → X4_like_23 FU 0 (nI q) su pr ms (nI i) (nI j) FU 1 = some (1, 0)) ∧ ((¬ ∃ a, 1 ≤ a ∧ a < q ∧ ∃ b, 1 ≤ b ∧ b < q ∧ ∃ c, 0 ≤ c ∧ c < q ∧ Drs q (f i) (f j) a b c) → X4_like_23 FU 0 (nI q) su pr ms (nI i) (nI j) FU 1 = some (0, 0)) := by
    unfold X4_like_23
    refine itr_any (ap := fun (t : Int32 → Option (Int32 × Int32)) n => t (nI n)) (fun a => ∃ b, 1 ≤ b ∧ b < q ∧ ∃ c, 0 ≤ c ∧ c < q ∧ Drs q (f i) (f j) a b c) 1 q (fun t => ?_) (fun t a _ ha hp => ?_) (fun t a _ ha hp => ?_) FU (by omega) (FU_lt (by omega))
    · unfold X4_like_23_b
      rw [if_pos (Int32.le_refl _)]
    · unfold X4_like_23_b
      rw [if_neg (nI_ge ha (by omega))]
      exact (abb t a ha).1 hp
    · unfold X4_like_23_b
      rw [if_neg (nI_ge ha (by omega))]
      exact (abb t a ha).2 hp
  by_cases hE : ∃ a, 1 ≤ a ∧ a < q ∧ ∃ b, 1 ≤ b ∧ b < q ∧ ∃ c, 0 ≤ c ∧ c < q ∧ Drs q (f i) (f j) a b c
  · exact ⟨1, xa.1 hE, aa.1 hE⟩
  · exact ⟨0, xa.2 hE, aa.2 hE⟩
end
