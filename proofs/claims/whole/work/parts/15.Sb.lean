section
variable {p : Program} {l : Launch} {e : Env} {s : State} {m : MethodId} {args : Array Value} {below : List Frame} {meth : Method} {c : Code} {G : GG} {A : Nat → Prop}
/-- the numbers below k that sh takes -/
def lsh (sh : Nat → Bool) (k : Nat) : List Nat := (List.range k).filter sh
theorem lsh_s (sh : Nat → Bool) (k : Nat) : lsh sh (k + 1) = lsh sh k ++ (if sh k then [k] else []) := by
  unfold lsh
  rw [List.range_succ, List.filter_append]
  cases h : sh k <;> simp [h]
theorem lsh_le (sh : Nat → Bool) (k : Nat) : (lsh sh k).length ≤ k := by
  have h := List.length_filter_le sh (List.range k)
  rw [List.length_range] at h
  exact h
/-- what a search of one degree asks of the field's tables -/
def Hsh (fu N : Nat) (fq : Int32) (t0 t1 : Nat → Int32) (d all : Nat) (sh : Nat → Bool) : Prop := ∀ k, k < all → ∀ t5 : Nat → Int32, ∃ t6 : Nat → Int32, X0_writePolynomial fu N fq t5 (nI d) (nI k) = some t6 ∧ X0_polynomialShuffles fu N fq t0 t1 t6 (nI d) = some (if sh k then 1 else 0)
/-- a listing that holds the first numbers -/
def Lok (sh : Nat → Bool) (k w : Nat) (f : Nat → Int32) : Prop := w ≤ 9 ∧ (lsh sh k).length ≤ 8 * 2 ^ w ∧ (∀ j, j < (lsh sh k).length → f j = nI ((lsh sh k).getD j 0))
abbrev rm_X0_listed : Room := { frames := 3, cells := 513, slots := 8186, locals := 83 }
theorem pk_X0_listed : PkV RX0 yX0_listed cX0_listed 5 (some (.object "ShuffleMaps$Listing")) 1 := ⟨rfl, co_X0_listed, ini_RX0, im_X0_listed, se_X0_listed, by decide +kernel⟩
def PoL (G : GG) (fa : Nat → Nat) (N : Nat) (fp fq : Int32) (t0 t1 t2 t3 t4 : Nat → Int32) (tL : Nat → Option Nat) (sh : Nat → Bool) (all : Nat) : Option Value → va_W → Prop := fun o w9 => ∃ (b a w : Nat) (f t5 : Nat → Int32), o = some (.ref b) ∧ w9 = lwd G b a (8 * 2 ^ w) f (nI (lsh sh all).length) ++ fw G fa N fp fq t0 t1 t2 t3 t4 t5 tL ∧ Lok sh all w f
set_option maxRecDepth 20000 in
set_option maxHeartbeats 4000000 in
theorem w_listed_loop {fa : Nat → Nat} {N : Nat} {fp fq : Int32} {t0 t1 t2 t3 t4 : Nat → Int32} {tL : Nat → Option Nat} {fu d all b : Nat} {sh : Nat → Bool} (C : Cx p s m args meth c G A RX0 cX0_listed 5 (some (.object "ShuffleMaps$Listing"))) (hall : all ≤ 4096) (H : Hsh fu N fq t0 t1 d all sh) :
    ∀ (n k : Nat), k ≤ all → all + 1 ≤ k + n → ∀ (a w : Nat) (f t5 : Nat → Int32), Lok sh k w f → Wd p l e rm_X0_listed s m args below meth c G A 5 (1 + 2 ^ w) (16 * 2 ^ w - 6) (QQ G A (PoL G fa N fp fq t0 t1 t2 t3 t4 tL sh all) below args s 513 8186) (lwd G b a (8 * 2 ^ w) f (nI (lsh sh k).length) ++ (fw G fa N fp fq t0 t1 t2 t3 t4 t5 tL)) [(0, .ref (fa 0)), (1, .int (nI d)), (2, .ref b), (3, .int (nI all)), (4, .int (nI k))] 17 [] := by
  intro n
  induction n with
  | zero => intro k h1 h2; exact absurd h2 (by omega)
  | succ n ih =>
    intro k hk hn a w f t5 hL
    have hw9 : 2 ^ w ≤ 512 := Nat.pow_le_pow_right (by decide) hL.1
    have hw0 : 0 < 2 ^ w := Nat.two_pow_pos w
    have hR1 : 1 + 2 ^ w ≤ 513 := by omega
    have hR2 : 16 * 2 ^ w - 6 ≤ 8186 := by omega
    have hlk := lsh_le sh k
    refine w_iload C 4 rfl dX0_listed_17 ?_
    refine w_iload_n C 3 rfl dX0_listed_19 ?_
    refine w_icmp_ge (tgt := 50) C dX0_listed_20 (by decide) (fun hb => ?_) (fun hb => ?_)
    · have hka : k = all := Nat.le_antisymm hk ((nI_leI (by omega) (by omega)).mp hb)
      subst hka
      refine w_aload_n C 2 rfl dX0_listed_50 ?_
      refine w_widen (k := 513) (n := 8186) hR1 hR2 ?_
      exact w_aret C (Or.inl ⟨_, rfl⟩) ⟨b, a, w, f, t5, rfl, rfl, hL⟩ dX0_listed_51
    · have hka : k < all := Nat.lt_of_not_le (fun q => hb (nI_le q (by omega)))
      obtain ⟨t6, hw1, hw2⟩ := H k hka t5
      refine w_aload_n C 0 rfl dX0_listed_23 ?_
      refine w_iload_n C 1 rfl dX0_listed_24 ?_
      refine w_iload C 4 rfl dX0_listed_25 ?_
      refine w_cVv (wr := _) (qc := (RX0, TX0, 9)) C (c_X0_writePolynomial fu hw1) pk_X0_writePolynomial ml_X0_83 (As := [.int (nI d), .int (nI k)]) (rest := []) (k9 := 0) rfl rfl ⟨⟨rfl, rfl⟩, (Nat.le_of_ble_eq_true rfl), (Nat.le_of_ble_eq_true rfl)⟩ rfl ⟨hR1, hR2⟩ (Nat.le_of_ble_eq_true rfl) rfl rfl rfl dX0_listed_27 ?_
      refine w_aload_n C 0 rfl dX0_listed_30 ?_
      refine w_iload_n C 1 rfl dX0_listed_31 ?_
      refine w_cVi (wr := _) (qc := (RX0, TX0, 9)) C (c_X0_polynomialShuffles fu hw2) pk_X0_polynomialShuffles ml_X0_87 (As := [.int (nI d)]) (rest := []) (k9 := 0) rfl rfl ⟨⟨rfl, rfl⟩, (Nat.le_of_ble_eq_true rfl), (Nat.le_of_ble_eq_true rfl)⟩ rfl ⟨hR1, hR2⟩ (Nat.le_of_ble_eq_true rfl) rfl rfl rfl dX0_listed_32 ?_
      refine w_if_eq (tgt := 44) C dX0_listed_35 (by decide) (fun hc => ?_) (fun hc => ?_)
      · have hs : sh k = false := by
          cases hq : sh k with
          | false => rfl
          | true => rw [hq] at hc; exact absurd hc (by decide)
        have e1 : lsh sh (k + 1) = lsh sh k := by rw [lsh_s, hs]; simp
        refine w_iinc (n := 1) (v := nI (k + 1)) (k := 4) C rfl (nI_1 k) (Nat.le_of_ble_eq_true rfl) rfl dX0_listed_44 ?_
        refine w_goto (tgt := 17) C dX0_listed_47 (by decide) ?_
        refine w_lv [1, 2, 3, 4, 0] rfl ?_
        have ih' := ih (k + 1) hka (by omega) a w f t6 (by unfold Lok; rw [e1]; exact hL)
        rw [e1] at ih'
        exact ih'
      · have hs : sh k = true := by
          cases hq : sh k with
          | true => rfl
          | false => rw [hq] at hc; exact absurd rfl hc
        have e1 : lsh sh (k + 1) = lsh sh k ++ [k] := by rw [lsh_s, hs]; simp
        have e2 : (lsh sh (k + 1)).length = (lsh sh k).length + 1 := by rw [e1, List.length_append]; rfl
        have e3 : ∀ j, j < (lsh sh k).length → (lsh sh (k + 1)).getD j 0 = (lsh sh k).getD j 0 := fun j hj => by
          rw [e1, List.getD_eq_getElem?_getD, List.getD_eq_getElem?_getD, List.getElem?_append_left hj]
        have e4 : (lsh sh (k + 1)).getD (lsh sh k).length 0 = k := by
          rw [e1, List.getD_eq_getElem?_getD, List.getElem?_append_right (Nat.le_refl _), Nat.sub_self]; rfl
        refine w_aload_n C 2 rfl dX0_listed_38 ?_
        refine w_iload C 4 rfl dX0_listed_39 ?_
        refine w_perm List.perm_append_comm ?_
        by_cases hfull : (lsh sh k).length < 8 * 2 ^ w
        · refine w_callV (qc := (RX1, TX1, 2)) (wr := (fw G fa N fp fq t0 t1 t2 t3 t4 t6 tL)) C (c_X1_append_A (G := G) (b := b) (a := a) (f := f) (v := nI k) hfull (by omega)) pk_X1_append ml_X0_91 (As := [.int (nI k)]) (rest := []) (k9 := 0) (ci := 1) rfl rfl ⟨⟨rfl, rfl⟩, (Nat.le_of_ble_eq_true rfl), (Nat.le_of_ble_eq_true rfl)⟩ rfl ⟨hR1, hR2⟩ (Nat.le_of_ble_eq_true rfl) rfl dX0_listed_41 (fun o w1 h => ?_)
          obtain ⟨rfl, rfl⟩ := h
          refine w_perm List.perm_append_comm ?_
          refine w_iinc (n := 1) (v := nI (k + 1)) (k := 4) C rfl (nI_1 k) (Nat.le_of_ble_eq_true rfl) rfl dX0_listed_44 ?_
          refine w_goto (tgt := 17) C dX0_listed_47 (by decide) ?_
          refine w_lv [1, 2, 3, 4, 0] rfl ?_
          have ih' := ih (k + 1) hka (by omega) a w (upd f (lsh sh k).length (nI k)) t6 ⟨hL.1, by omega, fun j hj => by
            by_cases hj2 : j = (lsh sh k).length
            · subst hj2
              rw [pk_us, e4]
            · rw [pk_un hj2, e3 j (by omega)]
              exact hL.2.2 j (by omega)⟩
          rw [e2] at ih'
          exact ih'
        · have hlen : (lsh sh k).length = 8 * 2 ^ w := Nat.le_antisymm hL.2.1 (Nat.le_of_not_lt hfull)
          have hw8a : 2 ^ w < 2 ^ 9 := by
            have : 8 * 2 ^ w < 4096 := by omega
            omega
          have hw8 : w < 9 := (Nat.pow_lt_pow_iff_right (a := 2) (by decide)).mp hw8a
          have hp : 2 ^ (w + 1) = 2 * 2 ^ w := by rw [Nat.pow_succ]; omega
          have hp8 : 2 ^ w ≤ 2 ^ 8 := Nat.pow_le_pow_right (by decide) (by omega)
          rw [hlen]
          have hcl : (rm_X1_append (2 * (8 * 2 ^ w))).cells = 1 := if_neg (by omega)
          refine w_callV (qc := (RX1, TX1, 2)) (wr := (fw G fa N fp fq t0 t1 t2 t3 t4 t6 tL)) C (c_X1_append_B (G := G) (b := b) (a := a) (L := 8 * 2 ^ w) (f := f) (v := nI k) (by omega) (by omega)) pk_X1_append ml_X0_91 (As := [.int (nI k)]) (rest := []) (k9 := 0) (ci := 1) rfl rfl ⟨⟨hcl, rfl⟩, (Nat.le_of_ble_eq_true rfl), (Nat.le_of_ble_eq_true rfl)⟩ rfl ⟨by show 1 + 2 ^ w + 1 ≤ 513; omega, by show 16 * 2 ^ w - 6 + 2 * (8 * 2 ^ w) ≤ 8186; omega⟩ (Nat.le_of_ble_eq_true rfl) rfl dX0_listed_41 (fun o w1 h => ?_)
          obtain ⟨rfl, a2, rfl⟩ := h
          refine w_perm List.perm_append_comm ?_
          refine w_iinc (n := 1) (v := nI (k + 1)) (k := 4) C rfl (nI_1 k) (Nat.le_of_ble_eq_true rfl) rfl dX0_listed_44 ?_
          refine w_goto (tgt := 17) C dX0_listed_47 (by decide) ?_
          refine w_lv [1, 2, 3, 4, 0] rfl ?_
          refine w_widen (k := 1 + 2 ^ (w + 1)) (n := 16 * 2 ^ (w + 1) - 6) (by omega) (by omega) ?_
          have ih' := ih (k + 1) hka (by omega) a2 (w + 1) (upd (va_cpy f (fun _ => 0) 0 0 (8 * 2 ^ w)) (8 * 2 ^ w) (nI k)) t6 ⟨by omega, by omega, fun j hj => by
            by_cases hj2 : j = 8 * 2 ^ w
            · subst hj2
              rw [pk_us, ← hlen, e4]
            · rw [pk_un hj2, e3 j (by omega), pk_cpy_in (Nat.zero_le _) (by omega)]
              have : (0 + (j - 0)) = j := by omega
              rw [this]
              exact hL.2.2 j (by omega)⟩
          rw [e2, hlen, show 8 * 2 ^ (w + 1) = 2 * (8 * 2 ^ w) by omega] at ih'
          exact ih'
set_option maxRecDepth 20000 in
set_option maxHeartbeats 4000000 in
theorem c_X0_listed {fa : Nat → Nat} {N : Nat} {fp fq : Int32} {t0 t1 t2 t3 t4 : Nat → Int32} {tL : Nat → Option Nat} {t5 : Nat → Int32} {fu d all : Nat} {sh : Nat → Bool} (hall : all ≤ 4096) (hpo : X0_polynomials fu N fq (nI d) = some (nI all)) (H : Hsh fu N fq t0 t1 d all sh) : Ct l yX0_listed cX0_listed 5 (some (.object "ShuffleMaps$Listing")) G rm_X0_listed [.ref (fa 0), .int (nI d)] (fw G fa N fp fq t0 t1 t2 t3 t4 t5 tL) (PoL G fa N fp fq t0 t1 t2 t3 t4 tL sh all) 513 8186 := Ct.of (by decide) (Nat.le_of_ble_eq_true rfl) (fun p e s m args below meth c A C _ => by
  show Wd p l e rm_X0_listed s m args below meth c G A 5 0 0 _ _ [(0, .ref (fa 0)), (1, .int (nI d))] 0 []
  refine w_new (ci := 1) (fs := [.null, .int 0]) C rfl inX1 tyX1 tyX1_ok cl_X0_15 ins_RX1 ini_RX1 (fun j hj => by rcases (show j = 0 ∨ j = 1 by omega) with rfl | rfl <;> rfl) (Nat.le_of_ble_eq_true rfl) (Nat.le_of_ble_eq_true rfl) dX0_listed_0 (fun b => ?_)
  refine w_dup C dX0_listed_3 rfl ?_
  refine w_callIN C (c_X1_init (b := b)) pk_X1_init C.2.2.2.2.2.2.2.1.2.2.2.2.1 (As := []) (rest := [.ref b]) ⟨⟨rfl, rfl⟩, (Nat.le_of_ble_eq_true rfl), (Nat.le_of_ble_eq_true rfl)⟩ rfl ⟨(Nat.le_of_ble_eq_true rfl), (Nat.le_of_ble_eq_true rfl)⟩ (Nat.le_of_ble_eq_true rfl) rfl dX0_listed_4 (fun o w1 h => ?_)
  obtain ⟨rfl, a, rfl⟩ := h
  refine w_perm List.perm_append_comm ?_
  refine w_astore_n C (Nat.le_of_ble_eq_true rfl) rfl dX0_listed_7 ?_
  refine w_aload_n C 1 rfl dX0_listed_8 ?_
  refine w_iload_n C 2 rfl dX0_listed_9 ?_
  refine w_cVi (wr := lwd G b a 8 (fun _ => 0) 0) (qc := (RX0, TX0, 9)) C (c_X0_polynomials fu hpo) pk_X0_polynomials ml_X0_80 (As := [.int (nI d)]) (rest := []) (k9 := 0) rfl rfl ⟨⟨rfl, rfl⟩, (Nat.le_of_ble_eq_true rfl), (Nat.le_of_ble_eq_true rfl)⟩ rfl ⟨(Nat.le_of_ble_eq_true rfl), (Nat.le_of_ble_eq_true rfl)⟩ (Nat.le_of_ble_eq_true rfl) rfl rfl rfl dX0_listed_10 ?_
  refine w_istore_n C (Nat.le_of_ble_eq_true rfl) rfl dX0_listed_13 ?_
  refine w_iconst (v := 0) C dX0_listed_14 (by decide) ?_
  refine w_istore C (Nat.le_of_ble_eq_true rfl) rfl dX0_listed_15 ?_
  refine w_lv [3, 4, 2, 1, 0] rfl ?_
  exact w_listed_loop C hall H (all + 1) 0 (Nat.zero_le _) (by omega) a 0 (fun _ => 0) t5 ⟨by omega, by show (lsh sh 0).length ≤ 8; exact Nat.zero_le _, fun j hj => absurd hj (by show ¬ j < 0; omega)⟩)
abbrev rm_X0_listing : Room := { frames := 4, cells := 513, slots := 8186, locals := 107 }
theorem pk_X0_listing : PkV RX0 yX0_listing cX0_listing 2 (some (.object "ShuffleMaps$Listing")) 1 := ⟨rfl, co_X0_listing, ini_RX0, im_X0_listing, se_X0_listing, by decide +kernel⟩
/-- a listing that stands -/
theorem c_X0_listing_some {fa : Nat → Nat} {N : Nat} {fp fq : Int32} {t0 t1 t2 t3 t4 : Nat → Int32} {tL : Nat → Option Nat} {t5 : Nat → Int32} {d b : Nat} (hd : d < 6) (hb : tL d = some b) : Ct l yX0_listing cX0_listing 2 (some (.object "ShuffleMaps$Listing")) G rm_X0_listing [.ref (fa 0), .int (nI d)] (fw G fa N fp fq t0 t1 t2 t3 t4 t5 tL) (fun o w => o = some (.ref b) ∧ w = (fw G fa N fp fq t0 t1 t2 t3 t4 t5 tL)) 513 8186 := Ct.of (by decide) (Nat.le_of_ble_eq_true rfl) (fun p e s m args below meth c A C _ => by
  show Wd p l e rm_X0_listing s m args below meth c G A 2 0 0 _ _ [(0, .ref (fa 0)), (1, .int (nI d))] 0 []
  have hin : vp_in (nI d) 6 := vp_in_nI hd (by decide)
  have hc : (nI d).toNatClampNeg = d := nI_clamp (by omega)
  refine w_aload_n C 0 rfl dX0_listing_0 ?_
  refine gt_X0_17 C dX0_listing_1 ?_
  refine w_iload_n C 1 rfl dX0_listing_4 ?_
  refine w_aldq C 7 2 rfl rfl hin dX0_listing_5 ?_
  rw [hc, hb]
  refine w_ifnonnull (tgt := 20) C dX0_listing_6 (by decide) ?_
  refine w_aload_n C 0 rfl dX0_listing_20 ?_
  refine gt_X0_17 C dX0_listing_21 ?_
  refine w_iload_n C 1 rfl dX0_listing_24 ?_
  refine w_aldq C 7 2 rfl rfl hin dX0_listing_25 ?_
  rw [hc, hb]
  refine w_widen (k := 513) (n := 8186) (Nat.le_of_ble_eq_true rfl) (Nat.le_of_ble_eq_true rfl) ?_
  exact w_aret C (Or.inl ⟨_, rfl⟩) ⟨rfl, rfl⟩ dX0_listing_26)
def PoM (G : GG) (fa : Nat → Nat) (N : Nat) (fp fq : Int32) (t0 t1 t2 t3 t4 : Nat → Int32) (tL : Nat → Option Nat) (sh : Nat → Bool) (all d : Nat) : Option Value → va_W → Prop := fun o w9 => ∃ (b a w : Nat) (f t5 : Nat → Int32), o = some (.ref b) ∧ w9 = lwd G b a (8 * 2 ^ w) f (nI (lsh sh all).length) ++ fw G fa N fp fq t0 t1 t2 t3 t4 t5 (va_up tL d (some b)) ∧ Lok sh all w f
theorem c_X0_listing_none {fa : Nat → Nat} {N : Nat} {fp fq : Int32} {t0 t1 t2 t3 t4 : Nat → Int32} {tL : Nat → Option Nat} {t5 : Nat → Int32} {fu d all : Nat} {sh : Nat → Bool} (hd : d < 6) (hb : tL d = none) (hall : all ≤ 4096) (hpo : X0_polynomials fu N fq (nI d) = some (nI all)) (H : Hsh fu N fq t0 t1 d all sh) : Ct l yX0_listing cX0_listing 2 (some (.object "ShuffleMaps$Listing")) G rm_X0_listing [.ref (fa 0), .int (nI d)] (fw G fa N fp fq t0 t1 t2 t3 t4 t5 tL) (PoM G fa N fp fq t0 t1 t2 t3 t4 tL sh all d) 513 8186 := Ct.of (by decide) (Nat.le_of_ble_eq_true rfl) (fun p e s m args below meth c A C _ => by
  show Wd p l e rm_X0_listing s m args below meth c G A 2 0 0 _ _ [(0, .ref (fa 0)), (1, .int (nI d))] 0 []
  have hin : vp_in (nI d) 6 := vp_in_nI hd (by decide)
  have hc : (nI d).toNatClampNeg = d := nI_clamp (by omega)
  refine w_aload_n C 0 rfl dX0_listing_0 ?_
  refine gt_X0_17 C dX0_listing_1 ?_
  refine w_iload_n C 1 rfl dX0_listing_4 ?_
  refine w_aldq C 7 2 rfl rfl hin dX0_listing_5 ?_
  rw [hc, hb]
  refine w_ifnonnullN C dX0_listing_6 ?_
  refine w_aload_n C 0 rfl dX0_listing_9 ?_
  refine gt_X0_17 C dX0_listing_10 ?_
  refine w_iload_n C 1 rfl dX0_listing_13 ?_
  refine w_aload_n C 0 rfl dX0_listing_14 ?_
  refine w_iload_n C 1 rfl dX0_listing_15 ?_
  refine w_eqs (List.nil_append _).symm ?_
  refine w_callV (wr := []) (qc := (RX0, TX0, 9)) C (c_X0_listed (fu := fu) (sh := sh) hall hpo H) pk_X0_listed ml_X0_75 (As := [.int (nI d)]) (rest := [.int (nI d), .ref (fa 7)]) (k9 := 0) (ci := 0) rfl rfl ⟨⟨rfl, rfl⟩, (Nat.le_of_ble_eq_true rfl), (Nat.le_of_ble_eq_true rfl)⟩ rfl ⟨(Nat.le_of_ble_eq_true rfl), (Nat.le_of_ble_eq_true rfl)⟩ (Nat.le_of_ble_eq_true rfl) rfl dX0_listing_16 (fun o w1 h => ?_)
  obtain ⟨b, a, w, f, t5', rfl, rfl, hL⟩ := h
  refine w_astq (ws2 := lwd G b a (8 * 2 ^ w) f (nI (lsh sh all).length) ++ (fw G fa N fp fq t0 t1 t2 t3 t4 t5' (va_up tL d (some b)))) (r := (RX1, TX1, 2)) C 9 2 0 rfl rfl rfl rfl hin (by rw [hc]; rfl) dX0_listing_19 ?_
  refine w_aload_n C 0 rfl dX0_listing_20 ?_
  refine w_get (v := .ref (fa 7)) C 2 rfl rfl inX0 8 (by decide) fl_X0_17 rfl rfl dX0_listing_21 ?_
  refine w_iload_n C 1 rfl dX0_listing_24 ?_
  refine w_aldq C 9 2 rfl rfl hin dX0_listing_25 ?_
  rw [hc, show va_up tL d (some b) d = some b from if_pos rfl]
  refine w_widen (k := 513) (n := 8186) (Nat.le_of_ble_eq_true rfl) (Nat.le_of_ble_eq_true rfl) ?_
  exact w_aret C (Or.inl ⟨_, rfl⟩) ⟨b, a, w, f, t5', rfl, rfl, hL⟩ dX0_listing_26)
end
