theorem pmA (a b c : va_W) : ((a ++ b) ++ c).Perm ((a ++ c) ++ b) := by
  rw [List.append_assoc, List.append_assoc]
  exact List.Perm.append_left a List.perm_append_comm
/-- a field's listings -/
def EOk (G : GG) (q : Nat) (tL : Nat → Option Nat) (E : va_W) : Prop := ∀ d, 1 ≤ d → d < 6 → tL d = none ∨ ∃ (b a w : Nat) (f : Nat → Int32) (E2 : va_W), tL d = some b ∧ Lok (shq q d) (q ^ (d - 1)) w f ∧ E.Perm (lwd G b a (8 * 2 ^ w) f (nI (lsh (shq q d) (q ^ (d - 1))).length) ++ E2)
theorem EOk.nil {G : GG} {q : Nat} : EOk G q (fun _ => none) [] := fun _ _ _ => Or.inl rfl
theorem EOk.add {G : GG} {q d b a w : Nat} {f : Nat → Int32} {tL : Nat → Option Nat} {E : va_W} (h : EOk G q tL E) (hL : Lok (shq q d) (q ^ (d - 1)) w f) : EOk G q (va_up tL d (some b)) (lwd G b a (8 * 2 ^ w) f (nI (lsh (shq q d) (q ^ (d - 1))).length) ++ E) := fun k h1 h2 => by
  by_cases e : k = d
  · subst e
    exact Or.inr ⟨b, a, w, f, E, vu_s _ _ _, hL, List.Perm.refl _⟩
  · rw [vu_n e]
    rcases h k h1 h2 with z | ⟨b2, a2, w2, f2, E2, z1, z2, z3⟩
    · exact Or.inl z
    · refine Or.inr ⟨b2, a2, w2, f2, lwd G b a (8 * 2 ^ w) f (nI (lsh (shq q d) (q ^ (d - 1))).length) ++ E2, z1, z2, ?_⟩
      refine (List.Perm.append_left _ z3).trans ?_
      rw [← List.append_assoc, ← List.append_assoc]
      exact List.Perm.append_right _ List.perm_append_comm
/-- a field's world, listings and all -/
def FW (G : GG) (q a : Nat) (W : va_W) : Prop := ∃ (fa : Nat → Nat) (t5 : Nat → Int32) (tL : Nat → Option Nat) (E : va_W), fa 0 = a ∧ EOk G q tL E ∧ W = E ++ fw G fa q (nI (prm q)) (nI q) (T0 q) (T1 q) (T2 q) (T3 q) (T4 q) t5 tL
/-- the fields that are not in use -/
def ZZ (G : GG) (FA : Nat → Option Nat) : List Nat → va_W → Prop
  | [], Z => Z = []
  | q :: L, Z => ∃ (a : Nat) (W Z2 : va_W), FA q = some a ∧ FW G q a W ∧ Z = W ++ Z2 ∧ ZZ G FA L Z2
theorem ZZ.up {G : GG} {FA : Nat → Option Nat} {q : Nat} {v : Option Nat} : ∀ {L : List Nat} {Z : va_W}, q ∉ L → ZZ G FA L Z → ZZ G (va_up FA q v) L Z
  | [], _, _, h => h
  | k :: L, Z, hn, h => by
    obtain ⟨a, W, Z2, h1, h2, h3, h4⟩ := h
    have hk : k ≠ q := fun e => hn (by rw [e]; exact List.mem_cons_self)
    exact ⟨a, W, Z2, by rw [vu_n hk]; exact h1, h2, h3, ZZ.up (fun z => hn (List.mem_cons_of_mem _ z)) h4⟩
theorem ZZ.get {G : GG} {FA : Nat → Option Nat} {q : Nat} : ∀ {L : List Nat} {Z : va_W}, q ∈ L → ZZ G FA L Z → ∃ (a : Nat) (W Z2 : va_W) (L2 : List Nat), FA q = some a ∧ FW G q a W ∧ Z.Perm (W ++ Z2) ∧ ZZ G FA L2 Z2 ∧ L.Perm (q :: L2)
  | [], _, hm, _ => by cases hm
  | k :: L, Z, hm, h => by
    obtain ⟨a, W, Z2, h1, h2, h3, h4⟩ := h
    by_cases e : q = k
    · subst e
      exact ⟨a, W, Z2, L, h1, h2, by rw [h3], h4, List.Perm.refl _⟩
    · have hm2 : q ∈ L := (List.mem_cons.mp hm).resolve_left e
      obtain ⟨a2, W2, Z3, L2, g1, g2, g3, g4, g5⟩ := ZZ.get hm2 h4
      refine ⟨a2, W2, W ++ Z3, k :: L2, g1, g2, ?_, ⟨a, W, Z3, h1, h2, rfl, g4⟩, ?_⟩
      · rw [h3]
        refine (List.Perm.append_left _ g3).trans ?_
        rw [← List.append_assoc, ← List.append_assoc]
        exact List.Perm.append_right _ List.perm_append_comm
      · exact (List.Perm.cons k g5).trans (List.Perm.swap q k L2)
/-- which fields there are -/
def Fx (G : GG) (q : Nat) (FA : Nat → Option Nat) (a0 : Nat) (tL : Nat → Option Nat) (Z E : va_W) : Prop := q ∈ sizes ∧ EOk G q tL E ∧ FA q = some a0 ∧ ∃ L : List Nat, ZZ G FA L Z ∧ (q :: L).Nodup ∧ ∀ k, k ∈ sizes → FA k = none ∨ k = q ∨ k ∈ L
/-- the law's world between two calls -/
def LInv (G : GG) (x0 m0 : Nat) (ws : va_W) : Prop := ∃ (q : Nat) (xa fa ma : Nat → Nat) (ra : Nat) (FA tL : Nat → Option Nat) (f : Nat → Nat → Nat) (RR : Nat → Nat → Int32) (r1 r2 r3 r4 r5 th : Int32) (ak : Int64) (t5 su pr ms ro be di : Nat → Int32) (Z E : va_W), xa 0 = x0 ∧ ma 0 = m0 ∧ Fx G q FA (fa 0) tL Z E ∧ MS q su pr ∧ Rel q f RR ms ∧ ws = ((Z ++ E) ++ mw G ma th ak (nI q) (nI (prm q)) su pr ms ro be di) ++ (xm G xa FA (fa 0) ra (nI q) ak RR ++ ([rcw ra r1 r2 r3 r4 r5] ++ fw G fa q (nI (prm q)) (nI q) (T0 q) (T1 q) (T2 q) (T3 q) (T4 q) t5 tL))
section
variable {p : Program} {l : Launch} {e : Env} {R : Room} {s : State} {m : MethodId} {args : Array Value} {below : List Frame} {meth : Method} {c : Code} {G : GG} {A : Nat → Prop} {own : String} {cc : ByteArray} {nL cells slots : Nat} {ret9 : Option FieldType} {Q : State → Prop} {ws : va_W} {lv : List (Nat × Value)} {pc : Nat} {st : List Value}
theorem w_sld (C : Cx p s m args meth c G A own cc nL ret9) {b L : Nat} {xs : Nat → Int32} (hX : va_X b L xs s s.heap) (hbl : b < s.heap.size) (hbA : ¬ A b) {i : Int32} (hin : vp_in i L) (hdg : decode cc pc = .ok (.iaload, 1)) (kk : Wd p l e R s m args below meth c G A nL cells slots Q ws lv (pc + 1) (.int (xs i.toNatClampNeg) :: st)) : Wd p l e R s m args below meth c G A nL cells slots Q ws lv pc (.int i :: .ref b :: st) := fun H locs ls hP hD hS hl => va_sld C.1 C.2.1 hX hbl hbA hS hin hdg (kk H locs ls hP hD hS hl)
theorem w_slen (C : Cx p s m args meth c G A own cc nL ret9) {b L : Nat} {xs : Nat → Int32} (hX : va_X b L xs s s.heap) (hbl : b < s.heap.size) (hbA : ¬ A b) (hdg : decode cc pc = .ok (.arraylength, 1)) (kk : Wd p l e R s m args below meth c G A nL cells slots Q ws lv (pc + 1) (.int (nI L) :: st)) : Wd p l e R s m args below meth c G A nL cells slots Q ws lv pc (.ref b :: st) := fun H locs ls hP hD hS hl => va_slen C.1 C.2.1 hX hbl hbA hS hdg (kk H locs ls hP hD hS hl)
theorem w_wide {k n : Nat} (h1 : cells ≤ k) (h2 : slots ≤ n) (kk : Wd p l e R s m args below meth c G A nL k n Q ws lv pc st) : Wd p l e R s m args below meth c G A nL cells slots Q ws lv pc st := fun H locs ls hP hD hS hl => W.widen h1 h2 (kk H locs ls hP hD hS hl)
end
