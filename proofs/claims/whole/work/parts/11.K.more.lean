theorem pm_out {α : Type} : ∀ (l : List α) (k : Nat) (x : α), l[k]? = some x → l.Perm (l.eraseIdx k ++ [x])
  | [], _, _, h => by simp at h
  | a :: l, 0, x, h => by
    have e : a = x := by simpa using h
    subst e
    exact List.perm_append_comm (l₁ := [a]) (l₂ := l)
  | a :: l, k + 1, x, h => (pm_out l k x (by simpa using h)).cons a
theorem pm_in {α : Type} : ∀ (l : List α) (k : Nat) (x y : α), l[k]? = some x → (l.eraseIdx k ++ [y]).Perm (l.set k y)
  | [], _, _, _, h => by simp at h
  | a :: l, 0, x, y, h => List.perm_append_comm (l₁ := l) (l₂ := [y])
  | a :: l, k + 1, x, y, h => (pm_in l k x y (by simpa using h)).cons a
section
variable {p : Program} {l : Launch} {e : Env} {R : Room} {s : State} {m : MethodId} {args : Array Value} {below : List Frame} {meth : Method} {c : Code} {G : GG} {A : Nat → Prop} {own : String} {cc : ByteArray} {nL cells slots : Nat} {ret : Option FieldType} {Q : State → Prop} {ws : va_W} {lv : List (Nat × Value)} {pc : Nat} {st : List Value}
variable {xa : Nat → Nat} {ra hr : Nat} {xq : Int32} {ak : Int64} {FA : Nat → Option Nat} {RR : Nat → Nat → Int32} {Z : va_W}
theorem w_fill {rest : List Value} {v : Int32} {r : Nat → Int32} {j index fu : Nat} (C : Cx p s m args meth c G A own cc nL ret) (hj : j < 6) (hx : J7_fill_53178 fu 16 (RR j) v = some r) (hl0 : Cond.methodLink own index yJ7_fill_53178 ∈ WA) (h1 : 1 ≤ R.frames) (h2 : 8 + (4 + 11) + 0 ≤ R.locals) (hro : (rest.map fun v => v.category).sum ≤ 8) (hf1 : cells ≤ R.cells) (hf2 : slots ≤ R.slots) (hdg : decode cc pc = .ok (.invokestatic index, 3)) (kk : Wd p l e R s m args below meth c G A nL cells slots Q (xm G xa FA hr ra xq ak (va_up RR j r) ++ Z) lv (pc + 3) rest) : Wd p l e R s m args below meth c G A nL cells slots Q (xm G xa FA hr ra xq ak RR ++ Z) lv pc (.int v :: .ref (xa (3 + j)) :: rest) := by
  refine w_perm (pm_out _ (3 + j) _ (xm_at hj)) ?_
  refine w_callS C (c_J7_fill_53178 fu hx) pk_J7_fill_53178 hl0 (As := [.ref (xa (3 + j)), .int v]) (rest := rest) ⟨⟨rfl, rfl⟩, h1, h2⟩ rfl ⟨hf1, hf2⟩ hro rfl hdg (fun o w1 h => ?_)
  obtain ⟨rfl, rfl⟩ := h
  refine w_perm (pm_in _ (3 + j) _ _ (xm_at hj)) ?_
  refine w_eqs (xm_set hj _) ?_
  exact kk
end
