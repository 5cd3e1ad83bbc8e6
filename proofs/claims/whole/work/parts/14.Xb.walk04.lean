section
variable {p : Program} {l : Launch} {e : Env} {s : State} {m : MethodId} {args : Array Value} {below : List Frame} {meth : Method} {c : Code} {G : GG} {A : Nat → Prop}
abbrev rm_X3_isListDegree : Room := { frames := 0, cells := 0, slots := 0, locals := 0 }
theorem pk_X3_isListDegree : PkS yX3_isListDegree cX3_isListDegree 1 ((some .boolean)) 1 := ⟨co_X3_isListDegree, ini_RX3, st_X3_isListDegree, by decide +kernel⟩
set_option maxRecDepth 20000 in
set_option maxHeartbeats 4000000 in
theorem w_X3_isListDegree  {fu : Nat}  {v0 : Int32} {r : Int32} (C : Cx p s m args meth c G A RX3 cX3_isListDegree 1 ((some .boolean)))   (h : X3_isListDegree fu  v0 = some r) : Wd p l e rm_X3_isListDegree s m args below meth c G A 1 0 0 (QQ G A (fun o w => o = some (.int r) ∧ w = []) below args s 0 0) [] [(0, .int v0)] 0 [] := by
  unfold X3_isListDegree at h
  refine w_iload_n C 0 rfl dX3_isListDegree_0 ?_
  refine w_iconst (v := 1) C dX3_isListDegree_1 (by decide) ?_
  refine w_icmp_lt (tgt := 14) C dX3_isListDegree_2 (by decide) (fun hb1 => ?_) (fun hb1 => ?_)
  · have h := if_t hb1 h
    refine w_iconst (v := 0) C dX3_isListDegree_14 (by decide) ?_
    cases h
    exact w_zret C rfl ⟨rfl, rfl⟩ dX3_isListDegree_15
  · have h := if_f hb1 h
    refine w_iload_n C 0 rfl dX3_isListDegree_5 ?_
    refine w_iconst (v := 5) C dX3_isListDegree_6 (by decide) ?_
    refine w_icmp_gt (tgt := 14) C dX3_isListDegree_7 (by decide) (fun hb2 => ?_) (fun hb2 => ?_)
    · have h := if_t hb2 h
      refine w_iconst (v := 0) C dX3_isListDegree_14 (by decide) ?_
      cases h
      exact w_zret C rfl ⟨rfl, rfl⟩ dX3_isListDegree_15
    · have h := if_f hb2 h
      refine w_iconst (v := 1) C dX3_isListDegree_10 (by decide) ?_
      refine w_goto (tgt := 15) C dX3_isListDegree_11 (by decide) ?_
      cases h
      exact w_zret C rfl ⟨rfl, rfl⟩ dX3_isListDegree_15
theorem c_X3_isListDegree {l : Launch} {G : GG}  (fu : Nat) {v0 : Int32} {r : Int32} (h : X3_isListDegree fu  v0 = some r) : Ct l yX3_isListDegree cX3_isListDegree 1 ((some .boolean)) G rm_X3_isListDegree [.int v0] [] (fun o w => o = some (.int r) ∧ w = []) 0 0 := Ct.of (by decide) (Nat.le_of_ble_eq_true rfl) (fun p e s m args below meth c A C _ => w_X3_isListDegree C h)
end
