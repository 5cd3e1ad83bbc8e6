section
variable {p : Program} {l : Launch} {e : Env} {s : State} {m : MethodId} {args : Array Value} {below : List Frame} {meth : Method} {c : Code} {G : GG} {A : Nat → Prop}
abbrev rm_X4_trace : Room := { frames := 0, cells := 0, slots := 0, locals := 0 }
theorem pk_X4_trace : PkV RX4 yX4_trace cX4_trace 1 ((some .long)) 0 := ⟨rfl, co_X4_trace, ini_RX4, im_X4_trace, se_X4_trace, by decide +kernel⟩
set_option maxRecDepth 20000 in
set_option maxHeartbeats 4000000 in
theorem w_X4_trace {ma : Nat → Nat} {kq : Int32} {kp : Int32} {su : Nat → Int32} {pr : Nat → Int32} {ms : Nat → Int32} {ro : Nat → Int32} {be : Nat → Int32} {di : Nat → Int32} {fu : Nat}  {th : Int32} {tr : Int64} {r : Int64 × Int32} (C : Cx p s m args meth c G A RX4 cX4_trace 1 ((some .long)))   (h : X4_trace fu  th tr = some r) : Wd p l e rm_X4_trace s m args below meth c G A 1 0 0 (QQ G A (fun o w => o = some (.long r.1) ∧ w = (mw G ma r.2 tr kq kp su pr ms ro be di)) below args s 0 0) (mw G ma th tr kq kp su pr ms ro be di) [(0, .ref (ma 0))] 0 [] := by
  unfold X4_trace at h
  refine w_aload_n C 0 rfl dX4_trace_0 ?_
  refine w_iconst (v := 0) C dX4_trace_1 (by decide) ?_
  refine pt_X4_32 C dX4_trace_2 ?_
  refine w_aload_n C 0 rfl dX4_trace_5 ?_
  refine gt_X4_88 C dX4_trace_6 ?_
  cases h
  exact w_lret C ⟨rfl, rfl⟩ dX4_trace_9
theorem c_X4_trace {l : Launch} {G : GG} {ma : Nat → Nat} {th : Int32} {tr : Int64} {kq : Int32} {kp : Int32} {su : Nat → Int32} {pr : Nat → Int32} {ms : Nat → Int32} {ro : Nat → Int32} {be : Nat → Int32} {di : Nat → Int32} (fu : Nat)  {r : Int64 × Int32} (h : X4_trace fu th tr  = some r) : Ct l yX4_trace cX4_trace 1 ((some .long)) G rm_X4_trace [.ref (ma 0)] (mw G ma th tr kq kp su pr ms ro be di) (fun o w => o = some (.long r.1) ∧ w = (mw G ma r.2 tr kq kp su pr ms ro be di)) 0 0 := Ct.of (by decide) (Nat.le_of_ble_eq_true rfl) (fun p e s m args below meth c A C _ => w_X4_trace C h)
end
