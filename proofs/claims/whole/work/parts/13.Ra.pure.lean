def X2_write (fu : Nat) (N : Nat)  (r1 : Int32) (r2 : Int32) (r3 : Int32) (r4 : Int32) (r5 : Int32) (v1 : Int32) (v2 : Int32) (v3 : Int32) (v4 : Int32) : Option (Int32 × Int32 × Int32 × Int32 × Int32) :=
  (some (v1, v2, v3, v4, 0))
def X2_power (fu : Nat) (N : Nat)  (r1 : Int32) (r5 : Int32) (fq : Int32) (t2 : Nat → Int32) (v2 : Int32) : Option (Int32 × Int32) :=
  (Option.bind (X0_raised fu N fq t2 v2 r1) (fun x1 => (some (x1, r5 + 1))))
def X2_dressed (fu : Nat) (N : Nat)  (r1 : Int32) (r2 : Int32) (r3 : Int32) (r4 : Int32) (r5 : Int32) (fq : Int32) (t0 : Nat → Int32) (t1 : Nat → Int32) (t2 : Nat → Int32) (v2 : Int32) : Option (Int32 × Int32) :=
  (Option.bind (X0_sum fu N fq t0 v2 r3) (fun x1 => (Option.bind (X2_power fu N r1 (r5 + 10) fq t2 x1) (fun x2 => (Option.bind (X0_product fu N fq t1 r2 x2.1) (fun x3 => (Option.bind (X0_sum fu N fq t0 x3 r4) (fun x4 => (some (x4, x2.2))))))))))
def X2_twice (fu : Nat) (N : Nat)  (r1 : Int32) (r2 : Int32) (r3 : Int32) (r4 : Int32) (r5 : Int32) (fq : Int32) (t0 : Nat → Int32) (t1 : Nat → Int32) (t2 : Nat → Int32) (v2 : Int32) : Option (Int32 × Int32) :=
  (Option.bind (X2_dressed fu N r1 r2 r3 r4 (r5 + 100) fq t0 t1 t2 v2) (fun x1 => (Option.bind (X2_dressed fu N r1 r2 r3 r4 x1.2 fq t0 t1 t2 x1.1) (fun x2 => (some (x2.1, x2.2))))))
def X2_takes (fu : Nat) (N : Nat)  (r1 : Int32) (r2 : Int32) (r3 : Int32) (r4 : Int32) (r5 : Int32) (fq : Int32) (t0 : Nat → Int32) (t1 : Nat → Int32) (t2 : Nat → Int32) (v2 : Int32) (v3 : Int32) : Option (Int32 × Int32) :=
  (if v2 = 0 then (Option.bind (X2_power fu N r1 r5 fq t2 v3) (fun x2 => (some (x2.1, x2.2)))) else (if v2 = 1 then (Option.bind (X2_dressed fu N r1 r2 r3 r4 r5 fq t0 t1 t2 v3) (fun x3 => (some (x3.1, x3.2)))) else (Option.bind (X2_twice fu N r1 r2 r3 r4 r5 fq t0 t1 t2 v3) (fun x1 => (some (x1.1, x1.2))))))
