/-! execution, row by row: no match is left -/
section ZX
variable {k kt kf : zj_K} {E : zj_E} {st : List Value} {m : zj_M}
theorem zx_push {v : Value} : zi_push v k E st m = k E (v :: st) m := rfl
theorem zx_ild0  {x : Int32} : zi_ild 0 k (some (.int x) :: E) st m = k (some (.int x) :: E) (.int x :: st) m := rfl
theorem zx_ald0  {x : Nat} : zi_ald 0 k (some (.ref x) :: E) st m = k (some (.ref x) :: E) (.ref x :: st) m := rfl
theorem zx_lld0  {x : Int64} : zi_lld 0 k (some (.long x) :: E) st m = k (some (.long x) :: E) (.long x :: st) m := rfl
theorem zx_ist0 {b : Option Value} {x : Int32} : zi_ist 0 k (b :: E) (.int x :: st) m = k (some (.int x) :: E) st m := by simp [zi_ist, zj_sok, zj_isL]
theorem zx_ast0 {b : Option Value} {x : Nat} : zi_ast 0 k (b :: E) (.ref x :: st) m = k (some (.ref x) :: E) st m := by simp [zi_ast, zj_sok, zj_isL]
theorem zx_inc0  {x c : Int32} : zi_inc 0 c k (some (.int x) :: E) st m = k (some (.int (x + c)) :: E) st m := by simp [zi_inc, zj_sok, zj_isL]
theorem zx_ild1  {a0 : Option Value} {x : Int32} : zi_ild 1 k (a0 :: some (.int x) :: E) st m = k (a0 :: some (.int x) :: E) (.int x :: st) m := rfl
theorem zx_ald1  {a0 : Option Value} {x : Nat} : zi_ald 1 k (a0 :: some (.ref x) :: E) st m = k (a0 :: some (.ref x) :: E) (.ref x :: st) m := rfl
theorem zx_lld1  {a0 : Option Value} {x : Int64} : zi_lld 1 k (a0 :: some (.long x) :: E) st m = k (a0 :: some (.long x) :: E) (.long x :: st) m := rfl
theorem zx_ist1i  {b : Option Value} {x : Int32} {y : Int32} : zi_ist 1 k (some (.int y) :: b :: E) (.int x :: st) m = k (some (.int y) :: some (.int x) :: E) st m := by simp [zi_ist, zj_sok, zj_isL]
theorem zx_ist1r  {b : Option Value} {x : Int32} {y : Nat} : zi_ist 1 k (some (.ref y) :: b :: E) (.int x :: st) m = k (some (.ref y) :: some (.int x) :: E) st m := by simp [zi_ist, zj_sok, zj_isL]
theorem zx_ist1n  {b : Option Value} {x : Int32} : zi_ist 1 k (none :: b :: E) (.int x :: st) m = k (none :: some (.int x) :: E) st m := by simp [zi_ist, zj_sok, zj_isL]
theorem zx_ast1i  {b : Option Value} {x : Nat} {y : Int32} : zi_ast 1 k (some (.int y) :: b :: E) (.ref x :: st) m = k (some (.int y) :: some (.ref x) :: E) st m := by simp [zi_ast, zj_sok, zj_isL]
theorem zx_ast1r  {b : Option Value} {x : Nat} {y : Nat} : zi_ast 1 k (some (.ref y) :: b :: E) (.ref x :: st) m = k (some (.ref y) :: some (.ref x) :: E) st m := by simp [zi_ast, zj_sok, zj_isL]
theorem zx_ast1n  {b : Option Value} {x : Nat} : zi_ast 1 k (none :: b :: E) (.ref x :: st) m = k (none :: some (.ref x) :: E) st m := by simp [zi_ast, zj_sok, zj_isL]
theorem zx_inc1i  {x c : Int32} {y : Int32} : zi_inc 1 c k (some (.int y) :: some (.int x) :: E) st m = k (some (.int y) :: some (.int (x + c)) :: E) st m := by simp [zi_inc, zj_sok, zj_isL]
theorem zx_inc1r  {x c : Int32} {y : Nat} : zi_inc 1 c k (some (.ref y) :: some (.int x) :: E) st m = k (some (.ref y) :: some (.int (x + c)) :: E) st m := by simp [zi_inc, zj_sok, zj_isL]
theorem zx_inc1n  {x c : Int32} : zi_inc 1 c k (none :: some (.int x) :: E) st m = k (none :: some (.int (x + c)) :: E) st m := by simp [zi_inc, zj_sok, zj_isL]
theorem zx_ild2  {a0 : Option Value} {a1 : Option Value} {x : Int32} : zi_ild 2 k (a0 :: a1 :: some (.int x) :: E) st m = k (a0 :: a1 :: some (.int x) :: E) (.int x :: st) m := rfl
theorem zx_ald2  {a0 : Option Value} {a1 : Option Value} {x : Nat} : zi_ald 2 k (a0 :: a1 :: some (.ref x) :: E) st m = k (a0 :: a1 :: some (.ref x) :: E) (.ref x :: st) m := rfl
theorem zx_lld2  {a0 : Option Value} {a1 : Option Value} {x : Int64} : zi_lld 2 k (a0 :: a1 :: some (.long x) :: E) st m = k (a0 :: a1 :: some (.long x) :: E) (.long x :: st) m := rfl
theorem zx_ist2i  {a0 : Option Value} {b : Option Value} {x : Int32} {y : Int32} : zi_ist 2 k (a0 :: some (.int y) :: b :: E) (.int x :: st) m = k (a0 :: some (.int y) :: some (.int x) :: E) st m := by simp [zi_ist, zj_sok, zj_isL]
theorem zx_ist2r  {a0 : Option Value} {b : Option Value} {x : Int32} {y : Nat} : zi_ist 2 k (a0 :: some (.ref y) :: b :: E) (.int x :: st) m = k (a0 :: some (.ref y) :: some (.int x) :: E) st m := by simp [zi_ist, zj_sok, zj_isL]
theorem zx_ist2n  {a0 : Option Value} {b : Option Value} {x : Int32} : zi_ist 2 k (a0 :: none :: b :: E) (.int x :: st) m = k (a0 :: none :: some (.int x) :: E) st m := by simp [zi_ist, zj_sok, zj_isL]
theorem zx_ast2i  {a0 : Option Value} {b : Option Value} {x : Nat} {y : Int32} : zi_ast 2 k (a0 :: some (.int y) :: b :: E) (.ref x :: st) m = k (a0 :: some (.int y) :: some (.ref x) :: E) st m := by simp [zi_ast, zj_sok, zj_isL]
theorem zx_ast2r  {a0 : Option Value} {b : Option Value} {x : Nat} {y : Nat} : zi_ast 2 k (a0 :: some (.ref y) :: b :: E) (.ref x :: st) m = k (a0 :: some (.ref y) :: some (.ref x) :: E) st m := by simp [zi_ast, zj_sok, zj_isL]
theorem zx_ast2n  {a0 : Option Value} {b : Option Value} {x : Nat} : zi_ast 2 k (a0 :: none :: b :: E) (.ref x :: st) m = k (a0 :: none :: some (.ref x) :: E) st m := by simp [zi_ast, zj_sok, zj_isL]
theorem zx_inc2i  {a0 : Option Value} {x c : Int32} {y : Int32} : zi_inc 2 c k (a0 :: some (.int y) :: some (.int x) :: E) st m = k (a0 :: some (.int y) :: some (.int (x + c)) :: E) st m := by simp [zi_inc, zj_sok, zj_isL]
theorem zx_inc2r  {a0 : Option Value} {x c : Int32} {y : Nat} : zi_inc 2 c k (a0 :: some (.ref y) :: some (.int x) :: E) st m = k (a0 :: some (.ref y) :: some (.int (x + c)) :: E) st m := by simp [zi_inc, zj_sok, zj_isL]
theorem zx_inc2n  {a0 : Option Value} {x c : Int32} : zi_inc 2 c k (a0 :: none :: some (.int x) :: E) st m = k (a0 :: none :: some (.int (x + c)) :: E) st m := by simp [zi_inc, zj_sok, zj_isL]
theorem zx_ild3  {a0 : Option Value} {a1 : Option Value} {a2 : Option Value} {x : Int32} : zi_ild 3 k (a0 :: a1 :: a2 :: some (.int x) :: E) st m = k (a0 :: a1 :: a2 :: some (.int x) :: E) (.int x :: st) m := rfl
theorem zx_ald3  {a0 : Option Value} {a1 : Option Value} {a2 : Option Value} {x : Nat} : zi_ald 3 k (a0 :: a1 :: a2 :: some (.ref x) :: E) st m = k (a0 :: a1 :: a2 :: some (.ref x) :: E) (.ref x :: st) m := rfl
theorem zx_lld3  {a0 : Option Value} {a1 : Option Value} {a2 : Option Value} {x : Int64} : zi_lld 3 k (a0 :: a1 :: a2 :: some (.long x) :: E) st m = k (a0 :: a1 :: a2 :: some (.long x) :: E) (.long x :: st) m := rfl
theorem zx_ist3i  {a0 : Option Value} {a1 : Option Value} {b : Option Value} {x : Int32} {y : Int32} : zi_ist 3 k (a0 :: a1 :: some (.int y) :: b :: E) (.int x :: st) m = k (a0 :: a1 :: some (.int y) :: some (.int x) :: E) st m := by simp [zi_ist, zj_sok, zj_isL]
theorem zx_ist3r  {a0 : Option Value} {a1 : Option Value} {b : Option Value} {x : Int32} {y : Nat} : zi_ist 3 k (a0 :: a1 :: some (.ref y) :: b :: E) (.int x :: st) m = k (a0 :: a1 :: some (.ref y) :: some (.int x) :: E) st m := by simp [zi_ist, zj_sok, zj_isL]
theorem zx_ist3n  {a0 : Option Value} {a1 : Option Value} {b : Option Value} {x : Int32} : zi_ist 3 k (a0 :: a1 :: none :: b :: E) (.int x :: st) m = k (a0 :: a1 :: none :: some (.int x) :: E) st m := by simp [zi_ist, zj_sok, zj_isL]
theorem zx_ast3i  {a0 : Option Value} {a1 : Option Value} {b : Option Value} {x : Nat} {y : Int32} : zi_ast 3 k (a0 :: a1 :: some (.int y) :: b :: E) (.ref x :: st) m = k (a0 :: a1 :: some (.int y) :: some (.ref x) :: E) st m := by simp [zi_ast, zj_sok, zj_isL]
theorem zx_ast3r  {a0 : Option Value} {a1 : Option Value} {b : Option Value} {x : Nat} {y : Nat} : zi_ast 3 k (a0 :: a1 :: some (.ref y) :: b :: E) (.ref x :: st) m = k (a0 :: a1 :: some (.ref y) :: some (.ref x) :: E) st m := by simp [zi_ast, zj_sok, zj_isL]
theorem zx_ast3n  {a0 : Option Value} {a1 : Option Value} {b : Option Value} {x : Nat} : zi_ast 3 k (a0 :: a1 :: none :: b :: E) (.ref x :: st) m = k (a0 :: a1 :: none :: some (.ref x) :: E) st m := by simp [zi_ast, zj_sok, zj_isL]
theorem zx_inc3i  {a0 : Option Value} {a1 : Option Value} {x c : Int32} {y : Int32} : zi_inc 3 c k (a0 :: a1 :: some (.int y) :: some (.int x) :: E) st m = k (a0 :: a1 :: some (.int y) :: some (.int (x + c)) :: E) st m := by simp [zi_inc, zj_sok, zj_isL]
theorem zx_inc3r  {a0 : Option Value} {a1 : Option Value} {x c : Int32} {y : Nat} : zi_inc 3 c k (a0 :: a1 :: some (.ref y) :: some (.int x) :: E) st m = k (a0 :: a1 :: some (.ref y) :: some (.int (x + c)) :: E) st m := by simp [zi_inc, zj_sok, zj_isL]
theorem zx_inc3n  {a0 : Option Value} {a1 : Option Value} {x c : Int32} : zi_inc 3 c k (a0 :: a1 :: none :: some (.int x) :: E) st m = k (a0 :: a1 :: none :: some (.int (x + c)) :: E) st m := by simp [zi_inc, zj_sok, zj_isL]
theorem zx_ild4  {a0 : Option Value} {a1 : Option Value} {a2 : Option Value} {a3 : Option Value} {x : Int32} : zi_ild 4 k (a0 :: a1 :: a2 :: a3 :: some (.int x) :: E) st m = k (a0 :: a1 :: a2 :: a3 :: some (.int x) :: E) (.int x :: st) m := rfl
theorem zx_ald4  {a0 : Option Value} {a1 : Option Value} {a2 : Option Value} {a3 : Option Value} {x : Nat} : zi_ald 4 k (a0 :: a1 :: a2 :: a3 :: some (.ref x) :: E) st m = k (a0 :: a1 :: a2 :: a3 :: some (.ref x) :: E) (.ref x :: st) m := rfl
theorem zx_lld4  {a0 : Option Value} {a1 : Option Value} {a2 : Option Value} {a3 : Option Value} {x : Int64} : zi_lld 4 k (a0 :: a1 :: a2 :: a3 :: some (.long x) :: E) st m = k (a0 :: a1 :: a2 :: a3 :: some (.long x) :: E) (.long x :: st) m := rfl
theorem zx_ist4i  {a0 : Option Value} {a1 : Option Value} {a2 : Option Value} {b : Option Value} {x : Int32} {y : Int32} : zi_ist 4 k (a0 :: a1 :: a2 :: some (.int y) :: b :: E) (.int x :: st) m = k (a0 :: a1 :: a2 :: some (.int y) :: some (.int x) :: E) st m := by simp [zi_ist, zj_sok, zj_isL]
theorem zx_ist4r  {a0 : Option Value} {a1 : Option Value} {a2 : Option Value} {b : Option Value} {x : Int32} {y : Nat} : zi_ist 4 k (a0 :: a1 :: a2 :: some (.ref y) :: b :: E) (.int x :: st) m = k (a0 :: a1 :: a2 :: some (.ref y) :: some (.int x) :: E) st m := by simp [zi_ist, zj_sok, zj_isL]
theorem zx_ist4n  {a0 : Option Value} {a1 : Option Value} {a2 : Option Value} {b : Option Value} {x : Int32} : zi_ist 4 k (a0 :: a1 :: a2 :: none :: b :: E) (.int x :: st) m = k (a0 :: a1 :: a2 :: none :: some (.int x) :: E) st m := by simp [zi_ist, zj_sok, zj_isL]
theorem zx_ast4i  {a0 : Option Value} {a1 : Option Value} {a2 : Option Value} {b : Option Value} {x : Nat} {y : Int32} : zi_ast 4 k (a0 :: a1 :: a2 :: some (.int y) :: b :: E) (.ref x :: st) m = k (a0 :: a1 :: a2 :: some (.int y) :: some (.ref x) :: E) st m := by simp [zi_ast, zj_sok, zj_isL]
theorem zx_ast4r  {a0 : Option Value} {a1 : Option Value} {a2 : Option Value} {b : Option Value} {x : Nat} {y : Nat} : zi_ast 4 k (a0 :: a1 :: a2 :: some (.ref y) :: b :: E) (.ref x :: st) m = k (a0 :: a1 :: a2 :: some (.ref y) :: some (.ref x) :: E) st m := by simp [zi_ast, zj_sok, zj_isL]
theorem zx_ast4n  {a0 : Option Value} {a1 : Option Value} {a2 : Option Value} {b : Option Value} {x : Nat} : zi_ast 4 k (a0 :: a1 :: a2 :: none :: b :: E) (.ref x :: st) m = k (a0 :: a1 :: a2 :: none :: some (.ref x) :: E) st m := by simp [zi_ast, zj_sok, zj_isL]
theorem zx_inc4i  {a0 : Option Value} {a1 : Option Value} {a2 : Option Value} {x c : Int32} {y : Int32} : zi_inc 4 c k (a0 :: a1 :: a2 :: some (.int y) :: some (.int x) :: E) st m = k (a0 :: a1 :: a2 :: some (.int y) :: some (.int (x + c)) :: E) st m := by simp [zi_inc, zj_sok, zj_isL]
theorem zx_inc4r  {a0 : Option Value} {a1 : Option Value} {a2 : Option Value} {x c : Int32} {y : Nat} : zi_inc 4 c k (a0 :: a1 :: a2 :: some (.ref y) :: some (.int x) :: E) st m = k (a0 :: a1 :: a2 :: some (.ref y) :: some (.int (x + c)) :: E) st m := by simp [zi_inc, zj_sok, zj_isL]
theorem zx_inc4n  {a0 : Option Value} {a1 : Option Value} {a2 : Option Value} {x c : Int32} : zi_inc 4 c k (a0 :: a1 :: a2 :: none :: some (.int x) :: E) st m = k (a0 :: a1 :: a2 :: none :: some (.int (x + c)) :: E) st m := by simp [zi_inc, zj_sok, zj_isL]
theorem zx_ild5  {a0 : Option Value} {a1 : Option Value} {a2 : Option Value} {a3 : Option Value} {a4 : Option Value} {x : Int32} : zi_ild 5 k (a0 :: a1 :: a2 :: a3 :: a4 :: some (.int x) :: E) st m = k (a0 :: a1 :: a2 :: a3 :: a4 :: some (.int x) :: E) (.int x :: st) m := rfl
theorem zx_ald5  {a0 : Option Value} {a1 : Option Value} {a2 : Option Value} {a3 : Option Value} {a4 : Option Value} {x : Nat} : zi_ald 5 k (a0 :: a1 :: a2 :: a3 :: a4 :: some (.ref x) :: E) st m = k (a0 :: a1 :: a2 :: a3 :: a4 :: some (.ref x) :: E) (.ref x :: st) m := rfl
theorem zx_lld5  {a0 : Option Value} {a1 : Option Value} {a2 : Option Value} {a3 : Option Value} {a4 : Option Value} {x : Int64} : zi_lld 5 k (a0 :: a1 :: a2 :: a3 :: a4 :: some (.long x) :: E) st m = k (a0 :: a1 :: a2 :: a3 :: a4 :: some (.long x) :: E) (.long x :: st) m := rfl
theorem zx_ist5i  {a0 : Option Value} {a1 : Option Value} {a2 : Option Value} {a3 : Option Value} {b : Option Value} {x : Int32} {y : Int32} : zi_ist 5 k (a0 :: a1 :: a2 :: a3 :: some (.int y) :: b :: E) (.int x :: st) m = k (a0 :: a1 :: a2 :: a3 :: some (.int y) :: some (.int x) :: E) st m := by simp [zi_ist, zj_sok, zj_isL]
theorem zx_ist5r  {a0 : Option Value} {a1 : Option Value} {a2 : Option Value} {a3 : Option Value} {b : Option Value} {x : Int32} {y : Nat} : zi_ist 5 k (a0 :: a1 :: a2 :: a3 :: some (.ref y) :: b :: E) (.int x :: st) m = k (a0 :: a1 :: a2 :: a3 :: some (.ref y) :: some (.int x) :: E) st m := by simp [zi_ist, zj_sok, zj_isL]
theorem zx_ist5n  {a0 : Option Value} {a1 : Option Value} {a2 : Option Value} {a3 : Option Value} {b : Option Value} {x : Int32} : zi_ist 5 k (a0 :: a1 :: a2 :: a3 :: none :: b :: E) (.int x :: st) m = k (a0 :: a1 :: a2 :: a3 :: none :: some (.int x) :: E) st m := by simp [zi_ist, zj_sok, zj_isL]
theorem zx_ast5i  {a0 : Option Value} {a1 : Option Value} {a2 : Option Value} {a3 : Option Value} {b : Option Value} {x : Nat} {y : Int32} : zi_ast 5 k (a0 :: a1 :: a2 :: a3 :: some (.int y) :: b :: E) (.ref x :: st) m = k (a0 :: a1 :: a2 :: a3 :: some (.int y) :: some (.ref x) :: E) st m := by simp [zi_ast, zj_sok, zj_isL]
theorem zx_ast5r  {a0 : Option Value} {a1 : Option Value} {a2 : Option Value} {a3 : Option Value} {b : Option Value} {x : Nat} {y : Nat} : zi_ast 5 k (a0 :: a1 :: a2 :: a3 :: some (.ref y) :: b :: E) (.ref x :: st) m = k (a0 :: a1 :: a2 :: a3 :: some (.ref y) :: some (.ref x) :: E) st m := by simp [zi_ast, zj_sok, zj_isL]
theorem zx_ast5n  {a0 : Option Value} {a1 : Option Value} {a2 : Option Value} {a3 : Option Value} {b : Option Value} {x : Nat} : zi_ast 5 k (a0 :: a1 :: a2 :: a3 :: none :: b :: E) (.ref x :: st) m = k (a0 :: a1 :: a2 :: a3 :: none :: some (.ref x) :: E) st m := by simp [zi_ast, zj_sok, zj_isL]
theorem zx_inc5i  {a0 : Option Value} {a1 : Option Value} {a2 : Option Value} {a3 : Option Value} {x c : Int32} {y : Int32} : zi_inc 5 c k (a0 :: a1 :: a2 :: a3 :: some (.int y) :: some (.int x) :: E) st m = k (a0 :: a1 :: a2 :: a3 :: some (.int y) :: some (.int (x + c)) :: E) st m := by simp [zi_inc, zj_sok, zj_isL]
theorem zx_inc5r  {a0 : Option Value} {a1 : Option Value} {a2 : Option Value} {a3 : Option Value} {x c : Int32} {y : Nat} : zi_inc 5 c k (a0 :: a1 :: a2 :: a3 :: some (.ref y) :: some (.int x) :: E) st m = k (a0 :: a1 :: a2 :: a3 :: some (.ref y) :: some (.int (x + c)) :: E) st m := by simp [zi_inc, zj_sok, zj_isL]
theorem zx_inc5n  {a0 : Option Value} {a1 : Option Value} {a2 : Option Value} {a3 : Option Value} {x c : Int32} : zi_inc 5 c k (a0 :: a1 :: a2 :: a3 :: none :: some (.int x) :: E) st m = k (a0 :: a1 :: a2 :: a3 :: none :: some (.int (x + c)) :: E) st m := by simp [zi_inc, zj_sok, zj_isL]
theorem zx_ild6  {a0 : Option Value} {a1 : Option Value} {a2 : Option Value} {a3 : Option Value} {a4 : Option Value} {a5 : Option Value} {x : Int32} : zi_ild 6 k (a0 :: a1 :: a2 :: a3 :: a4 :: a5 :: some (.int x) :: E) st m = k (a0 :: a1 :: a2 :: a3 :: a4 :: a5 :: some (.int x) :: E) (.int x :: st) m := rfl
theorem zx_ald6  {a0 : Option Value} {a1 : Option Value} {a2 : Option Value} {a3 : Option Value} {a4 : Option Value} {a5 : Option Value} {x : Nat} : zi_ald 6 k (a0 :: a1 :: a2 :: a3 :: a4 :: a5 :: some (.ref x) :: E) st m = k (a0 :: a1 :: a2 :: a3 :: a4 :: a5 :: some (.ref x) :: E) (.ref x :: st) m := rfl
theorem zx_lld6  {a0 : Option Value} {a1 : Option Value} {a2 : Option Value} {a3 : Option Value} {a4 : Option Value} {a5 : Option Value} {x : Int64} : zi_lld 6 k (a0 :: a1 :: a2 :: a3 :: a4 :: a5 :: some (.long x) :: E) st m = k (a0 :: a1 :: a2 :: a3 :: a4 :: a5 :: some (.long x) :: E) (.long x :: st) m := rfl
theorem zx_ist6i  {a0 : Option Value} {a1 : Option Value} {a2 : Option Value} {a3 : Option Value} {a4 : Option Value} {b : Option Value} {x : Int32} {y : Int32} : zi_ist 6 k (a0 :: a1 :: a2 :: a3 :: a4 :: some (.int y) :: b :: E) (.int x :: st) m = k (a0 :: a1 :: a2 :: a3 :: a4 :: some (.int y) :: some (.int x) :: E) st m := by simp [zi_ist, zj_sok, zj_isL]
theorem zx_ist6r  {a0 : Option Value} {a1 : Option Value} {a2 : Option Value} {a3 : Option Value} {a4 : Option Value} {b : Option Value} {x : Int32} {y : Nat} : zi_ist 6 k (a0 :: a1 :: a2 :: a3 :: a4 :: some (.ref y) :: b :: E) (.int x :: st) m = k (a0 :: a1 :: a2 :: a3 :: a4 :: some (.ref y) :: some (.int x) :: E) st m := by simp [zi_ist, zj_sok, zj_isL]
theorem zx_ist6n  {a0 : Option Value} {a1 : Option Value} {a2 : Option Value} {a3 : Option Value} {a4 : Option Value} {b : Option Value} {x : Int32} : zi_ist 6 k (a0 :: a1 :: a2 :: a3 :: a4 :: none :: b :: E) (.int x :: st) m = k (a0 :: a1 :: a2 :: a3 :: a4 :: none :: some (.int x) :: E) st m := by simp [zi_ist, zj_sok, zj_isL]
theorem zx_ast6i  {a0 : Option Value} {a1 : Option Value} {a2 : Option Value} {a3 : Option Value} {a4 : Option Value} {b : Option Value} {x : Nat} {y : Int32} : zi_ast 6 k (a0 :: a1 :: a2 :: a3 :: a4 :: some (.int y) :: b :: E) (.ref x :: st) m = k (a0 :: a1 :: a2 :: a3 :: a4 :: some (.int y) :: some (.ref x) :: E) st m := by simp [zi_ast, zj_sok, zj_isL]
theorem zx_ast6r  {a0 : Option Value} {a1 : Option Value} {a2 : Option Value} {a3 : Option Value} {a4 : Option Value} {b : Option Value} {x : Nat} {y : Nat} : zi_ast 6 k (a0 :: a1 :: a2 :: a3 :: a4 :: some (.ref y) :: b :: E) (.ref x :: st) m = k (a0 :: a1 :: a2 :: a3 :: a4 :: some (.ref y) :: some (.ref x) :: E) st m := by simp [zi_ast, zj_sok, zj_isL]
theorem zx_ast6n  {a0 : Option Value} {a1 : Option Value} {a2 : Option Value} {a3 : Option Value} {a4 : Option Value} {b : Option Value} {x : Nat} : zi_ast 6 k (a0 :: a1 :: a2 :: a3 :: a4 :: none :: b :: E) (.ref x :: st) m = k (a0 :: a1 :: a2 :: a3 :: a4 :: none :: some (.ref x) :: E) st m := by simp [zi_ast, zj_sok, zj_isL]
theorem zx_inc6i  {a0 : Option Value} {a1 : Option Value} {a2 : Option Value} {a3 : Option Value} {a4 : Option Value} {x c : Int32} {y : Int32} : zi_inc 6 c k (a0 :: a1 :: a2 :: a3 :: a4 :: some (.int y) :: some (.int x) :: E) st m = k (a0 :: a1 :: a2 :: a3 :: a4 :: some (.int y) :: some (.int (x + c)) :: E) st m := by simp [zi_inc, zj_sok, zj_isL]
theorem zx_inc6r  {a0 : Option Value} {a1 : Option Value} {a2 : Option Value} {a3 : Option Value} {a4 : Option Value} {x c : Int32} {y : Nat} : zi_inc 6 c k (a0 :: a1 :: a2 :: a3 :: a4 :: some (.ref y) :: some (.int x) :: E) st m = k (a0 :: a1 :: a2 :: a3 :: a4 :: some (.ref y) :: some (.int (x + c)) :: E) st m := by simp [zi_inc, zj_sok, zj_isL]
theorem zx_inc6n  {a0 : Option Value} {a1 : Option Value} {a2 : Option Value} {a3 : Option Value} {a4 : Option Value} {x c : Int32} : zi_inc 6 c k (a0 :: a1 :: a2 :: a3 :: a4 :: none :: some (.int x) :: E) st m = k (a0 :: a1 :: a2 :: a3 :: a4 :: none :: some (.int (x + c)) :: E) st m := by simp [zi_inc, zj_sok, zj_isL]
theorem zx_ild7  {a0 : Option Value} {a1 : Option Value} {a2 : Option Value} {a3 : Option Value} {a4 : Option Value} {a5 : Option Value} {a6 : Option Value} {x : Int32} : zi_ild 7 k (a0 :: a1 :: a2 :: a3 :: a4 :: a5 :: a6 :: some (.int x) :: E) st m = k (a0 :: a1 :: a2 :: a3 :: a4 :: a5 :: a6 :: some (.int x) :: E) (.int x :: st) m := rfl
theorem zx_ald7  {a0 : Option Value} {a1 : Option Value} {a2 : Option Value} {a3 : Option Value} {a4 : Option Value} {a5 : Option Value} {a6 : Option Value} {x : Nat} : zi_ald 7 k (a0 :: a1 :: a2 :: a3 :: a4 :: a5 :: a6 :: some (.ref x) :: E) st m = k (a0 :: a1 :: a2 :: a3 :: a4 :: a5 :: a6 :: some (.ref x) :: E) (.ref x :: st) m := rfl
theorem zx_lld7  {a0 : Option Value} {a1 : Option Value} {a2 : Option Value} {a3 : Option Value} {a4 : Option Value} {a5 : Option Value} {a6 : Option Value} {x : Int64} : zi_lld 7 k (a0 :: a1 :: a2 :: a3 :: a4 :: a5 :: a6 :: some (.long x) :: E) st m = k (a0 :: a1 :: a2 :: a3 :: a4 :: a5 :: a6 :: some (.long x) :: E) (.long x :: st) m := rfl
theorem zx_ist7i  {a0 : Option Value} {a1 : Option Value} {a2 : Option Value} {a3 : Option Value} {a4 : Option Value} {a5 : Option Value} {b : Option Value} {x : Int32} {y : Int32} : zi_ist 7 k (a0 :: a1 :: a2 :: a3 :: a4 :: a5 :: some (.int y) :: b :: E) (.int x :: st) m = k (a0 :: a1 :: a2 :: a3 :: a4 :: a5 :: some (.int y) :: some (.int x) :: E) st m := by simp [zi_ist, zj_sok, zj_isL]
theorem zx_ist7r  {a0 : Option Value} {a1 : Option Value} {a2 : Option Value} {a3 : Option Value} {a4 : Option Value} {a5 : Option Value} {b : Option Value} {x : Int32} {y : Nat} : zi_ist 7 k (a0 :: a1 :: a2 :: a3 :: a4 :: a5 :: some (.ref y) :: b :: E) (.int x :: st) m = k (a0 :: a1 :: a2 :: a3 :: a4 :: a5 :: some (.ref y) :: some (.int x) :: E) st m := by simp [zi_ist, zj_sok, zj_isL]
theorem zx_ist7n  {a0 : Option Value} {a1 : Option Value} {a2 : Option Value} {a3 : Option Value} {a4 : Option Value} {a5 : Option Value} {b : Option Value} {x : Int32} : zi_ist 7 k (a0 :: a1 :: a2 :: a3 :: a4 :: a5 :: none :: b :: E) (.int x :: st) m = k (a0 :: a1 :: a2 :: a3 :: a4 :: a5 :: none :: some (.int x) :: E) st m := by simp [zi_ist, zj_sok, zj_isL]
theorem zx_ast7i  {a0 : Option Value} {a1 : Option Value} {a2 : Option Value} {a3 : Option Value} {a4 : Option Value} {a5 : Option Value} {b : Option Value} {x : Nat} {y : Int32} : zi_ast 7 k (a0 :: a1 :: a2 :: a3 :: a4 :: a5 :: some (.int y) :: b :: E) (.ref x :: st) m = k (a0 :: a1 :: a2 :: a3 :: a4 :: a5 :: some (.int y) :: some (.ref x) :: E) st m := by simp [zi_ast, zj_sok, zj_isL]
theorem zx_ast7r  {a0 : Option Value} {a1 : Option Value} {a2 : Option Value} {a3 : Option Value} {a4 : Option Value} {a5 : Option Value} {b : Option Value} {x : Nat} {y : Nat} : zi_ast 7 k (a0 :: a1 :: a2 :: a3 :: a4 :: a5 :: some (.ref y) :: b :: E) (.ref x :: st) m = k (a0 :: a1 :: a2 :: a3 :: a4 :: a5 :: some (.ref y) :: some (.ref x) :: E) st m := by simp [zi_ast, zj_sok, zj_isL]
theorem zx_ast7n  {a0 : Option Value} {a1 : Option Value} {a2 : Option Value} {a3 : Option Value} {a4 : Option Value} {a5 : Option Value} {b : Option Value} {x : Nat} : zi_ast 7 k (a0 :: a1 :: a2 :: a3 :: a4 :: a5 :: none :: b :: E) (.ref x :: st) m = k (a0 :: a1 :: a2 :: a3 :: a4 :: a5 :: none :: some (.ref x) :: E) st m := by simp [zi_ast, zj_sok, zj_isL]
theorem zx_inc7i  {a0 : Option Value} {a1 : Option Value} {a2 : Option Value} {a3 : Option Value} {a4 : Option Value} {a5 : Option Value} {x c : Int32} {y : Int32} : zi_inc 7 c k (a0 :: a1 :: a2 :: a3 :: a4 :: a5 :: some (.int y) :: some (.int x) :: E) st m = k (a0 :: a1 :: a2 :: a3 :: a4 :: a5 :: some (.int y) :: some (.int (x + c)) :: E) st m := by simp [zi_inc, zj_sok, zj_isL]
theorem zx_inc7r  {a0 : Option Value} {a1 : Option Value} {a2 : Option Value} {a3 : Option Value} {a4 : Option Value} {a5 : Option Value} {x c : Int32} {y : Nat} : zi_inc 7 c k (a0 :: a1 :: a2 :: a3 :: a4 :: a5 :: some (.ref y) :: some (.int x) :: E) st m = k (a0 :: a1 :: a2 :: a3 :: a4 :: a5 :: some (.ref y) :: some (.int (x + c)) :: E) st m := by simp [zi_inc, zj_sok, zj_isL]
theorem zx_inc7n  {a0 : Option Value} {a1 : Option Value} {a2 : Option Value} {a3 : Option Value} {a4 : Option Value} {a5 : Option Value} {x c : Int32} : zi_inc 7 c k (a0 :: a1 :: a2 :: a3 :: a4 :: a5 :: none :: some (.int x) :: E) st m = k (a0 :: a1 :: a2 :: a3 :: a4 :: a5 :: none :: some (.int (x + c)) :: E) st m := by simp [zi_inc, zj_sok, zj_isL]
theorem zx_ild8  {a0 : Option Value} {a1 : Option Value} {a2 : Option Value} {a3 : Option Value} {a4 : Option Value} {a5 : Option Value} {a6 : Option Value} {a7 : Option Value} {x : Int32} : zi_ild 8 k (a0 :: a1 :: a2 :: a3 :: a4 :: a5 :: a6 :: a7 :: some (.int x) :: E) st m = k (a0 :: a1 :: a2 :: a3 :: a4 :: a5 :: a6 :: a7 :: some (.int x) :: E) (.int x :: st) m := rfl
theorem zx_ald8  {a0 : Option Value} {a1 : Option Value} {a2 : Option Value} {a3 : Option Value} {a4 : Option Value} {a5 : Option Value} {a6 : Option Value} {a7 : Option Value} {x : Nat} : zi_ald 8 k (a0 :: a1 :: a2 :: a3 :: a4 :: a5 :: a6 :: a7 :: some (.ref x) :: E) st m = k (a0 :: a1 :: a2 :: a3 :: a4 :: a5 :: a6 :: a7 :: some (.ref x) :: E) (.ref x :: st) m := rfl
theorem zx_lld8  {a0 : Option Value} {a1 : Option Value} {a2 : Option Value} {a3 : Option Value} {a4 : Option Value} {a5 : Option Value} {a6 : Option Value} {a7 : Option Value} {x : Int64} : zi_lld 8 k (a0 :: a1 :: a2 :: a3 :: a4 :: a5 :: a6 :: a7 :: some (.long x) :: E) st m = k (a0 :: a1 :: a2 :: a3 :: a4 :: a5 :: a6 :: a7 :: some (.long x) :: E) (.long x :: st) m := rfl
theorem zx_ist8i  {a0 : Option Value} {a1 : Option Value} {a2 : Option Value} {a3 : Option Value} {a4 : Option Value} {a5 : Option Value} {a6 : Option Value} {b : Option Value} {x : Int32} {y : Int32} : zi_ist 8 k (a0 :: a1 :: a2 :: a3 :: a4 :: a5 :: a6 :: some (.int y) :: b :: E) (.int x :: st) m = k (a0 :: a1 :: a2 :: a3 :: a4 :: a5 :: a6 :: some (.int y) :: some (.int x) :: E) st m := by simp [zi_ist, zj_sok, zj_isL]
theorem zx_ist8r  {a0 : Option Value} {a1 : Option Value} {a2 : Option Value} {a3 : Option Value} {a4 : Option Value} {a5 : Option Value} {a6 : Option Value} {b : Option Value} {x : Int32} {y : Nat} : zi_ist 8 k (a0 :: a1 :: a2 :: a3 :: a4 :: a5 :: a6 :: some (.ref y) :: b :: E) (.int x :: st) m = k (a0 :: a1 :: a2 :: a3 :: a4 :: a5 :: a6 :: some (.ref y) :: some (.int x) :: E) st m := by simp [zi_ist, zj_sok, zj_isL]
theorem zx_ist8n  {a0 : Option Value} {a1 : Option Value} {a2 : Option Value} {a3 : Option Value} {a4 : Option Value} {a5 : Option Value} {a6 : Option Value} {b : Option Value} {x : Int32} : zi_ist 8 k (a0 :: a1 :: a2 :: a3 :: a4 :: a5 :: a6 :: none :: b :: E) (.int x :: st) m = k (a0 :: a1 :: a2 :: a3 :: a4 :: a5 :: a6 :: none :: some (.int x) :: E) st m := by simp [zi_ist, zj_sok, zj_isL]
theorem zx_ast8i  {a0 : Option Value} {a1 : Option Value} {a2 : Option Value} {a3 : Option Value} {a4 : Option Value} {a5 : Option Value} {a6 : Option Value} {b : Option Value} {x : Nat} {y : Int32} : zi_ast 8 k (a0 :: a1 :: a2 :: a3 :: a4 :: a5 :: a6 :: some (.int y) :: b :: E) (.ref x :: st) m = k (a0 :: a1 :: a2 :: a3 :: a4 :: a5 :: a6 :: some (.int y) :: some (.ref x) :: E) st m := by simp [zi_ast, zj_sok, zj_isL]
theorem zx_ast8r  {a0 : Option Value} {a1 : Option Value} {a2 : Option Value} {a3 : Option Value} {a4 : Option Value} {a5 : Option Value} {a6 : Option Value} {b : Option Value} {x : Nat} {y : Nat} : zi_ast 8 k (a0 :: a1 :: a2 :: a3 :: a4 :: a5 :: a6 :: some (.ref y) :: b :: E) (.ref x :: st) m = k (a0 :: a1 :: a2 :: a3 :: a4 :: a5 :: a6 :: some (.ref y) :: some (.ref x) :: E) st m := by simp [zi_ast, zj_sok, zj_isL]
theorem zx_ast8n  {a0 : Option Value} {a1 : Option Value} {a2 : Option Value} {a3 : Option Value} {a4 : Option Value} {a5 : Option Value} {a6 : Option Value} {b : Option Value} {x : Nat} : zi_ast 8 k (a0 :: a1 :: a2 :: a3 :: a4 :: a5 :: a6 :: none :: b :: E) (.ref x :: st) m = k (a0 :: a1 :: a2 :: a3 :: a4 :: a5 :: a6 :: none :: some (.ref x) :: E) st m := by simp [zi_ast, zj_sok, zj_isL]
theorem zx_inc8i  {a0 : Option Value} {a1 : Option Value} {a2 : Option Value} {a3 : Option Value} {a4 : Option Value} {a5 : Option Value} {a6 : Option Value} {x c : Int32} {y : Int32} : zi_inc 8 c k (a0 :: a1 :: a2 :: a3 :: a4 :: a5 :: a6 :: some (.int y) :: some (.int x) :: E) st m = k (a0 :: a1 :: a2 :: a3 :: a4 :: a5 :: a6 :: some (.int y) :: some (.int (x + c)) :: E) st m := by simp [zi_inc, zj_sok, zj_isL]
theorem zx_inc8r  {a0 : Option Value} {a1 : Option Value} {a2 : Option Value} {a3 : Option Value} {a4 : Option Value} {a5 : Option Value} {a6 : Option Value} {x c : Int32} {y : Nat} : zi_inc 8 c k (a0 :: a1 :: a2 :: a3 :: a4 :: a5 :: a6 :: some (.ref y) :: some (.int x) :: E) st m = k (a0 :: a1 :: a2 :: a3 :: a4 :: a5 :: a6 :: some (.ref y) :: some (.int (x + c)) :: E) st m := by simp [zi_inc, zj_sok, zj_isL]
theorem zx_inc8n  {a0 : Option Value} {a1 : Option Value} {a2 : Option Value} {a3 : Option Value} {a4 : Option Value} {a5 : Option Value} {a6 : Option Value} {x c : Int32} : zi_inc 8 c k (a0 :: a1 :: a2 :: a3 :: a4 :: a5 :: a6 :: none :: some (.int x) :: E) st m = k (a0 :: a1 :: a2 :: a3 :: a4 :: a5 :: a6 :: none :: some (.int (x + c)) :: E) st m := by simp [zi_inc, zj_sok, zj_isL]
theorem zx_ild9  {a0 : Option Value} {a1 : Option Value} {a2 : Option Value} {a3 : Option Value} {a4 : Option Value} {a5 : Option Value} {a6 : Option Value} {a7 : Option Value} {a8 : Option Value} {x : Int32} : zi_ild 9 k (a0 :: a1 :: a2 :: a3 :: a4 :: a5 :: a6 :: a7 :: a8 :: some (.int x) :: E) st m = k (a0 :: a1 :: a2 :: a3 :: a4 :: a5 :: a6 :: a7 :: a8 :: some (.int x) :: E) (.int x :: st) m := rfl
theorem zx_ald9  {a0 : Option Value} {a1 : Option Value} {a2 : Option Value} {a3 : Option Value} {a4 : Option Value} {a5 : Option Value} {a6 : Option Value} {a7 : Option Value} {a8 : Option Value} {x : Nat} : zi_ald 9 k (a0 :: a1 :: a2 :: a3 :: a4 :: a5 :: a6 :: a7 :: a8 :: some (.ref x) :: E) st m = k (a0 :: a1 :: a2 :: a3 :: a4 :: a5 :: a6 :: a7 :: a8 :: some (.ref x) :: E) (.ref x :: st) m := rfl
theorem zx_lld9  {a0 : Option Value} {a1 : Option Value} {a2 : Option Value} {a3 : Option Value} {a4 : Option Value} {a5 : Option Value} {a6 : Option Value} {a7 : Option Value} {a8 : Option Value} {x : Int64} : zi_lld 9 k (a0 :: a1 :: a2 :: a3 :: a4 :: a5 :: a6 :: a7 :: a8 :: some (.long x) :: E) st m = k (a0 :: a1 :: a2 :: a3 :: a4 :: a5 :: a6 :: a7 :: a8 :: some (.long x) :: E) (.long x :: st) m := rfl
theorem zx_ist9i  {a0 : Option Value} {a1 : Option Value} {a2 : Option Value} {a3 : Option Value} {a4 : Option Value} {a5 : Option Value} {a6 : Option Value} {a7 : Option Value} {b : Option Value} {x : Int32} {y : Int32} : zi_ist 9 k (a0 :: a1 :: a2 :: a3 :: a4 :: a5 :: a6 :: a7 :: some (.int y) :: b :: E) (.int x :: st) m = k (a0 :: a1 :: a2 :: a3 :: a4 :: a5 :: a6 :: a7 :: some (.int y) :: some (.int x) :: E) st m := by simp [zi_ist, zj_sok, zj_isL]
theorem zx_ist9r  {a0 : Option Value} {a1 : Option Value} {a2 : Option Value} {a3 : Option Value} {a4 : Option Value} {a5 : Option Value} {a6 : Option Value} {a7 : Option Value} {b : Option Value} {x : Int32} {y : Nat} : zi_ist 9 k (a0 :: a1 :: a2 :: a3 :: a4 :: a5 :: a6 :: a7 :: some (.ref y) :: b :: E) (.int x :: st) m = k (a0 :: a1 :: a2 :: a3 :: a4 :: a5 :: a6 :: a7 :: some (.ref y) :: some (.int x) :: E) st m := by simp [zi_ist, zj_sok, zj_isL]
theorem zx_ist9n  {a0 : Option Value} {a1 : Option Value} {a2 : Option Value} {a3 : Option Value} {a4 : Option Value} {a5 : Option Value} {a6 : Option Value} {a7 : Option Value} {b : Option Value} {x : Int32} : zi_ist 9 k (a0 :: a1 :: a2 :: a3 :: a4 :: a5 :: a6 :: a7 :: none :: b :: E) (.int x :: st) m = k (a0 :: a1 :: a2 :: a3 :: a4 :: a5 :: a6 :: a7 :: none :: some (.int x) :: E) st m := by simp [zi_ist, zj_sok, zj_isL]
theorem zx_ast9i  {a0 : Option Value} {a1 : Option Value} {a2 : Option Value} {a3 : Option Value} {a4 : Option Value} {a5 : Option Value} {a6 : Option Value} {a7 : Option Value} {b : Option Value} {x : Nat} {y : Int32} : zi_ast 9 k (a0 :: a1 :: a2 :: a3 :: a4 :: a5 :: a6 :: a7 :: some (.int y) :: b :: E) (.ref x :: st) m = k (a0 :: a1 :: a2 :: a3 :: a4 :: a5 :: a6 :: a7 :: some (.int y) :: some (.ref x) :: E) st m := by simp [zi_ast, zj_sok, zj_isL]
theorem zx_ast9r  {a0 : Option Value} {a1 : Option Value} {a2 : Option Value} {a3 : Option Value} {a4 : Option Value} {a5 : Option Value} {a6 : Option Value} {a7 : Option Value} {b : Option Value} {x : Nat} {y : Nat} : zi_ast 9 k (a0 :: a1 :: a2 :: a3 :: a4 :: a5 :: a6 :: a7 :: some (.ref y) :: b :: E) (.ref x :: st) m = k (a0 :: a1 :: a2 :: a3 :: a4 :: a5 :: a6 :: a7 :: some (.ref y) :: some (.ref x) :: E) st m := by simp [zi_ast, zj_sok, zj_isL]
theorem zx_ast9n  {a0 : Option Value} {a1 : Option Value} {a2 : Option Value} {a3 : Option Value} {a4 : Option Value} {a5 : Option Value} {a6 : Option Value} {a7 : Option Value} {b : Option Value} {x : Nat} : zi_ast 9 k (a0 :: a1 :: a2 :: a3 :: a4 :: a5 :: a6 :: a7 :: none :: b :: E) (.ref x :: st) m = k (a0 :: a1 :: a2 :: a3 :: a4 :: a5 :: a6 :: a7 :: none :: some (.ref x) :: E) st m := by simp [zi_ast, zj_sok, zj_isL]
theorem zx_inc9i  {a0 : Option Value} {a1 : Option Value} {a2 : Option Value} {a3 : Option Value} {a4 : Option Value} {a5 : Option Value} {a6 : Option Value} {a7 : Option Value} {x c : Int32} {y : Int32} : zi_inc 9 c k (a0 :: a1 :: a2 :: a3 :: a4 :: a5 :: a6 :: a7 :: some (.int y) :: some (.int x) :: E) st m = k (a0 :: a1 :: a2 :: a3 :: a4 :: a5 :: a6 :: a7 :: some (.int y) :: some (.int (x + c)) :: E) st m := by simp [zi_inc, zj_sok, zj_isL]
theorem zx_inc9r  {a0 : Option Value} {a1 : Option Value} {a2 : Option Value} {a3 : Option Value} {a4 : Option Value} {a5 : Option Value} {a6 : Option Value} {a7 : Option Value} {x c : Int32} {y : Nat} : zi_inc 9 c k (a0 :: a1 :: a2 :: a3 :: a4 :: a5 :: a6 :: a7 :: some (.ref y) :: some (.int x) :: E) st m = k (a0 :: a1 :: a2 :: a3 :: a4 :: a5 :: a6 :: a7 :: some (.ref y) :: some (.int (x + c)) :: E) st m := by simp [zi_inc, zj_sok, zj_isL]
theorem zx_inc9n  {a0 : Option Value} {a1 : Option Value} {a2 : Option Value} {a3 : Option Value} {a4 : Option Value} {a5 : Option Value} {a6 : Option Value} {a7 : Option Value} {x c : Int32} : zi_inc 9 c k (a0 :: a1 :: a2 :: a3 :: a4 :: a5 :: a6 :: a7 :: none :: some (.int x) :: E) st m = k (a0 :: a1 :: a2 :: a3 :: a4 :: a5 :: a6 :: a7 :: none :: some (.int (x + c)) :: E) st m := by simp [zi_inc, zj_sok, zj_isL]
theorem zx_ild10  {a0 : Option Value} {a1 : Option Value} {a2 : Option Value} {a3 : Option Value} {a4 : Option Value} {a5 : Option Value} {a6 : Option Value} {a7 : Option Value} {a8 : Option Value} {a9 : Option Value} {x : Int32} : zi_ild 10 k (a0 :: a1 :: a2 :: a3 :: a4 :: a5 :: a6 :: a7 :: a8 :: a9 :: some (.int x) :: E) st m = k (a0 :: a1 :: a2 :: a3 :: a4 :: a5 :: a6 :: a7 :: a8 :: a9 :: some (.int x) :: E) (.int x :: st) m := rfl
theorem zx_ald10  {a0 : Option Value} {a1 : Option Value} {a2 : Option Value} {a3 : Option Value} {a4 : Option Value} {a5 : Option Value} {a6 : Option Value} {a7 : Option Value} {a8 : Option Value} {a9 : Option Value} {x : Nat} : zi_ald 10 k (a0 :: a1 :: a2 :: a3 :: a4 :: a5 :: a6 :: a7 :: a8 :: a9 :: some (.ref x) :: E) st m = k (a0 :: a1 :: a2 :: a3 :: a4 :: a5 :: a6 :: a7 :: a8 :: a9 :: some (.ref x) :: E) (.ref x :: st) m := rfl
theorem zx_lld10  {a0 : Option Value} {a1 : Option Value} {a2 : Option Value} {a3 : Option Value} {a4 : Option Value} {a5 : Option Value} {a6 : Option Value} {a7 : Option Value} {a8 : Option Value} {a9 : Option Value} {x : Int64} : zi_lld 10 k (a0 :: a1 :: a2 :: a3 :: a4 :: a5 :: a6 :: a7 :: a8 :: a9 :: some (.long x) :: E) st m = k (a0 :: a1 :: a2 :: a3 :: a4 :: a5 :: a6 :: a7 :: a8 :: a9 :: some (.long x) :: E) (.long x :: st) m := rfl
theorem zx_ist10i  {a0 : Option Value} {a1 : Option Value} {a2 : Option Value} {a3 : Option Value} {a4 : Option Value} {a5 : Option Value} {a6 : Option Value} {a7 : Option Value} {a8 : Option Value} {b : Option Value} {x : Int32} {y : Int32} : zi_ist 10 k (a0 :: a1 :: a2 :: a3 :: a4 :: a5 :: a6 :: a7 :: a8 :: some (.int y) :: b :: E) (.int x :: st) m = k (a0 :: a1 :: a2 :: a3 :: a4 :: a5 :: a6 :: a7 :: a8 :: some (.int y) :: some (.int x) :: E) st m := by simp [zi_ist, zj_sok, zj_isL]
theorem zx_ist10r  {a0 : Option Value} {a1 : Option Value} {a2 : Option Value} {a3 : Option Value} {a4 : Option Value} {a5 : Option Value} {a6 : Option Value} {a7 : Option Value} {a8 : Option Value} {b : Option Value} {x : Int32} {y : Nat} : zi_ist 10 k (a0 :: a1 :: a2 :: a3 :: a4 :: a5 :: a6 :: a7 :: a8 :: some (.ref y) :: b :: E) (.int x :: st) m = k (a0 :: a1 :: a2 :: a3 :: a4 :: a5 :: a6 :: a7 :: a8 :: some (.ref y) :: some (.int x) :: E) st m := by simp [zi_ist, zj_sok, zj_isL]
theorem zx_ist10n  {a0 : Option Value} {a1 : Option Value} {a2 : Option Value} {a3 : Option Value} {a4 : Option Value} {a5 : Option Value} {a6 : Option Value} {a7 : Option Value} {a8 : Option Value} {b : Option Value} {x : Int32} : zi_ist 10 k (a0 :: a1 :: a2 :: a3 :: a4 :: a5 :: a6 :: a7 :: a8 :: none :: b :: E) (.int x :: st) m = k (a0 :: a1 :: a2 :: a3 :: a4 :: a5 :: a6 :: a7 :: a8 :: none :: some (.int x) :: E) st m := by simp [zi_ist, zj_sok, zj_isL]
theorem zx_ast10i  {a0 : Option Value} {a1 : Option Value} {a2 : Option Value} {a3 : Option Value} {a4 : Option Value} {a5 : Option Value} {a6 : Option Value} {a7 : Option Value} {a8 : Option Value} {b : Option Value} {x : Nat} {y : Int32} : zi_ast 10 k (a0 :: a1 :: a2 :: a3 :: a4 :: a5 :: a6 :: a7 :: a8 :: some (.int y) :: b :: E) (.ref x :: st) m = k (a0 :: a1 :: a2 :: a3 :: a4 :: a5 :: a6 :: a7 :: a8 :: some (.int y) :: some (.ref x) :: E) st m := by simp [zi_ast, zj_sok, zj_isL]
theorem zx_ast10r  {a0 : Option Value} {a1 : Option Value} {a2 : Option Value} {a3 : Option Value} {a4 : Option Value} {a5 : Option Value} {a6 : Option Value} {a7 : Option Value} {a8 : Option Value} {b : Option Value} {x : Nat} {y : Nat} : zi_ast 10 k (a0 :: a1 :: a2 :: a3 :: a4 :: a5 :: a6 :: a7 :: a8 :: some (.ref y) :: b :: E) (.ref x :: st) m = k (a0 :: a1 :: a2 :: a3 :: a4 :: a5 :: a6 :: a7 :: a8 :: some (.ref y) :: some (.ref x) :: E) st m := by simp [zi_ast, zj_sok, zj_isL]
theorem zx_ast10n  {a0 : Option Value} {a1 : Option Value} {a2 : Option Value} {a3 : Option Value} {a4 : Option Value} {a5 : Option Value} {a6 : Option Value} {a7 : Option Value} {a8 : Option Value} {b : Option Value} {x : Nat} : zi_ast 10 k (a0 :: a1 :: a2 :: a3 :: a4 :: a5 :: a6 :: a7 :: a8 :: none :: b :: E) (.ref x :: st) m = k (a0 :: a1 :: a2 :: a3 :: a4 :: a5 :: a6 :: a7 :: a8 :: none :: some (.ref x) :: E) st m := by simp [zi_ast, zj_sok, zj_isL]
theorem zx_inc10i  {a0 : Option Value} {a1 : Option Value} {a2 : Option Value} {a3 : Option Value} {a4 : Option Value} {a5 : Option Value} {a6 : Option Value} {a7 : Option Value} {a8 : Option Value} {x c : Int32} {y : Int32} : zi_inc 10 c k (a0 :: a1 :: a2 :: a3 :: a4 :: a5 :: a6 :: a7 :: a8 :: some (.int y) :: some (.int x) :: E) st m = k (a0 :: a1 :: a2 :: a3 :: a4 :: a5 :: a6 :: a7 :: a8 :: some (.int y) :: some (.int (x + c)) :: E) st m := by simp [zi_inc, zj_sok, zj_isL]
theorem zx_inc10r  {a0 : Option Value} {a1 : Option Value} {a2 : Option Value} {a3 : Option Value} {a4 : Option Value} {a5 : Option Value} {a6 : Option Value} {a7 : Option Value} {a8 : Option Value} {x c : Int32} {y : Nat} : zi_inc 10 c k (a0 :: a1 :: a2 :: a3 :: a4 :: a5 :: a6 :: a7 :: a8 :: some (.ref y) :: some (.int x) :: E) st m = k (a0 :: a1 :: a2 :: a3 :: a4 :: a5 :: a6 :: a7 :: a8 :: some (.ref y) :: some (.int (x + c)) :: E) st m := by simp [zi_inc, zj_sok, zj_isL]
theorem zx_inc10n  {a0 : Option Value} {a1 : Option Value} {a2 : Option Value} {a3 : Option Value} {a4 : Option Value} {a5 : Option Value} {a6 : Option Value} {a7 : Option Value} {a8 : Option Value} {x c : Int32} : zi_inc 10 c k (a0 :: a1 :: a2 :: a3 :: a4 :: a5 :: a6 :: a7 :: a8 :: none :: some (.int x) :: E) st m = k (a0 :: a1 :: a2 :: a3 :: a4 :: a5 :: a6 :: a7 :: a8 :: none :: some (.int (x + c)) :: E) st m := by simp [zi_inc, zj_sok, zj_isL]
theorem zx_b {f : Int32 → Int32 → Int32} {x y : Int32} : zi_b f k E (.int y :: .int x :: st) m = k E (.int (f x y) :: st) m := rfl
theorem zx_bd {f : Int32 → Int32 → Int32} {x y : Int32} (h : ¬ y = 0) : zi_bd f k E (.int y :: .int x :: st) m = k E (.int (f x y) :: st) m := by simp [zi_bd, h]
theorem zx_u {f : Int32 → Int32} {x : Int32} : zi_u f k E (.int x :: st) m = k E (.int (f x) :: st) m := rfl
theorem zx_i2l {x : Int32} : zi_i2l k E (.int x :: st) m = k E (.long x.toInt64 :: st) m := rfl
theorem zx_lb {f : Int64 → Int64 → Int64} {x y : Int64} : zi_lb f k E (.long y :: .long x :: st) m = k E (.long (f x y) :: st) m := rfl
theorem zx_lbd {f : Int64 → Int64 → Int64} {x y : Int64} (h : ¬ y = 0) : zi_lbd f k E (.long y :: .long x :: st) m = k E (.long (f x y) :: st) m := by simp [zi_lbd, h]
theorem zx_lu {f : Int64 → Int64} {x : Int64} : zi_lu f k E (.long x :: st) m = k E (.long (f x) :: st) m := rfl
theorem zx_lcmp {x y : Int64} : zi_lcmp k E (.long y :: .long x :: st) m = k E (.int (lg_cmp x y) :: st) m := rfl
theorem zx_dupi {x : Int32} : zi_dup k E (.int x :: st) m = k E (.int x :: .int x :: st) m := rfl
theorem zx_dupr {x : Nat} : zi_dup k E (.ref x :: st) m = k E (.ref x :: .ref x :: st) m := rfl
theorem zx_dup2 {x : Nat} {y : Int32} : zi_dup2 k E (.int y :: .ref x :: st) m = k E (.int y :: .ref x :: .int y :: .ref x :: st) m := rfl
theorem zx_pop {x : Int32} : zi_pop k E (.int x :: st) m = k E st m := rfl
theorem zx_eq {x : Int32} : zi_eq kt kf E (.int x :: st) m = if x = 0 then kt E st m else kf E st m := rfl
theorem zx_lt {x : Int32} : zi_lt kt kf E (.int x :: st) m = if x < 0 then kt E st m else kf E st m := rfl
theorem zx_le {x : Int32} : zi_le kt kf E (.int x :: st) m = if x ≤ 0 then kt E st m else kf E st m := rfl
theorem zx_ceq {x y : Int32} : zi_ceq kt kf E (.int y :: .int x :: st) m = if x = y then kt E st m else kf E st m := rfl
theorem zx_clt {x y : Int32} : zi_clt kt kf E (.int y :: .int x :: st) m = if x < y then kt E st m else kf E st m := rfl
theorem zx_cle {x y : Int32} : zi_cle kt kf E (.int y :: .int x :: st) m = if x ≤ y then kt E st m else kf E st m := rfl
theorem zx_ceq_t {a b : Nat} (h : a = b) (h1 : a < 2 ^ 31) (h2 : b < 2 ^ 31) : zi_ceq kt kf E (.int (nI b) :: .int (nI a) :: st) m = kt E st m := by rw [zx_ceq, if_pos ((nI_eq h1 h2).mpr h)]
theorem zx_ceq_f {a b : Nat} (h : ¬ a = b) (h1 : a < 2 ^ 31) (h2 : b < 2 ^ 31) : zi_ceq kt kf E (.int (nI b) :: .int (nI a) :: st) m = kf E st m := by rw [zx_ceq, if_neg (fun q => h ((nI_eq h1 h2).mp q))]
theorem zx_clt_t {a b : Nat} (h : a < b) (h1 : a < 2 ^ 31) (h2 : b < 2 ^ 31) : zi_clt kt kf E (.int (nI b) :: .int (nI a) :: st) m = kt E st m := by rw [zx_clt, if_pos ((nI_ltI h1 h2).mpr h)]
theorem zx_clt_f {a b : Nat} (h : ¬ a < b) (h1 : a < 2 ^ 31) (h2 : b < 2 ^ 31) : zi_clt kt kf E (.int (nI b) :: .int (nI a) :: st) m = kf E st m := by rw [zx_clt, if_neg (fun q => h ((nI_ltI h1 h2).mp q))]
theorem zx_cle_t {a b : Nat} (h : a ≤ b) (h1 : a < 2 ^ 31) (h2 : b < 2 ^ 31) : zi_cle kt kf E (.int (nI b) :: .int (nI a) :: st) m = kt E st m := by rw [zx_cle, if_pos ((nI_leI h1 h2).mpr h)]
theorem zx_cle_f {a b : Nat} (h : ¬ a ≤ b) (h1 : a < 2 ^ 31) (h2 : b < 2 ^ 31) : zi_cle kt kf E (.int (nI b) :: .int (nI a) :: st) m = kf E st m := by rw [zx_cle, if_neg (fun q => h ((nI_leI h1 h2).mp q))]
theorem zx_eq_t {a : Nat} (h : a = 0) (h1 : a < 2 ^ 31) : zi_eq kt kf E (.int (nI a) :: st) m = kt E st m := by rw [zx_eq, show (0 : Int32) = nI 0 from rfl, if_pos ((nI_eq h1 (by omega)).mpr h)]
theorem zx_eq_f {a : Nat} (h : ¬ a = 0) (h1 : a < 2 ^ 31) : zi_eq kt kf E (.int (nI a) :: st) m = kf E st m := by rw [zx_eq, show (0 : Int32) = nI 0 from rfl, if_neg (fun q => h ((nI_eq h1 (by omega)).mp q))]
theorem zx_lt_t {a : Nat} (h : a < 0) (h1 : a < 2 ^ 31) : zi_lt kt kf E (.int (nI a) :: st) m = kt E st m := by rw [zx_lt, show (0 : Int32) = nI 0 from rfl, if_pos ((nI_ltI h1 (by omega)).mpr h)]
theorem zx_lt_f {a : Nat} (h : ¬ a < 0) (h1 : a < 2 ^ 31) : zi_lt kt kf E (.int (nI a) :: st) m = kf E st m := by rw [zx_lt, show (0 : Int32) = nI 0 from rfl, if_neg (fun q => h ((nI_ltI h1 (by omega)).mp q))]
theorem zx_le_t {a : Nat} (h : a ≤ 0) (h1 : a < 2 ^ 31) : zi_le kt kf E (.int (nI a) :: st) m = kt E st m := by rw [zx_le, show (0 : Int32) = nI 0 from rfl, if_pos ((nI_leI h1 (by omega)).mpr h)]
theorem zx_le_f {a : Nat} (h : ¬ a ≤ 0) (h1 : a < 2 ^ 31) : zi_le kt kf E (.int (nI a) :: st) m = kf E st m := by rw [zx_le, show (0 : Int32) = nI 0 from rfl, if_neg (fun q => h ((nI_leI h1 (by omega)).mp q))]
theorem zx_eq_b {b : Bool} : zi_eq kt kf E (.int (nI b.toNat) :: st) m = if b = false then kt E st m else kf E st m := by cases b <;> rfl
end ZX
section ZX
variable {k kt kf : zj_K} {E : zj_E} {st : List Value} {m : zj_M}
theorem zx_rem {a b : Nat} (h : 0 < b) (h1 : a < 2 ^ 31) (h2 : b < 2 ^ 31) : zi_bd (fun x y => x - x / y * y) k E (.int (nI b) :: .int (nI a) :: st) m = k E (.int (nI (a % b)) :: st) m := by rw [zx_bd (fun q => by have := (nI_eq (a := b) (b := 0) h2 (by omega)).mp q; omega), pk_rem h1 h h2]
theorem zx_div {a b : Nat} (h : 0 < b) (h1 : a < 2 ^ 31) (h2 : b < 2 ^ 31) : zi_bd (fun x y => x / y) k E (.int (nI b) :: .int (nI a) :: st) m = k E (.int (nI (a / b)) :: st) m := by rw [zx_bd (fun q => by have := (nI_eq (a := b) (b := 0) h2 (by omega)).mp q; omega), pk_div h1 h h2]
def zj_go (r : zj_R) (k : zj_K) (E : zj_E) (st : List Value) : zj_R := match r with
  | some ([], m1) => k E st m1
  | some ([v], m1) => k E (v :: st) m1
  | _ => none
theorem zx_go0  : zj_go (some ([], m)) k E st = k E st m := rfl
theorem zx_go1 {v : Value} : zj_go (some ([v], m)) k E st = k E (v :: st) m := rfl
theorem zx_call0 {mf : zj_F} (h : zj_wt st ≤ 8) : zi_call 0 mf k E (st) m = zj_go (mf [] m) k E st := by
  unfold zi_call zj_go
  rw [if_pos ⟨by simp, by simpa using h⟩]
  simp only [List.take_succ_cons, List.take_zero, List.drop_succ_cons, List.drop_zero, List.reverse_cons, List.reverse_nil, List.nil_append, List.cons_append]
  all_goals rfl
theorem zx_call1 {mf : zj_F} {v0 : Value} (h : zj_wt st ≤ 8) : zi_call 1 mf k E (v0 :: st) m = zj_go (mf [v0] m) k E st := by
  unfold zi_call zj_go
  rw [if_pos ⟨by simp, by simpa using h⟩]
  simp only [List.take_succ_cons, List.take_zero, List.drop_succ_cons, List.drop_zero, List.reverse_cons, List.reverse_nil, List.nil_append, List.cons_append]
  all_goals rfl
theorem zx_call2 {mf : zj_F} {v0 : Value} {v1 : Value} (h : zj_wt st ≤ 8) : zi_call 2 mf k E (v0 :: v1 :: st) m = zj_go (mf [v1, v0] m) k E st := by
  unfold zi_call zj_go
  rw [if_pos ⟨by simp, by simpa using h⟩]
  simp only [List.take_succ_cons, List.take_zero, List.drop_succ_cons, List.drop_zero, List.reverse_cons, List.reverse_nil, List.nil_append, List.cons_append]
  all_goals rfl
theorem zx_call3 {mf : zj_F} {v0 : Value} {v1 : Value} {v2 : Value} (h : zj_wt st ≤ 8) : zi_call 3 mf k E (v0 :: v1 :: v2 :: st) m = zj_go (mf [v2, v1, v0] m) k E st := by
  unfold zi_call zj_go
  rw [if_pos ⟨by simp, by simpa using h⟩]
  simp only [List.take_succ_cons, List.take_zero, List.drop_succ_cons, List.drop_zero, List.reverse_cons, List.reverse_nil, List.nil_append, List.cons_append]
  all_goals rfl
theorem zx_call4 {mf : zj_F} {v0 : Value} {v1 : Value} {v2 : Value} {v3 : Value} (h : zj_wt st ≤ 8) : zi_call 4 mf k E (v0 :: v1 :: v2 :: v3 :: st) m = zj_go (mf [v3, v2, v1, v0] m) k E st := by
  unfold zi_call zj_go
  rw [if_pos ⟨by simp, by simpa using h⟩]
  simp only [List.take_succ_cons, List.take_zero, List.drop_succ_cons, List.drop_zero, List.reverse_cons, List.reverse_nil, List.nil_append, List.cons_append]
  all_goals rfl
theorem zx_call5 {mf : zj_F} {v0 : Value} {v1 : Value} {v2 : Value} {v3 : Value} {v4 : Value} (h : zj_wt st ≤ 8) : zi_call 5 mf k E (v0 :: v1 :: v2 :: v3 :: v4 :: st) m = zj_go (mf [v4, v3, v2, v1, v0] m) k E st := by
  unfold zi_call zj_go
  rw [if_pos ⟨by simp, by simpa using h⟩]
  simp only [List.take_succ_cons, List.take_zero, List.drop_succ_cons, List.drop_zero, List.reverse_cons, List.reverse_nil, List.nil_append, List.cons_append]
  all_goals rfl
theorem zx_call6 {mf : zj_F} {v0 : Value} {v1 : Value} {v2 : Value} {v3 : Value} {v4 : Value} {v5 : Value} (h : zj_wt st ≤ 8) : zi_call 6 mf k E (v0 :: v1 :: v2 :: v3 :: v4 :: v5 :: st) m = zj_go (mf [v5, v4, v3, v2, v1, v0] m) k E st := by
  unfold zi_call zj_go
  rw [if_pos ⟨by simp, by simpa using h⟩]
  simp only [List.take_succ_cons, List.take_zero, List.drop_succ_cons, List.drop_zero, List.reverse_cons, List.reverse_nil, List.nil_append, List.cons_append]
  all_goals rfl
theorem zx_call7 {mf : zj_F} {v0 : Value} {v1 : Value} {v2 : Value} {v3 : Value} {v4 : Value} {v5 : Value} {v6 : Value} (h : zj_wt st ≤ 8) : zi_call 7 mf k E (v0 :: v1 :: v2 :: v3 :: v4 :: v5 :: v6 :: st) m = zj_go (mf [v6, v5, v4, v3, v2, v1, v0] m) k E st := by
  unfold zi_call zj_go
  rw [if_pos ⟨by simp, by simpa using h⟩]
  simp only [List.take_succ_cons, List.take_zero, List.drop_succ_cons, List.drop_zero, List.reverse_cons, List.reverse_nil, List.nil_append, List.cons_append]
  all_goals rfl
theorem zx_vc0 {ci t : Nat} {mf : zj_F} (h : zj_cls t ci = true) : zi_vc ci 0 mf k kf E (.ref t :: st) m = zi_call 1 mf k E (.ref t :: st) m := by
  unfold zi_vc
  simp only [List.drop_succ_cons, List.drop_zero, List.head?_cons]
  rw [if_pos h]
theorem zx_vn0 {ci t : Nat} {mf : zj_F} (h : zj_cls t ci = false) : zi_vc ci 0 mf k kf E (.ref t :: st) m = kf E (.ref t :: st) m := by
  unfold zi_vc
  simp only [List.drop_succ_cons, List.drop_zero, List.head?_cons]
  rw [if_neg (by rw [h]; decide)]
theorem zx_vc1 {ci t : Nat} {mf : zj_F} {v0 : Value} (h : zj_cls t ci = true) : zi_vc ci 1 mf k kf E (v0 :: .ref t :: st) m = zi_call 2 mf k E (v0 :: .ref t :: st) m := by
  unfold zi_vc
  simp only [List.drop_succ_cons, List.drop_zero, List.head?_cons]
  rw [if_pos h]
theorem zx_vn1 {ci t : Nat} {mf : zj_F} {v0 : Value} (h : zj_cls t ci = false) : zi_vc ci 1 mf k kf E (v0 :: .ref t :: st) m = kf E (v0 :: .ref t :: st) m := by
  unfold zi_vc
  simp only [List.drop_succ_cons, List.drop_zero, List.head?_cons]
  rw [if_neg (by rw [h]; decide)]
theorem zx_vc2 {ci t : Nat} {mf : zj_F} {v0 : Value} {v1 : Value} (h : zj_cls t ci = true) : zi_vc ci 2 mf k kf E (v0 :: v1 :: .ref t :: st) m = zi_call 3 mf k E (v0 :: v1 :: .ref t :: st) m := by
  unfold zi_vc
  simp only [List.drop_succ_cons, List.drop_zero, List.head?_cons]
  rw [if_pos h]
theorem zx_vn2 {ci t : Nat} {mf : zj_F} {v0 : Value} {v1 : Value} (h : zj_cls t ci = false) : zi_vc ci 2 mf k kf E (v0 :: v1 :: .ref t :: st) m = kf E (v0 :: v1 :: .ref t :: st) m := by
  unfold zi_vc
  simp only [List.drop_succ_cons, List.drop_zero, List.head?_cons]
  rw [if_neg (by rw [h]; decide)]
theorem zx_vc3 {ci t : Nat} {mf : zj_F} {v0 : Value} {v1 : Value} {v2 : Value} (h : zj_cls t ci = true) : zi_vc ci 3 mf k kf E (v0 :: v1 :: v2 :: .ref t :: st) m = zi_call 4 mf k E (v0 :: v1 :: v2 :: .ref t :: st) m := by
  unfold zi_vc
  simp only [List.drop_succ_cons, List.drop_zero, List.head?_cons]
  rw [if_pos h]
theorem zx_vn3 {ci t : Nat} {mf : zj_F} {v0 : Value} {v1 : Value} {v2 : Value} (h : zj_cls t ci = false) : zi_vc ci 3 mf k kf E (v0 :: v1 :: v2 :: .ref t :: st) m = kf E (v0 :: v1 :: v2 :: .ref t :: st) m := by
  unfold zi_vc
  simp only [List.drop_succ_cons, List.drop_zero, List.head?_cons]
  rw [if_neg (by rw [h]; decide)]
theorem zx_vc4 {ci t : Nat} {mf : zj_F} {v0 : Value} {v1 : Value} {v2 : Value} {v3 : Value} (h : zj_cls t ci = true) : zi_vc ci 4 mf k kf E (v0 :: v1 :: v2 :: v3 :: .ref t :: st) m = zi_call 5 mf k E (v0 :: v1 :: v2 :: v3 :: .ref t :: st) m := by
  unfold zi_vc
  simp only [List.drop_succ_cons, List.drop_zero, List.head?_cons]
  rw [if_pos h]
theorem zx_vn4 {ci t : Nat} {mf : zj_F} {v0 : Value} {v1 : Value} {v2 : Value} {v3 : Value} (h : zj_cls t ci = false) : zi_vc ci 4 mf k kf E (v0 :: v1 :: v2 :: v3 :: .ref t :: st) m = kf E (v0 :: v1 :: v2 :: v3 :: .ref t :: st) m := by
  unfold zi_vc
  simp only [List.drop_succ_cons, List.drop_zero, List.head?_cons]
  rw [if_neg (by rw [h]; decide)]
theorem zx_vc5 {ci t : Nat} {mf : zj_F} {v0 : Value} {v1 : Value} {v2 : Value} {v3 : Value} {v4 : Value} (h : zj_cls t ci = true) : zi_vc ci 5 mf k kf E (v0 :: v1 :: v2 :: v3 :: v4 :: .ref t :: st) m = zi_call 6 mf k E (v0 :: v1 :: v2 :: v3 :: v4 :: .ref t :: st) m := by
  unfold zi_vc
  simp only [List.drop_succ_cons, List.drop_zero, List.head?_cons]
  rw [if_pos h]
theorem zx_vn5 {ci t : Nat} {mf : zj_F} {v0 : Value} {v1 : Value} {v2 : Value} {v3 : Value} {v4 : Value} (h : zj_cls t ci = false) : zi_vc ci 5 mf k kf E (v0 :: v1 :: v2 :: v3 :: v4 :: .ref t :: st) m = kf E (v0 :: v1 :: v2 :: v3 :: v4 :: .ref t :: st) m := by
  unfold zi_vc
  simp only [List.drop_succ_cons, List.drop_zero, List.head?_cons]
  rw [if_neg (by rw [h]; decide)]
theorem zx_vc6 {ci t : Nat} {mf : zj_F} {v0 : Value} {v1 : Value} {v2 : Value} {v3 : Value} {v4 : Value} {v5 : Value} (h : zj_cls t ci = true) : zi_vc ci 6 mf k kf E (v0 :: v1 :: v2 :: v3 :: v4 :: v5 :: .ref t :: st) m = zi_call 7 mf k E (v0 :: v1 :: v2 :: v3 :: v4 :: v5 :: .ref t :: st) m := by
  unfold zi_vc
  simp only [List.drop_succ_cons, List.drop_zero, List.head?_cons]
  rw [if_pos h]
theorem zx_vn6 {ci t : Nat} {mf : zj_F} {v0 : Value} {v1 : Value} {v2 : Value} {v3 : Value} {v4 : Value} {v5 : Value} (h : zj_cls t ci = false) : zi_vc ci 6 mf k kf E (v0 :: v1 :: v2 :: v3 :: v4 :: v5 :: .ref t :: st) m = kf E (v0 :: v1 :: v2 :: v3 :: v4 :: v5 :: .ref t :: st) m := by
  unfold zi_vc
  simp only [List.drop_succ_cons, List.drop_zero, List.head?_cons]
  rw [if_neg (by rw [h]; decide)]
theorem zx_sc0 {t : Nat} {mf : zj_F} (h : zj_isS t = true) : zi_sc 0 mf k E (.ref t :: st) m = zi_call 1 mf k E (.ref t :: st) m := by
  unfold zi_sc
  simp only [List.drop_succ_cons, List.drop_zero, List.head?_cons]
  rw [if_pos h]
theorem zx_sc1 {t : Nat} {mf : zj_F} {v0 : Value} (h : zj_isS t = true) : zi_sc 1 mf k E (v0 :: .ref t :: st) m = zi_call 2 mf k E (v0 :: .ref t :: st) m := by
  unfold zi_sc
  simp only [List.drop_succ_cons, List.drop_zero, List.head?_cons]
  rw [if_pos h]
theorem zx_sc2 {t : Nat} {mf : zj_F} {v0 : Value} {v1 : Value} (h : zj_isS t = true) : zi_sc 2 mf k E (v0 :: v1 :: .ref t :: st) m = zi_call 3 mf k E (v0 :: v1 :: .ref t :: st) m := by
  unfold zi_sc
  simp only [List.drop_succ_cons, List.drop_zero, List.head?_cons]
  rw [if_pos h]
theorem zx_mmin {x y : Int32} (h : zj_wt st ≤ 8) : zi_mmin k E (.int y :: .int x :: st) m = k E (.int (if y < x then y else x) :: st) m := by simp [zi_mmin, h]
theorem zx_mmax {x y : Int32} (h : zj_wt st ≤ 8) : zi_mmax k E (.int y :: .int x :: st) m = k E (.int (if x < y then y else x) :: st) m := by simp [zi_mmax, h]
theorem zx_gf {ci kx t : Nat} (h : zj_cls t ci = true) (h2 : kx < (zj_at t).2.2.length) : zi_gf ci kx k E (.ref t :: st) m = k E (zj_fv (zj_fc t kx) (m t kx) :: st) m := by simp only [zi_gf]; rw [if_pos ⟨h, h2⟩]
theorem zx_pf {ci kx t : Nat} {x : Int32} (h : zj_cls t ci = true) (h2 : zj_fc t kx = 0) : zi_pf ci kx k E (.int x :: .ref t :: st) m = k E st (zj_st m t kx x) := by simp only [zi_pf]; rw [if_pos ⟨h, h2⟩]
theorem zx_pz {ci kx t : Nat} {x : Int32} (h : zj_cls t ci = true) (h2 : zj_fc t kx = 0) (h3 : x = 0 ∨ x = 1) : zi_pz ci kx k E (.int x :: .ref t :: st) m = k E st (zj_st m t kx x) := by simp only [zi_pz]; rw [if_pos ⟨⟨h, h2⟩, h3⟩]
theorem zx_iald {t : Nat} {i : Int32} (h : zj_in t 0 i = true) : zi_iald k E (.int i :: .ref t :: st) m = k E (.int (m t i.toNatClampNeg) :: st) m := by simp only [zi_iald]; rw [if_pos h]
theorem zx_zald {t : Nat} {i : Int32} (h : zj_in t 1 i = true) : zi_zald k E (.int i :: .ref t :: st) m = k E (.int (m t i.toNatClampNeg) :: st) m := by simp only [zi_zald]; rw [if_pos h]
theorem zx_iast {t : Nat} {i x : Int32} (h : zj_in t 0 i = true) : zi_iast k E (.int x :: .int i :: .ref t :: st) m = k E st (zj_st m t i.toNatClampNeg x) := by simp only [zi_iast]; rw [if_pos h]
theorem zx_zast {t : Nat} {i x : Int32} (h : zj_in t 1 i = true) (h3 : x = 0 ∨ x = 1) : zi_zast k E (.int x :: .int i :: .ref t :: st) m = k E st (zj_st m t i.toNatClampNeg x) := by simp only [zi_zast]; rw [if_pos ⟨h, h3⟩]
theorem zx_ret0  : zi_ret none E [] m = some ([], m) := rfl
theorem zx_reti {x : Int32} : zi_ret (some .int) E [.int x] m = some ([.int x], m) := rfl
theorem zx_retl {x : Int64} : zi_ret (some .long) E [.long x] m = some ([.long x], m) := rfl
theorem zx_reta {x : Nat} {C : String} : zi_ret (some (.object C)) E [.ref x] m = some ([.ref x], m) := rfl
theorem zx_retz {b : Bool} : zi_ret (some .boolean) E [.int (nI b.toNat)] m = some ([.int (nI b.toNat)], m) := by cases b <;> rfl
theorem zx_retz0  : zi_ret (some .boolean) E [.int (nI 0)] m = some ([.int (nI 0)], m) := rfl
theorem zx_retz1  : zi_ret (some .boolean) E [.int (nI 1)] m = some ([.int (nI 1)], m) := rfl
end ZX
theorem zj_lp_s (F : zj_K → zj_K) (n : Nat) : zj_lp F (n + 1) = F (zj_lp F n) := rfl
