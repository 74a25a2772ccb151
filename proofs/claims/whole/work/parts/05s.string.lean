/-! The two members of String that the class calls, on the constants. -/
def o_slen (t : q_TT) : q_TT := fun L st sh m K R => match st with
  | .retAddr i :: st => i < 4 ∧ q_cat st ∧ t L (.int (nI (q_slen.getD i 0)) :: st) sh m K R
  | _ => False
def o_schar (t : q_TT) : q_TT := fun L st sh m K R => match st with
  | .int k :: .retAddr i :: st => i < 4 ∧ q_cat st ∧ vp_in k (q_slen.getD i 0) ∧ t L (.int ((q_sbyt.getD i []).getD k.toNatClampNeg 0) :: st) sh m K R
  | _ => False
theorem k_slen {X : q_CX} {y : MethodName} {cc : ByteArray} {nL : Nat} {ret : Option FieldType} {rm : Room} {c0 : Cond} (h : q_OK X y cc nL ret rm (c0 :: q_G)) {pc idx : Nat} {t : q_TT} (hlk : Cond.methodLink y.cls idx yJ0_length_8abf5 ∈ c0 :: q_G) (hR : 2 ≤ rm.frames ∧ 60 ≤ rm.locals) (hd : decode cc pc = .ok (.invokevirtual idx, 3)) (ht : q_SK X nL (pc + 3) t) : q_SK X nL pc (o_slen t) := sorry
theorem k_schar {X : q_CX} {y : MethodName} {cc : ByteArray} {nL : Nat} {ret : Option FieldType} {rm : Room} {c0 : Cond} (h : q_OK X y cc nL ret rm (c0 :: q_G)) {pc idx : Nat} {t : q_TT} (hlk : Cond.methodLink y.cls idx yJ0_charAt_5068e ∈ c0 :: q_G) (hR : 3 ≤ rm.frames ∧ 110 ≤ rm.locals) (hd : decode cc pc = .ok (.invokevirtual idx, 3)) (ht : q_SK X nL (pc + 3) t) : q_SK X nL pc (o_schar t) := sorry
