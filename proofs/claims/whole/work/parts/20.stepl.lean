/-! step equations, one an instruction, by wip/whole/gensteps.py -/
-- 232: RefusedLastLaw.law([I)Z
theorem s232_0 (d : Nat) (h : AH) (x0 x1 x2 x3 : Option Value)  : E d 232 0 [x0, x1, x2, x3] [] h = E d 232 1 [x0, x1, x2, x3] [.ref (hN h)] (newC h (104, 0) 8) := E_nx rfl
theorem s232_1 (d : Nat) (h : AH) (x0 x1 x2 x3 : Option Value) (s0 : Nat) : E d 232 1 [x0, x1, x2, x3] [.ref s0] h = E d 232 2 [x0, x1, x2, x3] [.ref s0, .ref s0] h := E_nx rfl
theorem s232_2 (d : Nat) (h : AH) (x0 x1 x2 x3 : Option Value) (s0 : Nat) (s1 : Value) : E (d + 1) 232 2 [x0, x1, x2, x3] [.ref s0, s1] h = (E d 80 0 [some (.ref s0), none] [] h).bind fun r => E (d + 1) 232 3 [x0, x1, x2, x3] (r.1.toList ++ [s1]) r.2 := E_call rfl
theorem s232_3 (d : Nat) (h : AH) (x0 x1 x2 x3 : Option Value) (s0 : Nat) : E d 232 3 [x0, x1, x2, x3] [.ref s0] h = E d 232 4 [x0, some (.ref s0), x2, x3] [] h := E_nx rfl
theorem s232_4 (d : Nat) (h : AH) (x0 x1 x2 x3 : Option Value)  : E d 232 4 [x0, x1, x2, x3] [] h = E d 232 5 [x0, x1, x2, x3] [.ref (hN h)] (newC h (105, 0) 40) := E_nx rfl
theorem s232_5 (d : Nat) (h : AH) (x0 x1 x2 x3 : Option Value) (s0 : Nat) : E d 232 5 [x0, x1, x2, x3] [.ref s0] h = E d 232 6 [x0, x1, x2, x3] [.ref s0, .ref s0] h := E_nx rfl
theorem s232_6 (d : Nat) (h : AH) (x0 x1 x2 x3 : Option Value) (s0 : Nat) (s1 : Value) : E (d + 1) 232 6 [x0, x1, x2, x3] [.ref s0, s1] h = (E d 135 0 [some (.ref s0)] [] h).bind fun r => E (d + 1) 232 7 [x0, x1, x2, x3] (r.1.toList ++ [s1]) r.2 := E_call rfl
theorem s232_7 (d : Nat) (h : AH) (x0 x1 x2 x3 : Option Value) (s0 : Nat) : E d 232 7 [x0, x1, x2, x3] [.ref s0] h = E d 232 8 [x0, x1, some (.ref s0), x3] [] h := E_nx rfl
theorem s232_8 (d : Nat) (h : AH) (x0 x1 x2 x3 : Option Value)  : E d 232 8 [x0, x1, x2, x3] [] h = E d 232 9 [x0, x1, x2, x3] [.int 0] h := E_nx rfl
theorem s232_9 (d : Nat) (h : AH) (x0 x1 x2 x3 : Option Value) (s0 : Int32) : E d 232 9 [x0, x1, x2, x3] [.int s0] h = E d 232 10 [x0, x1, x2, some (.int s0)] [] h := E_nx rfl
theorem s232_10 (d : Nat) (h : AH) (x0 x1 x2 : Option Value) (v : Int32) : E d 232 10 [x0, x1, x2, some (.int v)] [] h = E d 232 11 [x0, x1, x2, some (.int v)] [.int v] h := E_nx rfl
theorem s232_11 (d : Nat) (h : AH) (x1 x2 x3 : Option Value) (s0 : Value) (v : Nat) : E d 232 11 [some (.ref v), x1, x2, x3] [s0] h = E d 232 12 [some (.ref v), x1, x2, x3] [.ref v, s0] h := E_nx rfl
theorem s232_12 (d : Nat) (h : AH) (x0 x1 x2 x3 : Option Value) (s0 : Nat) (s1 : Value) : E d 232 12 [x0, x1, x2, x3] [.ref s0, s1] h = (lenA h s0).bind fun n => E d 232 13 [x0, x1, x2, x3] [.int (nI n), s1] h := E_g2 rfl
theorem s232_13 (d : Nat) (h : AH) (x0 x1 x2 x3 : Option Value) (s0 : Value) (s1 : Value) : E d 232 13 [x0, x1, x2, x3] [s0, s1] h = E d 232 14 [x0, x1, x2, x3] [.int 6, s0, s1] h := E_nx rfl
theorem s232_14 (d : Nat) (h : AH) (x0 x1 x2 x3 : Option Value) (s0 : Int32) (s1 : Int32) (s2 : Value) : E d 232 14 [x0, x1, x2, x3] [.int s0, .int s1, s2] h = E d 232 15 [x0, x1, x2, x3] [.int (s1 - s0), s2] h := E_nx rfl
theorem s232_15 (d : Nat) (h : AH) (x0 x1 x2 x3 : Option Value) (s0 : Int32) (s1 : Int32) : E d 232 15 [x0, x1, x2, x3] [.int s0, .int s1] h = if s0 < s1 then E d 232 1070 [x0, x1, x2, x3] [] h else E d 232 16 [x0, x1, x2, x3] [] h := E_ifc rfl
theorem s232_16 (d : Nat) (h : AH) (x1 x2 x3 : Option Value) (v : Nat) : E d 232 16 [some (.ref v), x1, x2, x3] [] h = E d 232 17 [some (.ref v), x1, x2, x3] [.ref v] h := E_nx rfl
theorem s232_17 (d : Nat) (h : AH) (x0 x1 x2 : Option Value) (s0 : Value) (v : Int32) : E d 232 17 [x0, x1, x2, some (.int v)] [s0] h = E d 232 18 [x0, x1, x2, some (.int v)] [.int v, s0] h := E_nx rfl
theorem s232_18 (d : Nat) (h : AH) (x0 x1 x2 x3 : Option Value) (s0 : Int32) (s1 : Nat) : E d 232 18 [x0, x1, x2, x3] [.int s0, .ref s1] h = if inb s0 (alen h s1 0) = true ∨ inb s0 (alen h s1 8) = true then E d 232 19 [x0, x1, x2, x3] [.int (hI h s1 s0.toNatClampNeg)] h else none := E_gd rfl
theorem s232_19 (d : Nat) (h : AH) (x0 x1 x2 x3 : Option Value) (s0 : Value) : E d 232 19 [x0, x1, x2, x3] [s0] h = E d 232 20 [x0, x1, x2, x3] [.int 63, s0] h := E_nx rfl
theorem s232_20 (d : Nat) (h : AH) (x0 x1 x2 x3 : Option Value) (s0 : Int32) (s1 : Int32) : E d 232 20 [x0, x1, x2, x3] [.int s0, .int s1] h = E d 232 21 [x0, x1, x2, x3] [.int (s1 &&& s0)] h := E_nx rfl
theorem s232_21 (d : Nat) (h : AH) (x0 x1 x2 x3 : Option Value) (s0 : Int32) : E d 232 21 [x0, x1, x2, x3] [.int s0] h = if s0 = 0 then E d 232 22 [x0, x1, x2, x3] [] h else if s0 = 1 then E d 232 59 [x0, x1, x2, x3] [] h else if s0 = 2 then E d 232 120 [x0, x1, x2, x3] [] h else if s0 = 3 then E d 232 177 [x0, x1, x2, x3] [] h else if s0 = 4 then E d 232 205 [x0, x1, x2, x3] [] h else if s0 = 5 then E d 232 222 [x0, x1, x2, x3] [] h else if s0 = 6 then E d 232 249 [x0, x1, x2, x3] [] h else if s0 = 7 then E d 232 276 [x0, x1, x2, x3] [] h else if s0 = 8 then E d 232 293 [x0, x1, x2, x3] [] h else if s0 = 9 then E d 232 320 [x0, x1, x2, x3] [] h else if s0 = 10 then E d 232 337 [x0, x1, x2, x3] [] h else if s0 = 11 then E d 232 364 [x0, x1, x2, x3] [] h else if s0 = 12 then E d 232 391 [x0, x1, x2, x3] [] h else if s0 = 13 then E d 232 428 [x0, x1, x2, x3] [] h else if s0 = 14 then E d 232 455 [x0, x1, x2, x3] [] h else if s0 = 15 then E d 232 472 [x0, x1, x2, x3] [] h else if s0 = 16 then E d 232 479 [x0, x1, x2, x3] [] h else if s0 = 17 then E d 232 486 [x0, x1, x2, x3] [] h else if s0 = 18 then E d 232 513 [x0, x1, x2, x3] [] h else if s0 = 19 then E d 232 540 [x0, x1, x2, x3] [] h else if s0 = 20 then E d 232 557 [x0, x1, x2, x3] [] h else if s0 = 21 then E d 232 564 [x0, x1, x2, x3] [] h else if s0 = 22 then E d 232 581 [x0, x1, x2, x3] [] h else if s0 = 23 then E d 232 608 [x0, x1, x2, x3] [] h else if s0 = 24 then E d 232 635 [x0, x1, x2, x3] [] h else if s0 = 25 then E d 232 672 [x0, x1, x2, x3] [] h else if s0 = 26 then E d 232 699 [x0, x1, x2, x3] [] h else if s0 = 27 then E d 232 716 [x0, x1, x2, x3] [] h else if s0 = 28 then E d 232 733 [x0, x1, x2, x3] [] h else if s0 = 29 then E d 232 740 [x0, x1, x2, x3] [] h else if s0 = 30 then E d 232 767 [x0, x1, x2, x3] [] h else if s0 = 31 then E d 232 794 [x0, x1, x2, x3] [] h else if s0 = 32 then E d 232 811 [x0, x1, x2, x3] [] h else if s0 = 33 then E d 232 828 [x0, x1, x2, x3] [] h else if s0 = 34 then E d 232 855 [x0, x1, x2, x3] [] h else if s0 = 35 then E d 232 902 [x0, x1, x2, x3] [] h else if s0 = 36 then E d 232 949 [x0, x1, x2, x3] [] h else if s0 = 37 then E d 232 996 [x0, x1, x2, x3] [] h else if s0 = 38 then E d 232 1013 [x0, x1, x2, x3] [] h else if s0 = 39 then E d 232 1020 [x0, x1, x2, x3] [] h else if s0 = 40 then E d 232 1037 [x0, x1, x2, x3] [] h else if s0 = 41 then E d 232 1044 [x0, x1, x2, x3] [] h else if s0 = 42 then E d 232 1051 [x0, x1, x2, x3] [] h else E d 232 1068 [x0, x1, x2, x3] [] h := by rw [E_nx (show stepA _ _ _ _ _ = nx (if s0 = 0 then 22 else if s0 = 1 then 59 else if s0 = 2 then 120 else if s0 = 3 then 177 else if s0 = 4 then 205 else if s0 = 5 then 222 else if s0 = 6 then 249 else if s0 = 7 then 276 else if s0 = 8 then 293 else if s0 = 9 then 320 else if s0 = 10 then 337 else if s0 = 11 then 364 else if s0 = 12 then 391 else if s0 = 13 then 428 else if s0 = 14 then 455 else if s0 = 15 then 472 else if s0 = 16 then 479 else if s0 = 17 then 486 else if s0 = 18 then 513 else if s0 = 19 then 540 else if s0 = 20 then 557 else if s0 = 21 then 564 else if s0 = 22 then 581 else if s0 = 23 then 608 else if s0 = 24 then 635 else if s0 = 25 then 672 else if s0 = 26 then 699 else if s0 = 27 then 716 else if s0 = 28 then 733 else if s0 = 29 then 740 else if s0 = 30 then 767 else if s0 = 31 then 794 else if s0 = 32 then 811 else if s0 = 33 then 828 else if s0 = 34 then 855 else if s0 = 35 then 902 else if s0 = 36 then 949 else if s0 = 37 then 996 else if s0 = 38 then 1013 else if s0 = 39 then 1020 else if s0 = 40 then 1037 else if s0 = 41 then 1044 else if s0 = 42 then 1051 else 1068) _ _ _ from rfl)]; simp only [E_ite]
theorem s232_22 (d : Nat) (h : AH) (x0 x2 x3 : Option Value) (v : Nat) : E d 232 22 [x0, some (.ref v), x2, x3] [] h = E d 232 23 [x0, some (.ref v), x2, x3] [.ref v] h := E_nx rfl
theorem s232_23 (d : Nat) (h : AH) (x1 x2 x3 : Option Value) (s0 : Value) (v : Nat) : E d 232 23 [some (.ref v), x1, x2, x3] [s0] h = E d 232 24 [some (.ref v), x1, x2, x3] [.ref v, s0] h := E_nx rfl
theorem s232_24 (d : Nat) (h : AH) (x0 x1 x2 : Option Value) (s0 : Value) (s1 : Value) (v : Int32) : E d 232 24 [x0, x1, x2, some (.int v)] [s0, s1] h = E d 232 25 [x0, x1, x2, some (.int v)] [.int v, s0, s1] h := E_nx rfl
theorem s232_25 (d : Nat) (h : AH) (x0 x1 x2 x3 : Option Value) (s0 : Value) (s1 : Value) (s2 : Value) : E d 232 25 [x0, x1, x2, x3] [s0, s1, s2] h = E d 232 26 [x0, x1, x2, x3] [.int 1, s0, s1, s2] h := E_nx rfl
theorem s232_26 (d : Nat) (h : AH) (x0 x1 x2 x3 : Option Value) (s0 : Int32) (s1 : Int32) (s2 : Value) (s3 : Value) : E d 232 26 [x0, x1, x2, x3] [.int s0, .int s1, s2, s3] h = E d 232 27 [x0, x1, x2, x3] [.int (s1 + s0), s2, s3] h := E_nx rfl
theorem s232_27 (d : Nat) (h : AH) (x0 x1 x2 x3 : Option Value) (s0 : Int32) (s1 : Nat) (s2 : Value) : E d 232 27 [x0, x1, x2, x3] [.int s0, .ref s1, s2] h = if inb s0 (alen h s1 0) = true ∨ inb s0 (alen h s1 8) = true then E d 232 28 [x0, x1, x2, x3] [.int (hI h s1 s0.toNatClampNeg), s2] h else none := E_gd rfl
theorem s232_28 (d : Nat) (h : AH) (x1 x2 x3 : Option Value) (s0 : Value) (s1 : Value) (v : Nat) : E d 232 28 [some (.ref v), x1, x2, x3] [s0, s1] h = E d 232 29 [some (.ref v), x1, x2, x3] [.ref v, s0, s1] h := E_nx rfl
theorem s232_29 (d : Nat) (h : AH) (x0 x1 x2 : Option Value) (s0 : Value) (s1 : Value) (s2 : Value) (v : Int32) : E d 232 29 [x0, x1, x2, some (.int v)] [s0, s1, s2] h = E d 232 30 [x0, x1, x2, some (.int v)] [.int v, s0, s1, s2] h := E_nx rfl
theorem s232_30 (d : Nat) (h : AH) (x0 x1 x2 x3 : Option Value) (s0 : Value) (s1 : Value) (s2 : Value) (s3 : Value) : E d 232 30 [x0, x1, x2, x3] [s0, s1, s2, s3] h = E d 232 31 [x0, x1, x2, x3] [.int 2, s0, s1, s2, s3] h := E_nx rfl
theorem s232_31 (d : Nat) (h : AH) (x0 x1 x2 x3 : Option Value) (s0 : Int32) (s1 : Int32) (s2 : Value) (s3 : Value) (s4 : Value) : E d 232 31 [x0, x1, x2, x3] [.int s0, .int s1, s2, s3, s4] h = E d 232 32 [x0, x1, x2, x3] [.int (s1 + s0), s2, s3, s4] h := E_nx rfl
theorem s232_32 (d : Nat) (h : AH) (x0 x1 x2 x3 : Option Value) (s0 : Int32) (s1 : Nat) (s2 : Value) (s3 : Value) : E d 232 32 [x0, x1, x2, x3] [.int s0, .ref s1, s2, s3] h = if inb s0 (alen h s1 0) = true ∨ inb s0 (alen h s1 8) = true then E d 232 33 [x0, x1, x2, x3] [.int (hI h s1 s0.toNatClampNeg), s2, s3] h else none := E_gd rfl
theorem s232_33 (d : Nat) (h : AH) (x1 x2 x3 : Option Value) (s0 : Value) (s1 : Value) (s2 : Value) (v : Nat) : E d 232 33 [some (.ref v), x1, x2, x3] [s0, s1, s2] h = E d 232 34 [some (.ref v), x1, x2, x3] [.ref v, s0, s1, s2] h := E_nx rfl
theorem s232_34 (d : Nat) (h : AH) (x0 x1 x2 : Option Value) (s0 : Value) (s1 : Value) (s2 : Value) (s3 : Value) (v : Int32) : E d 232 34 [x0, x1, x2, some (.int v)] [s0, s1, s2, s3] h = E d 232 35 [x0, x1, x2, some (.int v)] [.int v, s0, s1, s2, s3] h := E_nx rfl
theorem s232_35 (d : Nat) (h : AH) (x0 x1 x2 x3 : Option Value) (s0 : Value) (s1 : Value) (s2 : Value) (s3 : Value) (s4 : Value) : E d 232 35 [x0, x1, x2, x3] [s0, s1, s2, s3, s4] h = E d 232 36 [x0, x1, x2, x3] [.int 3, s0, s1, s2, s3, s4] h := E_nx rfl
theorem s232_36 (d : Nat) (h : AH) (x0 x1 x2 x3 : Option Value) (s0 : Int32) (s1 : Int32) (s2 : Value) (s3 : Value) (s4 : Value) (s5 : Value) : E d 232 36 [x0, x1, x2, x3] [.int s0, .int s1, s2, s3, s4, s5] h = E d 232 37 [x0, x1, x2, x3] [.int (s1 + s0), s2, s3, s4, s5] h := E_nx rfl
theorem s232_37 (d : Nat) (h : AH) (x0 x1 x2 x3 : Option Value) (s0 : Int32) (s1 : Nat) (s2 : Value) (s3 : Value) (s4 : Value) : E d 232 37 [x0, x1, x2, x3] [.int s0, .ref s1, s2, s3, s4] h = if inb s0 (alen h s1 0) = true ∨ inb s0 (alen h s1 8) = true then E d 232 38 [x0, x1, x2, x3] [.int (hI h s1 s0.toNatClampNeg), s2, s3, s4] h else none := E_gd rfl
theorem s232_38 (d : Nat) (h : AH) (x0 x1 x2 x3 : Option Value) (s0 : Int32) (s1 : Int32) (s2 : Int32) (s3 : Nat) : E (d + 1) 232 38 [x0, x1, x2, x3] [.int s0, .int s1, .int s2, .ref s3] h = if hS h s3 = some (104, 0) then (E d 81 0 [some (.ref s3), some (.int s2), some (.int s1), some (.int s0)] [] h).bind fun r => E (d + 1) 232 39 [x0, x1, x2, x3] (r.1.toList ++ []) r.2 else none := E_callg rfl
theorem s232_39 (d : Nat) (h : AH) (x0 x1 x3 : Option Value) (s0 : Value) (v : Nat) : E d 232 39 [x0, x1, some (.ref v), x3] [s0] h = E d 232 40 [x0, x1, some (.ref v), x3] [.ref v, s0] h := E_nx rfl
theorem s232_40 (d : Nat) (h : AH) (x1 x2 x3 : Option Value) (s0 : Value) (s1 : Value) (v : Nat) : E d 232 40 [some (.ref v), x1, x2, x3] [s0, s1] h = E d 232 41 [some (.ref v), x1, x2, x3] [.ref v, s0, s1] h := E_nx rfl
theorem s232_41 (d : Nat) (h : AH) (x0 x1 x2 : Option Value) (s0 : Value) (s1 : Value) (s2 : Value) (v : Int32) : E d 232 41 [x0, x1, x2, some (.int v)] [s0, s1, s2] h = E d 232 42 [x0, x1, x2, some (.int v)] [.int v, s0, s1, s2] h := E_nx rfl
theorem s232_42 (d : Nat) (h : AH) (x0 x1 x2 x3 : Option Value) (s0 : Value) (s1 : Value) (s2 : Value) (s3 : Value) : E d 232 42 [x0, x1, x2, x3] [s0, s1, s2, s3] h = E d 232 43 [x0, x1, x2, x3] [.int 1, s0, s1, s2, s3] h := E_nx rfl
theorem s232_43 (d : Nat) (h : AH) (x0 x1 x2 x3 : Option Value) (s0 : Int32) (s1 : Int32) (s2 : Value) (s3 : Value) (s4 : Value) : E d 232 43 [x0, x1, x2, x3] [.int s0, .int s1, s2, s3, s4] h = E d 232 44 [x0, x1, x2, x3] [.int (s1 + s0), s2, s3, s4] h := E_nx rfl
theorem s232_44 (d : Nat) (h : AH) (x0 x1 x2 x3 : Option Value) (s0 : Int32) (s1 : Nat) (s2 : Value) (s3 : Value) : E d 232 44 [x0, x1, x2, x3] [.int s0, .ref s1, s2, s3] h = if inb s0 (alen h s1 0) = true ∨ inb s0 (alen h s1 8) = true then E d 232 45 [x0, x1, x2, x3] [.int (hI h s1 s0.toNatClampNeg), s2, s3] h else none := E_gd rfl
theorem s232_45 (d : Nat) (h : AH) (x1 x2 x3 : Option Value) (s0 : Value) (s1 : Value) (s2 : Value) (v : Nat) : E d 232 45 [some (.ref v), x1, x2, x3] [s0, s1, s2] h = E d 232 46 [some (.ref v), x1, x2, x3] [.ref v, s0, s1, s2] h := E_nx rfl
theorem s232_46 (d : Nat) (h : AH) (x0 x1 x2 : Option Value) (s0 : Value) (s1 : Value) (s2 : Value) (s3 : Value) (v : Int32) : E d 232 46 [x0, x1, x2, some (.int v)] [s0, s1, s2, s3] h = E d 232 47 [x0, x1, x2, some (.int v)] [.int v, s0, s1, s2, s3] h := E_nx rfl
theorem s232_47 (d : Nat) (h : AH) (x0 x1 x2 x3 : Option Value) (s0 : Value) (s1 : Value) (s2 : Value) (s3 : Value) (s4 : Value) : E d 232 47 [x0, x1, x2, x3] [s0, s1, s2, s3, s4] h = E d 232 48 [x0, x1, x2, x3] [.int 2, s0, s1, s2, s3, s4] h := E_nx rfl
theorem s232_48 (d : Nat) (h : AH) (x0 x1 x2 x3 : Option Value) (s0 : Int32) (s1 : Int32) (s2 : Value) (s3 : Value) (s4 : Value) (s5 : Value) : E d 232 48 [x0, x1, x2, x3] [.int s0, .int s1, s2, s3, s4, s5] h = E d 232 49 [x0, x1, x2, x3] [.int (s1 + s0), s2, s3, s4, s5] h := E_nx rfl
theorem s232_49 (d : Nat) (h : AH) (x0 x1 x2 x3 : Option Value) (s0 : Int32) (s1 : Nat) (s2 : Value) (s3 : Value) (s4 : Value) : E d 232 49 [x0, x1, x2, x3] [.int s0, .ref s1, s2, s3, s4] h = if inb s0 (alen h s1 0) = true ∨ inb s0 (alen h s1 8) = true then E d 232 50 [x0, x1, x2, x3] [.int (hI h s1 s0.toNatClampNeg), s2, s3, s4] h else none := E_gd rfl
theorem s232_50 (d : Nat) (h : AH) (x1 x2 x3 : Option Value) (s0 : Value) (s1 : Value) (s2 : Value) (s3 : Value) (v : Nat) : E d 232 50 [some (.ref v), x1, x2, x3] [s0, s1, s2, s3] h = E d 232 51 [some (.ref v), x1, x2, x3] [.ref v, s0, s1, s2, s3] h := E_nx rfl
theorem s232_51 (d : Nat) (h : AH) (x0 x1 x2 : Option Value) (s0 : Value) (s1 : Value) (s2 : Value) (s3 : Value) (s4 : Value) (v : Int32) : E d 232 51 [x0, x1, x2, some (.int v)] [s0, s1, s2, s3, s4] h = E d 232 52 [x0, x1, x2, some (.int v)] [.int v, s0, s1, s2, s3, s4] h := E_nx rfl
theorem s232_52 (d : Nat) (h : AH) (x0 x1 x2 x3 : Option Value) (s0 : Value) (s1 : Value) (s2 : Value) (s3 : Value) (s4 : Value) (s5 : Value) : E d 232 52 [x0, x1, x2, x3] [s0, s1, s2, s3, s4, s5] h = E d 232 53 [x0, x1, x2, x3] [.int 3, s0, s1, s2, s3, s4, s5] h := E_nx rfl
theorem s232_53 (d : Nat) (h : AH) (x0 x1 x2 x3 : Option Value) (s0 : Int32) (s1 : Int32) (s2 : Value) (s3 : Value) (s4 : Value) (s5 : Value) (s6 : Value) : E d 232 53 [x0, x1, x2, x3] [.int s0, .int s1, s2, s3, s4, s5, s6] h = E d 232 54 [x0, x1, x2, x3] [.int (s1 + s0), s2, s3, s4, s5, s6] h := E_nx rfl
theorem s232_54 (d : Nat) (h : AH) (x0 x1 x2 x3 : Option Value) (s0 : Int32) (s1 : Nat) (s2 : Value) (s3 : Value) (s4 : Value) (s5 : Value) : E d 232 54 [x0, x1, x2, x3] [.int s0, .ref s1, s2, s3, s4, s5] h = if inb s0 (alen h s1 0) = true ∨ inb s0 (alen h s1 8) = true then E d 232 55 [x0, x1, x2, x3] [.int (hI h s1 s0.toNatClampNeg), s2, s3, s4, s5] h else none := E_gd rfl
theorem s232_55 (d : Nat) (h : AH) (x0 x1 x2 x3 : Option Value) (s0 : Int32) (s1 : Int32) (s2 : Int32) (s3 : Nat) (s4 : Value) : E (d + 1) 232 55 [x0, x1, x2, x3] [.int s0, .int s1, .int s2, .ref s3, s4] h = if hS h s3 = some (105, 0) then (E d 142 0 [some (.ref s3), some (.int s2), some (.int s1), some (.int s0), none] [] h).bind fun r => E (d + 1) 232 56 [x0, x1, x2, x3] (r.1.toList ++ [s4]) r.2 else none := E_callg rfl
theorem s232_56 (d : Nat) (h : AH) (x0 x1 x2 x3 : Option Value) (s0 : Int32) (s1 : Int32) : E d 232 56 [x0, x1, x2, x3] [.int s0, .int s1] h = if s1 = s0 then E d 232 1068 [x0, x1, x2, x3] [] h else E d 232 57 [x0, x1, x2, x3] [] h := E_ifc rfl
theorem s232_57 (d : Nat) (h : AH) (x0 x1 x2 x3 : Option Value)  : E d 232 57 [x0, x1, x2, x3] [] h = E d 232 58 [x0, x1, x2, x3] [.int 0] h := E_nx rfl
theorem s232_58 (d : Nat) (h : AH) (x0 x1 x2 x3 : Option Value) (s0 : Int32) : E d 232 58 [x0, x1, x2, x3] [.int s0] h = if s0 = 0 ∨ s0 = 1 then some (some (.int s0), h) else none := E_retg rfl
theorem s232_59 (d : Nat) (h : AH) (x0 x2 x3 : Option Value) (v : Nat) : E d 232 59 [x0, some (.ref v), x2, x3] [] h = E d 232 60 [x0, some (.ref v), x2, x3] [.ref v] h := E_nx rfl
theorem s232_60 (d : Nat) (h : AH) (x1 x2 x3 : Option Value) (s0 : Value) (v : Nat) : E d 232 60 [some (.ref v), x1, x2, x3] [s0] h = E d 232 61 [some (.ref v), x1, x2, x3] [.ref v, s0] h := E_nx rfl
theorem s232_61 (d : Nat) (h : AH) (x0 x1 x2 : Option Value) (s0 : Value) (s1 : Value) (v : Int32) : E d 232 61 [x0, x1, x2, some (.int v)] [s0, s1] h = E d 232 62 [x0, x1, x2, some (.int v)] [.int v, s0, s1] h := E_nx rfl
theorem s232_62 (d : Nat) (h : AH) (x0 x1 x2 x3 : Option Value) (s0 : Value) (s1 : Value) (s2 : Value) : E d 232 62 [x0, x1, x2, x3] [s0, s1, s2] h = E d 232 63 [x0, x1, x2, x3] [.int 1, s0, s1, s2] h := E_nx rfl
theorem s232_63 (d : Nat) (h : AH) (x0 x1 x2 x3 : Option Value) (s0 : Int32) (s1 : Int32) (s2 : Value) (s3 : Value) : E d 232 63 [x0, x1, x2, x3] [.int s0, .int s1, s2, s3] h = E d 232 64 [x0, x1, x2, x3] [.int (s1 + s0), s2, s3] h := E_nx rfl
theorem s232_64 (d : Nat) (h : AH) (x0 x1 x2 x3 : Option Value) (s0 : Int32) (s1 : Nat) (s2 : Value) : E d 232 64 [x0, x1, x2, x3] [.int s0, .ref s1, s2] h = if inb s0 (alen h s1 0) = true ∨ inb s0 (alen h s1 8) = true then E d 232 65 [x0, x1, x2, x3] [.int (hI h s1 s0.toNatClampNeg), s2] h else none := E_gd rfl
theorem s232_65 (d : Nat) (h : AH) (x1 x2 x3 : Option Value) (s0 : Value) (s1 : Value) (v : Nat) : E d 232 65 [some (.ref v), x1, x2, x3] [s0, s1] h = E d 232 66 [some (.ref v), x1, x2, x3] [.ref v, s0, s1] h := E_nx rfl
theorem s232_66 (d : Nat) (h : AH) (x0 x1 x2 : Option Value) (s0 : Value) (s1 : Value) (s2 : Value) (v : Int32) : E d 232 66 [x0, x1, x2, some (.int v)] [s0, s1, s2] h = E d 232 67 [x0, x1, x2, some (.int v)] [.int v, s0, s1, s2] h := E_nx rfl
theorem s232_67 (d : Nat) (h : AH) (x0 x1 x2 x3 : Option Value) (s0 : Value) (s1 : Value) (s2 : Value) (s3 : Value) : E d 232 67 [x0, x1, x2, x3] [s0, s1, s2, s3] h = E d 232 68 [x0, x1, x2, x3] [.int 2, s0, s1, s2, s3] h := E_nx rfl
theorem s232_68 (d : Nat) (h : AH) (x0 x1 x2 x3 : Option Value) (s0 : Int32) (s1 : Int32) (s2 : Value) (s3 : Value) (s4 : Value) : E d 232 68 [x0, x1, x2, x3] [.int s0, .int s1, s2, s3, s4] h = E d 232 69 [x0, x1, x2, x3] [.int (s1 + s0), s2, s3, s4] h := E_nx rfl
theorem s232_69 (d : Nat) (h : AH) (x0 x1 x2 x3 : Option Value) (s0 : Int32) (s1 : Nat) (s2 : Value) (s3 : Value) : E d 232 69 [x0, x1, x2, x3] [.int s0, .ref s1, s2, s3] h = if inb s0 (alen h s1 0) = true ∨ inb s0 (alen h s1 8) = true then E d 232 70 [x0, x1, x2, x3] [.int (hI h s1 s0.toNatClampNeg), s2, s3] h else none := E_gd rfl
theorem s232_70 (d : Nat) (h : AH) (x1 x2 x3 : Option Value) (s0 : Value) (s1 : Value) (s2 : Value) (v : Nat) : E d 232 70 [some (.ref v), x1, x2, x3] [s0, s1, s2] h = E d 232 71 [some (.ref v), x1, x2, x3] [.ref v, s0, s1, s2] h := E_nx rfl
theorem s232_71 (d : Nat) (h : AH) (x0 x1 x2 : Option Value) (s0 : Value) (s1 : Value) (s2 : Value) (s3 : Value) (v : Int32) : E d 232 71 [x0, x1, x2, some (.int v)] [s0, s1, s2, s3] h = E d 232 72 [x0, x1, x2, some (.int v)] [.int v, s0, s1, s2, s3] h := E_nx rfl
theorem s232_72 (d : Nat) (h : AH) (x0 x1 x2 x3 : Option Value) (s0 : Value) (s1 : Value) (s2 : Value) (s3 : Value) (s4 : Value) : E d 232 72 [x0, x1, x2, x3] [s0, s1, s2, s3, s4] h = E d 232 73 [x0, x1, x2, x3] [.int 3, s0, s1, s2, s3, s4] h := E_nx rfl
theorem s232_73 (d : Nat) (h : AH) (x0 x1 x2 x3 : Option Value) (s0 : Int32) (s1 : Int32) (s2 : Value) (s3 : Value) (s4 : Value) (s5 : Value) : E d 232 73 [x0, x1, x2, x3] [.int s0, .int s1, s2, s3, s4, s5] h = E d 232 74 [x0, x1, x2, x3] [.int (s1 + s0), s2, s3, s4, s5] h := E_nx rfl
theorem s232_74 (d : Nat) (h : AH) (x0 x1 x2 x3 : Option Value) (s0 : Int32) (s1 : Nat) (s2 : Value) (s3 : Value) (s4 : Value) : E d 232 74 [x0, x1, x2, x3] [.int s0, .ref s1, s2, s3, s4] h = if inb s0 (alen h s1 0) = true ∨ inb s0 (alen h s1 8) = true then E d 232 75 [x0, x1, x2, x3] [.int (hI h s1 s0.toNatClampNeg), s2, s3, s4] h else none := E_gd rfl
theorem s232_75 (d : Nat) (h : AH) (x0 x1 x2 x3 : Option Value) (s0 : Int32) (s1 : Value) (s2 : Value) (s3 : Value) : E d 232 75 [x0, x1, x2, x3] [.int s0, s1, s2, s3] h = E d 232 76 [x0, x1, x2, x3] [.long s0.toInt64, s1, s2, s3] h := E_nx rfl
theorem s232_76 (d : Nat) (h : AH) (x0 x1 x2 x3 : Option Value) (s0 : Value) (s1 : Value) (s2 : Value) (s3 : Value) : E d 232 76 [x0, x1, x2, x3] [s0, s1, s2, s3] h = E d 232 77 [x0, x1, x2, x3] [.int 32, s0, s1, s2, s3] h := E_nx rfl
theorem s232_77 (d : Nat) (h : AH) (x0 x1 x2 x3 : Option Value) (s0 : Int32) (s1 : Int64) (s2 : Value) (s3 : Value) (s4 : Value) : E d 232 77 [x0, x1, x2, x3] [.int s0, .long s1, s2, s3, s4] h = E d 232 78 [x0, x1, x2, x3] [.long (s1 <<< (s0.toInt64 &&& 63)), s2, s3, s4] h := E_nx rfl
theorem s232_78 (d : Nat) (h : AH) (x1 x2 x3 : Option Value) (s0 : Value) (s1 : Value) (s2 : Value) (s3 : Value) (v : Nat) : E d 232 78 [some (.ref v), x1, x2, x3] [s0, s1, s2, s3] h = E d 232 79 [some (.ref v), x1, x2, x3] [.ref v, s0, s1, s2, s3] h := E_nx rfl
theorem s232_79 (d : Nat) (h : AH) (x0 x1 x2 : Option Value) (s0 : Value) (s1 : Value) (s2 : Value) (s3 : Value) (s4 : Value) (v : Int32) : E d 232 79 [x0, x1, x2, some (.int v)] [s0, s1, s2, s3, s4] h = E d 232 80 [x0, x1, x2, some (.int v)] [.int v, s0, s1, s2, s3, s4] h := E_nx rfl
theorem s232_80 (d : Nat) (h : AH) (x0 x1 x2 x3 : Option Value) (s0 : Value) (s1 : Value) (s2 : Value) (s3 : Value) (s4 : Value) (s5 : Value) : E d 232 80 [x0, x1, x2, x3] [s0, s1, s2, s3, s4, s5] h = E d 232 81 [x0, x1, x2, x3] [.int 4, s0, s1, s2, s3, s4, s5] h := E_nx rfl
theorem s232_81 (d : Nat) (h : AH) (x0 x1 x2 x3 : Option Value) (s0 : Int32) (s1 : Int32) (s2 : Value) (s3 : Value) (s4 : Value) (s5 : Value) (s6 : Value) : E d 232 81 [x0, x1, x2, x3] [.int s0, .int s1, s2, s3, s4, s5, s6] h = E d 232 82 [x0, x1, x2, x3] [.int (s1 + s0), s2, s3, s4, s5, s6] h := E_nx rfl
theorem s232_82 (d : Nat) (h : AH) (x0 x1 x2 x3 : Option Value) (s0 : Int32) (s1 : Nat) (s2 : Value) (s3 : Value) (s4 : Value) (s5 : Value) : E d 232 82 [x0, x1, x2, x3] [.int s0, .ref s1, s2, s3, s4, s5] h = if inb s0 (alen h s1 0) = true ∨ inb s0 (alen h s1 8) = true then E d 232 83 [x0, x1, x2, x3] [.int (hI h s1 s0.toNatClampNeg), s2, s3, s4, s5] h else none := E_gd rfl
theorem s232_83 (d : Nat) (h : AH) (x0 x1 x2 x3 : Option Value) (s0 : Int32) (s1 : Value) (s2 : Value) (s3 : Value) (s4 : Value) : E d 232 83 [x0, x1, x2, x3] [.int s0, s1, s2, s3, s4] h = E d 232 84 [x0, x1, x2, x3] [.long s0.toInt64, s1, s2, s3, s4] h := E_nx rfl
theorem s232_84 (d : Nat) (h : AH) (x0 x1 x2 x3 : Option Value) (s0 : Value) (s1 : Value) (s2 : Value) (s3 : Value) (s4 : Value) : E d 232 84 [x0, x1, x2, x3] [s0, s1, s2, s3, s4] h = E d 232 85 [x0, x1, x2, x3] [.long 4294967295, s0, s1, s2, s3, s4] h := E_nx rfl
theorem s232_85 (d : Nat) (h : AH) (x0 x1 x2 x3 : Option Value) (s0 : Int64) (s1 : Int64) (s2 : Value) (s3 : Value) (s4 : Value) (s5 : Value) : E d 232 85 [x0, x1, x2, x3] [.long s0, .long s1, s2, s3, s4, s5] h = E d 232 86 [x0, x1, x2, x3] [.long (s1 &&& s0), s2, s3, s4, s5] h := E_nx rfl
theorem s232_86 (d : Nat) (h : AH) (x0 x1 x2 x3 : Option Value) (s0 : Int64) (s1 : Int64) (s2 : Value) (s3 : Value) (s4 : Value) : E d 232 86 [x0, x1, x2, x3] [.long s0, .long s1, s2, s3, s4] h = E d 232 87 [x0, x1, x2, x3] [.long (s1 ||| s0), s2, s3, s4] h := E_nx rfl
theorem s232_87 (d : Nat) (h : AH) (x0 x1 x2 x3 : Option Value) (s0 : Int64) (s1 : Int32) (s2 : Int32) (s3 : Nat) : E (d + 1) 232 87 [x0, x1, x2, x3] [.long s0, .int s1, .int s2, .ref s3] h = if hS h s3 = some (104, 0) then (E d 82 0 [some (.ref s3), some (.int s2), some (.int s1), some (.long s0), none, none] [] h).bind fun r => E (d + 1) 232 88 [x0, x1, x2, x3] (r.1.toList ++ []) r.2 else none := E_callg rfl
theorem s232_88 (d : Nat) (h : AH) (x0 x1 x3 : Option Value) (s0 : Value) (v : Nat) : E d 232 88 [x0, x1, some (.ref v), x3] [s0] h = E d 232 89 [x0, x1, some (.ref v), x3] [.ref v, s0] h := E_nx rfl
theorem s232_89 (d : Nat) (h : AH) (x1 x2 x3 : Option Value) (s0 : Value) (s1 : Value) (v : Nat) : E d 232 89 [some (.ref v), x1, x2, x3] [s0, s1] h = E d 232 90 [some (.ref v), x1, x2, x3] [.ref v, s0, s1] h := E_nx rfl
theorem s232_90 (d : Nat) (h : AH) (x0 x1 x2 : Option Value) (s0 : Value) (s1 : Value) (s2 : Value) (v : Int32) : E d 232 90 [x0, x1, x2, some (.int v)] [s0, s1, s2] h = E d 232 91 [x0, x1, x2, some (.int v)] [.int v, s0, s1, s2] h := E_nx rfl
theorem s232_91 (d : Nat) (h : AH) (x0 x1 x2 x3 : Option Value) (s0 : Value) (s1 : Value) (s2 : Value) (s3 : Value) : E d 232 91 [x0, x1, x2, x3] [s0, s1, s2, s3] h = E d 232 92 [x0, x1, x2, x3] [.int 1, s0, s1, s2, s3] h := E_nx rfl
theorem s232_92 (d : Nat) (h : AH) (x0 x1 x2 x3 : Option Value) (s0 : Int32) (s1 : Int32) (s2 : Value) (s3 : Value) (s4 : Value) : E d 232 92 [x0, x1, x2, x3] [.int s0, .int s1, s2, s3, s4] h = E d 232 93 [x0, x1, x2, x3] [.int (s1 + s0), s2, s3, s4] h := E_nx rfl
theorem s232_93 (d : Nat) (h : AH) (x0 x1 x2 x3 : Option Value) (s0 : Int32) (s1 : Nat) (s2 : Value) (s3 : Value) : E d 232 93 [x0, x1, x2, x3] [.int s0, .ref s1, s2, s3] h = if inb s0 (alen h s1 0) = true ∨ inb s0 (alen h s1 8) = true then E d 232 94 [x0, x1, x2, x3] [.int (hI h s1 s0.toNatClampNeg), s2, s3] h else none := E_gd rfl
theorem s232_94 (d : Nat) (h : AH) (x1 x2 x3 : Option Value) (s0 : Value) (s1 : Value) (s2 : Value) (v : Nat) : E d 232 94 [some (.ref v), x1, x2, x3] [s0, s1, s2] h = E d 232 95 [some (.ref v), x1, x2, x3] [.ref v, s0, s1, s2] h := E_nx rfl
theorem s232_95 (d : Nat) (h : AH) (x0 x1 x2 : Option Value) (s0 : Value) (s1 : Value) (s2 : Value) (s3 : Value) (v : Int32) : E d 232 95 [x0, x1, x2, some (.int v)] [s0, s1, s2, s3] h = E d 232 96 [x0, x1, x2, some (.int v)] [.int v, s0, s1, s2, s3] h := E_nx rfl
theorem s232_96 (d : Nat) (h : AH) (x0 x1 x2 x3 : Option Value) (s0 : Value) (s1 : Value) (s2 : Value) (s3 : Value) (s4 : Value) : E d 232 96 [x0, x1, x2, x3] [s0, s1, s2, s3, s4] h = E d 232 97 [x0, x1, x2, x3] [.int 2, s0, s1, s2, s3, s4] h := E_nx rfl
theorem s232_97 (d : Nat) (h : AH) (x0 x1 x2 x3 : Option Value) (s0 : Int32) (s1 : Int32) (s2 : Value) (s3 : Value) (s4 : Value) (s5 : Value) : E d 232 97 [x0, x1, x2, x3] [.int s0, .int s1, s2, s3, s4, s5] h = E d 232 98 [x0, x1, x2, x3] [.int (s1 + s0), s2, s3, s4, s5] h := E_nx rfl
theorem s232_98 (d : Nat) (h : AH) (x0 x1 x2 x3 : Option Value) (s0 : Int32) (s1 : Nat) (s2 : Value) (s3 : Value) (s4 : Value) : E d 232 98 [x0, x1, x2, x3] [.int s0, .ref s1, s2, s3, s4] h = if inb s0 (alen h s1 0) = true ∨ inb s0 (alen h s1 8) = true then E d 232 99 [x0, x1, x2, x3] [.int (hI h s1 s0.toNatClampNeg), s2, s3, s4] h else none := E_gd rfl
theorem s232_99 (d : Nat) (h : AH) (x1 x2 x3 : Option Value) (s0 : Value) (s1 : Value) (s2 : Value) (s3 : Value) (v : Nat) : E d 232 99 [some (.ref v), x1, x2, x3] [s0, s1, s2, s3] h = E d 232 100 [some (.ref v), x1, x2, x3] [.ref v, s0, s1, s2, s3] h := E_nx rfl
theorem s232_100 (d : Nat) (h : AH) (x0 x1 x2 : Option Value) (s0 : Value) (s1 : Value) (s2 : Value) (s3 : Value) (s4 : Value) (v : Int32) : E d 232 100 [x0, x1, x2, some (.int v)] [s0, s1, s2, s3, s4] h = E d 232 101 [x0, x1, x2, some (.int v)] [.int v, s0, s1, s2, s3, s4] h := E_nx rfl
theorem s232_101 (d : Nat) (h : AH) (x0 x1 x2 x3 : Option Value) (s0 : Value) (s1 : Value) (s2 : Value) (s3 : Value) (s4 : Value) (s5 : Value) : E d 232 101 [x0, x1, x2, x3] [s0, s1, s2, s3, s4, s5] h = E d 232 102 [x0, x1, x2, x3] [.int 3, s0, s1, s2, s3, s4, s5] h := E_nx rfl
theorem s232_102 (d : Nat) (h : AH) (x0 x1 x2 x3 : Option Value) (s0 : Int32) (s1 : Int32) (s2 : Value) (s3 : Value) (s4 : Value) (s5 : Value) (s6 : Value) : E d 232 102 [x0, x1, x2, x3] [.int s0, .int s1, s2, s3, s4, s5, s6] h = E d 232 103 [x0, x1, x2, x3] [.int (s1 + s0), s2, s3, s4, s5, s6] h := E_nx rfl
theorem s232_103 (d : Nat) (h : AH) (x0 x1 x2 x3 : Option Value) (s0 : Int32) (s1 : Nat) (s2 : Value) (s3 : Value) (s4 : Value) (s5 : Value) : E d 232 103 [x0, x1, x2, x3] [.int s0, .ref s1, s2, s3, s4, s5] h = if inb s0 (alen h s1 0) = true ∨ inb s0 (alen h s1 8) = true then E d 232 104 [x0, x1, x2, x3] [.int (hI h s1 s0.toNatClampNeg), s2, s3, s4, s5] h else none := E_gd rfl
theorem s232_104 (d : Nat) (h : AH) (x0 x1 x2 x3 : Option Value) (s0 : Int32) (s1 : Value) (s2 : Value) (s3 : Value) (s4 : Value) : E d 232 104 [x0, x1, x2, x3] [.int s0, s1, s2, s3, s4] h = E d 232 105 [x0, x1, x2, x3] [.long s0.toInt64, s1, s2, s3, s4] h := E_nx rfl
theorem s232_105 (d : Nat) (h : AH) (x0 x1 x2 x3 : Option Value) (s0 : Value) (s1 : Value) (s2 : Value) (s3 : Value) (s4 : Value) : E d 232 105 [x0, x1, x2, x3] [s0, s1, s2, s3, s4] h = E d 232 106 [x0, x1, x2, x3] [.int 32, s0, s1, s2, s3, s4] h := E_nx rfl
theorem s232_106 (d : Nat) (h : AH) (x0 x1 x2 x3 : Option Value) (s0 : Int32) (s1 : Int64) (s2 : Value) (s3 : Value) (s4 : Value) (s5 : Value) : E d 232 106 [x0, x1, x2, x3] [.int s0, .long s1, s2, s3, s4, s5] h = E d 232 107 [x0, x1, x2, x3] [.long (s1 <<< (s0.toInt64 &&& 63)), s2, s3, s4, s5] h := E_nx rfl
theorem s232_107 (d : Nat) (h : AH) (x1 x2 x3 : Option Value) (s0 : Value) (s1 : Value) (s2 : Value) (s3 : Value) (s4 : Value) (v : Nat) : E d 232 107 [some (.ref v), x1, x2, x3] [s0, s1, s2, s3, s4] h = E d 232 108 [some (.ref v), x1, x2, x3] [.ref v, s0, s1, s2, s3, s4] h := E_nx rfl
theorem s232_108 (d : Nat) (h : AH) (x0 x1 x2 : Option Value) (s0 : Value) (s1 : Value) (s2 : Value) (s3 : Value) (s4 : Value) (s5 : Value) (v : Int32) : E d 232 108 [x0, x1, x2, some (.int v)] [s0, s1, s2, s3, s4, s5] h = E d 232 109 [x0, x1, x2, some (.int v)] [.int v, s0, s1, s2, s3, s4, s5] h := E_nx rfl
theorem s232_109 (d : Nat) (h : AH) (x0 x1 x2 x3 : Option Value) (s0 : Value) (s1 : Value) (s2 : Value) (s3 : Value) (s4 : Value) (s5 : Value) (s6 : Value) : E d 232 109 [x0, x1, x2, x3] [s0, s1, s2, s3, s4, s5, s6] h = E d 232 110 [x0, x1, x2, x3] [.int 4, s0, s1, s2, s3, s4, s5, s6] h := E_nx rfl
theorem s232_110 (d : Nat) (h : AH) (x0 x1 x2 x3 : Option Value) (s0 : Int32) (s1 : Int32) (s2 : Value) (s3 : Value) (s4 : Value) (s5 : Value) (s6 : Value) (s7 : Value) : E d 232 110 [x0, x1, x2, x3] [.int s0, .int s1, s2, s3, s4, s5, s6, s7] h = E d 232 111 [x0, x1, x2, x3] [.int (s1 + s0), s2, s3, s4, s5, s6, s7] h := E_nx rfl
theorem s232_111 (d : Nat) (h : AH) (x0 x1 x2 x3 : Option Value) (s0 : Int32) (s1 : Nat) (s2 : Value) (s3 : Value) (s4 : Value) (s5 : Value) (s6 : Value) : E d 232 111 [x0, x1, x2, x3] [.int s0, .ref s1, s2, s3, s4, s5, s6] h = if inb s0 (alen h s1 0) = true ∨ inb s0 (alen h s1 8) = true then E d 232 112 [x0, x1, x2, x3] [.int (hI h s1 s0.toNatClampNeg), s2, s3, s4, s5, s6] h else none := E_gd rfl
theorem s232_112 (d : Nat) (h : AH) (x0 x1 x2 x3 : Option Value) (s0 : Int32) (s1 : Value) (s2 : Value) (s3 : Value) (s4 : Value) (s5 : Value) : E d 232 112 [x0, x1, x2, x3] [.int s0, s1, s2, s3, s4, s5] h = E d 232 113 [x0, x1, x2, x3] [.long s0.toInt64, s1, s2, s3, s4, s5] h := E_nx rfl
theorem s232_113 (d : Nat) (h : AH) (x0 x1 x2 x3 : Option Value) (s0 : Value) (s1 : Value) (s2 : Value) (s3 : Value) (s4 : Value) (s5 : Value) : E d 232 113 [x0, x1, x2, x3] [s0, s1, s2, s3, s4, s5] h = E d 232 114 [x0, x1, x2, x3] [.long 4294967295, s0, s1, s2, s3, s4, s5] h := E_nx rfl
theorem s232_114 (d : Nat) (h : AH) (x0 x1 x2 x3 : Option Value) (s0 : Int64) (s1 : Int64) (s2 : Value) (s3 : Value) (s4 : Value) (s5 : Value) (s6 : Value) : E d 232 114 [x0, x1, x2, x3] [.long s0, .long s1, s2, s3, s4, s5, s6] h = E d 232 115 [x0, x1, x2, x3] [.long (s1 &&& s0), s2, s3, s4, s5, s6] h := E_nx rfl
theorem s232_115 (d : Nat) (h : AH) (x0 x1 x2 x3 : Option Value) (s0 : Int64) (s1 : Int64) (s2 : Value) (s3 : Value) (s4 : Value) (s5 : Value) : E d 232 115 [x0, x1, x2, x3] [.long s0, .long s1, s2, s3, s4, s5] h = E d 232 116 [x0, x1, x2, x3] [.long (s1 ||| s0), s2, s3, s4, s5] h := E_nx rfl
theorem s232_116 (d : Nat) (h : AH) (x0 x1 x2 x3 : Option Value) (s0 : Int64) (s1 : Int32) (s2 : Int32) (s3 : Nat) (s4 : Value) : E (d + 1) 232 116 [x0, x1, x2, x3] [.long s0, .int s1, .int s2, .ref s3, s4] h = if hS h s3 = some (105, 0) then (E d 145 0 [some (.ref s3), some (.int s2), some (.int s1), some (.long s0), none, none] [] h).bind fun r => E (d + 1) 232 117 [x0, x1, x2, x3] (r.1.toList ++ [s4]) r.2 else none := E_callg rfl
theorem s232_117 (d : Nat) (h : AH) (x0 x1 x2 x3 : Option Value) (s0 : Int32) (s1 : Int32) : E d 232 117 [x0, x1, x2, x3] [.int s0, .int s1] h = if s1 = s0 then E d 232 1068 [x0, x1, x2, x3] [] h else E d 232 118 [x0, x1, x2, x3] [] h := E_ifc rfl
theorem s232_118 (d : Nat) (h : AH) (x0 x1 x2 x3 : Option Value)  : E d 232 118 [x0, x1, x2, x3] [] h = E d 232 119 [x0, x1, x2, x3] [.int 0] h := E_nx rfl
theorem s232_119 (d : Nat) (h : AH) (x0 x1 x2 x3 : Option Value) (s0 : Int32) : E d 232 119 [x0, x1, x2, x3] [.int s0] h = if s0 = 0 ∨ s0 = 1 then some (some (.int s0), h) else none := E_retg rfl
theorem s232_120 (d : Nat) (h : AH) (x0 x2 x3 : Option Value) (v : Nat) : E d 232 120 [x0, some (.ref v), x2, x3] [] h = E d 232 121 [x0, some (.ref v), x2, x3] [.ref v] h := E_nx rfl
theorem s232_121 (d : Nat) (h : AH) (x1 x2 x3 : Option Value) (s0 : Value) (v : Nat) : E d 232 121 [some (.ref v), x1, x2, x3] [s0] h = E d 232 122 [some (.ref v), x1, x2, x3] [.ref v, s0] h := E_nx rfl
theorem s232_122 (d : Nat) (h : AH) (x0 x1 x2 : Option Value) (s0 : Value) (s1 : Value) (v : Int32) : E d 232 122 [x0, x1, x2, some (.int v)] [s0, s1] h = E d 232 123 [x0, x1, x2, some (.int v)] [.int v, s0, s1] h := E_nx rfl
theorem s232_123 (d : Nat) (h : AH) (x0 x1 x2 x3 : Option Value) (s0 : Value) (s1 : Value) (s2 : Value) : E d 232 123 [x0, x1, x2, x3] [s0, s1, s2] h = E d 232 124 [x0, x1, x2, x3] [.int 1, s0, s1, s2] h := E_nx rfl
theorem s232_124 (d : Nat) (h : AH) (x0 x1 x2 x3 : Option Value) (s0 : Int32) (s1 : Int32) (s2 : Value) (s3 : Value) : E d 232 124 [x0, x1, x2, x3] [.int s0, .int s1, s2, s3] h = E d 232 125 [x0, x1, x2, x3] [.int (s1 + s0), s2, s3] h := E_nx rfl
theorem s232_125 (d : Nat) (h : AH) (x0 x1 x2 x3 : Option Value) (s0 : Int32) (s1 : Nat) (s2 : Value) : E d 232 125 [x0, x1, x2, x3] [.int s0, .ref s1, s2] h = if inb s0 (alen h s1 0) = true ∨ inb s0 (alen h s1 8) = true then E d 232 126 [x0, x1, x2, x3] [.int (hI h s1 s0.toNatClampNeg), s2] h else none := E_gd rfl
theorem s232_126 (d : Nat) (h : AH) (x1 x2 x3 : Option Value) (s0 : Value) (s1 : Value) (v : Nat) : E d 232 126 [some (.ref v), x1, x2, x3] [s0, s1] h = E d 232 127 [some (.ref v), x1, x2, x3] [.ref v, s0, s1] h := E_nx rfl
theorem s232_127 (d : Nat) (h : AH) (x0 x1 x2 : Option Value) (s0 : Value) (s1 : Value) (s2 : Value) (v : Int32) : E d 232 127 [x0, x1, x2, some (.int v)] [s0, s1, s2] h = E d 232 128 [x0, x1, x2, some (.int v)] [.int v, s0, s1, s2] h := E_nx rfl
theorem s232_128 (d : Nat) (h : AH) (x0 x1 x2 x3 : Option Value) (s0 : Value) (s1 : Value) (s2 : Value) (s3 : Value) : E d 232 128 [x0, x1, x2, x3] [s0, s1, s2, s3] h = E d 232 129 [x0, x1, x2, x3] [.int 2, s0, s1, s2, s3] h := E_nx rfl
theorem s232_129 (d : Nat) (h : AH) (x0 x1 x2 x3 : Option Value) (s0 : Int32) (s1 : Int32) (s2 : Value) (s3 : Value) (s4 : Value) : E d 232 129 [x0, x1, x2, x3] [.int s0, .int s1, s2, s3, s4] h = E d 232 130 [x0, x1, x2, x3] [.int (s1 + s0), s2, s3, s4] h := E_nx rfl
theorem s232_130 (d : Nat) (h : AH) (x0 x1 x2 x3 : Option Value) (s0 : Int32) (s1 : Nat) (s2 : Value) (s3 : Value) : E d 232 130 [x0, x1, x2, x3] [.int s0, .ref s1, s2, s3] h = if inb s0 (alen h s1 0) = true ∨ inb s0 (alen h s1 8) = true then E d 232 131 [x0, x1, x2, x3] [.int (hI h s1 s0.toNatClampNeg), s2, s3] h else none := E_gd rfl
theorem s232_131 (d : Nat) (h : AH) (x1 x2 x3 : Option Value) (s0 : Value) (s1 : Value) (s2 : Value) (v : Nat) : E d 232 131 [some (.ref v), x1, x2, x3] [s0, s1, s2] h = E d 232 132 [some (.ref v), x1, x2, x3] [.ref v, s0, s1, s2] h := E_nx rfl
theorem s232_132 (d : Nat) (h : AH) (x0 x1 x2 : Option Value) (s0 : Value) (s1 : Value) (s2 : Value) (s3 : Value) (v : Int32) : E d 232 132 [x0, x1, x2, some (.int v)] [s0, s1, s2, s3] h = E d 232 133 [x0, x1, x2, some (.int v)] [.int v, s0, s1, s2, s3] h := E_nx rfl
theorem s232_133 (d : Nat) (h : AH) (x0 x1 x2 x3 : Option Value) (s0 : Value) (s1 : Value) (s2 : Value) (s3 : Value) (s4 : Value) : E d 232 133 [x0, x1, x2, x3] [s0, s1, s2, s3, s4] h = E d 232 134 [x0, x1, x2, x3] [.int 3, s0, s1, s2, s3, s4] h := E_nx rfl
theorem s232_134 (d : Nat) (h : AH) (x0 x1 x2 x3 : Option Value) (s0 : Int32) (s1 : Int32) (s2 : Value) (s3 : Value) (s4 : Value) (s5 : Value) : E d 232 134 [x0, x1, x2, x3] [.int s0, .int s1, s2, s3, s4, s5] h = E d 232 135 [x0, x1, x2, x3] [.int (s1 + s0), s2, s3, s4, s5] h := E_nx rfl
theorem s232_135 (d : Nat) (h : AH) (x0 x1 x2 x3 : Option Value) (s0 : Int32) (s1 : Nat) (s2 : Value) (s3 : Value) (s4 : Value) : E d 232 135 [x0, x1, x2, x3] [.int s0, .ref s1, s2, s3, s4] h = if inb s0 (alen h s1 0) = true ∨ inb s0 (alen h s1 8) = true then E d 232 136 [x0, x1, x2, x3] [.int (hI h s1 s0.toNatClampNeg), s2, s3, s4] h else none := E_gd rfl
theorem s232_136 (d : Nat) (h : AH) (x1 x2 x3 : Option Value) (s0 : Value) (s1 : Value) (s2 : Value) (s3 : Value) (v : Nat) : E d 232 136 [some (.ref v), x1, x2, x3] [s0, s1, s2, s3] h = E d 232 137 [some (.ref v), x1, x2, x3] [.ref v, s0, s1, s2, s3] h := E_nx rfl
theorem s232_137 (d : Nat) (h : AH) (x0 x1 x2 : Option Value) (s0 : Value) (s1 : Value) (s2 : Value) (s3 : Value) (s4 : Value) (v : Int32) : E d 232 137 [x0, x1, x2, some (.int v)] [s0, s1, s2, s3, s4] h = E d 232 138 [x0, x1, x2, some (.int v)] [.int v, s0, s1, s2, s3, s4] h := E_nx rfl
theorem s232_138 (d : Nat) (h : AH) (x0 x1 x2 x3 : Option Value) (s0 : Value) (s1 : Value) (s2 : Value) (s3 : Value) (s4 : Value) (s5 : Value) : E d 232 138 [x0, x1, x2, x3] [s0, s1, s2, s3, s4, s5] h = E d 232 139 [x0, x1, x2, x3] [.int 4, s0, s1, s2, s3, s4, s5] h := E_nx rfl
theorem s232_139 (d : Nat) (h : AH) (x0 x1 x2 x3 : Option Value) (s0 : Int32) (s1 : Int32) (s2 : Value) (s3 : Value) (s4 : Value) (s5 : Value) (s6 : Value) : E d 232 139 [x0, x1, x2, x3] [.int s0, .int s1, s2, s3, s4, s5, s6] h = E d 232 140 [x0, x1, x2, x3] [.int (s1 + s0), s2, s3, s4, s5, s6] h := E_nx rfl
theorem s232_140 (d : Nat) (h : AH) (x0 x1 x2 x3 : Option Value) (s0 : Int32) (s1 : Nat) (s2 : Value) (s3 : Value) (s4 : Value) (s5 : Value) : E d 232 140 [x0, x1, x2, x3] [.int s0, .ref s1, s2, s3, s4, s5] h = if inb s0 (alen h s1 0) = true ∨ inb s0 (alen h s1 8) = true then E d 232 141 [x0, x1, x2, x3] [.int (hI h s1 s0.toNatClampNeg), s2, s3, s4, s5] h else none := E_gd rfl
theorem s232_141 (d : Nat) (h : AH) (x1 x2 x3 : Option Value) (s0 : Value) (s1 : Value) (s2 : Value) (s3 : Value) (s4 : Value) (v : Nat) : E d 232 141 [some (.ref v), x1, x2, x3] [s0, s1, s2, s3, s4] h = E d 232 142 [some (.ref v), x1, x2, x3] [.ref v, s0, s1, s2, s3, s4] h := E_nx rfl
theorem s232_142 (d : Nat) (h : AH) (x0 x1 x2 : Option Value) (s0 : Value) (s1 : Value) (s2 : Value) (s3 : Value) (s4 : Value) (s5 : Value) (v : Int32) : E d 232 142 [x0, x1, x2, some (.int v)] [s0, s1, s2, s3, s4, s5] h = E d 232 143 [x0, x1, x2, some (.int v)] [.int v, s0, s1, s2, s3, s4, s5] h := E_nx rfl
theorem s232_143 (d : Nat) (h : AH) (x0 x1 x2 x3 : Option Value) (s0 : Value) (s1 : Value) (s2 : Value) (s3 : Value) (s4 : Value) (s5 : Value) (s6 : Value) : E d 232 143 [x0, x1, x2, x3] [s0, s1, s2, s3, s4, s5, s6] h = E d 232 144 [x0, x1, x2, x3] [.int 5, s0, s1, s2, s3, s4, s5, s6] h := E_nx rfl
theorem s232_144 (d : Nat) (h : AH) (x0 x1 x2 x3 : Option Value) (s0 : Int32) (s1 : Int32) (s2 : Value) (s3 : Value) (s4 : Value) (s5 : Value) (s6 : Value) (s7 : Value) : E d 232 144 [x0, x1, x2, x3] [.int s0, .int s1, s2, s3, s4, s5, s6, s7] h = E d 232 145 [x0, x1, x2, x3] [.int (s1 + s0), s2, s3, s4, s5, s6, s7] h := E_nx rfl
theorem s232_145 (d : Nat) (h : AH) (x0 x1 x2 x3 : Option Value) (s0 : Int32) (s1 : Nat) (s2 : Value) (s3 : Value) (s4 : Value) (s5 : Value) (s6 : Value) : E d 232 145 [x0, x1, x2, x3] [.int s0, .ref s1, s2, s3, s4, s5, s6] h = if inb s0 (alen h s1 0) = true ∨ inb s0 (alen h s1 8) = true then E d 232 146 [x0, x1, x2, x3] [.int (hI h s1 s0.toNatClampNeg), s2, s3, s4, s5, s6] h else none := E_gd rfl
theorem s232_146 (d : Nat) (h : AH) (x0 x1 x2 x3 : Option Value) (s0 : Int32) (s1 : Int32) (s2 : Int32) (s3 : Int32) (s4 : Int32) (s5 : Nat) : E (d + 1) 232 146 [x0, x1, x2, x3] [.int s0, .int s1, .int s2, .int s3, .int s4, .ref s5] h = if hS h s5 = some (104, 0) then (E d 83 0 [some (.ref s5), some (.int s4), some (.int s3), some (.int s2), some (.int s1), some (.int s0), none, none] [] h).bind fun r => E (d + 1) 232 147 [x0, x1, x2, x3] (r.1.toList ++ []) r.2 else none := E_callg rfl
theorem s232_147 (d : Nat) (h : AH) (x0 x1 x3 : Option Value) (s0 : Value) (v : Nat) : E d 232 147 [x0, x1, some (.ref v), x3] [s0] h = E d 232 148 [x0, x1, some (.ref v), x3] [.ref v, s0] h := E_nx rfl
theorem s232_148 (d : Nat) (h : AH) (x1 x2 x3 : Option Value) (s0 : Value) (s1 : Value) (v : Nat) : E d 232 148 [some (.ref v), x1, x2, x3] [s0, s1] h = E d 232 149 [some (.ref v), x1, x2, x3] [.ref v, s0, s1] h := E_nx rfl
theorem s232_149 (d : Nat) (h : AH) (x0 x1 x2 : Option Value) (s0 : Value) (s1 : Value) (s2 : Value) (v : Int32) : E d 232 149 [x0, x1, x2, some (.int v)] [s0, s1, s2] h = E d 232 150 [x0, x1, x2, some (.int v)] [.int v, s0, s1, s2] h := E_nx rfl
theorem s232_150 (d : Nat) (h : AH) (x0 x1 x2 x3 : Option Value) (s0 : Value) (s1 : Value) (s2 : Value) (s3 : Value) : E d 232 150 [x0, x1, x2, x3] [s0, s1, s2, s3] h = E d 232 151 [x0, x1, x2, x3] [.int 1, s0, s1, s2, s3] h := E_nx rfl
theorem s232_151 (d : Nat) (h : AH) (x0 x1 x2 x3 : Option Value) (s0 : Int32) (s1 : Int32) (s2 : Value) (s3 : Value) (s4 : Value) : E d 232 151 [x0, x1, x2, x3] [.int s0, .int s1, s2, s3, s4] h = E d 232 152 [x0, x1, x2, x3] [.int (s1 + s0), s2, s3, s4] h := E_nx rfl
theorem s232_152 (d : Nat) (h : AH) (x0 x1 x2 x3 : Option Value) (s0 : Int32) (s1 : Nat) (s2 : Value) (s3 : Value) : E d 232 152 [x0, x1, x2, x3] [.int s0, .ref s1, s2, s3] h = if inb s0 (alen h s1 0) = true ∨ inb s0 (alen h s1 8) = true then E d 232 153 [x0, x1, x2, x3] [.int (hI h s1 s0.toNatClampNeg), s2, s3] h else none := E_gd rfl
theorem s232_153 (d : Nat) (h : AH) (x1 x2 x3 : Option Value) (s0 : Value) (s1 : Value) (s2 : Value) (v : Nat) : E d 232 153 [some (.ref v), x1, x2, x3] [s0, s1, s2] h = E d 232 154 [some (.ref v), x1, x2, x3] [.ref v, s0, s1, s2] h := E_nx rfl
theorem s232_154 (d : Nat) (h : AH) (x0 x1 x2 : Option Value) (s0 : Value) (s1 : Value) (s2 : Value) (s3 : Value) (v : Int32) : E d 232 154 [x0, x1, x2, some (.int v)] [s0, s1, s2, s3] h = E d 232 155 [x0, x1, x2, some (.int v)] [.int v, s0, s1, s2, s3] h := E_nx rfl
theorem s232_155 (d : Nat) (h : AH) (x0 x1 x2 x3 : Option Value) (s0 : Value) (s1 : Value) (s2 : Value) (s3 : Value) (s4 : Value) : E d 232 155 [x0, x1, x2, x3] [s0, s1, s2, s3, s4] h = E d 232 156 [x0, x1, x2, x3] [.int 2, s0, s1, s2, s3, s4] h := E_nx rfl
theorem s232_156 (d : Nat) (h : AH) (x0 x1 x2 x3 : Option Value) (s0 : Int32) (s1 : Int32) (s2 : Value) (s3 : Value) (s4 : Value) (s5 : Value) : E d 232 156 [x0, x1, x2, x3] [.int s0, .int s1, s2, s3, s4, s5] h = E d 232 157 [x0, x1, x2, x3] [.int (s1 + s0), s2, s3, s4, s5] h := E_nx rfl
theorem s232_157 (d : Nat) (h : AH) (x0 x1 x2 x3 : Option Value) (s0 : Int32) (s1 : Nat) (s2 : Value) (s3 : Value) (s4 : Value) : E d 232 157 [x0, x1, x2, x3] [.int s0, .ref s1, s2, s3, s4] h = if inb s0 (alen h s1 0) = true ∨ inb s0 (alen h s1 8) = true then E d 232 158 [x0, x1, x2, x3] [.int (hI h s1 s0.toNatClampNeg), s2, s3, s4] h else none := E_gd rfl
theorem s232_158 (d : Nat) (h : AH) (x1 x2 x3 : Option Value) (s0 : Value) (s1 : Value) (s2 : Value) (s3 : Value) (v : Nat) : E d 232 158 [some (.ref v), x1, x2, x3] [s0, s1, s2, s3] h = E d 232 159 [some (.ref v), x1, x2, x3] [.ref v, s0, s1, s2, s3] h := E_nx rfl
theorem s232_159 (d : Nat) (h : AH) (x0 x1 x2 : Option Value) (s0 : Value) (s1 : Value) (s2 : Value) (s3 : Value) (s4 : Value) (v : Int32) : E d 232 159 [x0, x1, x2, some (.int v)] [s0, s1, s2, s3, s4] h = E d 232 160 [x0, x1, x2, some (.int v)] [.int v, s0, s1, s2, s3, s4] h := E_nx rfl
theorem s232_160 (d : Nat) (h : AH) (x0 x1 x2 x3 : Option Value) (s0 : Value) (s1 : Value) (s2 : Value) (s3 : Value) (s4 : Value) (s5 : Value) : E d 232 160 [x0, x1, x2, x3] [s0, s1, s2, s3, s4, s5] h = E d 232 161 [x0, x1, x2, x3] [.int 3, s0, s1, s2, s3, s4, s5] h := E_nx rfl
theorem s232_161 (d : Nat) (h : AH) (x0 x1 x2 x3 : Option Value) (s0 : Int32) (s1 : Int32) (s2 : Value) (s3 : Value) (s4 : Value) (s5 : Value) (s6 : Value) : E d 232 161 [x0, x1, x2, x3] [.int s0, .int s1, s2, s3, s4, s5, s6] h = E d 232 162 [x0, x1, x2, x3] [.int (s1 + s0), s2, s3, s4, s5, s6] h := E_nx rfl
theorem s232_162 (d : Nat) (h : AH) (x0 x1 x2 x3 : Option Value) (s0 : Int32) (s1 : Nat) (s2 : Value) (s3 : Value) (s4 : Value) (s5 : Value) : E d 232 162 [x0, x1, x2, x3] [.int s0, .ref s1, s2, s3, s4, s5] h = if inb s0 (alen h s1 0) = true ∨ inb s0 (alen h s1 8) = true then E d 232 163 [x0, x1, x2, x3] [.int (hI h s1 s0.toNatClampNeg), s2, s3, s4, s5] h else none := E_gd rfl
theorem s232_163 (d : Nat) (h : AH) (x1 x2 x3 : Option Value) (s0 : Value) (s1 : Value) (s2 : Value) (s3 : Value) (s4 : Value) (v : Nat) : E d 232 163 [some (.ref v), x1, x2, x3] [s0, s1, s2, s3, s4] h = E d 232 164 [some (.ref v), x1, x2, x3] [.ref v, s0, s1, s2, s3, s4] h := E_nx rfl
theorem s232_164 (d : Nat) (h : AH) (x0 x1 x2 : Option Value) (s0 : Value) (s1 : Value) (s2 : Value) (s3 : Value) (s4 : Value) (s5 : Value) (v : Int32) : E d 232 164 [x0, x1, x2, some (.int v)] [s0, s1, s2, s3, s4, s5] h = E d 232 165 [x0, x1, x2, some (.int v)] [.int v, s0, s1, s2, s3, s4, s5] h := E_nx rfl
theorem s232_165 (d : Nat) (h : AH) (x0 x1 x2 x3 : Option Value) (s0 : Value) (s1 : Value) (s2 : Value) (s3 : Value) (s4 : Value) (s5 : Value) (s6 : Value) : E d 232 165 [x0, x1, x2, x3] [s0, s1, s2, s3, s4, s5, s6] h = E d 232 166 [x0, x1, x2, x3] [.int 4, s0, s1, s2, s3, s4, s5, s6] h := E_nx rfl
theorem s232_166 (d : Nat) (h : AH) (x0 x1 x2 x3 : Option Value) (s0 : Int32) (s1 : Int32) (s2 : Value) (s3 : Value) (s4 : Value) (s5 : Value) (s6 : Value) (s7 : Value) : E d 232 166 [x0, x1, x2, x3] [.int s0, .int s1, s2, s3, s4, s5, s6, s7] h = E d 232 167 [x0, x1, x2, x3] [.int (s1 + s0), s2, s3, s4, s5, s6, s7] h := E_nx rfl
theorem s232_167 (d : Nat) (h : AH) (x0 x1 x2 x3 : Option Value) (s0 : Int32) (s1 : Nat) (s2 : Value) (s3 : Value) (s4 : Value) (s5 : Value) (s6 : Value) : E d 232 167 [x0, x1, x2, x3] [.int s0, .ref s1, s2, s3, s4, s5, s6] h = if inb s0 (alen h s1 0) = true ∨ inb s0 (alen h s1 8) = true then E d 232 168 [x0, x1, x2, x3] [.int (hI h s1 s0.toNatClampNeg), s2, s3, s4, s5, s6] h else none := E_gd rfl
theorem s232_168 (d : Nat) (h : AH) (x1 x2 x3 : Option Value) (s0 : Value) (s1 : Value) (s2 : Value) (s3 : Value) (s4 : Value) (s5 : Value) (v : Nat) : E d 232 168 [some (.ref v), x1, x2, x3] [s0, s1, s2, s3, s4, s5] h = E d 232 169 [some (.ref v), x1, x2, x3] [.ref v, s0, s1, s2, s3, s4, s5] h := E_nx rfl
theorem s232_169 (d : Nat) (h : AH) (x0 x1 x2 : Option Value) (s0 : Value) (s1 : Value) (s2 : Value) (s3 : Value) (s4 : Value) (s5 : Value) (s6 : Value) (v : Int32) : E d 232 169 [x0, x1, x2, some (.int v)] [s0, s1, s2, s3, s4, s5, s6] h = E d 232 170 [x0, x1, x2, some (.int v)] [.int v, s0, s1, s2, s3, s4, s5, s6] h := E_nx rfl
theorem s232_170 (d : Nat) (h : AH) (x0 x1 x2 x3 : Option Value) (s0 : Value) (s1 : Value) (s2 : Value) (s3 : Value) (s4 : Value) (s5 : Value) (s6 : Value) (s7 : Value) : E d 232 170 [x0, x1, x2, x3] [s0, s1, s2, s3, s4, s5, s6, s7] h = E d 232 171 [x0, x1, x2, x3] [.int 5, s0, s1, s2, s3, s4, s5, s6, s7] h := E_nx rfl
theorem s232_171 (d : Nat) (h : AH) (x0 x1 x2 x3 : Option Value) (s0 : Int32) (s1 : Int32) (s2 : Value) (s3 : Value) (s4 : Value) (s5 : Value) (s6 : Value) (s7 : Value) (s8 : Value) : E d 232 171 [x0, x1, x2, x3] [.int s0, .int s1, s2, s3, s4, s5, s6, s7, s8] h = E d 232 172 [x0, x1, x2, x3] [.int (s1 + s0), s2, s3, s4, s5, s6, s7, s8] h := E_nx rfl
theorem s232_172 (d : Nat) (h : AH) (x0 x1 x2 x3 : Option Value) (s0 : Int32) (s1 : Nat) (s2 : Value) (s3 : Value) (s4 : Value) (s5 : Value) (s6 : Value) (s7 : Value) : E d 232 172 [x0, x1, x2, x3] [.int s0, .ref s1, s2, s3, s4, s5, s6, s7] h = if inb s0 (alen h s1 0) = true ∨ inb s0 (alen h s1 8) = true then E d 232 173 [x0, x1, x2, x3] [.int (hI h s1 s0.toNatClampNeg), s2, s3, s4, s5, s6, s7] h else none := E_gd rfl
theorem s232_173 (d : Nat) (h : AH) (x0 x1 x2 x3 : Option Value) (s0 : Int32) (s1 : Int32) (s2 : Int32) (s3 : Int32) (s4 : Int32) (s5 : Nat) (s6 : Value) : E (d + 1) 232 173 [x0, x1, x2, x3] [.int s0, .int s1, .int s2, .int s3, .int s4, .ref s5, s6] h = if hS h s5 = some (105, 0) then (E d 146 0 [some (.ref s5), some (.int s4), some (.int s3), some (.int s2), some (.int s1), some (.int s0), none] [] h).bind fun r => E (d + 1) 232 174 [x0, x1, x2, x3] (r.1.toList ++ [s6]) r.2 else none := E_callg rfl
theorem s232_174 (d : Nat) (h : AH) (x0 x1 x2 x3 : Option Value) (s0 : Int32) (s1 : Int32) : E d 232 174 [x0, x1, x2, x3] [.int s0, .int s1] h = if s1 = s0 then E d 232 1068 [x0, x1, x2, x3] [] h else E d 232 175 [x0, x1, x2, x3] [] h := E_ifc rfl
theorem s232_175 (d : Nat) (h : AH) (x0 x1 x2 x3 : Option Value)  : E d 232 175 [x0, x1, x2, x3] [] h = E d 232 176 [x0, x1, x2, x3] [.int 0] h := E_nx rfl
theorem s232_176 (d : Nat) (h : AH) (x0 x1 x2 x3 : Option Value) (s0 : Int32) : E d 232 176 [x0, x1, x2, x3] [.int s0] h = if s0 = 0 ∨ s0 = 1 then some (some (.int s0), h) else none := E_retg rfl
theorem s232_177 (d : Nat) (h : AH) (x0 x2 x3 : Option Value) (v : Nat) : E d 232 177 [x0, some (.ref v), x2, x3] [] h = E d 232 178 [x0, some (.ref v), x2, x3] [.ref v] h := E_nx rfl
theorem s232_178 (d : Nat) (h : AH) (x1 x2 x3 : Option Value) (s0 : Value) (v : Nat) : E d 232 178 [some (.ref v), x1, x2, x3] [s0] h = E d 232 179 [some (.ref v), x1, x2, x3] [.ref v, s0] h := E_nx rfl
theorem s232_179 (d : Nat) (h : AH) (x0 x1 x2 : Option Value) (s0 : Value) (s1 : Value) (v : Int32) : E d 232 179 [x0, x1, x2, some (.int v)] [s0, s1] h = E d 232 180 [x0, x1, x2, some (.int v)] [.int v, s0, s1] h := E_nx rfl
theorem s232_180 (d : Nat) (h : AH) (x0 x1 x2 x3 : Option Value) (s0 : Value) (s1 : Value) (s2 : Value) : E d 232 180 [x0, x1, x2, x3] [s0, s1, s2] h = E d 232 181 [x0, x1, x2, x3] [.int 1, s0, s1, s2] h := E_nx rfl
theorem s232_181 (d : Nat) (h : AH) (x0 x1 x2 x3 : Option Value) (s0 : Int32) (s1 : Int32) (s2 : Value) (s3 : Value) : E d 232 181 [x0, x1, x2, x3] [.int s0, .int s1, s2, s3] h = E d 232 182 [x0, x1, x2, x3] [.int (s1 + s0), s2, s3] h := E_nx rfl
theorem s232_182 (d : Nat) (h : AH) (x0 x1 x2 x3 : Option Value) (s0 : Int32) (s1 : Nat) (s2 : Value) : E d 232 182 [x0, x1, x2, x3] [.int s0, .ref s1, s2] h = if inb s0 (alen h s1 0) = true ∨ inb s0 (alen h s1 8) = true then E d 232 183 [x0, x1, x2, x3] [.int (hI h s1 s0.toNatClampNeg), s2] h else none := E_gd rfl
theorem s232_183 (d : Nat) (h : AH) (x1 x2 x3 : Option Value) (s0 : Value) (s1 : Value) (v : Nat) : E d 232 183 [some (.ref v), x1, x2, x3] [s0, s1] h = E d 232 184 [some (.ref v), x1, x2, x3] [.ref v, s0, s1] h := E_nx rfl
theorem s232_184 (d : Nat) (h : AH) (x0 x1 x2 : Option Value) (s0 : Value) (s1 : Value) (s2 : Value) (v : Int32) : E d 232 184 [x0, x1, x2, some (.int v)] [s0, s1, s2] h = E d 232 185 [x0, x1, x2, some (.int v)] [.int v, s0, s1, s2] h := E_nx rfl
theorem s232_185 (d : Nat) (h : AH) (x0 x1 x2 x3 : Option Value) (s0 : Value) (s1 : Value) (s2 : Value) (s3 : Value) : E d 232 185 [x0, x1, x2, x3] [s0, s1, s2, s3] h = E d 232 186 [x0, x1, x2, x3] [.int 2, s0, s1, s2, s3] h := E_nx rfl
theorem s232_186 (d : Nat) (h : AH) (x0 x1 x2 x3 : Option Value) (s0 : Int32) (s1 : Int32) (s2 : Value) (s3 : Value) (s4 : Value) : E d 232 186 [x0, x1, x2, x3] [.int s0, .int s1, s2, s3, s4] h = E d 232 187 [x0, x1, x2, x3] [.int (s1 + s0), s2, s3, s4] h := E_nx rfl
theorem s232_187 (d : Nat) (h : AH) (x0 x1 x2 x3 : Option Value) (s0 : Int32) (s1 : Nat) (s2 : Value) (s3 : Value) : E d 232 187 [x0, x1, x2, x3] [.int s0, .ref s1, s2, s3] h = if inb s0 (alen h s1 0) = true ∨ inb s0 (alen h s1 8) = true then E d 232 188 [x0, x1, x2, x3] [.int (hI h s1 s0.toNatClampNeg), s2, s3] h else none := E_gd rfl
theorem s232_188 (d : Nat) (h : AH) (x0 x1 x2 x3 : Option Value) (s0 : Int32) (s1 : Int32) (s2 : Nat) : E (d + 1) 232 188 [x0, x1, x2, x3] [.int s0, .int s1, .ref s2] h = if hS h s2 = some (104, 0) then (E d 84 0 [some (.ref s2), some (.int s1), some (.int s0)] [] h).bind fun r => E (d + 1) 232 189 [x0, x1, x2, x3] (r.1.toList ++ []) r.2 else none := E_callg rfl
theorem s232_189 (d : Nat) (h : AH) (x0 x1 x3 : Option Value) (s0 : Value) (v : Nat) : E d 232 189 [x0, x1, some (.ref v), x3] [s0] h = E d 232 190 [x0, x1, some (.ref v), x3] [.ref v, s0] h := E_nx rfl
theorem s232_190 (d : Nat) (h : AH) (x1 x2 x3 : Option Value) (s0 : Value) (s1 : Value) (v : Nat) : E d 232 190 [some (.ref v), x1, x2, x3] [s0, s1] h = E d 232 191 [some (.ref v), x1, x2, x3] [.ref v, s0, s1] h := E_nx rfl
theorem s232_191 (d : Nat) (h : AH) (x0 x1 x2 : Option Value) (s0 : Value) (s1 : Value) (s2 : Value) (v : Int32) : E d 232 191 [x0, x1, x2, some (.int v)] [s0, s1, s2] h = E d 232 192 [x0, x1, x2, some (.int v)] [.int v, s0, s1, s2] h := E_nx rfl
theorem s232_192 (d : Nat) (h : AH) (x0 x1 x2 x3 : Option Value) (s0 : Value) (s1 : Value) (s2 : Value) (s3 : Value) : E d 232 192 [x0, x1, x2, x3] [s0, s1, s2, s3] h = E d 232 193 [x0, x1, x2, x3] [.int 1, s0, s1, s2, s3] h := E_nx rfl
theorem s232_193 (d : Nat) (h : AH) (x0 x1 x2 x3 : Option Value) (s0 : Int32) (s1 : Int32) (s2 : Value) (s3 : Value) (s4 : Value) : E d 232 193 [x0, x1, x2, x3] [.int s0, .int s1, s2, s3, s4] h = E d 232 194 [x0, x1, x2, x3] [.int (s1 + s0), s2, s3, s4] h := E_nx rfl
theorem s232_194 (d : Nat) (h : AH) (x0 x1 x2 x3 : Option Value) (s0 : Int32) (s1 : Nat) (s2 : Value) (s3 : Value) : E d 232 194 [x0, x1, x2, x3] [.int s0, .ref s1, s2, s3] h = if inb s0 (alen h s1 0) = true ∨ inb s0 (alen h s1 8) = true then E d 232 195 [x0, x1, x2, x3] [.int (hI h s1 s0.toNatClampNeg), s2, s3] h else none := E_gd rfl
theorem s232_195 (d : Nat) (h : AH) (x1 x2 x3 : Option Value) (s0 : Value) (s1 : Value) (s2 : Value) (v : Nat) : E d 232 195 [some (.ref v), x1, x2, x3] [s0, s1, s2] h = E d 232 196 [some (.ref v), x1, x2, x3] [.ref v, s0, s1, s2] h := E_nx rfl
theorem s232_196 (d : Nat) (h : AH) (x0 x1 x2 : Option Value) (s0 : Value) (s1 : Value) (s2 : Value) (s3 : Value) (v : Int32) : E d 232 196 [x0, x1, x2, some (.int v)] [s0, s1, s2, s3] h = E d 232 197 [x0, x1, x2, some (.int v)] [.int v, s0, s1, s2, s3] h := E_nx rfl
theorem s232_197 (d : Nat) (h : AH) (x0 x1 x2 x3 : Option Value) (s0 : Value) (s1 : Value) (s2 : Value) (s3 : Value) (s4 : Value) : E d 232 197 [x0, x1, x2, x3] [s0, s1, s2, s3, s4] h = E d 232 198 [x0, x1, x2, x3] [.int 2, s0, s1, s2, s3, s4] h := E_nx rfl
theorem s232_198 (d : Nat) (h : AH) (x0 x1 x2 x3 : Option Value) (s0 : Int32) (s1 : Int32) (s2 : Value) (s3 : Value) (s4 : Value) (s5 : Value) : E d 232 198 [x0, x1, x2, x3] [.int s0, .int s1, s2, s3, s4, s5] h = E d 232 199 [x0, x1, x2, x3] [.int (s1 + s0), s2, s3, s4, s5] h := E_nx rfl
theorem s232_199 (d : Nat) (h : AH) (x0 x1 x2 x3 : Option Value) (s0 : Int32) (s1 : Nat) (s2 : Value) (s3 : Value) (s4 : Value) : E d 232 199 [x0, x1, x2, x3] [.int s0, .ref s1, s2, s3, s4] h = if inb s0 (alen h s1 0) = true ∨ inb s0 (alen h s1 8) = true then E d 232 200 [x0, x1, x2, x3] [.int (hI h s1 s0.toNatClampNeg), s2, s3, s4] h else none := E_gd rfl
theorem s232_200 (d : Nat) (h : AH) (x0 x1 x2 x3 : Option Value) (s0 : Int32) (s1 : Int32) (s2 : Nat) (s3 : Value) : E (d + 1) 232 200 [x0, x1, x2, x3] [.int s0, .int s1, .ref s2, s3] h = if hS h s2 = some (105, 0) then (E d 147 0 [some (.ref s2), some (.int s1), some (.int s0)] [] h).bind fun r => E (d + 1) 232 201 [x0, x1, x2, x3] (r.1.toList ++ [s3]) r.2 else none := E_callg rfl
theorem s232_201 (d : Nat) (h : AH) (x0 x1 x2 x3 : Option Value) (s0 : Int64) (s1 : Int64) : E d 232 201 [x0, x1, x2, x3] [.long s0, .long s1] h = E d 232 202 [x0, x1, x2, x3] [.int (lg_cmp s1 s0)] h := E_nx rfl
theorem s232_202 (d : Nat) (h : AH) (x0 x1 x2 x3 : Option Value) (s0 : Int32) : E d 232 202 [x0, x1, x2, x3] [.int s0] h = if s0 = 0 then E d 232 1068 [x0, x1, x2, x3] [] h else E d 232 203 [x0, x1, x2, x3] [] h := E_ifc rfl
theorem s232_203 (d : Nat) (h : AH) (x0 x1 x2 x3 : Option Value)  : E d 232 203 [x0, x1, x2, x3] [] h = E d 232 204 [x0, x1, x2, x3] [.int 0] h := E_nx rfl
theorem s232_204 (d : Nat) (h : AH) (x0 x1 x2 x3 : Option Value) (s0 : Int32) : E d 232 204 [x0, x1, x2, x3] [.int s0] h = if s0 = 0 ∨ s0 = 1 then some (some (.int s0), h) else none := E_retg rfl
theorem s232_205 (d : Nat) (h : AH) (x0 x2 x3 : Option Value) (v : Nat) : E d 232 205 [x0, some (.ref v), x2, x3] [] h = E d 232 206 [x0, some (.ref v), x2, x3] [.ref v] h := E_nx rfl
theorem s232_206 (d : Nat) (h : AH) (x1 x2 x3 : Option Value) (s0 : Value) (v : Nat) : E d 232 206 [some (.ref v), x1, x2, x3] [s0] h = E d 232 207 [some (.ref v), x1, x2, x3] [.ref v, s0] h := E_nx rfl
theorem s232_207 (d : Nat) (h : AH) (x0 x1 x2 : Option Value) (s0 : Value) (s1 : Value) (v : Int32) : E d 232 207 [x0, x1, x2, some (.int v)] [s0, s1] h = E d 232 208 [x0, x1, x2, some (.int v)] [.int v, s0, s1] h := E_nx rfl
theorem s232_208 (d : Nat) (h : AH) (x0 x1 x2 x3 : Option Value) (s0 : Value) (s1 : Value) (s2 : Value) : E d 232 208 [x0, x1, x2, x3] [s0, s1, s2] h = E d 232 209 [x0, x1, x2, x3] [.int 1, s0, s1, s2] h := E_nx rfl
theorem s232_209 (d : Nat) (h : AH) (x0 x1 x2 x3 : Option Value) (s0 : Int32) (s1 : Int32) (s2 : Value) (s3 : Value) : E d 232 209 [x0, x1, x2, x3] [.int s0, .int s1, s2, s3] h = E d 232 210 [x0, x1, x2, x3] [.int (s1 + s0), s2, s3] h := E_nx rfl
theorem s232_210 (d : Nat) (h : AH) (x0 x1 x2 x3 : Option Value) (s0 : Int32) (s1 : Nat) (s2 : Value) : E d 232 210 [x0, x1, x2, x3] [.int s0, .ref s1, s2] h = if inb s0 (alen h s1 0) = true ∨ inb s0 (alen h s1 8) = true then E d 232 211 [x0, x1, x2, x3] [.int (hI h s1 s0.toNatClampNeg), s2] h else none := E_gd rfl
theorem s232_211 (d : Nat) (h : AH) (x0 x1 x2 x3 : Option Value) (s0 : Int32) (s1 : Nat) : E (d + 1) 232 211 [x0, x1, x2, x3] [.int s0, .ref s1] h = if hS h s1 = some (104, 0) then (E d 85 0 [some (.ref s1), some (.int s0), none] [] h).bind fun r => E (d + 1) 232 212 [x0, x1, x2, x3] (r.1.toList ++ []) r.2 else none := E_callg rfl
theorem s232_212 (d : Nat) (h : AH) (x0 x1 x3 : Option Value) (s0 : Value) (v : Nat) : E d 232 212 [x0, x1, some (.ref v), x3] [s0] h = E d 232 213 [x0, x1, some (.ref v), x3] [.ref v, s0] h := E_nx rfl
theorem s232_213 (d : Nat) (h : AH) (x1 x2 x3 : Option Value) (s0 : Value) (s1 : Value) (v : Nat) : E d 232 213 [some (.ref v), x1, x2, x3] [s0, s1] h = E d 232 214 [some (.ref v), x1, x2, x3] [.ref v, s0, s1] h := E_nx rfl
theorem s232_214 (d : Nat) (h : AH) (x0 x1 x2 : Option Value) (s0 : Value) (s1 : Value) (s2 : Value) (v : Int32) : E d 232 214 [x0, x1, x2, some (.int v)] [s0, s1, s2] h = E d 232 215 [x0, x1, x2, some (.int v)] [.int v, s0, s1, s2] h := E_nx rfl
theorem s232_215 (d : Nat) (h : AH) (x0 x1 x2 x3 : Option Value) (s0 : Value) (s1 : Value) (s2 : Value) (s3 : Value) : E d 232 215 [x0, x1, x2, x3] [s0, s1, s2, s3] h = E d 232 216 [x0, x1, x2, x3] [.int 1, s0, s1, s2, s3] h := E_nx rfl
theorem s232_216 (d : Nat) (h : AH) (x0 x1 x2 x3 : Option Value) (s0 : Int32) (s1 : Int32) (s2 : Value) (s3 : Value) (s4 : Value) : E d 232 216 [x0, x1, x2, x3] [.int s0, .int s1, s2, s3, s4] h = E d 232 217 [x0, x1, x2, x3] [.int (s1 + s0), s2, s3, s4] h := E_nx rfl
theorem s232_217 (d : Nat) (h : AH) (x0 x1 x2 x3 : Option Value) (s0 : Int32) (s1 : Nat) (s2 : Value) (s3 : Value) : E d 232 217 [x0, x1, x2, x3] [.int s0, .ref s1, s2, s3] h = if inb s0 (alen h s1 0) = true ∨ inb s0 (alen h s1 8) = true then E d 232 218 [x0, x1, x2, x3] [.int (hI h s1 s0.toNatClampNeg), s2, s3] h else none := E_gd rfl
theorem s232_218 (d : Nat) (h : AH) (x0 x1 x2 x3 : Option Value) (s0 : Int32) (s1 : Nat) (s2 : Value) : E (d + 1) 232 218 [x0, x1, x2, x3] [.int s0, .ref s1, s2] h = if hS h s1 = some (105, 0) then (E d 148 0 [some (.ref s1), some (.int s0)] [] h).bind fun r => E (d + 1) 232 219 [x0, x1, x2, x3] (r.1.toList ++ [s2]) r.2 else none := E_callg rfl
theorem s232_219 (d : Nat) (h : AH) (x0 x1 x2 x3 : Option Value) (s0 : Int32) (s1 : Int32) : E d 232 219 [x0, x1, x2, x3] [.int s0, .int s1] h = if s1 = s0 then E d 232 1068 [x0, x1, x2, x3] [] h else E d 232 220 [x0, x1, x2, x3] [] h := E_ifc rfl
theorem s232_220 (d : Nat) (h : AH) (x0 x1 x2 x3 : Option Value)  : E d 232 220 [x0, x1, x2, x3] [] h = E d 232 221 [x0, x1, x2, x3] [.int 0] h := E_nx rfl
theorem s232_221 (d : Nat) (h : AH) (x0 x1 x2 x3 : Option Value) (s0 : Int32) : E d 232 221 [x0, x1, x2, x3] [.int s0] h = if s0 = 0 ∨ s0 = 1 then some (some (.int s0), h) else none := E_retg rfl
theorem s232_222 (d : Nat) (h : AH) (x0 x2 x3 : Option Value) (v : Nat) : E d 232 222 [x0, some (.ref v), x2, x3] [] h = E d 232 223 [x0, some (.ref v), x2, x3] [.ref v] h := E_nx rfl
theorem s232_223 (d : Nat) (h : AH) (x1 x2 x3 : Option Value) (s0 : Value) (v : Nat) : E d 232 223 [some (.ref v), x1, x2, x3] [s0] h = E d 232 224 [some (.ref v), x1, x2, x3] [.ref v, s0] h := E_nx rfl
theorem s232_224 (d : Nat) (h : AH) (x0 x1 x2 : Option Value) (s0 : Value) (s1 : Value) (v : Int32) : E d 232 224 [x0, x1, x2, some (.int v)] [s0, s1] h = E d 232 225 [x0, x1, x2, some (.int v)] [.int v, s0, s1] h := E_nx rfl
theorem s232_225 (d : Nat) (h : AH) (x0 x1 x2 x3 : Option Value) (s0 : Value) (s1 : Value) (s2 : Value) : E d 232 225 [x0, x1, x2, x3] [s0, s1, s2] h = E d 232 226 [x0, x1, x2, x3] [.int 1, s0, s1, s2] h := E_nx rfl
theorem s232_226 (d : Nat) (h : AH) (x0 x1 x2 x3 : Option Value) (s0 : Int32) (s1 : Int32) (s2 : Value) (s3 : Value) : E d 232 226 [x0, x1, x2, x3] [.int s0, .int s1, s2, s3] h = E d 232 227 [x0, x1, x2, x3] [.int (s1 + s0), s2, s3] h := E_nx rfl
theorem s232_227 (d : Nat) (h : AH) (x0 x1 x2 x3 : Option Value) (s0 : Int32) (s1 : Nat) (s2 : Value) : E d 232 227 [x0, x1, x2, x3] [.int s0, .ref s1, s2] h = if inb s0 (alen h s1 0) = true ∨ inb s0 (alen h s1 8) = true then E d 232 228 [x0, x1, x2, x3] [.int (hI h s1 s0.toNatClampNeg), s2] h else none := E_gd rfl
theorem s232_228 (d : Nat) (h : AH) (x1 x2 x3 : Option Value) (s0 : Value) (s1 : Value) (v : Nat) : E d 232 228 [some (.ref v), x1, x2, x3] [s0, s1] h = E d 232 229 [some (.ref v), x1, x2, x3] [.ref v, s0, s1] h := E_nx rfl
theorem s232_229 (d : Nat) (h : AH) (x0 x1 x2 : Option Value) (s0 : Value) (s1 : Value) (s2 : Value) (v : Int32) : E d 232 229 [x0, x1, x2, some (.int v)] [s0, s1, s2] h = E d 232 230 [x0, x1, x2, some (.int v)] [.int v, s0, s1, s2] h := E_nx rfl
theorem s232_230 (d : Nat) (h : AH) (x0 x1 x2 x3 : Option Value) (s0 : Value) (s1 : Value) (s2 : Value) (s3 : Value) : E d 232 230 [x0, x1, x2, x3] [s0, s1, s2, s3] h = E d 232 231 [x0, x1, x2, x3] [.int 2, s0, s1, s2, s3] h := E_nx rfl
theorem s232_231 (d : Nat) (h : AH) (x0 x1 x2 x3 : Option Value) (s0 : Int32) (s1 : Int32) (s2 : Value) (s3 : Value) (s4 : Value) : E d 232 231 [x0, x1, x2, x3] [.int s0, .int s1, s2, s3, s4] h = E d 232 232 [x0, x1, x2, x3] [.int (s1 + s0), s2, s3, s4] h := E_nx rfl
theorem s232_232 (d : Nat) (h : AH) (x0 x1 x2 x3 : Option Value) (s0 : Int32) (s1 : Nat) (s2 : Value) (s3 : Value) : E d 232 232 [x0, x1, x2, x3] [.int s0, .ref s1, s2, s3] h = if inb s0 (alen h s1 0) = true ∨ inb s0 (alen h s1 8) = true then E d 232 233 [x0, x1, x2, x3] [.int (hI h s1 s0.toNatClampNeg), s2, s3] h else none := E_gd rfl
theorem s232_233 (d : Nat) (h : AH) (x0 x1 x2 x3 : Option Value) (s0 : Int32) (s1 : Int32) (s2 : Nat) : E (d + 1) 232 233 [x0, x1, x2, x3] [.int s0, .int s1, .ref s2] h = if hS h s2 = some (104, 0) then (E d 86 0 [some (.ref s2), some (.int s1), some (.int s0)] [] h).bind fun r => E (d + 1) 232 234 [x0, x1, x2, x3] (r.1.toList ++ []) r.2 else none := E_callg rfl
theorem s232_234 (d : Nat) (h : AH) (x0 x1 x3 : Option Value) (s0 : Value) (v : Nat) : E d 232 234 [x0, x1, some (.ref v), x3] [s0] h = E d 232 235 [x0, x1, some (.ref v), x3] [.ref v, s0] h := E_nx rfl
theorem s232_235 (d : Nat) (h : AH) (x1 x2 x3 : Option Value) (s0 : Value) (s1 : Value) (v : Nat) : E d 232 235 [some (.ref v), x1, x2, x3] [s0, s1] h = E d 232 236 [some (.ref v), x1, x2, x3] [.ref v, s0, s1] h := E_nx rfl
theorem s232_236 (d : Nat) (h : AH) (x0 x1 x2 : Option Value) (s0 : Value) (s1 : Value) (s2 : Value) (v : Int32) : E d 232 236 [x0, x1, x2, some (.int v)] [s0, s1, s2] h = E d 232 237 [x0, x1, x2, some (.int v)] [.int v, s0, s1, s2] h := E_nx rfl
theorem s232_237 (d : Nat) (h : AH) (x0 x1 x2 x3 : Option Value) (s0 : Value) (s1 : Value) (s2 : Value) (s3 : Value) : E d 232 237 [x0, x1, x2, x3] [s0, s1, s2, s3] h = E d 232 238 [x0, x1, x2, x3] [.int 1, s0, s1, s2, s3] h := E_nx rfl
theorem s232_238 (d : Nat) (h : AH) (x0 x1 x2 x3 : Option Value) (s0 : Int32) (s1 : Int32) (s2 : Value) (s3 : Value) (s4 : Value) : E d 232 238 [x0, x1, x2, x3] [.int s0, .int s1, s2, s3, s4] h = E d 232 239 [x0, x1, x2, x3] [.int (s1 + s0), s2, s3, s4] h := E_nx rfl
theorem s232_239 (d : Nat) (h : AH) (x0 x1 x2 x3 : Option Value) (s0 : Int32) (s1 : Nat) (s2 : Value) (s3 : Value) : E d 232 239 [x0, x1, x2, x3] [.int s0, .ref s1, s2, s3] h = if inb s0 (alen h s1 0) = true ∨ inb s0 (alen h s1 8) = true then E d 232 240 [x0, x1, x2, x3] [.int (hI h s1 s0.toNatClampNeg), s2, s3] h else none := E_gd rfl
theorem s232_240 (d : Nat) (h : AH) (x1 x2 x3 : Option Value) (s0 : Value) (s1 : Value) (s2 : Value) (v : Nat) : E d 232 240 [some (.ref v), x1, x2, x3] [s0, s1, s2] h = E d 232 241 [some (.ref v), x1, x2, x3] [.ref v, s0, s1, s2] h := E_nx rfl
theorem s232_241 (d : Nat) (h : AH) (x0 x1 x2 : Option Value) (s0 : Value) (s1 : Value) (s2 : Value) (s3 : Value) (v : Int32) : E d 232 241 [x0, x1, x2, some (.int v)] [s0, s1, s2, s3] h = E d 232 242 [x0, x1, x2, some (.int v)] [.int v, s0, s1, s2, s3] h := E_nx rfl
theorem s232_242 (d : Nat) (h : AH) (x0 x1 x2 x3 : Option Value) (s0 : Value) (s1 : Value) (s2 : Value) (s3 : Value) (s4 : Value) : E d 232 242 [x0, x1, x2, x3] [s0, s1, s2, s3, s4] h = E d 232 243 [x0, x1, x2, x3] [.int 2, s0, s1, s2, s3, s4] h := E_nx rfl
theorem s232_243 (d : Nat) (h : AH) (x0 x1 x2 x3 : Option Value) (s0 : Int32) (s1 : Int32) (s2 : Value) (s3 : Value) (s4 : Value) (s5 : Value) : E d 232 243 [x0, x1, x2, x3] [.int s0, .int s1, s2, s3, s4, s5] h = E d 232 244 [x0, x1, x2, x3] [.int (s1 + s0), s2, s3, s4, s5] h := E_nx rfl
theorem s232_244 (d : Nat) (h : AH) (x0 x1 x2 x3 : Option Value) (s0 : Int32) (s1 : Nat) (s2 : Value) (s3 : Value) (s4 : Value) : E d 232 244 [x0, x1, x2, x3] [.int s0, .ref s1, s2, s3, s4] h = if inb s0 (alen h s1 0) = true ∨ inb s0 (alen h s1 8) = true then E d 232 245 [x0, x1, x2, x3] [.int (hI h s1 s0.toNatClampNeg), s2, s3, s4] h else none := E_gd rfl
theorem s232_245 (d : Nat) (h : AH) (x0 x1 x2 x3 : Option Value) (s0 : Int32) (s1 : Int32) (s2 : Nat) (s3 : Value) : E (d + 1) 232 245 [x0, x1, x2, x3] [.int s0, .int s1, .ref s2, s3] h = if hS h s2 = some (105, 0) then (E d 149 0 [some (.ref s2), some (.int s1), some (.int s0)] [] h).bind fun r => E (d + 1) 232 246 [x0, x1, x2, x3] (r.1.toList ++ [s3]) r.2 else none := E_callg rfl
theorem s232_246 (d : Nat) (h : AH) (x0 x1 x2 x3 : Option Value) (s0 : Int32) (s1 : Int32) : E d 232 246 [x0, x1, x2, x3] [.int s0, .int s1] h = if s1 = s0 then E d 232 1068 [x0, x1, x2, x3] [] h else E d 232 247 [x0, x1, x2, x3] [] h := E_ifc rfl
theorem s232_247 (d : Nat) (h : AH) (x0 x1 x2 x3 : Option Value)  : E d 232 247 [x0, x1, x2, x3] [] h = E d 232 248 [x0, x1, x2, x3] [.int 0] h := E_nx rfl
theorem s232_248 (d : Nat) (h : AH) (x0 x1 x2 x3 : Option Value) (s0 : Int32) : E d 232 248 [x0, x1, x2, x3] [.int s0] h = if s0 = 0 ∨ s0 = 1 then some (some (.int s0), h) else none := E_retg rfl
theorem s232_249 (d : Nat) (h : AH) (x0 x2 x3 : Option Value) (v : Nat) : E d 232 249 [x0, some (.ref v), x2, x3] [] h = E d 232 250 [x0, some (.ref v), x2, x3] [.ref v] h := E_nx rfl
theorem s232_250 (d : Nat) (h : AH) (x1 x2 x3 : Option Value) (s0 : Value) (v : Nat) : E d 232 250 [some (.ref v), x1, x2, x3] [s0] h = E d 232 251 [some (.ref v), x1, x2, x3] [.ref v, s0] h := E_nx rfl
theorem s232_251 (d : Nat) (h : AH) (x0 x1 x2 : Option Value) (s0 : Value) (s1 : Value) (v : Int32) : E d 232 251 [x0, x1, x2, some (.int v)] [s0, s1] h = E d 232 252 [x0, x1, x2, some (.int v)] [.int v, s0, s1] h := E_nx rfl
theorem s232_252 (d : Nat) (h : AH) (x0 x1 x2 x3 : Option Value) (s0 : Value) (s1 : Value) (s2 : Value) : E d 232 252 [x0, x1, x2, x3] [s0, s1, s2] h = E d 232 253 [x0, x1, x2, x3] [.int 1, s0, s1, s2] h := E_nx rfl
theorem s232_253 (d : Nat) (h : AH) (x0 x1 x2 x3 : Option Value) (s0 : Int32) (s1 : Int32) (s2 : Value) (s3 : Value) : E d 232 253 [x0, x1, x2, x3] [.int s0, .int s1, s2, s3] h = E d 232 254 [x0, x1, x2, x3] [.int (s1 + s0), s2, s3] h := E_nx rfl
theorem s232_254 (d : Nat) (h : AH) (x0 x1 x2 x3 : Option Value) (s0 : Int32) (s1 : Nat) (s2 : Value) : E d 232 254 [x0, x1, x2, x3] [.int s0, .ref s1, s2] h = if inb s0 (alen h s1 0) = true ∨ inb s0 (alen h s1 8) = true then E d 232 255 [x0, x1, x2, x3] [.int (hI h s1 s0.toNatClampNeg), s2] h else none := E_gd rfl
theorem s232_255 (d : Nat) (h : AH) (x1 x2 x3 : Option Value) (s0 : Value) (s1 : Value) (v : Nat) : E d 232 255 [some (.ref v), x1, x2, x3] [s0, s1] h = E d 232 256 [some (.ref v), x1, x2, x3] [.ref v, s0, s1] h := E_nx rfl
theorem s232_256 (d : Nat) (h : AH) (x0 x1 x2 : Option Value) (s0 : Value) (s1 : Value) (s2 : Value) (v : Int32) : E d 232 256 [x0, x1, x2, some (.int v)] [s0, s1, s2] h = E d 232 257 [x0, x1, x2, some (.int v)] [.int v, s0, s1, s2] h := E_nx rfl
theorem s232_257 (d : Nat) (h : AH) (x0 x1 x2 x3 : Option Value) (s0 : Value) (s1 : Value) (s2 : Value) (s3 : Value) : E d 232 257 [x0, x1, x2, x3] [s0, s1, s2, s3] h = E d 232 258 [x0, x1, x2, x3] [.int 2, s0, s1, s2, s3] h := E_nx rfl
theorem s232_258 (d : Nat) (h : AH) (x0 x1 x2 x3 : Option Value) (s0 : Int32) (s1 : Int32) (s2 : Value) (s3 : Value) (s4 : Value) : E d 232 258 [x0, x1, x2, x3] [.int s0, .int s1, s2, s3, s4] h = E d 232 259 [x0, x1, x2, x3] [.int (s1 + s0), s2, s3, s4] h := E_nx rfl
theorem s232_259 (d : Nat) (h : AH) (x0 x1 x2 x3 : Option Value) (s0 : Int32) (s1 : Nat) (s2 : Value) (s3 : Value) : E d 232 259 [x0, x1, x2, x3] [.int s0, .ref s1, s2, s3] h = if inb s0 (alen h s1 0) = true ∨ inb s0 (alen h s1 8) = true then E d 232 260 [x0, x1, x2, x3] [.int (hI h s1 s0.toNatClampNeg), s2, s3] h else none := E_gd rfl
theorem s232_260 (d : Nat) (h : AH) (x0 x1 x2 x3 : Option Value) (s0 : Int32) (s1 : Int32) (s2 : Nat) : E (d + 1) 232 260 [x0, x1, x2, x3] [.int s0, .int s1, .ref s2] h = if hS h s2 = some (104, 0) then (E d 87 0 [some (.ref s2), some (.int s1), some (.int s0), none] [] h).bind fun r => E (d + 1) 232 261 [x0, x1, x2, x3] (r.1.toList ++ []) r.2 else none := E_callg rfl
theorem s232_261 (d : Nat) (h : AH) (x0 x1 x3 : Option Value) (s0 : Value) (v : Nat) : E d 232 261 [x0, x1, some (.ref v), x3] [s0] h = E d 232 262 [x0, x1, some (.ref v), x3] [.ref v, s0] h := E_nx rfl
theorem s232_262 (d : Nat) (h : AH) (x1 x2 x3 : Option Value) (s0 : Value) (s1 : Value) (v : Nat) : E d 232 262 [some (.ref v), x1, x2, x3] [s0, s1] h = E d 232 263 [some (.ref v), x1, x2, x3] [.ref v, s0, s1] h := E_nx rfl
theorem s232_263 (d : Nat) (h : AH) (x0 x1 x2 : Option Value) (s0 : Value) (s1 : Value) (s2 : Value) (v : Int32) : E d 232 263 [x0, x1, x2, some (.int v)] [s0, s1, s2] h = E d 232 264 [x0, x1, x2, some (.int v)] [.int v, s0, s1, s2] h := E_nx rfl
theorem s232_264 (d : Nat) (h : AH) (x0 x1 x2 x3 : Option Value) (s0 : Value) (s1 : Value) (s2 : Value) (s3 : Value) : E d 232 264 [x0, x1, x2, x3] [s0, s1, s2, s3] h = E d 232 265 [x0, x1, x2, x3] [.int 1, s0, s1, s2, s3] h := E_nx rfl
theorem s232_265 (d : Nat) (h : AH) (x0 x1 x2 x3 : Option Value) (s0 : Int32) (s1 : Int32) (s2 : Value) (s3 : Value) (s4 : Value) : E d 232 265 [x0, x1, x2, x3] [.int s0, .int s1, s2, s3, s4] h = E d 232 266 [x0, x1, x2, x3] [.int (s1 + s0), s2, s3, s4] h := E_nx rfl
theorem s232_266 (d : Nat) (h : AH) (x0 x1 x2 x3 : Option Value) (s0 : Int32) (s1 : Nat) (s2 : Value) (s3 : Value) : E d 232 266 [x0, x1, x2, x3] [.int s0, .ref s1, s2, s3] h = if inb s0 (alen h s1 0) = true ∨ inb s0 (alen h s1 8) = true then E d 232 267 [x0, x1, x2, x3] [.int (hI h s1 s0.toNatClampNeg), s2, s3] h else none := E_gd rfl
theorem s232_267 (d : Nat) (h : AH) (x1 x2 x3 : Option Value) (s0 : Value) (s1 : Value) (s2 : Value) (v : Nat) : E d 232 267 [some (.ref v), x1, x2, x3] [s0, s1, s2] h = E d 232 268 [some (.ref v), x1, x2, x3] [.ref v, s0, s1, s2] h := E_nx rfl
theorem s232_268 (d : Nat) (h : AH) (x0 x1 x2 : Option Value) (s0 : Value) (s1 : Value) (s2 : Value) (s3 : Value) (v : Int32) : E d 232 268 [x0, x1, x2, some (.int v)] [s0, s1, s2, s3] h = E d 232 269 [x0, x1, x2, some (.int v)] [.int v, s0, s1, s2, s3] h := E_nx rfl
theorem s232_269 (d : Nat) (h : AH) (x0 x1 x2 x3 : Option Value) (s0 : Value) (s1 : Value) (s2 : Value) (s3 : Value) (s4 : Value) : E d 232 269 [x0, x1, x2, x3] [s0, s1, s2, s3, s4] h = E d 232 270 [x0, x1, x2, x3] [.int 2, s0, s1, s2, s3, s4] h := E_nx rfl
theorem s232_270 (d : Nat) (h : AH) (x0 x1 x2 x3 : Option Value) (s0 : Int32) (s1 : Int32) (s2 : Value) (s3 : Value) (s4 : Value) (s5 : Value) : E d 232 270 [x0, x1, x2, x3] [.int s0, .int s1, s2, s3, s4, s5] h = E d 232 271 [x0, x1, x2, x3] [.int (s1 + s0), s2, s3, s4, s5] h := E_nx rfl
theorem s232_271 (d : Nat) (h : AH) (x0 x1 x2 x3 : Option Value) (s0 : Int32) (s1 : Nat) (s2 : Value) (s3 : Value) (s4 : Value) : E d 232 271 [x0, x1, x2, x3] [.int s0, .ref s1, s2, s3, s4] h = if inb s0 (alen h s1 0) = true ∨ inb s0 (alen h s1 8) = true then E d 232 272 [x0, x1, x2, x3] [.int (hI h s1 s0.toNatClampNeg), s2, s3, s4] h else none := E_gd rfl
theorem s232_272 (d : Nat) (h : AH) (x0 x1 x2 x3 : Option Value) (s0 : Int32) (s1 : Int32) (s2 : Nat) (s3 : Value) : E (d + 1) 232 272 [x0, x1, x2, x3] [.int s0, .int s1, .ref s2, s3] h = if hS h s2 = some (105, 0) then (E d 151 0 [some (.ref s2), some (.int s1), some (.int s0), none] [] h).bind fun r => E (d + 1) 232 273 [x0, x1, x2, x3] (r.1.toList ++ [s3]) r.2 else none := E_callg rfl
theorem s232_273 (d : Nat) (h : AH) (x0 x1 x2 x3 : Option Value) (s0 : Int32) (s1 : Int32) : E d 232 273 [x0, x1, x2, x3] [.int s0, .int s1] h = if s1 = s0 then E d 232 1068 [x0, x1, x2, x3] [] h else E d 232 274 [x0, x1, x2, x3] [] h := E_ifc rfl
theorem s232_274 (d : Nat) (h : AH) (x0 x1 x2 x3 : Option Value)  : E d 232 274 [x0, x1, x2, x3] [] h = E d 232 275 [x0, x1, x2, x3] [.int 0] h := E_nx rfl
theorem s232_275 (d : Nat) (h : AH) (x0 x1 x2 x3 : Option Value) (s0 : Int32) : E d 232 275 [x0, x1, x2, x3] [.int s0] h = if s0 = 0 ∨ s0 = 1 then some (some (.int s0), h) else none := E_retg rfl
theorem s232_276 (d : Nat) (h : AH) (x0 x2 x3 : Option Value) (v : Nat) : E d 232 276 [x0, some (.ref v), x2, x3] [] h = E d 232 277 [x0, some (.ref v), x2, x3] [.ref v] h := E_nx rfl
theorem s232_277 (d : Nat) (h : AH) (x1 x2 x3 : Option Value) (s0 : Value) (v : Nat) : E d 232 277 [some (.ref v), x1, x2, x3] [s0] h = E d 232 278 [some (.ref v), x1, x2, x3] [.ref v, s0] h := E_nx rfl
theorem s232_278 (d : Nat) (h : AH) (x0 x1 x2 : Option Value) (s0 : Value) (s1 : Value) (v : Int32) : E d 232 278 [x0, x1, x2, some (.int v)] [s0, s1] h = E d 232 279 [x0, x1, x2, some (.int v)] [.int v, s0, s1] h := E_nx rfl
theorem s232_279 (d : Nat) (h : AH) (x0 x1 x2 x3 : Option Value) (s0 : Value) (s1 : Value) (s2 : Value) : E d 232 279 [x0, x1, x2, x3] [s0, s1, s2] h = E d 232 280 [x0, x1, x2, x3] [.int 1, s0, s1, s2] h := E_nx rfl
theorem s232_280 (d : Nat) (h : AH) (x0 x1 x2 x3 : Option Value) (s0 : Int32) (s1 : Int32) (s2 : Value) (s3 : Value) : E d 232 280 [x0, x1, x2, x3] [.int s0, .int s1, s2, s3] h = E d 232 281 [x0, x1, x2, x3] [.int (s1 + s0), s2, s3] h := E_nx rfl
theorem s232_281 (d : Nat) (h : AH) (x0 x1 x2 x3 : Option Value) (s0 : Int32) (s1 : Nat) (s2 : Value) : E d 232 281 [x0, x1, x2, x3] [.int s0, .ref s1, s2] h = if inb s0 (alen h s1 0) = true ∨ inb s0 (alen h s1 8) = true then E d 232 282 [x0, x1, x2, x3] [.int (hI h s1 s0.toNatClampNeg), s2] h else none := E_gd rfl
theorem s232_282 (d : Nat) (h : AH) (x0 x1 x2 x3 : Option Value) (s0 : Int32) (s1 : Nat) : E (d + 1) 232 282 [x0, x1, x2, x3] [.int s0, .ref s1] h = if hS h s1 = some (104, 0) then (E d 89 0 [some (.ref s1), some (.int s0), none] [] h).bind fun r => E (d + 1) 232 283 [x0, x1, x2, x3] (r.1.toList ++ []) r.2 else none := E_callg rfl
theorem s232_283 (d : Nat) (h : AH) (x0 x1 x3 : Option Value) (s0 : Value) (v : Nat) : E d 232 283 [x0, x1, some (.ref v), x3] [s0] h = E d 232 284 [x0, x1, some (.ref v), x3] [.ref v, s0] h := E_nx rfl
theorem s232_284 (d : Nat) (h : AH) (x1 x2 x3 : Option Value) (s0 : Value) (s1 : Value) (v : Nat) : E d 232 284 [some (.ref v), x1, x2, x3] [s0, s1] h = E d 232 285 [some (.ref v), x1, x2, x3] [.ref v, s0, s1] h := E_nx rfl
theorem s232_285 (d : Nat) (h : AH) (x0 x1 x2 : Option Value) (s0 : Value) (s1 : Value) (s2 : Value) (v : Int32) : E d 232 285 [x0, x1, x2, some (.int v)] [s0, s1, s2] h = E d 232 286 [x0, x1, x2, some (.int v)] [.int v, s0, s1, s2] h := E_nx rfl
theorem s232_286 (d : Nat) (h : AH) (x0 x1 x2 x3 : Option Value) (s0 : Value) (s1 : Value) (s2 : Value) (s3 : Value) : E d 232 286 [x0, x1, x2, x3] [s0, s1, s2, s3] h = E d 232 287 [x0, x1, x2, x3] [.int 1, s0, s1, s2, s3] h := E_nx rfl
theorem s232_287 (d : Nat) (h : AH) (x0 x1 x2 x3 : Option Value) (s0 : Int32) (s1 : Int32) (s2 : Value) (s3 : Value) (s4 : Value) : E d 232 287 [x0, x1, x2, x3] [.int s0, .int s1, s2, s3, s4] h = E d 232 288 [x0, x1, x2, x3] [.int (s1 + s0), s2, s3, s4] h := E_nx rfl
theorem s232_288 (d : Nat) (h : AH) (x0 x1 x2 x3 : Option Value) (s0 : Int32) (s1 : Nat) (s2 : Value) (s3 : Value) : E d 232 288 [x0, x1, x2, x3] [.int s0, .ref s1, s2, s3] h = if inb s0 (alen h s1 0) = true ∨ inb s0 (alen h s1 8) = true then E d 232 289 [x0, x1, x2, x3] [.int (hI h s1 s0.toNatClampNeg), s2, s3] h else none := E_gd rfl
theorem s232_289 (d : Nat) (h : AH) (x0 x1 x2 x3 : Option Value) (s0 : Int32) (s1 : Nat) (s2 : Value) : E (d + 1) 232 289 [x0, x1, x2, x3] [.int s0, .ref s1, s2] h = if hS h s1 = some (105, 0) then (E d 152 0 [some (.ref s1), some (.int s0), none] [] h).bind fun r => E (d + 1) 232 290 [x0, x1, x2, x3] (r.1.toList ++ [s2]) r.2 else none := E_callg rfl
theorem s232_290 (d : Nat) (h : AH) (x0 x1 x2 x3 : Option Value) (s0 : Int32) (s1 : Int32) : E d 232 290 [x0, x1, x2, x3] [.int s0, .int s1] h = if s1 = s0 then E d 232 1068 [x0, x1, x2, x3] [] h else E d 232 291 [x0, x1, x2, x3] [] h := E_ifc rfl
theorem s232_291 (d : Nat) (h : AH) (x0 x1 x2 x3 : Option Value)  : E d 232 291 [x0, x1, x2, x3] [] h = E d 232 292 [x0, x1, x2, x3] [.int 0] h := E_nx rfl
theorem s232_292 (d : Nat) (h : AH) (x0 x1 x2 x3 : Option Value) (s0 : Int32) : E d 232 292 [x0, x1, x2, x3] [.int s0] h = if s0 = 0 ∨ s0 = 1 then some (some (.int s0), h) else none := E_retg rfl
theorem s232_293 (d : Nat) (h : AH) (x0 x2 x3 : Option Value) (v : Nat) : E d 232 293 [x0, some (.ref v), x2, x3] [] h = E d 232 294 [x0, some (.ref v), x2, x3] [.ref v] h := E_nx rfl
theorem s232_294 (d : Nat) (h : AH) (x1 x2 x3 : Option Value) (s0 : Value) (v : Nat) : E d 232 294 [some (.ref v), x1, x2, x3] [s0] h = E d 232 295 [some (.ref v), x1, x2, x3] [.ref v, s0] h := E_nx rfl
theorem s232_295 (d : Nat) (h : AH) (x0 x1 x2 : Option Value) (s0 : Value) (s1 : Value) (v : Int32) : E d 232 295 [x0, x1, x2, some (.int v)] [s0, s1] h = E d 232 296 [x0, x1, x2, some (.int v)] [.int v, s0, s1] h := E_nx rfl
theorem s232_296 (d : Nat) (h : AH) (x0 x1 x2 x3 : Option Value) (s0 : Value) (s1 : Value) (s2 : Value) : E d 232 296 [x0, x1, x2, x3] [s0, s1, s2] h = E d 232 297 [x0, x1, x2, x3] [.int 1, s0, s1, s2] h := E_nx rfl
theorem s232_297 (d : Nat) (h : AH) (x0 x1 x2 x3 : Option Value) (s0 : Int32) (s1 : Int32) (s2 : Value) (s3 : Value) : E d 232 297 [x0, x1, x2, x3] [.int s0, .int s1, s2, s3] h = E d 232 298 [x0, x1, x2, x3] [.int (s1 + s0), s2, s3] h := E_nx rfl
theorem s232_298 (d : Nat) (h : AH) (x0 x1 x2 x3 : Option Value) (s0 : Int32) (s1 : Nat) (s2 : Value) : E d 232 298 [x0, x1, x2, x3] [.int s0, .ref s1, s2] h = if inb s0 (alen h s1 0) = true ∨ inb s0 (alen h s1 8) = true then E d 232 299 [x0, x1, x2, x3] [.int (hI h s1 s0.toNatClampNeg), s2] h else none := E_gd rfl
theorem s232_299 (d : Nat) (h : AH) (x1 x2 x3 : Option Value) (s0 : Value) (s1 : Value) (v : Nat) : E d 232 299 [some (.ref v), x1, x2, x3] [s0, s1] h = E d 232 300 [some (.ref v), x1, x2, x3] [.ref v, s0, s1] h := E_nx rfl
theorem s232_300 (d : Nat) (h : AH) (x0 x1 x2 : Option Value) (s0 : Value) (s1 : Value) (s2 : Value) (v : Int32) : E d 232 300 [x0, x1, x2, some (.int v)] [s0, s1, s2] h = E d 232 301 [x0, x1, x2, some (.int v)] [.int v, s0, s1, s2] h := E_nx rfl
theorem s232_301 (d : Nat) (h : AH) (x0 x1 x2 x3 : Option Value) (s0 : Value) (s1 : Value) (s2 : Value) (s3 : Value) : E d 232 301 [x0, x1, x2, x3] [s0, s1, s2, s3] h = E d 232 302 [x0, x1, x2, x3] [.int 2, s0, s1, s2, s3] h := E_nx rfl
theorem s232_302 (d : Nat) (h : AH) (x0 x1 x2 x3 : Option Value) (s0 : Int32) (s1 : Int32) (s2 : Value) (s3 : Value) (s4 : Value) : E d 232 302 [x0, x1, x2, x3] [.int s0, .int s1, s2, s3, s4] h = E d 232 303 [x0, x1, x2, x3] [.int (s1 + s0), s2, s3, s4] h := E_nx rfl
theorem s232_303 (d : Nat) (h : AH) (x0 x1 x2 x3 : Option Value) (s0 : Int32) (s1 : Nat) (s2 : Value) (s3 : Value) : E d 232 303 [x0, x1, x2, x3] [.int s0, .ref s1, s2, s3] h = if inb s0 (alen h s1 0) = true ∨ inb s0 (alen h s1 8) = true then E d 232 304 [x0, x1, x2, x3] [.int (hI h s1 s0.toNatClampNeg), s2, s3] h else none := E_gd rfl
theorem s232_304 (d : Nat) (h : AH) (x0 x1 x2 x3 : Option Value) (s0 : Int32) (s1 : Int32) (s2 : Nat) : E (d + 1) 232 304 [x0, x1, x2, x3] [.int s0, .int s1, .ref s2] h = if hS h s2 = some (104, 0) then (E d 90 0 [some (.ref s2), some (.int s1), some (.int s0)] [] h).bind fun r => E (d + 1) 232 305 [x0, x1, x2, x3] (r.1.toList ++ []) r.2 else none := E_callg rfl
theorem s232_305 (d : Nat) (h : AH) (x0 x1 x3 : Option Value) (s0 : Value) (v : Nat) : E d 232 305 [x0, x1, some (.ref v), x3] [s0] h = E d 232 306 [x0, x1, some (.ref v), x3] [.ref v, s0] h := E_nx rfl
theorem s232_306 (d : Nat) (h : AH) (x1 x2 x3 : Option Value) (s0 : Value) (s1 : Value) (v : Nat) : E d 232 306 [some (.ref v), x1, x2, x3] [s0, s1] h = E d 232 307 [some (.ref v), x1, x2, x3] [.ref v, s0, s1] h := E_nx rfl
theorem s232_307 (d : Nat) (h : AH) (x0 x1 x2 : Option Value) (s0 : Value) (s1 : Value) (s2 : Value) (v : Int32) : E d 232 307 [x0, x1, x2, some (.int v)] [s0, s1, s2] h = E d 232 308 [x0, x1, x2, some (.int v)] [.int v, s0, s1, s2] h := E_nx rfl
theorem s232_308 (d : Nat) (h : AH) (x0 x1 x2 x3 : Option Value) (s0 : Value) (s1 : Value) (s2 : Value) (s3 : Value) : E d 232 308 [x0, x1, x2, x3] [s0, s1, s2, s3] h = E d 232 309 [x0, x1, x2, x3] [.int 1, s0, s1, s2, s3] h := E_nx rfl
theorem s232_309 (d : Nat) (h : AH) (x0 x1 x2 x3 : Option Value) (s0 : Int32) (s1 : Int32) (s2 : Value) (s3 : Value) (s4 : Value) : E d 232 309 [x0, x1, x2, x3] [.int s0, .int s1, s2, s3, s4] h = E d 232 310 [x0, x1, x2, x3] [.int (s1 + s0), s2, s3, s4] h := E_nx rfl
theorem s232_310 (d : Nat) (h : AH) (x0 x1 x2 x3 : Option Value) (s0 : Int32) (s1 : Nat) (s2 : Value) (s3 : Value) : E d 232 310 [x0, x1, x2, x3] [.int s0, .ref s1, s2, s3] h = if inb s0 (alen h s1 0) = true ∨ inb s0 (alen h s1 8) = true then E d 232 311 [x0, x1, x2, x3] [.int (hI h s1 s0.toNatClampNeg), s2, s3] h else none := E_gd rfl
theorem s232_311 (d : Nat) (h : AH) (x1 x2 x3 : Option Value) (s0 : Value) (s1 : Value) (s2 : Value) (v : Nat) : E d 232 311 [some (.ref v), x1, x2, x3] [s0, s1, s2] h = E d 232 312 [some (.ref v), x1, x2, x3] [.ref v, s0, s1, s2] h := E_nx rfl
theorem s232_312 (d : Nat) (h : AH) (x0 x1 x2 : Option Value) (s0 : Value) (s1 : Value) (s2 : Value) (s3 : Value) (v : Int32) : E d 232 312 [x0, x1, x2, some (.int v)] [s0, s1, s2, s3] h = E d 232 313 [x0, x1, x2, some (.int v)] [.int v, s0, s1, s2, s3] h := E_nx rfl
theorem s232_313 (d : Nat) (h : AH) (x0 x1 x2 x3 : Option Value) (s0 : Value) (s1 : Value) (s2 : Value) (s3 : Value) (s4 : Value) : E d 232 313 [x0, x1, x2, x3] [s0, s1, s2, s3, s4] h = E d 232 314 [x0, x1, x2, x3] [.int 2, s0, s1, s2, s3, s4] h := E_nx rfl
theorem s232_314 (d : Nat) (h : AH) (x0 x1 x2 x3 : Option Value) (s0 : Int32) (s1 : Int32) (s2 : Value) (s3 : Value) (s4 : Value) (s5 : Value) : E d 232 314 [x0, x1, x2, x3] [.int s0, .int s1, s2, s3, s4, s5] h = E d 232 315 [x0, x1, x2, x3] [.int (s1 + s0), s2, s3, s4, s5] h := E_nx rfl
theorem s232_315 (d : Nat) (h : AH) (x0 x1 x2 x3 : Option Value) (s0 : Int32) (s1 : Nat) (s2 : Value) (s3 : Value) (s4 : Value) : E d 232 315 [x0, x1, x2, x3] [.int s0, .ref s1, s2, s3, s4] h = if inb s0 (alen h s1 0) = true ∨ inb s0 (alen h s1 8) = true then E d 232 316 [x0, x1, x2, x3] [.int (hI h s1 s0.toNatClampNeg), s2, s3, s4] h else none := E_gd rfl
theorem s232_316 (d : Nat) (h : AH) (x0 x1 x2 x3 : Option Value) (s0 : Int32) (s1 : Int32) (s2 : Nat) (s3 : Value) : E (d + 1) 232 316 [x0, x1, x2, x3] [.int s0, .int s1, .ref s2, s3] h = if hS h s2 = some (105, 0) then (E d 154 0 [some (.ref s2), some (.int s1), some (.int s0)] [] h).bind fun r => E (d + 1) 232 317 [x0, x1, x2, x3] (r.1.toList ++ [s3]) r.2 else none := E_callg rfl
theorem s232_317 (d : Nat) (h : AH) (x0 x1 x2 x3 : Option Value) (s0 : Int32) (s1 : Int32) : E d 232 317 [x0, x1, x2, x3] [.int s0, .int s1] h = if s1 = s0 then E d 232 1068 [x0, x1, x2, x3] [] h else E d 232 318 [x0, x1, x2, x3] [] h := E_ifc rfl
theorem s232_318 (d : Nat) (h : AH) (x0 x1 x2 x3 : Option Value)  : E d 232 318 [x0, x1, x2, x3] [] h = E d 232 319 [x0, x1, x2, x3] [.int 0] h := E_nx rfl
theorem s232_319 (d : Nat) (h : AH) (x0 x1 x2 x3 : Option Value) (s0 : Int32) : E d 232 319 [x0, x1, x2, x3] [.int s0] h = if s0 = 0 ∨ s0 = 1 then some (some (.int s0), h) else none := E_retg rfl
theorem s232_320 (d : Nat) (h : AH) (x0 x2 x3 : Option Value) (v : Nat) : E d 232 320 [x0, some (.ref v), x2, x3] [] h = E d 232 321 [x0, some (.ref v), x2, x3] [.ref v] h := E_nx rfl
theorem s232_321 (d : Nat) (h : AH) (x1 x2 x3 : Option Value) (s0 : Value) (v : Nat) : E d 232 321 [some (.ref v), x1, x2, x3] [s0] h = E d 232 322 [some (.ref v), x1, x2, x3] [.ref v, s0] h := E_nx rfl
theorem s232_322 (d : Nat) (h : AH) (x0 x1 x2 : Option Value) (s0 : Value) (s1 : Value) (v : Int32) : E d 232 322 [x0, x1, x2, some (.int v)] [s0, s1] h = E d 232 323 [x0, x1, x2, some (.int v)] [.int v, s0, s1] h := E_nx rfl
theorem s232_323 (d : Nat) (h : AH) (x0 x1 x2 x3 : Option Value) (s0 : Value) (s1 : Value) (s2 : Value) : E d 232 323 [x0, x1, x2, x3] [s0, s1, s2] h = E d 232 324 [x0, x1, x2, x3] [.int 1, s0, s1, s2] h := E_nx rfl
theorem s232_324 (d : Nat) (h : AH) (x0 x1 x2 x3 : Option Value) (s0 : Int32) (s1 : Int32) (s2 : Value) (s3 : Value) : E d 232 324 [x0, x1, x2, x3] [.int s0, .int s1, s2, s3] h = E d 232 325 [x0, x1, x2, x3] [.int (s1 + s0), s2, s3] h := E_nx rfl
theorem s232_325 (d : Nat) (h : AH) (x0 x1 x2 x3 : Option Value) (s0 : Int32) (s1 : Nat) (s2 : Value) : E d 232 325 [x0, x1, x2, x3] [.int s0, .ref s1, s2] h = if inb s0 (alen h s1 0) = true ∨ inb s0 (alen h s1 8) = true then E d 232 326 [x0, x1, x2, x3] [.int (hI h s1 s0.toNatClampNeg), s2] h else none := E_gd rfl
theorem s232_326 (d : Nat) (h : AH) (x0 x1 x2 x3 : Option Value) (s0 : Int32) (s1 : Nat) : E (d + 1) 232 326 [x0, x1, x2, x3] [.int s0, .ref s1] h = if hS h s1 = some (104, 0) then (E d 91 0 [some (.ref s1), some (.int s0)] [] h).bind fun r => E (d + 1) 232 327 [x0, x1, x2, x3] (r.1.toList ++ []) r.2 else none := E_callg rfl
theorem s232_327 (d : Nat) (h : AH) (x0 x1 x3 : Option Value) (s0 : Value) (v : Nat) : E d 232 327 [x0, x1, some (.ref v), x3] [s0] h = E d 232 328 [x0, x1, some (.ref v), x3] [.ref v, s0] h := E_nx rfl
theorem s232_328 (d : Nat) (h : AH) (x1 x2 x3 : Option Value) (s0 : Value) (s1 : Value) (v : Nat) : E d 232 328 [some (.ref v), x1, x2, x3] [s0, s1] h = E d 232 329 [some (.ref v), x1, x2, x3] [.ref v, s0, s1] h := E_nx rfl
theorem s232_329 (d : Nat) (h : AH) (x0 x1 x2 : Option Value) (s0 : Value) (s1 : Value) (s2 : Value) (v : Int32) : E d 232 329 [x0, x1, x2, some (.int v)] [s0, s1, s2] h = E d 232 330 [x0, x1, x2, some (.int v)] [.int v, s0, s1, s2] h := E_nx rfl
theorem s232_330 (d : Nat) (h : AH) (x0 x1 x2 x3 : Option Value) (s0 : Value) (s1 : Value) (s2 : Value) (s3 : Value) : E d 232 330 [x0, x1, x2, x3] [s0, s1, s2, s3] h = E d 232 331 [x0, x1, x2, x3] [.int 1, s0, s1, s2, s3] h := E_nx rfl
theorem s232_331 (d : Nat) (h : AH) (x0 x1 x2 x3 : Option Value) (s0 : Int32) (s1 : Int32) (s2 : Value) (s3 : Value) (s4 : Value) : E d 232 331 [x0, x1, x2, x3] [.int s0, .int s1, s2, s3, s4] h = E d 232 332 [x0, x1, x2, x3] [.int (s1 + s0), s2, s3, s4] h := E_nx rfl
theorem s232_332 (d : Nat) (h : AH) (x0 x1 x2 x3 : Option Value) (s0 : Int32) (s1 : Nat) (s2 : Value) (s3 : Value) : E d 232 332 [x0, x1, x2, x3] [.int s0, .ref s1, s2, s3] h = if inb s0 (alen h s1 0) = true ∨ inb s0 (alen h s1 8) = true then E d 232 333 [x0, x1, x2, x3] [.int (hI h s1 s0.toNatClampNeg), s2, s3] h else none := E_gd rfl
theorem s232_333 (d : Nat) (h : AH) (x0 x1 x2 x3 : Option Value) (s0 : Int32) (s1 : Nat) (s2 : Value) : E (d + 1) 232 333 [x0, x1, x2, x3] [.int s0, .ref s1, s2] h = if hS h s1 = some (105, 0) then (E d 156 0 [some (.ref s1), some (.int s0)] [] h).bind fun r => E (d + 1) 232 334 [x0, x1, x2, x3] (r.1.toList ++ [s2]) r.2 else none := E_callg rfl
theorem s232_334 (d : Nat) (h : AH) (x0 x1 x2 x3 : Option Value) (s0 : Int32) (s1 : Int32) : E d 232 334 [x0, x1, x2, x3] [.int s0, .int s1] h = if s1 = s0 then E d 232 1068 [x0, x1, x2, x3] [] h else E d 232 335 [x0, x1, x2, x3] [] h := E_ifc rfl
theorem s232_335 (d : Nat) (h : AH) (x0 x1 x2 x3 : Option Value)  : E d 232 335 [x0, x1, x2, x3] [] h = E d 232 336 [x0, x1, x2, x3] [.int 0] h := E_nx rfl
theorem s232_336 (d : Nat) (h : AH) (x0 x1 x2 x3 : Option Value) (s0 : Int32) : E d 232 336 [x0, x1, x2, x3] [.int s0] h = if s0 = 0 ∨ s0 = 1 then some (some (.int s0), h) else none := E_retg rfl
theorem s232_337 (d : Nat) (h : AH) (x0 x2 x3 : Option Value) (v : Nat) : E d 232 337 [x0, some (.ref v), x2, x3] [] h = E d 232 338 [x0, some (.ref v), x2, x3] [.ref v] h := E_nx rfl
theorem s232_338 (d : Nat) (h : AH) (x1 x2 x3 : Option Value) (s0 : Value) (v : Nat) : E d 232 338 [some (.ref v), x1, x2, x3] [s0] h = E d 232 339 [some (.ref v), x1, x2, x3] [.ref v, s0] h := E_nx rfl
theorem s232_339 (d : Nat) (h : AH) (x0 x1 x2 : Option Value) (s0 : Value) (s1 : Value) (v : Int32) : E d 232 339 [x0, x1, x2, some (.int v)] [s0, s1] h = E d 232 340 [x0, x1, x2, some (.int v)] [.int v, s0, s1] h := E_nx rfl
theorem s232_340 (d : Nat) (h : AH) (x0 x1 x2 x3 : Option Value) (s0 : Value) (s1 : Value) (s2 : Value) : E d 232 340 [x0, x1, x2, x3] [s0, s1, s2] h = E d 232 341 [x0, x1, x2, x3] [.int 1, s0, s1, s2] h := E_nx rfl
theorem s232_341 (d : Nat) (h : AH) (x0 x1 x2 x3 : Option Value) (s0 : Int32) (s1 : Int32) (s2 : Value) (s3 : Value) : E d 232 341 [x0, x1, x2, x3] [.int s0, .int s1, s2, s3] h = E d 232 342 [x0, x1, x2, x3] [.int (s1 + s0), s2, s3] h := E_nx rfl
theorem s232_342 (d : Nat) (h : AH) (x0 x1 x2 x3 : Option Value) (s0 : Int32) (s1 : Nat) (s2 : Value) : E d 232 342 [x0, x1, x2, x3] [.int s0, .ref s1, s2] h = if inb s0 (alen h s1 0) = true ∨ inb s0 (alen h s1 8) = true then E d 232 343 [x0, x1, x2, x3] [.int (hI h s1 s0.toNatClampNeg), s2] h else none := E_gd rfl
theorem s232_343 (d : Nat) (h : AH) (x1 x2 x3 : Option Value) (s0 : Value) (s1 : Value) (v : Nat) : E d 232 343 [some (.ref v), x1, x2, x3] [s0, s1] h = E d 232 344 [some (.ref v), x1, x2, x3] [.ref v, s0, s1] h := E_nx rfl
theorem s232_344 (d : Nat) (h : AH) (x0 x1 x2 : Option Value) (s0 : Value) (s1 : Value) (s2 : Value) (v : Int32) : E d 232 344 [x0, x1, x2, some (.int v)] [s0, s1, s2] h = E d 232 345 [x0, x1, x2, some (.int v)] [.int v, s0, s1, s2] h := E_nx rfl
theorem s232_345 (d : Nat) (h : AH) (x0 x1 x2 x3 : Option Value) (s0 : Value) (s1 : Value) (s2 : Value) (s3 : Value) : E d 232 345 [x0, x1, x2, x3] [s0, s1, s2, s3] h = E d 232 346 [x0, x1, x2, x3] [.int 2, s0, s1, s2, s3] h := E_nx rfl
theorem s232_346 (d : Nat) (h : AH) (x0 x1 x2 x3 : Option Value) (s0 : Int32) (s1 : Int32) (s2 : Value) (s3 : Value) (s4 : Value) : E d 232 346 [x0, x1, x2, x3] [.int s0, .int s1, s2, s3, s4] h = E d 232 347 [x0, x1, x2, x3] [.int (s1 + s0), s2, s3, s4] h := E_nx rfl
theorem s232_347 (d : Nat) (h : AH) (x0 x1 x2 x3 : Option Value) (s0 : Int32) (s1 : Nat) (s2 : Value) (s3 : Value) : E d 232 347 [x0, x1, x2, x3] [.int s0, .ref s1, s2, s3] h = if inb s0 (alen h s1 0) = true ∨ inb s0 (alen h s1 8) = true then E d 232 348 [x0, x1, x2, x3] [.int (hI h s1 s0.toNatClampNeg), s2, s3] h else none := E_gd rfl
theorem s232_348 (d : Nat) (h : AH) (x0 x1 x2 x3 : Option Value) (s0 : Int32) (s1 : Int32) (s2 : Nat) : E (d + 1) 232 348 [x0, x1, x2, x3] [.int s0, .int s1, .ref s2] h = if hS h s2 = some (104, 0) then (E d 92 0 [some (.ref s2), some (.int s1), some (.int s0), none] [] h).bind fun r => E (d + 1) 232 349 [x0, x1, x2, x3] (r.1.toList ++ []) r.2 else none := E_callg rfl
theorem s232_349 (d : Nat) (h : AH) (x0 x1 x3 : Option Value) (s0 : Value) (v : Nat) : E d 232 349 [x0, x1, some (.ref v), x3] [s0] h = E d 232 350 [x0, x1, some (.ref v), x3] [.ref v, s0] h := E_nx rfl
theorem s232_350 (d : Nat) (h : AH) (x1 x2 x3 : Option Value) (s0 : Value) (s1 : Value) (v : Nat) : E d 232 350 [some (.ref v), x1, x2, x3] [s0, s1] h = E d 232 351 [some (.ref v), x1, x2, x3] [.ref v, s0, s1] h := E_nx rfl
theorem s232_351 (d : Nat) (h : AH) (x0 x1 x2 : Option Value) (s0 : Value) (s1 : Value) (s2 : Value) (v : Int32) : E d 232 351 [x0, x1, x2, some (.int v)] [s0, s1, s2] h = E d 232 352 [x0, x1, x2, some (.int v)] [.int v, s0, s1, s2] h := E_nx rfl
theorem s232_352 (d : Nat) (h : AH) (x0 x1 x2 x3 : Option Value) (s0 : Value) (s1 : Value) (s2 : Value) (s3 : Value) : E d 232 352 [x0, x1, x2, x3] [s0, s1, s2, s3] h = E d 232 353 [x0, x1, x2, x3] [.int 1, s0, s1, s2, s3] h := E_nx rfl
theorem s232_353 (d : Nat) (h : AH) (x0 x1 x2 x3 : Option Value) (s0 : Int32) (s1 : Int32) (s2 : Value) (s3 : Value) (s4 : Value) : E d 232 353 [x0, x1, x2, x3] [.int s0, .int s1, s2, s3, s4] h = E d 232 354 [x0, x1, x2, x3] [.int (s1 + s0), s2, s3, s4] h := E_nx rfl
theorem s232_354 (d : Nat) (h : AH) (x0 x1 x2 x3 : Option Value) (s0 : Int32) (s1 : Nat) (s2 : Value) (s3 : Value) : E d 232 354 [x0, x1, x2, x3] [.int s0, .ref s1, s2, s3] h = if inb s0 (alen h s1 0) = true ∨ inb s0 (alen h s1 8) = true then E d 232 355 [x0, x1, x2, x3] [.int (hI h s1 s0.toNatClampNeg), s2, s3] h else none := E_gd rfl
theorem s232_355 (d : Nat) (h : AH) (x1 x2 x3 : Option Value) (s0 : Value) (s1 : Value) (s2 : Value) (v : Nat) : E d 232 355 [some (.ref v), x1, x2, x3] [s0, s1, s2] h = E d 232 356 [some (.ref v), x1, x2, x3] [.ref v, s0, s1, s2] h := E_nx rfl
theorem s232_356 (d : Nat) (h : AH) (x0 x1 x2 : Option Value) (s0 : Value) (s1 : Value) (s2 : Value) (s3 : Value) (v : Int32) : E d 232 356 [x0, x1, x2, some (.int v)] [s0, s1, s2, s3] h = E d 232 357 [x0, x1, x2, some (.int v)] [.int v, s0, s1, s2, s3] h := E_nx rfl
theorem s232_357 (d : Nat) (h : AH) (x0 x1 x2 x3 : Option Value) (s0 : Value) (s1 : Value) (s2 : Value) (s3 : Value) (s4 : Value) : E d 232 357 [x0, x1, x2, x3] [s0, s1, s2, s3, s4] h = E d 232 358 [x0, x1, x2, x3] [.int 2, s0, s1, s2, s3, s4] h := E_nx rfl
theorem s232_358 (d : Nat) (h : AH) (x0 x1 x2 x3 : Option Value) (s0 : Int32) (s1 : Int32) (s2 : Value) (s3 : Value) (s4 : Value) (s5 : Value) : E d 232 358 [x0, x1, x2, x3] [.int s0, .int s1, s2, s3, s4, s5] h = E d 232 359 [x0, x1, x2, x3] [.int (s1 + s0), s2, s3, s4, s5] h := E_nx rfl
theorem s232_359 (d : Nat) (h : AH) (x0 x1 x2 x3 : Option Value) (s0 : Int32) (s1 : Nat) (s2 : Value) (s3 : Value) (s4 : Value) : E d 232 359 [x0, x1, x2, x3] [.int s0, .ref s1, s2, s3, s4] h = if inb s0 (alen h s1 0) = true ∨ inb s0 (alen h s1 8) = true then E d 232 360 [x0, x1, x2, x3] [.int (hI h s1 s0.toNatClampNeg), s2, s3, s4] h else none := E_gd rfl
theorem s232_360 (d : Nat) (h : AH) (x0 x1 x2 x3 : Option Value) (s0 : Int32) (s1 : Int32) (s2 : Nat) (s3 : Value) : E (d + 1) 232 360 [x0, x1, x2, x3] [.int s0, .int s1, .ref s2, s3] h = if hS h s2 = some (105, 0) then (E d 157 0 [some (.ref s2), some (.int s1), some (.int s0), none] [] h).bind fun r => E (d + 1) 232 361 [x0, x1, x2, x3] (r.1.toList ++ [s3]) r.2 else none := E_callg rfl
theorem s232_361 (d : Nat) (h : AH) (x0 x1 x2 x3 : Option Value) (s0 : Int32) (s1 : Int32) : E d 232 361 [x0, x1, x2, x3] [.int s0, .int s1] h = if s1 = s0 then E d 232 1068 [x0, x1, x2, x3] [] h else E d 232 362 [x0, x1, x2, x3] [] h := E_ifc rfl
theorem s232_362 (d : Nat) (h : AH) (x0 x1 x2 x3 : Option Value)  : E d 232 362 [x0, x1, x2, x3] [] h = E d 232 363 [x0, x1, x2, x3] [.int 0] h := E_nx rfl
theorem s232_363 (d : Nat) (h : AH) (x0 x1 x2 x3 : Option Value) (s0 : Int32) : E d 232 363 [x0, x1, x2, x3] [.int s0] h = if s0 = 0 ∨ s0 = 1 then some (some (.int s0), h) else none := E_retg rfl
theorem s232_364 (d : Nat) (h : AH) (x0 x2 x3 : Option Value) (v : Nat) : E d 232 364 [x0, some (.ref v), x2, x3] [] h = E d 232 365 [x0, some (.ref v), x2, x3] [.ref v] h := E_nx rfl
theorem s232_365 (d : Nat) (h : AH) (x1 x2 x3 : Option Value) (s0 : Value) (v : Nat) : E d 232 365 [some (.ref v), x1, x2, x3] [s0] h = E d 232 366 [some (.ref v), x1, x2, x3] [.ref v, s0] h := E_nx rfl
theorem s232_366 (d : Nat) (h : AH) (x0 x1 x2 : Option Value) (s0 : Value) (s1 : Value) (v : Int32) : E d 232 366 [x0, x1, x2, some (.int v)] [s0, s1] h = E d 232 367 [x0, x1, x2, some (.int v)] [.int v, s0, s1] h := E_nx rfl
theorem s232_367 (d : Nat) (h : AH) (x0 x1 x2 x3 : Option Value) (s0 : Value) (s1 : Value) (s2 : Value) : E d 232 367 [x0, x1, x2, x3] [s0, s1, s2] h = E d 232 368 [x0, x1, x2, x3] [.int 1, s0, s1, s2] h := E_nx rfl
theorem s232_368 (d : Nat) (h : AH) (x0 x1 x2 x3 : Option Value) (s0 : Int32) (s1 : Int32) (s2 : Value) (s3 : Value) : E d 232 368 [x0, x1, x2, x3] [.int s0, .int s1, s2, s3] h = E d 232 369 [x0, x1, x2, x3] [.int (s1 + s0), s2, s3] h := E_nx rfl
theorem s232_369 (d : Nat) (h : AH) (x0 x1 x2 x3 : Option Value) (s0 : Int32) (s1 : Nat) (s2 : Value) : E d 232 369 [x0, x1, x2, x3] [.int s0, .ref s1, s2] h = if inb s0 (alen h s1 0) = true ∨ inb s0 (alen h s1 8) = true then E d 232 370 [x0, x1, x2, x3] [.int (hI h s1 s0.toNatClampNeg), s2] h else none := E_gd rfl
theorem s232_370 (d : Nat) (h : AH) (x1 x2 x3 : Option Value) (s0 : Value) (s1 : Value) (v : Nat) : E d 232 370 [some (.ref v), x1, x2, x3] [s0, s1] h = E d 232 371 [some (.ref v), x1, x2, x3] [.ref v, s0, s1] h := E_nx rfl
theorem s232_371 (d : Nat) (h : AH) (x0 x1 x2 : Option Value) (s0 : Value) (s1 : Value) (s2 : Value) (v : Int32) : E d 232 371 [x0, x1, x2, some (.int v)] [s0, s1, s2] h = E d 232 372 [x0, x1, x2, some (.int v)] [.int v, s0, s1, s2] h := E_nx rfl
theorem s232_372 (d : Nat) (h : AH) (x0 x1 x2 x3 : Option Value) (s0 : Value) (s1 : Value) (s2 : Value) (s3 : Value) : E d 232 372 [x0, x1, x2, x3] [s0, s1, s2, s3] h = E d 232 373 [x0, x1, x2, x3] [.int 2, s0, s1, s2, s3] h := E_nx rfl
theorem s232_373 (d : Nat) (h : AH) (x0 x1 x2 x3 : Option Value) (s0 : Int32) (s1 : Int32) (s2 : Value) (s3 : Value) (s4 : Value) : E d 232 373 [x0, x1, x2, x3] [.int s0, .int s1, s2, s3, s4] h = E d 232 374 [x0, x1, x2, x3] [.int (s1 + s0), s2, s3, s4] h := E_nx rfl
theorem s232_374 (d : Nat) (h : AH) (x0 x1 x2 x3 : Option Value) (s0 : Int32) (s1 : Nat) (s2 : Value) (s3 : Value) : E d 232 374 [x0, x1, x2, x3] [.int s0, .ref s1, s2, s3] h = if inb s0 (alen h s1 0) = true ∨ inb s0 (alen h s1 8) = true then E d 232 375 [x0, x1, x2, x3] [.int (hI h s1 s0.toNatClampNeg), s2, s3] h else none := E_gd rfl
theorem s232_375 (d : Nat) (h : AH) (x0 x1 x2 x3 : Option Value) (s0 : Int32) (s1 : Int32) (s2 : Nat) : E (d + 1) 232 375 [x0, x1, x2, x3] [.int s0, .int s1, .ref s2] h = if hS h s2 = some (104, 0) then (E d 93 0 [some (.ref s2), some (.int s1), some (.int s0), none] [] h).bind fun r => E (d + 1) 232 376 [x0, x1, x2, x3] (r.1.toList ++ []) r.2 else none := E_callg rfl
theorem s232_376 (d : Nat) (h : AH) (x0 x1 x3 : Option Value) (s0 : Value) (v : Nat) : E d 232 376 [x0, x1, some (.ref v), x3] [s0] h = E d 232 377 [x0, x1, some (.ref v), x3] [.ref v, s0] h := E_nx rfl
theorem s232_377 (d : Nat) (h : AH) (x1 x2 x3 : Option Value) (s0 : Value) (s1 : Value) (v : Nat) : E d 232 377 [some (.ref v), x1, x2, x3] [s0, s1] h = E d 232 378 [some (.ref v), x1, x2, x3] [.ref v, s0, s1] h := E_nx rfl
theorem s232_378 (d : Nat) (h : AH) (x0 x1 x2 : Option Value) (s0 : Value) (s1 : Value) (s2 : Value) (v : Int32) : E d 232 378 [x0, x1, x2, some (.int v)] [s0, s1, s2] h = E d 232 379 [x0, x1, x2, some (.int v)] [.int v, s0, s1, s2] h := E_nx rfl
theorem s232_379 (d : Nat) (h : AH) (x0 x1 x2 x3 : Option Value) (s0 : Value) (s1 : Value) (s2 : Value) (s3 : Value) : E d 232 379 [x0, x1, x2, x3] [s0, s1, s2, s3] h = E d 232 380 [x0, x1, x2, x3] [.int 1, s0, s1, s2, s3] h := E_nx rfl
theorem s232_380 (d : Nat) (h : AH) (x0 x1 x2 x3 : Option Value) (s0 : Int32) (s1 : Int32) (s2 : Value) (s3 : Value) (s4 : Value) : E d 232 380 [x0, x1, x2, x3] [.int s0, .int s1, s2, s3, s4] h = E d 232 381 [x0, x1, x2, x3] [.int (s1 + s0), s2, s3, s4] h := E_nx rfl
theorem s232_381 (d : Nat) (h : AH) (x0 x1 x2 x3 : Option Value) (s0 : Int32) (s1 : Nat) (s2 : Value) (s3 : Value) : E d 232 381 [x0, x1, x2, x3] [.int s0, .ref s1, s2, s3] h = if inb s0 (alen h s1 0) = true ∨ inb s0 (alen h s1 8) = true then E d 232 382 [x0, x1, x2, x3] [.int (hI h s1 s0.toNatClampNeg), s2, s3] h else none := E_gd rfl
theorem s232_382 (d : Nat) (h : AH) (x1 x2 x3 : Option Value) (s0 : Value) (s1 : Value) (s2 : Value) (v : Nat) : E d 232 382 [some (.ref v), x1, x2, x3] [s0, s1, s2] h = E d 232 383 [some (.ref v), x1, x2, x3] [.ref v, s0, s1, s2] h := E_nx rfl
theorem s232_383 (d : Nat) (h : AH) (x0 x1 x2 : Option Value) (s0 : Value) (s1 : Value) (s2 : Value) (s3 : Value) (v : Int32) : E d 232 383 [x0, x1, x2, some (.int v)] [s0, s1, s2, s3] h = E d 232 384 [x0, x1, x2, some (.int v)] [.int v, s0, s1, s2, s3] h := E_nx rfl
theorem s232_384 (d : Nat) (h : AH) (x0 x1 x2 x3 : Option Value) (s0 : Value) (s1 : Value) (s2 : Value) (s3 : Value) (s4 : Value) : E d 232 384 [x0, x1, x2, x3] [s0, s1, s2, s3, s4] h = E d 232 385 [x0, x1, x2, x3] [.int 2, s0, s1, s2, s3, s4] h := E_nx rfl
theorem s232_385 (d : Nat) (h : AH) (x0 x1 x2 x3 : Option Value) (s0 : Int32) (s1 : Int32) (s2 : Value) (s3 : Value) (s4 : Value) (s5 : Value) : E d 232 385 [x0, x1, x2, x3] [.int s0, .int s1, s2, s3, s4, s5] h = E d 232 386 [x0, x1, x2, x3] [.int (s1 + s0), s2, s3, s4, s5] h := E_nx rfl
theorem s232_386 (d : Nat) (h : AH) (x0 x1 x2 x3 : Option Value) (s0 : Int32) (s1 : Nat) (s2 : Value) (s3 : Value) (s4 : Value) : E d 232 386 [x0, x1, x2, x3] [.int s0, .ref s1, s2, s3, s4] h = if inb s0 (alen h s1 0) = true ∨ inb s0 (alen h s1 8) = true then E d 232 387 [x0, x1, x2, x3] [.int (hI h s1 s0.toNatClampNeg), s2, s3, s4] h else none := E_gd rfl
theorem s232_387 (d : Nat) (h : AH) (x0 x1 x2 x3 : Option Value) (s0 : Int32) (s1 : Int32) (s2 : Nat) (s3 : Value) : E (d + 1) 232 387 [x0, x1, x2, x3] [.int s0, .int s1, .ref s2, s3] h = if hS h s2 = some (105, 0) then (E d 158 0 [some (.ref s2), some (.int s1), some (.int s0), none] [] h).bind fun r => E (d + 1) 232 388 [x0, x1, x2, x3] (r.1.toList ++ [s3]) r.2 else none := E_callg rfl
theorem s232_388 (d : Nat) (h : AH) (x0 x1 x2 x3 : Option Value) (s0 : Int32) (s1 : Int32) : E d 232 388 [x0, x1, x2, x3] [.int s0, .int s1] h = if s1 = s0 then E d 232 1068 [x0, x1, x2, x3] [] h else E d 232 389 [x0, x1, x2, x3] [] h := E_ifc rfl
theorem s232_389 (d : Nat) (h : AH) (x0 x1 x2 x3 : Option Value)  : E d 232 389 [x0, x1, x2, x3] [] h = E d 232 390 [x0, x1, x2, x3] [.int 0] h := E_nx rfl
theorem s232_390 (d : Nat) (h : AH) (x0 x1 x2 x3 : Option Value) (s0 : Int32) : E d 232 390 [x0, x1, x2, x3] [.int s0] h = if s0 = 0 ∨ s0 = 1 then some (some (.int s0), h) else none := E_retg rfl
theorem s232_391 (d : Nat) (h : AH) (x0 x2 x3 : Option Value) (v : Nat) : E d 232 391 [x0, some (.ref v), x2, x3] [] h = E d 232 392 [x0, some (.ref v), x2, x3] [.ref v] h := E_nx rfl
theorem s232_392 (d : Nat) (h : AH) (x1 x2 x3 : Option Value) (s0 : Value) (v : Nat) : E d 232 392 [some (.ref v), x1, x2, x3] [s0] h = E d 232 393 [some (.ref v), x1, x2, x3] [.ref v, s0] h := E_nx rfl
theorem s232_393 (d : Nat) (h : AH) (x0 x1 x2 : Option Value) (s0 : Value) (s1 : Value) (v : Int32) : E d 232 393 [x0, x1, x2, some (.int v)] [s0, s1] h = E d 232 394 [x0, x1, x2, some (.int v)] [.int v, s0, s1] h := E_nx rfl
theorem s232_394 (d : Nat) (h : AH) (x0 x1 x2 x3 : Option Value) (s0 : Value) (s1 : Value) (s2 : Value) : E d 232 394 [x0, x1, x2, x3] [s0, s1, s2] h = E d 232 395 [x0, x1, x2, x3] [.int 1, s0, s1, s2] h := E_nx rfl
theorem s232_395 (d : Nat) (h : AH) (x0 x1 x2 x3 : Option Value) (s0 : Int32) (s1 : Int32) (s2 : Value) (s3 : Value) : E d 232 395 [x0, x1, x2, x3] [.int s0, .int s1, s2, s3] h = E d 232 396 [x0, x1, x2, x3] [.int (s1 + s0), s2, s3] h := E_nx rfl
theorem s232_396 (d : Nat) (h : AH) (x0 x1 x2 x3 : Option Value) (s0 : Int32) (s1 : Nat) (s2 : Value) : E d 232 396 [x0, x1, x2, x3] [.int s0, .ref s1, s2] h = if inb s0 (alen h s1 0) = true ∨ inb s0 (alen h s1 8) = true then E d 232 397 [x0, x1, x2, x3] [.int (hI h s1 s0.toNatClampNeg), s2] h else none := E_gd rfl
theorem s232_397 (d : Nat) (h : AH) (x1 x2 x3 : Option Value) (s0 : Value) (s1 : Value) (v : Nat) : E d 232 397 [some (.ref v), x1, x2, x3] [s0, s1] h = E d 232 398 [some (.ref v), x1, x2, x3] [.ref v, s0, s1] h := E_nx rfl
theorem s232_398 (d : Nat) (h : AH) (x0 x1 x2 : Option Value) (s0 : Value) (s1 : Value) (s2 : Value) (v : Int32) : E d 232 398 [x0, x1, x2, some (.int v)] [s0, s1, s2] h = E d 232 399 [x0, x1, x2, some (.int v)] [.int v, s0, s1, s2] h := E_nx rfl
theorem s232_399 (d : Nat) (h : AH) (x0 x1 x2 x3 : Option Value) (s0 : Value) (s1 : Value) (s2 : Value) (s3 : Value) : E d 232 399 [x0, x1, x2, x3] [s0, s1, s2, s3] h = E d 232 400 [x0, x1, x2, x3] [.int 2, s0, s1, s2, s3] h := E_nx rfl
theorem s232_400 (d : Nat) (h : AH) (x0 x1 x2 x3 : Option Value) (s0 : Int32) (s1 : Int32) (s2 : Value) (s3 : Value) (s4 : Value) : E d 232 400 [x0, x1, x2, x3] [.int s0, .int s1, s2, s3, s4] h = E d 232 401 [x0, x1, x2, x3] [.int (s1 + s0), s2, s3, s4] h := E_nx rfl
theorem s232_401 (d : Nat) (h : AH) (x0 x1 x2 x3 : Option Value) (s0 : Int32) (s1 : Nat) (s2 : Value) (s3 : Value) : E d 232 401 [x0, x1, x2, x3] [.int s0, .ref s1, s2, s3] h = if inb s0 (alen h s1 0) = true ∨ inb s0 (alen h s1 8) = true then E d 232 402 [x0, x1, x2, x3] [.int (hI h s1 s0.toNatClampNeg), s2, s3] h else none := E_gd rfl
theorem s232_402 (d : Nat) (h : AH) (x1 x2 x3 : Option Value) (s0 : Value) (s1 : Value) (s2 : Value) (v : Nat) : E d 232 402 [some (.ref v), x1, x2, x3] [s0, s1, s2] h = E d 232 403 [some (.ref v), x1, x2, x3] [.ref v, s0, s1, s2] h := E_nx rfl
theorem s232_403 (d : Nat) (h : AH) (x0 x1 x2 : Option Value) (s0 : Value) (s1 : Value) (s2 : Value) (s3 : Value) (v : Int32) : E d 232 403 [x0, x1, x2, some (.int v)] [s0, s1, s2, s3] h = E d 232 404 [x0, x1, x2, some (.int v)] [.int v, s0, s1, s2, s3] h := E_nx rfl
theorem s232_404 (d : Nat) (h : AH) (x0 x1 x2 x3 : Option Value) (s0 : Value) (s1 : Value) (s2 : Value) (s3 : Value) (s4 : Value) : E d 232 404 [x0, x1, x2, x3] [s0, s1, s2, s3, s4] h = E d 232 405 [x0, x1, x2, x3] [.int 3, s0, s1, s2, s3, s4] h := E_nx rfl
theorem s232_405 (d : Nat) (h : AH) (x0 x1 x2 x3 : Option Value) (s0 : Int32) (s1 : Int32) (s2 : Value) (s3 : Value) (s4 : Value) (s5 : Value) : E d 232 405 [x0, x1, x2, x3] [.int s0, .int s1, s2, s3, s4, s5] h = E d 232 406 [x0, x1, x2, x3] [.int (s1 + s0), s2, s3, s4, s5] h := E_nx rfl
theorem s232_406 (d : Nat) (h : AH) (x0 x1 x2 x3 : Option Value) (s0 : Int32) (s1 : Nat) (s2 : Value) (s3 : Value) (s4 : Value) : E d 232 406 [x0, x1, x2, x3] [.int s0, .ref s1, s2, s3, s4] h = if inb s0 (alen h s1 0) = true ∨ inb s0 (alen h s1 8) = true then E d 232 407 [x0, x1, x2, x3] [.int (hI h s1 s0.toNatClampNeg), s2, s3, s4] h else none := E_gd rfl
theorem s232_407 (d : Nat) (h : AH) (x0 x1 x2 x3 : Option Value) (s0 : Int32) (s1 : Int32) (s2 : Int32) (s3 : Nat) : E (d + 1) 232 407 [x0, x1, x2, x3] [.int s0, .int s1, .int s2, .ref s3] h = if hS h s3 = some (104, 0) then (E d 94 0 [some (.ref s3), some (.int s2), some (.int s1), some (.int s0)] [] h).bind fun r => E (d + 1) 232 408 [x0, x1, x2, x3] (r.1.toList ++ []) r.2 else none := E_callg rfl
theorem s232_408 (d : Nat) (h : AH) (x0 x1 x3 : Option Value) (s0 : Value) (v : Nat) : E d 232 408 [x0, x1, some (.ref v), x3] [s0] h = E d 232 409 [x0, x1, some (.ref v), x3] [.ref v, s0] h := E_nx rfl
theorem s232_409 (d : Nat) (h : AH) (x1 x2 x3 : Option Value) (s0 : Value) (s1 : Value) (v : Nat) : E d 232 409 [some (.ref v), x1, x2, x3] [s0, s1] h = E d 232 410 [some (.ref v), x1, x2, x3] [.ref v, s0, s1] h := E_nx rfl
theorem s232_410 (d : Nat) (h : AH) (x0 x1 x2 : Option Value) (s0 : Value) (s1 : Value) (s2 : Value) (v : Int32) : E d 232 410 [x0, x1, x2, some (.int v)] [s0, s1, s2] h = E d 232 411 [x0, x1, x2, some (.int v)] [.int v, s0, s1, s2] h := E_nx rfl
theorem s232_411 (d : Nat) (h : AH) (x0 x1 x2 x3 : Option Value) (s0 : Value) (s1 : Value) (s2 : Value) (s3 : Value) : E d 232 411 [x0, x1, x2, x3] [s0, s1, s2, s3] h = E d 232 412 [x0, x1, x2, x3] [.int 1, s0, s1, s2, s3] h := E_nx rfl
theorem s232_412 (d : Nat) (h : AH) (x0 x1 x2 x3 : Option Value) (s0 : Int32) (s1 : Int32) (s2 : Value) (s3 : Value) (s4 : Value) : E d 232 412 [x0, x1, x2, x3] [.int s0, .int s1, s2, s3, s4] h = E d 232 413 [x0, x1, x2, x3] [.int (s1 + s0), s2, s3, s4] h := E_nx rfl
theorem s232_413 (d : Nat) (h : AH) (x0 x1 x2 x3 : Option Value) (s0 : Int32) (s1 : Nat) (s2 : Value) (s3 : Value) : E d 232 413 [x0, x1, x2, x3] [.int s0, .ref s1, s2, s3] h = if inb s0 (alen h s1 0) = true ∨ inb s0 (alen h s1 8) = true then E d 232 414 [x0, x1, x2, x3] [.int (hI h s1 s0.toNatClampNeg), s2, s3] h else none := E_gd rfl
theorem s232_414 (d : Nat) (h : AH) (x1 x2 x3 : Option Value) (s0 : Value) (s1 : Value) (s2 : Value) (v : Nat) : E d 232 414 [some (.ref v), x1, x2, x3] [s0, s1, s2] h = E d 232 415 [some (.ref v), x1, x2, x3] [.ref v, s0, s1, s2] h := E_nx rfl
theorem s232_415 (d : Nat) (h : AH) (x0 x1 x2 : Option Value) (s0 : Value) (s1 : Value) (s2 : Value) (s3 : Value) (v : Int32) : E d 232 415 [x0, x1, x2, some (.int v)] [s0, s1, s2, s3] h = E d 232 416 [x0, x1, x2, some (.int v)] [.int v, s0, s1, s2, s3] h := E_nx rfl
theorem s232_416 (d : Nat) (h : AH) (x0 x1 x2 x3 : Option Value) (s0 : Value) (s1 : Value) (s2 : Value) (s3 : Value) (s4 : Value) : E d 232 416 [x0, x1, x2, x3] [s0, s1, s2, s3, s4] h = E d 232 417 [x0, x1, x2, x3] [.int 2, s0, s1, s2, s3, s4] h := E_nx rfl
theorem s232_417 (d : Nat) (h : AH) (x0 x1 x2 x3 : Option Value) (s0 : Int32) (s1 : Int32) (s2 : Value) (s3 : Value) (s4 : Value) (s5 : Value) : E d 232 417 [x0, x1, x2, x3] [.int s0, .int s1, s2, s3, s4, s5] h = E d 232 418 [x0, x1, x2, x3] [.int (s1 + s0), s2, s3, s4, s5] h := E_nx rfl
theorem s232_418 (d : Nat) (h : AH) (x0 x1 x2 x3 : Option Value) (s0 : Int32) (s1 : Nat) (s2 : Value) (s3 : Value) (s4 : Value) : E d 232 418 [x0, x1, x2, x3] [.int s0, .ref s1, s2, s3, s4] h = if inb s0 (alen h s1 0) = true ∨ inb s0 (alen h s1 8) = true then E d 232 419 [x0, x1, x2, x3] [.int (hI h s1 s0.toNatClampNeg), s2, s3, s4] h else none := E_gd rfl
theorem s232_419 (d : Nat) (h : AH) (x1 x2 x3 : Option Value) (s0 : Value) (s1 : Value) (s2 : Value) (s3 : Value) (v : Nat) : E d 232 419 [some (.ref v), x1, x2, x3] [s0, s1, s2, s3] h = E d 232 420 [some (.ref v), x1, x2, x3] [.ref v, s0, s1, s2, s3] h := E_nx rfl
theorem s232_420 (d : Nat) (h : AH) (x0 x1 x2 : Option Value) (s0 : Value) (s1 : Value) (s2 : Value) (s3 : Value) (s4 : Value) (v : Int32) : E d 232 420 [x0, x1, x2, some (.int v)] [s0, s1, s2, s3, s4] h = E d 232 421 [x0, x1, x2, some (.int v)] [.int v, s0, s1, s2, s3, s4] h := E_nx rfl
theorem s232_421 (d : Nat) (h : AH) (x0 x1 x2 x3 : Option Value) (s0 : Value) (s1 : Value) (s2 : Value) (s3 : Value) (s4 : Value) (s5 : Value) : E d 232 421 [x0, x1, x2, x3] [s0, s1, s2, s3, s4, s5] h = E d 232 422 [x0, x1, x2, x3] [.int 3, s0, s1, s2, s3, s4, s5] h := E_nx rfl
theorem s232_422 (d : Nat) (h : AH) (x0 x1 x2 x3 : Option Value) (s0 : Int32) (s1 : Int32) (s2 : Value) (s3 : Value) (s4 : Value) (s5 : Value) (s6 : Value) : E d 232 422 [x0, x1, x2, x3] [.int s0, .int s1, s2, s3, s4, s5, s6] h = E d 232 423 [x0, x1, x2, x3] [.int (s1 + s0), s2, s3, s4, s5, s6] h := E_nx rfl
theorem s232_423 (d : Nat) (h : AH) (x0 x1 x2 x3 : Option Value) (s0 : Int32) (s1 : Nat) (s2 : Value) (s3 : Value) (s4 : Value) (s5 : Value) : E d 232 423 [x0, x1, x2, x3] [.int s0, .ref s1, s2, s3, s4, s5] h = if inb s0 (alen h s1 0) = true ∨ inb s0 (alen h s1 8) = true then E d 232 424 [x0, x1, x2, x3] [.int (hI h s1 s0.toNatClampNeg), s2, s3, s4, s5] h else none := E_gd rfl
theorem s232_424 (d : Nat) (h : AH) (x0 x1 x2 x3 : Option Value) (s0 : Int32) (s1 : Int32) (s2 : Int32) (s3 : Nat) (s4 : Value) : E (d + 1) 232 424 [x0, x1, x2, x3] [.int s0, .int s1, .int s2, .ref s3, s4] h = if hS h s3 = some (105, 0) then (E d 160 0 [some (.ref s3), some (.int s2), some (.int s1), some (.int s0)] [] h).bind fun r => E (d + 1) 232 425 [x0, x1, x2, x3] (r.1.toList ++ [s4]) r.2 else none := E_callg rfl
theorem s232_425 (d : Nat) (h : AH) (x0 x1 x2 x3 : Option Value) (s0 : Int32) (s1 : Int32) : E d 232 425 [x0, x1, x2, x3] [.int s0, .int s1] h = if s1 = s0 then E d 232 1068 [x0, x1, x2, x3] [] h else E d 232 426 [x0, x1, x2, x3] [] h := E_ifc rfl
theorem s232_426 (d : Nat) (h : AH) (x0 x1 x2 x3 : Option Value)  : E d 232 426 [x0, x1, x2, x3] [] h = E d 232 427 [x0, x1, x2, x3] [.int 0] h := E_nx rfl
theorem s232_427 (d : Nat) (h : AH) (x0 x1 x2 x3 : Option Value) (s0 : Int32) : E d 232 427 [x0, x1, x2, x3] [.int s0] h = if s0 = 0 ∨ s0 = 1 then some (some (.int s0), h) else none := E_retg rfl
theorem s232_428 (d : Nat) (h : AH) (x0 x2 x3 : Option Value) (v : Nat) : E d 232 428 [x0, some (.ref v), x2, x3] [] h = E d 232 429 [x0, some (.ref v), x2, x3] [.ref v] h := E_nx rfl
theorem s232_429 (d : Nat) (h : AH) (x1 x2 x3 : Option Value) (s0 : Value) (v : Nat) : E d 232 429 [some (.ref v), x1, x2, x3] [s0] h = E d 232 430 [some (.ref v), x1, x2, x3] [.ref v, s0] h := E_nx rfl
theorem s232_430 (d : Nat) (h : AH) (x0 x1 x2 : Option Value) (s0 : Value) (s1 : Value) (v : Int32) : E d 232 430 [x0, x1, x2, some (.int v)] [s0, s1] h = E d 232 431 [x0, x1, x2, some (.int v)] [.int v, s0, s1] h := E_nx rfl
theorem s232_431 (d : Nat) (h : AH) (x0 x1 x2 x3 : Option Value) (s0 : Value) (s1 : Value) (s2 : Value) : E d 232 431 [x0, x1, x2, x3] [s0, s1, s2] h = E d 232 432 [x0, x1, x2, x3] [.int 1, s0, s1, s2] h := E_nx rfl
theorem s232_432 (d : Nat) (h : AH) (x0 x1 x2 x3 : Option Value) (s0 : Int32) (s1 : Int32) (s2 : Value) (s3 : Value) : E d 232 432 [x0, x1, x2, x3] [.int s0, .int s1, s2, s3] h = E d 232 433 [x0, x1, x2, x3] [.int (s1 + s0), s2, s3] h := E_nx rfl
theorem s232_433 (d : Nat) (h : AH) (x0 x1 x2 x3 : Option Value) (s0 : Int32) (s1 : Nat) (s2 : Value) : E d 232 433 [x0, x1, x2, x3] [.int s0, .ref s1, s2] h = if inb s0 (alen h s1 0) = true ∨ inb s0 (alen h s1 8) = true then E d 232 434 [x0, x1, x2, x3] [.int (hI h s1 s0.toNatClampNeg), s2] h else none := E_gd rfl
theorem s232_434 (d : Nat) (h : AH) (x1 x2 x3 : Option Value) (s0 : Value) (s1 : Value) (v : Nat) : E d 232 434 [some (.ref v), x1, x2, x3] [s0, s1] h = E d 232 435 [some (.ref v), x1, x2, x3] [.ref v, s0, s1] h := E_nx rfl
theorem s232_435 (d : Nat) (h : AH) (x0 x1 x2 : Option Value) (s0 : Value) (s1 : Value) (s2 : Value) (v : Int32) : E d 232 435 [x0, x1, x2, some (.int v)] [s0, s1, s2] h = E d 232 436 [x0, x1, x2, some (.int v)] [.int v, s0, s1, s2] h := E_nx rfl
theorem s232_436 (d : Nat) (h : AH) (x0 x1 x2 x3 : Option Value) (s0 : Value) (s1 : Value) (s2 : Value) (s3 : Value) : E d 232 436 [x0, x1, x2, x3] [s0, s1, s2, s3] h = E d 232 437 [x0, x1, x2, x3] [.int 2, s0, s1, s2, s3] h := E_nx rfl
theorem s232_437 (d : Nat) (h : AH) (x0 x1 x2 x3 : Option Value) (s0 : Int32) (s1 : Int32) (s2 : Value) (s3 : Value) (s4 : Value) : E d 232 437 [x0, x1, x2, x3] [.int s0, .int s1, s2, s3, s4] h = E d 232 438 [x0, x1, x2, x3] [.int (s1 + s0), s2, s3, s4] h := E_nx rfl
theorem s232_438 (d : Nat) (h : AH) (x0 x1 x2 x3 : Option Value) (s0 : Int32) (s1 : Nat) (s2 : Value) (s3 : Value) : E d 232 438 [x0, x1, x2, x3] [.int s0, .ref s1, s2, s3] h = if inb s0 (alen h s1 0) = true ∨ inb s0 (alen h s1 8) = true then E d 232 439 [x0, x1, x2, x3] [.int (hI h s1 s0.toNatClampNeg), s2, s3] h else none := E_gd rfl
theorem s232_439 (d : Nat) (h : AH) (x0 x1 x2 x3 : Option Value) (s0 : Int32) (s1 : Int32) (s2 : Nat) : E (d + 1) 232 439 [x0, x1, x2, x3] [.int s0, .int s1, .ref s2] h = if hS h s2 = some (104, 0) then (E d 95 0 [some (.ref s2), some (.int s1), some (.int s0), none] [] h).bind fun r => E (d + 1) 232 440 [x0, x1, x2, x3] (r.1.toList ++ []) r.2 else none := E_callg rfl
set_option maxRecDepth 60000 in
theorem s232_440 (d : Nat) (h : AH) (x0 x1 x3 : Option Value) (s0 : Value) (v : Nat) : E d 232 440 [x0, x1, some (.ref v), x3] [s0] h = E d 232 441 [x0, x1, some (.ref v), x3] [.ref v, s0] h := E_nx rfl
set_option maxRecDepth 60000 in
theorem s232_441 (d : Nat) (h : AH) (x1 x2 x3 : Option Value) (s0 : Value) (s1 : Value) (v : Nat) : E d 232 441 [some (.ref v), x1, x2, x3] [s0, s1] h = E d 232 442 [some (.ref v), x1, x2, x3] [.ref v, s0, s1] h := E_nx rfl
set_option maxRecDepth 60000 in
theorem s232_442 (d : Nat) (h : AH) (x0 x1 x2 : Option Value) (s0 : Value) (s1 : Value) (s2 : Value) (v : Int32) : E d 232 442 [x0, x1, x2, some (.int v)] [s0, s1, s2] h = E d 232 443 [x0, x1, x2, some (.int v)] [.int v, s0, s1, s2] h := E_nx rfl
set_option maxRecDepth 60000 in
theorem s232_443 (d : Nat) (h : AH) (x0 x1 x2 x3 : Option Value) (s0 : Value) (s1 : Value) (s2 : Value) (s3 : Value) : E d 232 443 [x0, x1, x2, x3] [s0, s1, s2, s3] h = E d 232 444 [x0, x1, x2, x3] [.int 1, s0, s1, s2, s3] h := E_nx rfl
set_option maxRecDepth 60000 in
theorem s232_444 (d : Nat) (h : AH) (x0 x1 x2 x3 : Option Value) (s0 : Int32) (s1 : Int32) (s2 : Value) (s3 : Value) (s4 : Value) : E d 232 444 [x0, x1, x2, x3] [.int s0, .int s1, s2, s3, s4] h = E d 232 445 [x0, x1, x2, x3] [.int (s1 + s0), s2, s3, s4] h := E_nx rfl
set_option maxRecDepth 60000 in
theorem s232_445 (d : Nat) (h : AH) (x0 x1 x2 x3 : Option Value) (s0 : Int32) (s1 : Nat) (s2 : Value) (s3 : Value) : E d 232 445 [x0, x1, x2, x3] [.int s0, .ref s1, s2, s3] h = if inb s0 (alen h s1 0) = true ∨ inb s0 (alen h s1 8) = true then E d 232 446 [x0, x1, x2, x3] [.int (hI h s1 s0.toNatClampNeg), s2, s3] h else none := E_gd rfl
set_option maxRecDepth 60000 in
theorem s232_446 (d : Nat) (h : AH) (x1 x2 x3 : Option Value) (s0 : Value) (s1 : Value) (s2 : Value) (v : Nat) : E d 232 446 [some (.ref v), x1, x2, x3] [s0, s1, s2] h = E d 232 447 [some (.ref v), x1, x2, x3] [.ref v, s0, s1, s2] h := E_nx rfl
set_option maxRecDepth 60000 in
theorem s232_447 (d : Nat) (h : AH) (x0 x1 x2 : Option Value) (s0 : Value) (s1 : Value) (s2 : Value) (s3 : Value) (v : Int32) : E d 232 447 [x0, x1, x2, some (.int v)] [s0, s1, s2, s3] h = E d 232 448 [x0, x1, x2, some (.int v)] [.int v, s0, s1, s2, s3] h := E_nx rfl
set_option maxRecDepth 60000 in
theorem s232_448 (d : Nat) (h : AH) (x0 x1 x2 x3 : Option Value) (s0 : Value) (s1 : Value) (s2 : Value) (s3 : Value) (s4 : Value) : E d 232 448 [x0, x1, x2, x3] [s0, s1, s2, s3, s4] h = E d 232 449 [x0, x1, x2, x3] [.int 2, s0, s1, s2, s3, s4] h := E_nx rfl
set_option maxRecDepth 60000 in
theorem s232_449 (d : Nat) (h : AH) (x0 x1 x2 x3 : Option Value) (s0 : Int32) (s1 : Int32) (s2 : Value) (s3 : Value) (s4 : Value) (s5 : Value) : E d 232 449 [x0, x1, x2, x3] [.int s0, .int s1, s2, s3, s4, s5] h = E d 232 450 [x0, x1, x2, x3] [.int (s1 + s0), s2, s3, s4, s5] h := E_nx rfl
set_option maxRecDepth 60000 in
theorem s232_450 (d : Nat) (h : AH) (x0 x1 x2 x3 : Option Value) (s0 : Int32) (s1 : Nat) (s2 : Value) (s3 : Value) (s4 : Value) : E d 232 450 [x0, x1, x2, x3] [.int s0, .ref s1, s2, s3, s4] h = if inb s0 (alen h s1 0) = true ∨ inb s0 (alen h s1 8) = true then E d 232 451 [x0, x1, x2, x3] [.int (hI h s1 s0.toNatClampNeg), s2, s3, s4] h else none := E_gd rfl
set_option maxRecDepth 60000 in
theorem s232_451 (d : Nat) (h : AH) (x0 x1 x2 x3 : Option Value) (s0 : Int32) (s1 : Int32) (s2 : Nat) (s3 : Value) : E (d + 1) 232 451 [x0, x1, x2, x3] [.int s0, .int s1, .ref s2, s3] h = if hS h s2 = some (105, 0) then (E d 162 0 [some (.ref s2), some (.int s1), some (.int s0), none, none] [] h).bind fun r => E (d + 1) 232 452 [x0, x1, x2, x3] (r.1.toList ++ [s3]) r.2 else none := E_callg rfl
set_option maxRecDepth 60000 in
theorem s232_452 (d : Nat) (h : AH) (x0 x1 x2 x3 : Option Value) (s0 : Int32) (s1 : Int32) : E d 232 452 [x0, x1, x2, x3] [.int s0, .int s1] h = if s1 = s0 then E d 232 1068 [x0, x1, x2, x3] [] h else E d 232 453 [x0, x1, x2, x3] [] h := E_ifc rfl
set_option maxRecDepth 60000 in
theorem s232_453 (d : Nat) (h : AH) (x0 x1 x2 x3 : Option Value)  : E d 232 453 [x0, x1, x2, x3] [] h = E d 232 454 [x0, x1, x2, x3] [.int 0] h := E_nx rfl
set_option maxRecDepth 60000 in
theorem s232_454 (d : Nat) (h : AH) (x0 x1 x2 x3 : Option Value) (s0 : Int32) : E d 232 454 [x0, x1, x2, x3] [.int s0] h = if s0 = 0 ∨ s0 = 1 then some (some (.int s0), h) else none := E_retg rfl
set_option maxRecDepth 60000 in
theorem s232_455 (d : Nat) (h : AH) (x0 x2 x3 : Option Value) (v : Nat) : E d 232 455 [x0, some (.ref v), x2, x3] [] h = E d 232 456 [x0, some (.ref v), x2, x3] [.ref v] h := E_nx rfl
set_option maxRecDepth 60000 in
theorem s232_456 (d : Nat) (h : AH) (x1 x2 x3 : Option Value) (s0 : Value) (v : Nat) : E d 232 456 [some (.ref v), x1, x2, x3] [s0] h = E d 232 457 [some (.ref v), x1, x2, x3] [.ref v, s0] h := E_nx rfl
set_option maxRecDepth 60000 in
theorem s232_457 (d : Nat) (h : AH) (x0 x1 x2 : Option Value) (s0 : Value) (s1 : Value) (v : Int32) : E d 232 457 [x0, x1, x2, some (.int v)] [s0, s1] h = E d 232 458 [x0, x1, x2, some (.int v)] [.int v, s0, s1] h := E_nx rfl
set_option maxRecDepth 60000 in
theorem s232_458 (d : Nat) (h : AH) (x0 x1 x2 x3 : Option Value) (s0 : Value) (s1 : Value) (s2 : Value) : E d 232 458 [x0, x1, x2, x3] [s0, s1, s2] h = E d 232 459 [x0, x1, x2, x3] [.int 1, s0, s1, s2] h := E_nx rfl
set_option maxRecDepth 60000 in
theorem s232_459 (d : Nat) (h : AH) (x0 x1 x2 x3 : Option Value) (s0 : Int32) (s1 : Int32) (s2 : Value) (s3 : Value) : E d 232 459 [x0, x1, x2, x3] [.int s0, .int s1, s2, s3] h = E d 232 460 [x0, x1, x2, x3] [.int (s1 + s0), s2, s3] h := E_nx rfl
set_option maxRecDepth 60000 in
theorem s232_460 (d : Nat) (h : AH) (x0 x1 x2 x3 : Option Value) (s0 : Int32) (s1 : Nat) (s2 : Value) : E d 232 460 [x0, x1, x2, x3] [.int s0, .ref s1, s2] h = if inb s0 (alen h s1 0) = true ∨ inb s0 (alen h s1 8) = true then E d 232 461 [x0, x1, x2, x3] [.int (hI h s1 s0.toNatClampNeg), s2] h else none := E_gd rfl
set_option maxRecDepth 60000 in
theorem s232_461 (d : Nat) (h : AH) (x0 x1 x2 x3 : Option Value) (s0 : Int32) (s1 : Nat) : E (d + 1) 232 461 [x0, x1, x2, x3] [.int s0, .ref s1] h = if hS h s1 = some (104, 0) then (E d 96 0 [some (.ref s1), some (.int s0)] [] h).bind fun r => E (d + 1) 232 462 [x0, x1, x2, x3] (r.1.toList ++ []) r.2 else none := E_callg rfl
set_option maxRecDepth 60000 in
theorem s232_462 (d : Nat) (h : AH) (x0 x1 x3 : Option Value) (s0 : Value) (v : Nat) : E d 232 462 [x0, x1, some (.ref v), x3] [s0] h = E d 232 463 [x0, x1, some (.ref v), x3] [.ref v, s0] h := E_nx rfl
set_option maxRecDepth 60000 in
theorem s232_463 (d : Nat) (h : AH) (x1 x2 x3 : Option Value) (s0 : Value) (s1 : Value) (v : Nat) : E d 232 463 [some (.ref v), x1, x2, x3] [s0, s1] h = E d 232 464 [some (.ref v), x1, x2, x3] [.ref v, s0, s1] h := E_nx rfl
set_option maxRecDepth 60000 in
theorem s232_464 (d : Nat) (h : AH) (x0 x1 x2 : Option Value) (s0 : Value) (s1 : Value) (s2 : Value) (v : Int32) : E d 232 464 [x0, x1, x2, some (.int v)] [s0, s1, s2] h = E d 232 465 [x0, x1, x2, some (.int v)] [.int v, s0, s1, s2] h := E_nx rfl
set_option maxRecDepth 60000 in
theorem s232_465 (d : Nat) (h : AH) (x0 x1 x2 x3 : Option Value) (s0 : Value) (s1 : Value) (s2 : Value) (s3 : Value) : E d 232 465 [x0, x1, x2, x3] [s0, s1, s2, s3] h = E d 232 466 [x0, x1, x2, x3] [.int 1, s0, s1, s2, s3] h := E_nx rfl
set_option maxRecDepth 60000 in
theorem s232_466 (d : Nat) (h : AH) (x0 x1 x2 x3 : Option Value) (s0 : Int32) (s1 : Int32) (s2 : Value) (s3 : Value) (s4 : Value) : E d 232 466 [x0, x1, x2, x3] [.int s0, .int s1, s2, s3, s4] h = E d 232 467 [x0, x1, x2, x3] [.int (s1 + s0), s2, s3, s4] h := E_nx rfl
set_option maxRecDepth 60000 in
theorem s232_467 (d : Nat) (h : AH) (x0 x1 x2 x3 : Option Value) (s0 : Int32) (s1 : Nat) (s2 : Value) (s3 : Value) : E d 232 467 [x0, x1, x2, x3] [.int s0, .ref s1, s2, s3] h = if inb s0 (alen h s1 0) = true ∨ inb s0 (alen h s1 8) = true then E d 232 468 [x0, x1, x2, x3] [.int (hI h s1 s0.toNatClampNeg), s2, s3] h else none := E_gd rfl
set_option maxRecDepth 60000 in
theorem s232_468 (d : Nat) (h : AH) (x0 x1 x2 x3 : Option Value) (s0 : Int32) (s1 : Nat) (s2 : Value) : E (d + 1) 232 468 [x0, x1, x2, x3] [.int s0, .ref s1, s2] h = if hS h s1 = some (105, 0) then (E d 163 0 [some (.ref s1), some (.int s0)] [] h).bind fun r => E (d + 1) 232 469 [x0, x1, x2, x3] (r.1.toList ++ [s2]) r.2 else none := E_callg rfl
set_option maxRecDepth 60000 in
theorem s232_469 (d : Nat) (h : AH) (x0 x1 x2 x3 : Option Value) (s0 : Int32) (s1 : Int32) : E d 232 469 [x0, x1, x2, x3] [.int s0, .int s1] h = if s1 = s0 then E d 232 1068 [x0, x1, x2, x3] [] h else E d 232 470 [x0, x1, x2, x3] [] h := E_ifc rfl
set_option maxRecDepth 60000 in
theorem s232_470 (d : Nat) (h : AH) (x0 x1 x2 x3 : Option Value)  : E d 232 470 [x0, x1, x2, x3] [] h = E d 232 471 [x0, x1, x2, x3] [.int 0] h := E_nx rfl
set_option maxRecDepth 60000 in
theorem s232_471 (d : Nat) (h : AH) (x0 x1 x2 x3 : Option Value) (s0 : Int32) : E d 232 471 [x0, x1, x2, x3] [.int s0] h = if s0 = 0 ∨ s0 = 1 then some (some (.int s0), h) else none := E_retg rfl
set_option maxRecDepth 60000 in
theorem s232_472 (d : Nat) (h : AH) (x0 x2 x3 : Option Value) (v : Nat) : E d 232 472 [x0, some (.ref v), x2, x3] [] h = E d 232 473 [x0, some (.ref v), x2, x3] [.ref v] h := E_nx rfl
set_option maxRecDepth 60000 in
theorem s232_473 (d : Nat) (h : AH) (x0 x1 x2 x3 : Option Value) (s0 : Nat) : E (d + 1) 232 473 [x0, x1, x2, x3] [.ref s0] h = if hS h s0 = some (104, 0) then (E d 97 0 [some (.ref s0), none] [] h).bind fun r => E (d + 1) 232 474 [x0, x1, x2, x3] (r.1.toList ++ []) r.2 else none := E_callg rfl
set_option maxRecDepth 60000 in
theorem s232_474 (d : Nat) (h : AH) (x0 x1 x3 : Option Value) (s0 : Value) (v : Nat) : E d 232 474 [x0, x1, some (.ref v), x3] [s0] h = E d 232 475 [x0, x1, some (.ref v), x3] [.ref v, s0] h := E_nx rfl
set_option maxRecDepth 60000 in
theorem s232_475 (d : Nat) (h : AH) (x0 x1 x2 x3 : Option Value) (s0 : Nat) (s1 : Value) : E (d + 1) 232 475 [x0, x1, x2, x3] [.ref s0, s1] h = if hS h s0 = some (105, 0) then (E d 164 0 [some (.ref s0), none] [] h).bind fun r => E (d + 1) 232 476 [x0, x1, x2, x3] (r.1.toList ++ [s1]) r.2 else none := E_callg rfl
set_option maxRecDepth 60000 in
theorem s232_476 (d : Nat) (h : AH) (x0 x1 x2 x3 : Option Value) (s0 : Int32) (s1 : Int32) : E d 232 476 [x0, x1, x2, x3] [.int s0, .int s1] h = if s1 = s0 then E d 232 1068 [x0, x1, x2, x3] [] h else E d 232 477 [x0, x1, x2, x3] [] h := E_ifc rfl
set_option maxRecDepth 60000 in
theorem s232_477 (d : Nat) (h : AH) (x0 x1 x2 x3 : Option Value)  : E d 232 477 [x0, x1, x2, x3] [] h = E d 232 478 [x0, x1, x2, x3] [.int 0] h := E_nx rfl
set_option maxRecDepth 60000 in
theorem s232_478 (d : Nat) (h : AH) (x0 x1 x2 x3 : Option Value) (s0 : Int32) : E d 232 478 [x0, x1, x2, x3] [.int s0] h = if s0 = 0 ∨ s0 = 1 then some (some (.int s0), h) else none := E_retg rfl
set_option maxRecDepth 60000 in
theorem s232_479 (d : Nat) (h : AH) (x0 x2 x3 : Option Value) (v : Nat) : E d 232 479 [x0, some (.ref v), x2, x3] [] h = E d 232 480 [x0, some (.ref v), x2, x3] [.ref v] h := E_nx rfl
set_option maxRecDepth 60000 in
theorem s232_480 (d : Nat) (h : AH) (x0 x1 x2 x3 : Option Value) (s0 : Nat) : E (d + 1) 232 480 [x0, x1, x2, x3] [.ref s0] h = if hS h s0 = some (104, 0) then (E d 98 0 [some (.ref s0), none] [] h).bind fun r => E (d + 1) 232 481 [x0, x1, x2, x3] (r.1.toList ++ []) r.2 else none := E_callg rfl
set_option maxRecDepth 60000 in
theorem s232_481 (d : Nat) (h : AH) (x0 x1 x3 : Option Value) (s0 : Value) (v : Nat) : E d 232 481 [x0, x1, some (.ref v), x3] [s0] h = E d 232 482 [x0, x1, some (.ref v), x3] [.ref v, s0] h := E_nx rfl
set_option maxRecDepth 60000 in
theorem s232_482 (d : Nat) (h : AH) (x0 x1 x2 x3 : Option Value) (s0 : Nat) (s1 : Value) : E (d + 1) 232 482 [x0, x1, x2, x3] [.ref s0, s1] h = if hS h s0 = some (105, 0) then (E d 177 0 [some (.ref s0), none, none] [] h).bind fun r => E (d + 1) 232 483 [x0, x1, x2, x3] (r.1.toList ++ [s1]) r.2 else none := E_callg rfl
set_option maxRecDepth 60000 in
theorem s232_483 (d : Nat) (h : AH) (x0 x1 x2 x3 : Option Value) (s0 : Int32) (s1 : Int32) : E d 232 483 [x0, x1, x2, x3] [.int s0, .int s1] h = if s1 = s0 then E d 232 1068 [x0, x1, x2, x3] [] h else E d 232 484 [x0, x1, x2, x3] [] h := E_ifc rfl
set_option maxRecDepth 60000 in
theorem s232_484 (d : Nat) (h : AH) (x0 x1 x2 x3 : Option Value)  : E d 232 484 [x0, x1, x2, x3] [] h = E d 232 485 [x0, x1, x2, x3] [.int 0] h := E_nx rfl
set_option maxRecDepth 60000 in
theorem s232_485 (d : Nat) (h : AH) (x0 x1 x2 x3 : Option Value) (s0 : Int32) : E d 232 485 [x0, x1, x2, x3] [.int s0] h = if s0 = 0 ∨ s0 = 1 then some (some (.int s0), h) else none := E_retg rfl
set_option maxRecDepth 60000 in
theorem s232_486 (d : Nat) (h : AH) (x0 x2 x3 : Option Value) (v : Nat) : E d 232 486 [x0, some (.ref v), x2, x3] [] h = E d 232 487 [x0, some (.ref v), x2, x3] [.ref v] h := E_nx rfl
set_option maxRecDepth 60000 in
theorem s232_487 (d : Nat) (h : AH) (x1 x2 x3 : Option Value) (s0 : Value) (v : Nat) : E d 232 487 [some (.ref v), x1, x2, x3] [s0] h = E d 232 488 [some (.ref v), x1, x2, x3] [.ref v, s0] h := E_nx rfl
set_option maxRecDepth 60000 in
theorem s232_488 (d : Nat) (h : AH) (x0 x1 x2 : Option Value) (s0 : Value) (s1 : Value) (v : Int32) : E d 232 488 [x0, x1, x2, some (.int v)] [s0, s1] h = E d 232 489 [x0, x1, x2, some (.int v)] [.int v, s0, s1] h := E_nx rfl
set_option maxRecDepth 60000 in
theorem s232_489 (d : Nat) (h : AH) (x0 x1 x2 x3 : Option Value) (s0 : Value) (s1 : Value) (s2 : Value) : E d 232 489 [x0, x1, x2, x3] [s0, s1, s2] h = E d 232 490 [x0, x1, x2, x3] [.int 1, s0, s1, s2] h := E_nx rfl
set_option maxRecDepth 60000 in
theorem s232_490 (d : Nat) (h : AH) (x0 x1 x2 x3 : Option Value) (s0 : Int32) (s1 : Int32) (s2 : Value) (s3 : Value) : E d 232 490 [x0, x1, x2, x3] [.int s0, .int s1, s2, s3] h = E d 232 491 [x0, x1, x2, x3] [.int (s1 + s0), s2, s3] h := E_nx rfl
set_option maxRecDepth 60000 in
theorem s232_491 (d : Nat) (h : AH) (x0 x1 x2 x3 : Option Value) (s0 : Int32) (s1 : Nat) (s2 : Value) : E d 232 491 [x0, x1, x2, x3] [.int s0, .ref s1, s2] h = if inb s0 (alen h s1 0) = true ∨ inb s0 (alen h s1 8) = true then E d 232 492 [x0, x1, x2, x3] [.int (hI h s1 s0.toNatClampNeg), s2] h else none := E_gd rfl
set_option maxRecDepth 60000 in
theorem s232_492 (d : Nat) (h : AH) (x1 x2 x3 : Option Value) (s0 : Value) (s1 : Value) (v : Nat) : E d 232 492 [some (.ref v), x1, x2, x3] [s0, s1] h = E d 232 493 [some (.ref v), x1, x2, x3] [.ref v, s0, s1] h := E_nx rfl
set_option maxRecDepth 60000 in
theorem s232_493 (d : Nat) (h : AH) (x0 x1 x2 : Option Value) (s0 : Value) (s1 : Value) (s2 : Value) (v : Int32) : E d 232 493 [x0, x1, x2, some (.int v)] [s0, s1, s2] h = E d 232 494 [x0, x1, x2, some (.int v)] [.int v, s0, s1, s2] h := E_nx rfl
set_option maxRecDepth 60000 in
theorem s232_494 (d : Nat) (h : AH) (x0 x1 x2 x3 : Option Value) (s0 : Value) (s1 : Value) (s2 : Value) (s3 : Value) : E d 232 494 [x0, x1, x2, x3] [s0, s1, s2, s3] h = E d 232 495 [x0, x1, x2, x3] [.int 2, s0, s1, s2, s3] h := E_nx rfl
set_option maxRecDepth 60000 in
theorem s232_495 (d : Nat) (h : AH) (x0 x1 x2 x3 : Option Value) (s0 : Int32) (s1 : Int32) (s2 : Value) (s3 : Value) (s4 : Value) : E d 232 495 [x0, x1, x2, x3] [.int s0, .int s1, s2, s3, s4] h = E d 232 496 [x0, x1, x2, x3] [.int (s1 + s0), s2, s3, s4] h := E_nx rfl
set_option maxRecDepth 60000 in
theorem s232_496 (d : Nat) (h : AH) (x0 x1 x2 x3 : Option Value) (s0 : Int32) (s1 : Nat) (s2 : Value) (s3 : Value) : E d 232 496 [x0, x1, x2, x3] [.int s0, .ref s1, s2, s3] h = if inb s0 (alen h s1 0) = true ∨ inb s0 (alen h s1 8) = true then E d 232 497 [x0, x1, x2, x3] [.int (hI h s1 s0.toNatClampNeg), s2, s3] h else none := E_gd rfl
set_option maxRecDepth 60000 in
theorem s232_497 (d : Nat) (h : AH) (x0 x1 x2 x3 : Option Value) (s0 : Int32) (s1 : Int32) (s2 : Nat) : E (d + 1) 232 497 [x0, x1, x2, x3] [.int s0, .int s1, .ref s2] h = if hS h s2 = some (104, 0) then (E d 99 0 [some (.ref s2), some (.int s1), some (.int s0)] [] h).bind fun r => E (d + 1) 232 498 [x0, x1, x2, x3] (r.1.toList ++ []) r.2 else none := E_callg rfl
set_option maxRecDepth 60000 in
theorem s232_498 (d : Nat) (h : AH) (x0 x1 x3 : Option Value) (s0 : Value) (v : Nat) : E d 232 498 [x0, x1, some (.ref v), x3] [s0] h = E d 232 499 [x0, x1, some (.ref v), x3] [.ref v, s0] h := E_nx rfl
set_option maxRecDepth 60000 in
theorem s232_499 (d : Nat) (h : AH) (x1 x2 x3 : Option Value) (s0 : Value) (s1 : Value) (v : Nat) : E d 232 499 [some (.ref v), x1, x2, x3] [s0, s1] h = E d 232 500 [some (.ref v), x1, x2, x3] [.ref v, s0, s1] h := E_nx rfl
set_option maxRecDepth 60000 in
theorem s232_500 (d : Nat) (h : AH) (x0 x1 x2 : Option Value) (s0 : Value) (s1 : Value) (s2 : Value) (v : Int32) : E d 232 500 [x0, x1, x2, some (.int v)] [s0, s1, s2] h = E d 232 501 [x0, x1, x2, some (.int v)] [.int v, s0, s1, s2] h := E_nx rfl
set_option maxRecDepth 60000 in
theorem s232_501 (d : Nat) (h : AH) (x0 x1 x2 x3 : Option Value) (s0 : Value) (s1 : Value) (s2 : Value) (s3 : Value) : E d 232 501 [x0, x1, x2, x3] [s0, s1, s2, s3] h = E d 232 502 [x0, x1, x2, x3] [.int 1, s0, s1, s2, s3] h := E_nx rfl
set_option maxRecDepth 60000 in
theorem s232_502 (d : Nat) (h : AH) (x0 x1 x2 x3 : Option Value) (s0 : Int32) (s1 : Int32) (s2 : Value) (s3 : Value) (s4 : Value) : E d 232 502 [x0, x1, x2, x3] [.int s0, .int s1, s2, s3, s4] h = E d 232 503 [x0, x1, x2, x3] [.int (s1 + s0), s2, s3, s4] h := E_nx rfl
set_option maxRecDepth 60000 in
theorem s232_503 (d : Nat) (h : AH) (x0 x1 x2 x3 : Option Value) (s0 : Int32) (s1 : Nat) (s2 : Value) (s3 : Value) : E d 232 503 [x0, x1, x2, x3] [.int s0, .ref s1, s2, s3] h = if inb s0 (alen h s1 0) = true ∨ inb s0 (alen h s1 8) = true then E d 232 504 [x0, x1, x2, x3] [.int (hI h s1 s0.toNatClampNeg), s2, s3] h else none := E_gd rfl
set_option maxRecDepth 60000 in
theorem s232_504 (d : Nat) (h : AH) (x1 x2 x3 : Option Value) (s0 : Value) (s1 : Value) (s2 : Value) (v : Nat) : E d 232 504 [some (.ref v), x1, x2, x3] [s0, s1, s2] h = E d 232 505 [some (.ref v), x1, x2, x3] [.ref v, s0, s1, s2] h := E_nx rfl
set_option maxRecDepth 60000 in
theorem s232_505 (d : Nat) (h : AH) (x0 x1 x2 : Option Value) (s0 : Value) (s1 : Value) (s2 : Value) (s3 : Value) (v : Int32) : E d 232 505 [x0, x1, x2, some (.int v)] [s0, s1, s2, s3] h = E d 232 506 [x0, x1, x2, some (.int v)] [.int v, s0, s1, s2, s3] h := E_nx rfl
set_option maxRecDepth 60000 in
theorem s232_506 (d : Nat) (h : AH) (x0 x1 x2 x3 : Option Value) (s0 : Value) (s1 : Value) (s2 : Value) (s3 : Value) (s4 : Value) : E d 232 506 [x0, x1, x2, x3] [s0, s1, s2, s3, s4] h = E d 232 507 [x0, x1, x2, x3] [.int 2, s0, s1, s2, s3, s4] h := E_nx rfl
set_option maxRecDepth 60000 in
theorem s232_507 (d : Nat) (h : AH) (x0 x1 x2 x3 : Option Value) (s0 : Int32) (s1 : Int32) (s2 : Value) (s3 : Value) (s4 : Value) (s5 : Value) : E d 232 507 [x0, x1, x2, x3] [.int s0, .int s1, s2, s3, s4, s5] h = E d 232 508 [x0, x1, x2, x3] [.int (s1 + s0), s2, s3, s4, s5] h := E_nx rfl
set_option maxRecDepth 60000 in
theorem s232_508 (d : Nat) (h : AH) (x0 x1 x2 x3 : Option Value) (s0 : Int32) (s1 : Nat) (s2 : Value) (s3 : Value) (s4 : Value) : E d 232 508 [x0, x1, x2, x3] [.int s0, .ref s1, s2, s3, s4] h = if inb s0 (alen h s1 0) = true ∨ inb s0 (alen h s1 8) = true then E d 232 509 [x0, x1, x2, x3] [.int (hI h s1 s0.toNatClampNeg), s2, s3, s4] h else none := E_gd rfl
set_option maxRecDepth 60000 in
theorem s232_509 (d : Nat) (h : AH) (x0 x1 x2 x3 : Option Value) (s0 : Int32) (s1 : Int32) (s2 : Nat) (s3 : Value) : E (d + 1) 232 509 [x0, x1, x2, x3] [.int s0, .int s1, .ref s2, s3] h = if hS h s2 = some (105, 0) then (E d 178 0 [some (.ref s2), some (.int s1), some (.int s0)] [] h).bind fun r => E (d + 1) 232 510 [x0, x1, x2, x3] (r.1.toList ++ [s3]) r.2 else none := E_callg rfl
set_option maxRecDepth 60000 in
theorem s232_510 (d : Nat) (h : AH) (x0 x1 x2 x3 : Option Value) (s0 : Int32) (s1 : Int32) : E d 232 510 [x0, x1, x2, x3] [.int s0, .int s1] h = if s1 = s0 then E d 232 1068 [x0, x1, x2, x3] [] h else E d 232 511 [x0, x1, x2, x3] [] h := E_ifc rfl
set_option maxRecDepth 60000 in
theorem s232_511 (d : Nat) (h : AH) (x0 x1 x2 x3 : Option Value)  : E d 232 511 [x0, x1, x2, x3] [] h = E d 232 512 [x0, x1, x2, x3] [.int 0] h := E_nx rfl
set_option maxRecDepth 60000 in
theorem s232_512 (d : Nat) (h : AH) (x0 x1 x2 x3 : Option Value) (s0 : Int32) : E d 232 512 [x0, x1, x2, x3] [.int s0] h = if s0 = 0 ∨ s0 = 1 then some (some (.int s0), h) else none := E_retg rfl
set_option maxRecDepth 60000 in
theorem s232_513 (d : Nat) (h : AH) (x0 x2 x3 : Option Value) (v : Nat) : E d 232 513 [x0, some (.ref v), x2, x3] [] h = E d 232 514 [x0, some (.ref v), x2, x3] [.ref v] h := E_nx rfl
set_option maxRecDepth 60000 in
theorem s232_514 (d : Nat) (h : AH) (x1 x2 x3 : Option Value) (s0 : Value) (v : Nat) : E d 232 514 [some (.ref v), x1, x2, x3] [s0] h = E d 232 515 [some (.ref v), x1, x2, x3] [.ref v, s0] h := E_nx rfl
set_option maxRecDepth 60000 in
theorem s232_515 (d : Nat) (h : AH) (x0 x1 x2 : Option Value) (s0 : Value) (s1 : Value) (v : Int32) : E d 232 515 [x0, x1, x2, some (.int v)] [s0, s1] h = E d 232 516 [x0, x1, x2, some (.int v)] [.int v, s0, s1] h := E_nx rfl
set_option maxRecDepth 60000 in
theorem s232_516 (d : Nat) (h : AH) (x0 x1 x2 x3 : Option Value) (s0 : Value) (s1 : Value) (s2 : Value) : E d 232 516 [x0, x1, x2, x3] [s0, s1, s2] h = E d 232 517 [x0, x1, x2, x3] [.int 1, s0, s1, s2] h := E_nx rfl
set_option maxRecDepth 60000 in
theorem s232_517 (d : Nat) (h : AH) (x0 x1 x2 x3 : Option Value) (s0 : Int32) (s1 : Int32) (s2 : Value) (s3 : Value) : E d 232 517 [x0, x1, x2, x3] [.int s0, .int s1, s2, s3] h = E d 232 518 [x0, x1, x2, x3] [.int (s1 + s0), s2, s3] h := E_nx rfl
set_option maxRecDepth 60000 in
theorem s232_518 (d : Nat) (h : AH) (x0 x1 x2 x3 : Option Value) (s0 : Int32) (s1 : Nat) (s2 : Value) : E d 232 518 [x0, x1, x2, x3] [.int s0, .ref s1, s2] h = if inb s0 (alen h s1 0) = true ∨ inb s0 (alen h s1 8) = true then E d 232 519 [x0, x1, x2, x3] [.int (hI h s1 s0.toNatClampNeg), s2] h else none := E_gd rfl
set_option maxRecDepth 60000 in
theorem s232_519 (d : Nat) (h : AH) (x1 x2 x3 : Option Value) (s0 : Value) (s1 : Value) (v : Nat) : E d 232 519 [some (.ref v), x1, x2, x3] [s0, s1] h = E d 232 520 [some (.ref v), x1, x2, x3] [.ref v, s0, s1] h := E_nx rfl
set_option maxRecDepth 60000 in
theorem s232_520 (d : Nat) (h : AH) (x0 x1 x2 : Option Value) (s0 : Value) (s1 : Value) (s2 : Value) (v : Int32) : E d 232 520 [x0, x1, x2, some (.int v)] [s0, s1, s2] h = E d 232 521 [x0, x1, x2, some (.int v)] [.int v, s0, s1, s2] h := E_nx rfl
set_option maxRecDepth 60000 in
theorem s232_521 (d : Nat) (h : AH) (x0 x1 x2 x3 : Option Value) (s0 : Value) (s1 : Value) (s2 : Value) (s3 : Value) : E d 232 521 [x0, x1, x2, x3] [s0, s1, s2, s3] h = E d 232 522 [x0, x1, x2, x3] [.int 2, s0, s1, s2, s3] h := E_nx rfl
set_option maxRecDepth 60000 in
theorem s232_522 (d : Nat) (h : AH) (x0 x1 x2 x3 : Option Value) (s0 : Int32) (s1 : Int32) (s2 : Value) (s3 : Value) (s4 : Value) : E d 232 522 [x0, x1, x2, x3] [.int s0, .int s1, s2, s3, s4] h = E d 232 523 [x0, x1, x2, x3] [.int (s1 + s0), s2, s3, s4] h := E_nx rfl
set_option maxRecDepth 60000 in
theorem s232_523 (d : Nat) (h : AH) (x0 x1 x2 x3 : Option Value) (s0 : Int32) (s1 : Nat) (s2 : Value) (s3 : Value) : E d 232 523 [x0, x1, x2, x3] [.int s0, .ref s1, s2, s3] h = if inb s0 (alen h s1 0) = true ∨ inb s0 (alen h s1 8) = true then E d 232 524 [x0, x1, x2, x3] [.int (hI h s1 s0.toNatClampNeg), s2, s3] h else none := E_gd rfl
set_option maxRecDepth 60000 in
theorem s232_524 (d : Nat) (h : AH) (x0 x1 x2 x3 : Option Value) (s0 : Int32) (s1 : Int32) (s2 : Nat) : E (d + 1) 232 524 [x0, x1, x2, x3] [.int s0, .int s1, .ref s2] h = if hS h s2 = some (104, 0) then (E d 100 0 [some (.ref s2), some (.int s1), some (.int s0)] [] h).bind fun r => E (d + 1) 232 525 [x0, x1, x2, x3] (r.1.toList ++ []) r.2 else none := E_callg rfl
set_option maxRecDepth 60000 in
theorem s232_525 (d : Nat) (h : AH) (x0 x1 x3 : Option Value) (s0 : Value) (v : Nat) : E d 232 525 [x0, x1, some (.ref v), x3] [s0] h = E d 232 526 [x0, x1, some (.ref v), x3] [.ref v, s0] h := E_nx rfl
set_option maxRecDepth 60000 in
theorem s232_526 (d : Nat) (h : AH) (x1 x2 x3 : Option Value) (s0 : Value) (s1 : Value) (v : Nat) : E d 232 526 [some (.ref v), x1, x2, x3] [s0, s1] h = E d 232 527 [some (.ref v), x1, x2, x3] [.ref v, s0, s1] h := E_nx rfl
set_option maxRecDepth 60000 in
theorem s232_527 (d : Nat) (h : AH) (x0 x1 x2 : Option Value) (s0 : Value) (s1 : Value) (s2 : Value) (v : Int32) : E d 232 527 [x0, x1, x2, some (.int v)] [s0, s1, s2] h = E d 232 528 [x0, x1, x2, some (.int v)] [.int v, s0, s1, s2] h := E_nx rfl
set_option maxRecDepth 60000 in
theorem s232_528 (d : Nat) (h : AH) (x0 x1 x2 x3 : Option Value) (s0 : Value) (s1 : Value) (s2 : Value) (s3 : Value) : E d 232 528 [x0, x1, x2, x3] [s0, s1, s2, s3] h = E d 232 529 [x0, x1, x2, x3] [.int 1, s0, s1, s2, s3] h := E_nx rfl
set_option maxRecDepth 60000 in
theorem s232_529 (d : Nat) (h : AH) (x0 x1 x2 x3 : Option Value) (s0 : Int32) (s1 : Int32) (s2 : Value) (s3 : Value) (s4 : Value) : E d 232 529 [x0, x1, x2, x3] [.int s0, .int s1, s2, s3, s4] h = E d 232 530 [x0, x1, x2, x3] [.int (s1 + s0), s2, s3, s4] h := E_nx rfl
set_option maxRecDepth 60000 in
theorem s232_530 (d : Nat) (h : AH) (x0 x1 x2 x3 : Option Value) (s0 : Int32) (s1 : Nat) (s2 : Value) (s3 : Value) : E d 232 530 [x0, x1, x2, x3] [.int s0, .ref s1, s2, s3] h = if inb s0 (alen h s1 0) = true ∨ inb s0 (alen h s1 8) = true then E d 232 531 [x0, x1, x2, x3] [.int (hI h s1 s0.toNatClampNeg), s2, s3] h else none := E_gd rfl
set_option maxRecDepth 60000 in
theorem s232_531 (d : Nat) (h : AH) (x1 x2 x3 : Option Value) (s0 : Value) (s1 : Value) (s2 : Value) (v : Nat) : E d 232 531 [some (.ref v), x1, x2, x3] [s0, s1, s2] h = E d 232 532 [some (.ref v), x1, x2, x3] [.ref v, s0, s1, s2] h := E_nx rfl
set_option maxRecDepth 60000 in
theorem s232_532 (d : Nat) (h : AH) (x0 x1 x2 : Option Value) (s0 : Value) (s1 : Value) (s2 : Value) (s3 : Value) (v : Int32) : E d 232 532 [x0, x1, x2, some (.int v)] [s0, s1, s2, s3] h = E d 232 533 [x0, x1, x2, some (.int v)] [.int v, s0, s1, s2, s3] h := E_nx rfl
set_option maxRecDepth 60000 in
theorem s232_533 (d : Nat) (h : AH) (x0 x1 x2 x3 : Option Value) (s0 : Value) (s1 : Value) (s2 : Value) (s3 : Value) (s4 : Value) : E d 232 533 [x0, x1, x2, x3] [s0, s1, s2, s3, s4] h = E d 232 534 [x0, x1, x2, x3] [.int 2, s0, s1, s2, s3, s4] h := E_nx rfl
set_option maxRecDepth 60000 in
theorem s232_534 (d : Nat) (h : AH) (x0 x1 x2 x3 : Option Value) (s0 : Int32) (s1 : Int32) (s2 : Value) (s3 : Value) (s4 : Value) (s5 : Value) : E d 232 534 [x0, x1, x2, x3] [.int s0, .int s1, s2, s3, s4, s5] h = E d 232 535 [x0, x1, x2, x3] [.int (s1 + s0), s2, s3, s4, s5] h := E_nx rfl
set_option maxRecDepth 60000 in
theorem s232_535 (d : Nat) (h : AH) (x0 x1 x2 x3 : Option Value) (s0 : Int32) (s1 : Nat) (s2 : Value) (s3 : Value) (s4 : Value) : E d 232 535 [x0, x1, x2, x3] [.int s0, .ref s1, s2, s3, s4] h = if inb s0 (alen h s1 0) = true ∨ inb s0 (alen h s1 8) = true then E d 232 536 [x0, x1, x2, x3] [.int (hI h s1 s0.toNatClampNeg), s2, s3, s4] h else none := E_gd rfl
set_option maxRecDepth 60000 in
theorem s232_536 (d : Nat) (h : AH) (x0 x1 x2 x3 : Option Value) (s0 : Int32) (s1 : Int32) (s2 : Nat) (s3 : Value) : E (d + 1) 232 536 [x0, x1, x2, x3] [.int s0, .int s1, .ref s2, s3] h = if hS h s2 = some (105, 0) then (E d 179 0 [some (.ref s2), some (.int s1), some (.int s0)] [] h).bind fun r => E (d + 1) 232 537 [x0, x1, x2, x3] (r.1.toList ++ [s3]) r.2 else none := E_callg rfl
set_option maxRecDepth 60000 in
theorem s232_537 (d : Nat) (h : AH) (x0 x1 x2 x3 : Option Value) (s0 : Int32) (s1 : Int32) : E d 232 537 [x0, x1, x2, x3] [.int s0, .int s1] h = if s1 = s0 then E d 232 1068 [x0, x1, x2, x3] [] h else E d 232 538 [x0, x1, x2, x3] [] h := E_ifc rfl
set_option maxRecDepth 60000 in
theorem s232_538 (d : Nat) (h : AH) (x0 x1 x2 x3 : Option Value)  : E d 232 538 [x0, x1, x2, x3] [] h = E d 232 539 [x0, x1, x2, x3] [.int 0] h := E_nx rfl
set_option maxRecDepth 60000 in
theorem s232_539 (d : Nat) (h : AH) (x0 x1 x2 x3 : Option Value) (s0 : Int32) : E d 232 539 [x0, x1, x2, x3] [.int s0] h = if s0 = 0 ∨ s0 = 1 then some (some (.int s0), h) else none := E_retg rfl
set_option maxRecDepth 60000 in
theorem s232_540 (d : Nat) (h : AH) (x0 x2 x3 : Option Value) (v : Nat) : E d 232 540 [x0, some (.ref v), x2, x3] [] h = E d 232 541 [x0, some (.ref v), x2, x3] [.ref v] h := E_nx rfl
set_option maxRecDepth 60000 in
theorem s232_541 (d : Nat) (h : AH) (x1 x2 x3 : Option Value) (s0 : Value) (v : Nat) : E d 232 541 [some (.ref v), x1, x2, x3] [s0] h = E d 232 542 [some (.ref v), x1, x2, x3] [.ref v, s0] h := E_nx rfl
set_option maxRecDepth 60000 in
theorem s232_542 (d : Nat) (h : AH) (x0 x1 x2 : Option Value) (s0 : Value) (s1 : Value) (v : Int32) : E d 232 542 [x0, x1, x2, some (.int v)] [s0, s1] h = E d 232 543 [x0, x1, x2, some (.int v)] [.int v, s0, s1] h := E_nx rfl
set_option maxRecDepth 60000 in
theorem s232_543 (d : Nat) (h : AH) (x0 x1 x2 x3 : Option Value) (s0 : Value) (s1 : Value) (s2 : Value) : E d 232 543 [x0, x1, x2, x3] [s0, s1, s2] h = E d 232 544 [x0, x1, x2, x3] [.int 1, s0, s1, s2] h := E_nx rfl
set_option maxRecDepth 60000 in
theorem s232_544 (d : Nat) (h : AH) (x0 x1 x2 x3 : Option Value) (s0 : Int32) (s1 : Int32) (s2 : Value) (s3 : Value) : E d 232 544 [x0, x1, x2, x3] [.int s0, .int s1, s2, s3] h = E d 232 545 [x0, x1, x2, x3] [.int (s1 + s0), s2, s3] h := E_nx rfl
set_option maxRecDepth 60000 in
theorem s232_545 (d : Nat) (h : AH) (x0 x1 x2 x3 : Option Value) (s0 : Int32) (s1 : Nat) (s2 : Value) : E d 232 545 [x0, x1, x2, x3] [.int s0, .ref s1, s2] h = if inb s0 (alen h s1 0) = true ∨ inb s0 (alen h s1 8) = true then E d 232 546 [x0, x1, x2, x3] [.int (hI h s1 s0.toNatClampNeg), s2] h else none := E_gd rfl
set_option maxRecDepth 60000 in
theorem s232_546 (d : Nat) (h : AH) (x0 x1 x2 x3 : Option Value) (s0 : Int32) (s1 : Nat) : E (d + 1) 232 546 [x0, x1, x2, x3] [.int s0, .ref s1] h = if hS h s1 = some (104, 0) then (E d 101 0 [some (.ref s1), some (.int s0), none, none] [] h).bind fun r => E (d + 1) 232 547 [x0, x1, x2, x3] (r.1.toList ++ []) r.2 else none := E_callg rfl
set_option maxRecDepth 60000 in
theorem s232_547 (d : Nat) (h : AH) (x0 x1 x3 : Option Value) (s0 : Value) (v : Nat) : E d 232 547 [x0, x1, some (.ref v), x3] [s0] h = E d 232 548 [x0, x1, some (.ref v), x3] [.ref v, s0] h := E_nx rfl
set_option maxRecDepth 60000 in
theorem s232_548 (d : Nat) (h : AH) (x1 x2 x3 : Option Value) (s0 : Value) (s1 : Value) (v : Nat) : E d 232 548 [some (.ref v), x1, x2, x3] [s0, s1] h = E d 232 549 [some (.ref v), x1, x2, x3] [.ref v, s0, s1] h := E_nx rfl
set_option maxRecDepth 60000 in
theorem s232_549 (d : Nat) (h : AH) (x0 x1 x2 : Option Value) (s0 : Value) (s1 : Value) (s2 : Value) (v : Int32) : E d 232 549 [x0, x1, x2, some (.int v)] [s0, s1, s2] h = E d 232 550 [x0, x1, x2, some (.int v)] [.int v, s0, s1, s2] h := E_nx rfl
set_option maxRecDepth 60000 in
theorem s232_550 (d : Nat) (h : AH) (x0 x1 x2 x3 : Option Value) (s0 : Value) (s1 : Value) (s2 : Value) (s3 : Value) : E d 232 550 [x0, x1, x2, x3] [s0, s1, s2, s3] h = E d 232 551 [x0, x1, x2, x3] [.int 1, s0, s1, s2, s3] h := E_nx rfl
set_option maxRecDepth 60000 in
theorem s232_551 (d : Nat) (h : AH) (x0 x1 x2 x3 : Option Value) (s0 : Int32) (s1 : Int32) (s2 : Value) (s3 : Value) (s4 : Value) : E d 232 551 [x0, x1, x2, x3] [.int s0, .int s1, s2, s3, s4] h = E d 232 552 [x0, x1, x2, x3] [.int (s1 + s0), s2, s3, s4] h := E_nx rfl
set_option maxRecDepth 60000 in
theorem s232_552 (d : Nat) (h : AH) (x0 x1 x2 x3 : Option Value) (s0 : Int32) (s1 : Nat) (s2 : Value) (s3 : Value) : E d 232 552 [x0, x1, x2, x3] [.int s0, .ref s1, s2, s3] h = if inb s0 (alen h s1 0) = true ∨ inb s0 (alen h s1 8) = true then E d 232 553 [x0, x1, x2, x3] [.int (hI h s1 s0.toNatClampNeg), s2, s3] h else none := E_gd rfl
set_option maxRecDepth 60000 in
theorem s232_553 (d : Nat) (h : AH) (x0 x1 x2 x3 : Option Value) (s0 : Int32) (s1 : Nat) (s2 : Value) : E (d + 1) 232 553 [x0, x1, x2, x3] [.int s0, .ref s1, s2] h = if hS h s1 = some (105, 0) then (E d 185 0 [some (.ref s1), some (.int s0), none, none] [] h).bind fun r => E (d + 1) 232 554 [x0, x1, x2, x3] (r.1.toList ++ [s2]) r.2 else none := E_callg rfl
set_option maxRecDepth 60000 in
theorem s232_554 (d : Nat) (h : AH) (x0 x1 x2 x3 : Option Value) (s0 : Int32) (s1 : Int32) : E d 232 554 [x0, x1, x2, x3] [.int s0, .int s1] h = if s1 = s0 then E d 232 1068 [x0, x1, x2, x3] [] h else E d 232 555 [x0, x1, x2, x3] [] h := E_ifc rfl
set_option maxRecDepth 60000 in
theorem s232_555 (d : Nat) (h : AH) (x0 x1 x2 x3 : Option Value)  : E d 232 555 [x0, x1, x2, x3] [] h = E d 232 556 [x0, x1, x2, x3] [.int 0] h := E_nx rfl
set_option maxRecDepth 60000 in
theorem s232_556 (d : Nat) (h : AH) (x0 x1 x2 x3 : Option Value) (s0 : Int32) : E d 232 556 [x0, x1, x2, x3] [.int s0] h = if s0 = 0 ∨ s0 = 1 then some (some (.int s0), h) else none := E_retg rfl
set_option maxRecDepth 60000 in
theorem s232_557 (d : Nat) (h : AH) (x0 x2 x3 : Option Value) (v : Nat) : E d 232 557 [x0, some (.ref v), x2, x3] [] h = E d 232 558 [x0, some (.ref v), x2, x3] [.ref v] h := E_nx rfl
set_option maxRecDepth 60000 in
theorem s232_558 (d : Nat) (h : AH) (x0 x1 x2 x3 : Option Value) (s0 : Nat) : E (d + 1) 232 558 [x0, x1, x2, x3] [.ref s0] h = if hS h s0 = some (104, 0) then (E d 102 0 [some (.ref s0), none, none] [] h).bind fun r => E (d + 1) 232 559 [x0, x1, x2, x3] (r.1.toList ++ []) r.2 else none := E_callg rfl
set_option maxRecDepth 60000 in
theorem s232_559 (d : Nat) (h : AH) (x0 x1 x3 : Option Value) (s0 : Value) (v : Nat) : E d 232 559 [x0, x1, some (.ref v), x3] [s0] h = E d 232 560 [x0, x1, some (.ref v), x3] [.ref v, s0] h := E_nx rfl
set_option maxRecDepth 60000 in
theorem s232_560 (d : Nat) (h : AH) (x0 x1 x2 x3 : Option Value) (s0 : Nat) (s1 : Value) : E (d + 1) 232 560 [x0, x1, x2, x3] [.ref s0, s1] h = if hS h s0 = some (105, 0) then (E d 186 0 [some (.ref s0), none, none] [] h).bind fun r => E (d + 1) 232 561 [x0, x1, x2, x3] (r.1.toList ++ [s1]) r.2 else none := E_callg rfl
set_option maxRecDepth 60000 in
theorem s232_561 (d : Nat) (h : AH) (x0 x1 x2 x3 : Option Value) (s0 : Int32) (s1 : Int32) : E d 232 561 [x0, x1, x2, x3] [.int s0, .int s1] h = if s1 = s0 then E d 232 1068 [x0, x1, x2, x3] [] h else E d 232 562 [x0, x1, x2, x3] [] h := E_ifc rfl
set_option maxRecDepth 60000 in
theorem s232_562 (d : Nat) (h : AH) (x0 x1 x2 x3 : Option Value)  : E d 232 562 [x0, x1, x2, x3] [] h = E d 232 563 [x0, x1, x2, x3] [.int 0] h := E_nx rfl
set_option maxRecDepth 60000 in
theorem s232_563 (d : Nat) (h : AH) (x0 x1 x2 x3 : Option Value) (s0 : Int32) : E d 232 563 [x0, x1, x2, x3] [.int s0] h = if s0 = 0 ∨ s0 = 1 then some (some (.int s0), h) else none := E_retg rfl
set_option maxRecDepth 60000 in
theorem s232_564 (d : Nat) (h : AH) (x0 x2 x3 : Option Value) (v : Nat) : E d 232 564 [x0, some (.ref v), x2, x3] [] h = E d 232 565 [x0, some (.ref v), x2, x3] [.ref v] h := E_nx rfl
set_option maxRecDepth 60000 in
theorem s232_565 (d : Nat) (h : AH) (x1 x2 x3 : Option Value) (s0 : Value) (v : Nat) : E d 232 565 [some (.ref v), x1, x2, x3] [s0] h = E d 232 566 [some (.ref v), x1, x2, x3] [.ref v, s0] h := E_nx rfl
set_option maxRecDepth 60000 in
theorem s232_566 (d : Nat) (h : AH) (x0 x1 x2 : Option Value) (s0 : Value) (s1 : Value) (v : Int32) : E d 232 566 [x0, x1, x2, some (.int v)] [s0, s1] h = E d 232 567 [x0, x1, x2, some (.int v)] [.int v, s0, s1] h := E_nx rfl
set_option maxRecDepth 60000 in
theorem s232_567 (d : Nat) (h : AH) (x0 x1 x2 x3 : Option Value) (s0 : Value) (s1 : Value) (s2 : Value) : E d 232 567 [x0, x1, x2, x3] [s0, s1, s2] h = E d 232 568 [x0, x1, x2, x3] [.int 1, s0, s1, s2] h := E_nx rfl
set_option maxRecDepth 60000 in
theorem s232_568 (d : Nat) (h : AH) (x0 x1 x2 x3 : Option Value) (s0 : Int32) (s1 : Int32) (s2 : Value) (s3 : Value) : E d 232 568 [x0, x1, x2, x3] [.int s0, .int s1, s2, s3] h = E d 232 569 [x0, x1, x2, x3] [.int (s1 + s0), s2, s3] h := E_nx rfl
set_option maxRecDepth 60000 in
theorem s232_569 (d : Nat) (h : AH) (x0 x1 x2 x3 : Option Value) (s0 : Int32) (s1 : Nat) (s2 : Value) : E d 232 569 [x0, x1, x2, x3] [.int s0, .ref s1, s2] h = if inb s0 (alen h s1 0) = true ∨ inb s0 (alen h s1 8) = true then E d 232 570 [x0, x1, x2, x3] [.int (hI h s1 s0.toNatClampNeg), s2] h else none := E_gd rfl
set_option maxRecDepth 60000 in
theorem s232_570 (d : Nat) (h : AH) (x0 x1 x2 x3 : Option Value) (s0 : Int32) (s1 : Nat) : E (d + 1) 232 570 [x0, x1, x2, x3] [.int s0, .ref s1] h = if hS h s1 = some (104, 0) then (E d 103 0 [some (.ref s1), some (.int s0)] [] h).bind fun r => E (d + 1) 232 571 [x0, x1, x2, x3] (r.1.toList ++ []) r.2 else none := E_callg rfl
set_option maxRecDepth 60000 in
theorem s232_571 (d : Nat) (h : AH) (x0 x1 x3 : Option Value) (s0 : Value) (v : Nat) : E d 232 571 [x0, x1, some (.ref v), x3] [s0] h = E d 232 572 [x0, x1, some (.ref v), x3] [.ref v, s0] h := E_nx rfl
set_option maxRecDepth 60000 in
theorem s232_572 (d : Nat) (h : AH) (x1 x2 x3 : Option Value) (s0 : Value) (s1 : Value) (v : Nat) : E d 232 572 [some (.ref v), x1, x2, x3] [s0, s1] h = E d 232 573 [some (.ref v), x1, x2, x3] [.ref v, s0, s1] h := E_nx rfl
set_option maxRecDepth 60000 in
theorem s232_573 (d : Nat) (h : AH) (x0 x1 x2 : Option Value) (s0 : Value) (s1 : Value) (s2 : Value) (v : Int32) : E d 232 573 [x0, x1, x2, some (.int v)] [s0, s1, s2] h = E d 232 574 [x0, x1, x2, some (.int v)] [.int v, s0, s1, s2] h := E_nx rfl
set_option maxRecDepth 60000 in
theorem s232_574 (d : Nat) (h : AH) (x0 x1 x2 x3 : Option Value) (s0 : Value) (s1 : Value) (s2 : Value) (s3 : Value) : E d 232 574 [x0, x1, x2, x3] [s0, s1, s2, s3] h = E d 232 575 [x0, x1, x2, x3] [.int 1, s0, s1, s2, s3] h := E_nx rfl
set_option maxRecDepth 60000 in
theorem s232_575 (d : Nat) (h : AH) (x0 x1 x2 x3 : Option Value) (s0 : Int32) (s1 : Int32) (s2 : Value) (s3 : Value) (s4 : Value) : E d 232 575 [x0, x1, x2, x3] [.int s0, .int s1, s2, s3, s4] h = E d 232 576 [x0, x1, x2, x3] [.int (s1 + s0), s2, s3, s4] h := E_nx rfl
set_option maxRecDepth 60000 in
theorem s232_576 (d : Nat) (h : AH) (x0 x1 x2 x3 : Option Value) (s0 : Int32) (s1 : Nat) (s2 : Value) (s3 : Value) : E d 232 576 [x0, x1, x2, x3] [.int s0, .ref s1, s2, s3] h = if inb s0 (alen h s1 0) = true ∨ inb s0 (alen h s1 8) = true then E d 232 577 [x0, x1, x2, x3] [.int (hI h s1 s0.toNatClampNeg), s2, s3] h else none := E_gd rfl
set_option maxRecDepth 60000 in
theorem s232_577 (d : Nat) (h : AH) (x0 x1 x2 x3 : Option Value) (s0 : Int32) (s1 : Nat) (s2 : Value) : E (d + 1) 232 577 [x0, x1, x2, x3] [.int s0, .ref s1, s2] h = if hS h s1 = some (105, 0) then (E d 187 0 [some (.ref s1), some (.int s0)] [] h).bind fun r => E (d + 1) 232 578 [x0, x1, x2, x3] (r.1.toList ++ [s2]) r.2 else none := E_callg rfl
set_option maxRecDepth 60000 in
theorem s232_578 (d : Nat) (h : AH) (x0 x1 x2 x3 : Option Value) (s0 : Int32) (s1 : Int32) : E d 232 578 [x0, x1, x2, x3] [.int s0, .int s1] h = if s1 = s0 then E d 232 1068 [x0, x1, x2, x3] [] h else E d 232 579 [x0, x1, x2, x3] [] h := E_ifc rfl
set_option maxRecDepth 60000 in
theorem s232_579 (d : Nat) (h : AH) (x0 x1 x2 x3 : Option Value)  : E d 232 579 [x0, x1, x2, x3] [] h = E d 232 580 [x0, x1, x2, x3] [.int 0] h := E_nx rfl
set_option maxRecDepth 60000 in
theorem s232_580 (d : Nat) (h : AH) (x0 x1 x2 x3 : Option Value) (s0 : Int32) : E d 232 580 [x0, x1, x2, x3] [.int s0] h = if s0 = 0 ∨ s0 = 1 then some (some (.int s0), h) else none := E_retg rfl
set_option maxRecDepth 60000 in
theorem s232_581 (d : Nat) (h : AH) (x0 x2 x3 : Option Value) (v : Nat) : E d 232 581 [x0, some (.ref v), x2, x3] [] h = E d 232 582 [x0, some (.ref v), x2, x3] [.ref v] h := E_nx rfl
set_option maxRecDepth 60000 in
theorem s232_582 (d : Nat) (h : AH) (x1 x2 x3 : Option Value) (s0 : Value) (v : Nat) : E d 232 582 [some (.ref v), x1, x2, x3] [s0] h = E d 232 583 [some (.ref v), x1, x2, x3] [.ref v, s0] h := E_nx rfl
set_option maxRecDepth 60000 in
theorem s232_583 (d : Nat) (h : AH) (x0 x1 x2 : Option Value) (s0 : Value) (s1 : Value) (v : Int32) : E d 232 583 [x0, x1, x2, some (.int v)] [s0, s1] h = E d 232 584 [x0, x1, x2, some (.int v)] [.int v, s0, s1] h := E_nx rfl
set_option maxRecDepth 60000 in
theorem s232_584 (d : Nat) (h : AH) (x0 x1 x2 x3 : Option Value) (s0 : Value) (s1 : Value) (s2 : Value) : E d 232 584 [x0, x1, x2, x3] [s0, s1, s2] h = E d 232 585 [x0, x1, x2, x3] [.int 1, s0, s1, s2] h := E_nx rfl
set_option maxRecDepth 60000 in
theorem s232_585 (d : Nat) (h : AH) (x0 x1 x2 x3 : Option Value) (s0 : Int32) (s1 : Int32) (s2 : Value) (s3 : Value) : E d 232 585 [x0, x1, x2, x3] [.int s0, .int s1, s2, s3] h = E d 232 586 [x0, x1, x2, x3] [.int (s1 + s0), s2, s3] h := E_nx rfl
set_option maxRecDepth 60000 in
theorem s232_586 (d : Nat) (h : AH) (x0 x1 x2 x3 : Option Value) (s0 : Int32) (s1 : Nat) (s2 : Value) : E d 232 586 [x0, x1, x2, x3] [.int s0, .ref s1, s2] h = if inb s0 (alen h s1 0) = true ∨ inb s0 (alen h s1 8) = true then E d 232 587 [x0, x1, x2, x3] [.int (hI h s1 s0.toNatClampNeg), s2] h else none := E_gd rfl
set_option maxRecDepth 60000 in
theorem s232_587 (d : Nat) (h : AH) (x1 x2 x3 : Option Value) (s0 : Value) (s1 : Value) (v : Nat) : E d 232 587 [some (.ref v), x1, x2, x3] [s0, s1] h = E d 232 588 [some (.ref v), x1, x2, x3] [.ref v, s0, s1] h := E_nx rfl
set_option maxRecDepth 60000 in
theorem s232_588 (d : Nat) (h : AH) (x0 x1 x2 : Option Value) (s0 : Value) (s1 : Value) (s2 : Value) (v : Int32) : E d 232 588 [x0, x1, x2, some (.int v)] [s0, s1, s2] h = E d 232 589 [x0, x1, x2, some (.int v)] [.int v, s0, s1, s2] h := E_nx rfl
set_option maxRecDepth 60000 in
theorem s232_589 (d : Nat) (h : AH) (x0 x1 x2 x3 : Option Value) (s0 : Value) (s1 : Value) (s2 : Value) (s3 : Value) : E d 232 589 [x0, x1, x2, x3] [s0, s1, s2, s3] h = E d 232 590 [x0, x1, x2, x3] [.int 2, s0, s1, s2, s3] h := E_nx rfl
set_option maxRecDepth 60000 in
theorem s232_590 (d : Nat) (h : AH) (x0 x1 x2 x3 : Option Value) (s0 : Int32) (s1 : Int32) (s2 : Value) (s3 : Value) (s4 : Value) : E d 232 590 [x0, x1, x2, x3] [.int s0, .int s1, s2, s3, s4] h = E d 232 591 [x0, x1, x2, x3] [.int (s1 + s0), s2, s3, s4] h := E_nx rfl
set_option maxRecDepth 60000 in
theorem s232_591 (d : Nat) (h : AH) (x0 x1 x2 x3 : Option Value) (s0 : Int32) (s1 : Nat) (s2 : Value) (s3 : Value) : E d 232 591 [x0, x1, x2, x3] [.int s0, .ref s1, s2, s3] h = if inb s0 (alen h s1 0) = true ∨ inb s0 (alen h s1 8) = true then E d 232 592 [x0, x1, x2, x3] [.int (hI h s1 s0.toNatClampNeg), s2, s3] h else none := E_gd rfl
set_option maxRecDepth 60000 in
theorem s232_592 (d : Nat) (h : AH) (x0 x1 x2 x3 : Option Value) (s0 : Int32) (s1 : Int32) (s2 : Nat) : E (d + 1) 232 592 [x0, x1, x2, x3] [.int s0, .int s1, .ref s2] h = if hS h s2 = some (104, 0) then (E d 104 0 [some (.ref s2), some (.int s1), some (.int s0), none] [] h).bind fun r => E (d + 1) 232 593 [x0, x1, x2, x3] (r.1.toList ++ []) r.2 else none := E_callg rfl
set_option maxRecDepth 60000 in
theorem s232_593 (d : Nat) (h : AH) (x0 x1 x3 : Option Value) (s0 : Value) (v : Nat) : E d 232 593 [x0, x1, some (.ref v), x3] [s0] h = E d 232 594 [x0, x1, some (.ref v), x3] [.ref v, s0] h := E_nx rfl
set_option maxRecDepth 60000 in
theorem s232_594 (d : Nat) (h : AH) (x1 x2 x3 : Option Value) (s0 : Value) (s1 : Value) (v : Nat) : E d 232 594 [some (.ref v), x1, x2, x3] [s0, s1] h = E d 232 595 [some (.ref v), x1, x2, x3] [.ref v, s0, s1] h := E_nx rfl
set_option maxRecDepth 60000 in
theorem s232_595 (d : Nat) (h : AH) (x0 x1 x2 : Option Value) (s0 : Value) (s1 : Value) (s2 : Value) (v : Int32) : E d 232 595 [x0, x1, x2, some (.int v)] [s0, s1, s2] h = E d 232 596 [x0, x1, x2, some (.int v)] [.int v, s0, s1, s2] h := E_nx rfl
set_option maxRecDepth 60000 in
theorem s232_596 (d : Nat) (h : AH) (x0 x1 x2 x3 : Option Value) (s0 : Value) (s1 : Value) (s2 : Value) (s3 : Value) : E d 232 596 [x0, x1, x2, x3] [s0, s1, s2, s3] h = E d 232 597 [x0, x1, x2, x3] [.int 1, s0, s1, s2, s3] h := E_nx rfl
set_option maxRecDepth 60000 in
theorem s232_597 (d : Nat) (h : AH) (x0 x1 x2 x3 : Option Value) (s0 : Int32) (s1 : Int32) (s2 : Value) (s3 : Value) (s4 : Value) : E d 232 597 [x0, x1, x2, x3] [.int s0, .int s1, s2, s3, s4] h = E d 232 598 [x0, x1, x2, x3] [.int (s1 + s0), s2, s3, s4] h := E_nx rfl
set_option maxRecDepth 60000 in
theorem s232_598 (d : Nat) (h : AH) (x0 x1 x2 x3 : Option Value) (s0 : Int32) (s1 : Nat) (s2 : Value) (s3 : Value) : E d 232 598 [x0, x1, x2, x3] [.int s0, .ref s1, s2, s3] h = if inb s0 (alen h s1 0) = true ∨ inb s0 (alen h s1 8) = true then E d 232 599 [x0, x1, x2, x3] [.int (hI h s1 s0.toNatClampNeg), s2, s3] h else none := E_gd rfl
set_option maxRecDepth 60000 in
theorem s232_599 (d : Nat) (h : AH) (x1 x2 x3 : Option Value) (s0 : Value) (s1 : Value) (s2 : Value) (v : Nat) : E d 232 599 [some (.ref v), x1, x2, x3] [s0, s1, s2] h = E d 232 600 [some (.ref v), x1, x2, x3] [.ref v, s0, s1, s2] h := E_nx rfl
set_option maxRecDepth 60000 in
theorem s232_600 (d : Nat) (h : AH) (x0 x1 x2 : Option Value) (s0 : Value) (s1 : Value) (s2 : Value) (s3 : Value) (v : Int32) : E d 232 600 [x0, x1, x2, some (.int v)] [s0, s1, s2, s3] h = E d 232 601 [x0, x1, x2, some (.int v)] [.int v, s0, s1, s2, s3] h := E_nx rfl
set_option maxRecDepth 60000 in
theorem s232_601 (d : Nat) (h : AH) (x0 x1 x2 x3 : Option Value) (s0 : Value) (s1 : Value) (s2 : Value) (s3 : Value) (s4 : Value) : E d 232 601 [x0, x1, x2, x3] [s0, s1, s2, s3, s4] h = E d 232 602 [x0, x1, x2, x3] [.int 2, s0, s1, s2, s3, s4] h := E_nx rfl
set_option maxRecDepth 60000 in
theorem s232_602 (d : Nat) (h : AH) (x0 x1 x2 x3 : Option Value) (s0 : Int32) (s1 : Int32) (s2 : Value) (s3 : Value) (s4 : Value) (s5 : Value) : E d 232 602 [x0, x1, x2, x3] [.int s0, .int s1, s2, s3, s4, s5] h = E d 232 603 [x0, x1, x2, x3] [.int (s1 + s0), s2, s3, s4, s5] h := E_nx rfl
set_option maxRecDepth 60000 in
theorem s232_603 (d : Nat) (h : AH) (x0 x1 x2 x3 : Option Value) (s0 : Int32) (s1 : Nat) (s2 : Value) (s3 : Value) (s4 : Value) : E d 232 603 [x0, x1, x2, x3] [.int s0, .ref s1, s2, s3, s4] h = if inb s0 (alen h s1 0) = true ∨ inb s0 (alen h s1 8) = true then E d 232 604 [x0, x1, x2, x3] [.int (hI h s1 s0.toNatClampNeg), s2, s3, s4] h else none := E_gd rfl
set_option maxRecDepth 60000 in
theorem s232_604 (d : Nat) (h : AH) (x0 x1 x2 x3 : Option Value) (s0 : Int32) (s1 : Int32) (s2 : Nat) (s3 : Value) : E (d + 1) 232 604 [x0, x1, x2, x3] [.int s0, .int s1, .ref s2, s3] h = if hS h s2 = some (105, 0) then (E d 190 0 [some (.ref s2), some (.int s1), some (.int s0), none] [] h).bind fun r => E (d + 1) 232 605 [x0, x1, x2, x3] (r.1.toList ++ [s3]) r.2 else none := E_callg rfl
set_option maxRecDepth 60000 in
theorem s232_605 (d : Nat) (h : AH) (x0 x1 x2 x3 : Option Value) (s0 : Int32) (s1 : Int32) : E d 232 605 [x0, x1, x2, x3] [.int s0, .int s1] h = if s1 = s0 then E d 232 1068 [x0, x1, x2, x3] [] h else E d 232 606 [x0, x1, x2, x3] [] h := E_ifc rfl
set_option maxRecDepth 60000 in
theorem s232_606 (d : Nat) (h : AH) (x0 x1 x2 x3 : Option Value)  : E d 232 606 [x0, x1, x2, x3] [] h = E d 232 607 [x0, x1, x2, x3] [.int 0] h := E_nx rfl
set_option maxRecDepth 60000 in
theorem s232_607 (d : Nat) (h : AH) (x0 x1 x2 x3 : Option Value) (s0 : Int32) : E d 232 607 [x0, x1, x2, x3] [.int s0] h = if s0 = 0 ∨ s0 = 1 then some (some (.int s0), h) else none := E_retg rfl
set_option maxRecDepth 60000 in
theorem s232_608 (d : Nat) (h : AH) (x0 x2 x3 : Option Value) (v : Nat) : E d 232 608 [x0, some (.ref v), x2, x3] [] h = E d 232 609 [x0, some (.ref v), x2, x3] [.ref v] h := E_nx rfl
set_option maxRecDepth 60000 in
theorem s232_609 (d : Nat) (h : AH) (x1 x2 x3 : Option Value) (s0 : Value) (v : Nat) : E d 232 609 [some (.ref v), x1, x2, x3] [s0] h = E d 232 610 [some (.ref v), x1, x2, x3] [.ref v, s0] h := E_nx rfl
set_option maxRecDepth 60000 in
theorem s232_610 (d : Nat) (h : AH) (x0 x1 x2 : Option Value) (s0 : Value) (s1 : Value) (v : Int32) : E d 232 610 [x0, x1, x2, some (.int v)] [s0, s1] h = E d 232 611 [x0, x1, x2, some (.int v)] [.int v, s0, s1] h := E_nx rfl
set_option maxRecDepth 60000 in
theorem s232_611 (d : Nat) (h : AH) (x0 x1 x2 x3 : Option Value) (s0 : Value) (s1 : Value) (s2 : Value) : E d 232 611 [x0, x1, x2, x3] [s0, s1, s2] h = E d 232 612 [x0, x1, x2, x3] [.int 1, s0, s1, s2] h := E_nx rfl
set_option maxRecDepth 60000 in
theorem s232_612 (d : Nat) (h : AH) (x0 x1 x2 x3 : Option Value) (s0 : Int32) (s1 : Int32) (s2 : Value) (s3 : Value) : E d 232 612 [x0, x1, x2, x3] [.int s0, .int s1, s2, s3] h = E d 232 613 [x0, x1, x2, x3] [.int (s1 + s0), s2, s3] h := E_nx rfl
set_option maxRecDepth 60000 in
theorem s232_613 (d : Nat) (h : AH) (x0 x1 x2 x3 : Option Value) (s0 : Int32) (s1 : Nat) (s2 : Value) : E d 232 613 [x0, x1, x2, x3] [.int s0, .ref s1, s2] h = if inb s0 (alen h s1 0) = true ∨ inb s0 (alen h s1 8) = true then E d 232 614 [x0, x1, x2, x3] [.int (hI h s1 s0.toNatClampNeg), s2] h else none := E_gd rfl
set_option maxRecDepth 60000 in
theorem s232_614 (d : Nat) (h : AH) (x1 x2 x3 : Option Value) (s0 : Value) (s1 : Value) (v : Nat) : E d 232 614 [some (.ref v), x1, x2, x3] [s0, s1] h = E d 232 615 [some (.ref v), x1, x2, x3] [.ref v, s0, s1] h := E_nx rfl
set_option maxRecDepth 60000 in
theorem s232_615 (d : Nat) (h : AH) (x0 x1 x2 : Option Value) (s0 : Value) (s1 : Value) (s2 : Value) (v : Int32) : E d 232 615 [x0, x1, x2, some (.int v)] [s0, s1, s2] h = E d 232 616 [x0, x1, x2, some (.int v)] [.int v, s0, s1, s2] h := E_nx rfl
set_option maxRecDepth 60000 in
theorem s232_616 (d : Nat) (h : AH) (x0 x1 x2 x3 : Option Value) (s0 : Value) (s1 : Value) (s2 : Value) (s3 : Value) : E d 232 616 [x0, x1, x2, x3] [s0, s1, s2, s3] h = E d 232 617 [x0, x1, x2, x3] [.int 2, s0, s1, s2, s3] h := E_nx rfl
set_option maxRecDepth 60000 in
theorem s232_617 (d : Nat) (h : AH) (x0 x1 x2 x3 : Option Value) (s0 : Int32) (s1 : Int32) (s2 : Value) (s3 : Value) (s4 : Value) : E d 232 617 [x0, x1, x2, x3] [.int s0, .int s1, s2, s3, s4] h = E d 232 618 [x0, x1, x2, x3] [.int (s1 + s0), s2, s3, s4] h := E_nx rfl
set_option maxRecDepth 60000 in
theorem s232_618 (d : Nat) (h : AH) (x0 x1 x2 x3 : Option Value) (s0 : Int32) (s1 : Nat) (s2 : Value) (s3 : Value) : E d 232 618 [x0, x1, x2, x3] [.int s0, .ref s1, s2, s3] h = if inb s0 (alen h s1 0) = true ∨ inb s0 (alen h s1 8) = true then E d 232 619 [x0, x1, x2, x3] [.int (hI h s1 s0.toNatClampNeg), s2, s3] h else none := E_gd rfl
set_option maxRecDepth 60000 in
theorem s232_619 (d : Nat) (h : AH) (x0 x1 x2 x3 : Option Value) (s0 : Int32) (s1 : Int32) (s2 : Nat) : E (d + 1) 232 619 [x0, x1, x2, x3] [.int s0, .int s1, .ref s2] h = if hS h s2 = some (104, 0) then (E d 105 0 [some (.ref s2), some (.int s1), some (.int s0), none, none] [] h).bind fun r => E (d + 1) 232 620 [x0, x1, x2, x3] (r.1.toList ++ []) r.2 else none := E_callg rfl
set_option maxRecDepth 60000 in
theorem s232_620 (d : Nat) (h : AH) (x0 x1 x3 : Option Value) (s0 : Value) (v : Nat) : E d 232 620 [x0, x1, some (.ref v), x3] [s0] h = E d 232 621 [x0, x1, some (.ref v), x3] [.ref v, s0] h := E_nx rfl
set_option maxRecDepth 60000 in
theorem s232_621 (d : Nat) (h : AH) (x1 x2 x3 : Option Value) (s0 : Value) (s1 : Value) (v : Nat) : E d 232 621 [some (.ref v), x1, x2, x3] [s0, s1] h = E d 232 622 [some (.ref v), x1, x2, x3] [.ref v, s0, s1] h := E_nx rfl
set_option maxRecDepth 60000 in
theorem s232_622 (d : Nat) (h : AH) (x0 x1 x2 : Option Value) (s0 : Value) (s1 : Value) (s2 : Value) (v : Int32) : E d 232 622 [x0, x1, x2, some (.int v)] [s0, s1, s2] h = E d 232 623 [x0, x1, x2, some (.int v)] [.int v, s0, s1, s2] h := E_nx rfl
set_option maxRecDepth 60000 in
theorem s232_623 (d : Nat) (h : AH) (x0 x1 x2 x3 : Option Value) (s0 : Value) (s1 : Value) (s2 : Value) (s3 : Value) : E d 232 623 [x0, x1, x2, x3] [s0, s1, s2, s3] h = E d 232 624 [x0, x1, x2, x3] [.int 1, s0, s1, s2, s3] h := E_nx rfl
set_option maxRecDepth 60000 in
theorem s232_624 (d : Nat) (h : AH) (x0 x1 x2 x3 : Option Value) (s0 : Int32) (s1 : Int32) (s2 : Value) (s3 : Value) (s4 : Value) : E d 232 624 [x0, x1, x2, x3] [.int s0, .int s1, s2, s3, s4] h = E d 232 625 [x0, x1, x2, x3] [.int (s1 + s0), s2, s3, s4] h := E_nx rfl
set_option maxRecDepth 60000 in
theorem s232_625 (d : Nat) (h : AH) (x0 x1 x2 x3 : Option Value) (s0 : Int32) (s1 : Nat) (s2 : Value) (s3 : Value) : E d 232 625 [x0, x1, x2, x3] [.int s0, .ref s1, s2, s3] h = if inb s0 (alen h s1 0) = true ∨ inb s0 (alen h s1 8) = true then E d 232 626 [x0, x1, x2, x3] [.int (hI h s1 s0.toNatClampNeg), s2, s3] h else none := E_gd rfl
set_option maxRecDepth 60000 in
theorem s232_626 (d : Nat) (h : AH) (x1 x2 x3 : Option Value) (s0 : Value) (s1 : Value) (s2 : Value) (v : Nat) : E d 232 626 [some (.ref v), x1, x2, x3] [s0, s1, s2] h = E d 232 627 [some (.ref v), x1, x2, x3] [.ref v, s0, s1, s2] h := E_nx rfl
set_option maxRecDepth 60000 in
theorem s232_627 (d : Nat) (h : AH) (x0 x1 x2 : Option Value) (s0 : Value) (s1 : Value) (s2 : Value) (s3 : Value) (v : Int32) : E d 232 627 [x0, x1, x2, some (.int v)] [s0, s1, s2, s3] h = E d 232 628 [x0, x1, x2, some (.int v)] [.int v, s0, s1, s2, s3] h := E_nx rfl
set_option maxRecDepth 60000 in
theorem s232_628 (d : Nat) (h : AH) (x0 x1 x2 x3 : Option Value) (s0 : Value) (s1 : Value) (s2 : Value) (s3 : Value) (s4 : Value) : E d 232 628 [x0, x1, x2, x3] [s0, s1, s2, s3, s4] h = E d 232 629 [x0, x1, x2, x3] [.int 2, s0, s1, s2, s3, s4] h := E_nx rfl
set_option maxRecDepth 60000 in
theorem s232_629 (d : Nat) (h : AH) (x0 x1 x2 x3 : Option Value) (s0 : Int32) (s1 : Int32) (s2 : Value) (s3 : Value) (s4 : Value) (s5 : Value) : E d 232 629 [x0, x1, x2, x3] [.int s0, .int s1, s2, s3, s4, s5] h = E d 232 630 [x0, x1, x2, x3] [.int (s1 + s0), s2, s3, s4, s5] h := E_nx rfl
set_option maxRecDepth 60000 in
theorem s232_630 (d : Nat) (h : AH) (x0 x1 x2 x3 : Option Value) (s0 : Int32) (s1 : Nat) (s2 : Value) (s3 : Value) (s4 : Value) : E d 232 630 [x0, x1, x2, x3] [.int s0, .ref s1, s2, s3, s4] h = if inb s0 (alen h s1 0) = true ∨ inb s0 (alen h s1 8) = true then E d 232 631 [x0, x1, x2, x3] [.int (hI h s1 s0.toNatClampNeg), s2, s3, s4] h else none := E_gd rfl
set_option maxRecDepth 60000 in
theorem s232_631 (d : Nat) (h : AH) (x0 x1 x2 x3 : Option Value) (s0 : Int32) (s1 : Int32) (s2 : Nat) (s3 : Value) : E (d + 1) 232 631 [x0, x1, x2, x3] [.int s0, .int s1, .ref s2, s3] h = if hS h s2 = some (105, 0) then (E d 192 0 [some (.ref s2), some (.int s1), some (.int s0), none, none] [] h).bind fun r => E (d + 1) 232 632 [x0, x1, x2, x3] (r.1.toList ++ [s3]) r.2 else none := E_callg rfl
set_option maxRecDepth 60000 in
theorem s232_632 (d : Nat) (h : AH) (x0 x1 x2 x3 : Option Value) (s0 : Int32) (s1 : Int32) : E d 232 632 [x0, x1, x2, x3] [.int s0, .int s1] h = if s1 = s0 then E d 232 1068 [x0, x1, x2, x3] [] h else E d 232 633 [x0, x1, x2, x3] [] h := E_ifc rfl
set_option maxRecDepth 60000 in
theorem s232_633 (d : Nat) (h : AH) (x0 x1 x2 x3 : Option Value)  : E d 232 633 [x0, x1, x2, x3] [] h = E d 232 634 [x0, x1, x2, x3] [.int 0] h := E_nx rfl
set_option maxRecDepth 60000 in
theorem s232_634 (d : Nat) (h : AH) (x0 x1 x2 x3 : Option Value) (s0 : Int32) : E d 232 634 [x0, x1, x2, x3] [.int s0] h = if s0 = 0 ∨ s0 = 1 then some (some (.int s0), h) else none := E_retg rfl
set_option maxRecDepth 60000 in
theorem s232_635 (d : Nat) (h : AH) (x0 x2 x3 : Option Value) (v : Nat) : E d 232 635 [x0, some (.ref v), x2, x3] [] h = E d 232 636 [x0, some (.ref v), x2, x3] [.ref v] h := E_nx rfl
set_option maxRecDepth 60000 in
theorem s232_636 (d : Nat) (h : AH) (x1 x2 x3 : Option Value) (s0 : Value) (v : Nat) : E d 232 636 [some (.ref v), x1, x2, x3] [s0] h = E d 232 637 [some (.ref v), x1, x2, x3] [.ref v, s0] h := E_nx rfl
set_option maxRecDepth 60000 in
theorem s232_637 (d : Nat) (h : AH) (x0 x1 x2 : Option Value) (s0 : Value) (s1 : Value) (v : Int32) : E d 232 637 [x0, x1, x2, some (.int v)] [s0, s1] h = E d 232 638 [x0, x1, x2, some (.int v)] [.int v, s0, s1] h := E_nx rfl
set_option maxRecDepth 60000 in
theorem s232_638 (d : Nat) (h : AH) (x0 x1 x2 x3 : Option Value) (s0 : Value) (s1 : Value) (s2 : Value) : E d 232 638 [x0, x1, x2, x3] [s0, s1, s2] h = E d 232 639 [x0, x1, x2, x3] [.int 1, s0, s1, s2] h := E_nx rfl
set_option maxRecDepth 60000 in
theorem s232_639 (d : Nat) (h : AH) (x0 x1 x2 x3 : Option Value) (s0 : Int32) (s1 : Int32) (s2 : Value) (s3 : Value) : E d 232 639 [x0, x1, x2, x3] [.int s0, .int s1, s2, s3] h = E d 232 640 [x0, x1, x2, x3] [.int (s1 + s0), s2, s3] h := E_nx rfl
set_option maxRecDepth 60000 in
theorem s232_640 (d : Nat) (h : AH) (x0 x1 x2 x3 : Option Value) (s0 : Int32) (s1 : Nat) (s2 : Value) : E d 232 640 [x0, x1, x2, x3] [.int s0, .ref s1, s2] h = if inb s0 (alen h s1 0) = true ∨ inb s0 (alen h s1 8) = true then E d 232 641 [x0, x1, x2, x3] [.int (hI h s1 s0.toNatClampNeg), s2] h else none := E_gd rfl
set_option maxRecDepth 60000 in
theorem s232_641 (d : Nat) (h : AH) (x1 x2 x3 : Option Value) (s0 : Value) (s1 : Value) (v : Nat) : E d 232 641 [some (.ref v), x1, x2, x3] [s0, s1] h = E d 232 642 [some (.ref v), x1, x2, x3] [.ref v, s0, s1] h := E_nx rfl
set_option maxRecDepth 60000 in
theorem s232_642 (d : Nat) (h : AH) (x0 x1 x2 : Option Value) (s0 : Value) (s1 : Value) (s2 : Value) (v : Int32) : E d 232 642 [x0, x1, x2, some (.int v)] [s0, s1, s2] h = E d 232 643 [x0, x1, x2, some (.int v)] [.int v, s0, s1, s2] h := E_nx rfl
set_option maxRecDepth 60000 in
theorem s232_643 (d : Nat) (h : AH) (x0 x1 x2 x3 : Option Value) (s0 : Value) (s1 : Value) (s2 : Value) (s3 : Value) : E d 232 643 [x0, x1, x2, x3] [s0, s1, s2, s3] h = E d 232 644 [x0, x1, x2, x3] [.int 2, s0, s1, s2, s3] h := E_nx rfl
set_option maxRecDepth 60000 in
theorem s232_644 (d : Nat) (h : AH) (x0 x1 x2 x3 : Option Value) (s0 : Int32) (s1 : Int32) (s2 : Value) (s3 : Value) (s4 : Value) : E d 232 644 [x0, x1, x2, x3] [.int s0, .int s1, s2, s3, s4] h = E d 232 645 [x0, x1, x2, x3] [.int (s1 + s0), s2, s3, s4] h := E_nx rfl
set_option maxRecDepth 60000 in
theorem s232_645 (d : Nat) (h : AH) (x0 x1 x2 x3 : Option Value) (s0 : Int32) (s1 : Nat) (s2 : Value) (s3 : Value) : E d 232 645 [x0, x1, x2, x3] [.int s0, .ref s1, s2, s3] h = if inb s0 (alen h s1 0) = true ∨ inb s0 (alen h s1 8) = true then E d 232 646 [x0, x1, x2, x3] [.int (hI h s1 s0.toNatClampNeg), s2, s3] h else none := E_gd rfl
set_option maxRecDepth 60000 in
theorem s232_646 (d : Nat) (h : AH) (x1 x2 x3 : Option Value) (s0 : Value) (s1 : Value) (s2 : Value) (v : Nat) : E d 232 646 [some (.ref v), x1, x2, x3] [s0, s1, s2] h = E d 232 647 [some (.ref v), x1, x2, x3] [.ref v, s0, s1, s2] h := E_nx rfl
set_option maxRecDepth 60000 in
theorem s232_647 (d : Nat) (h : AH) (x0 x1 x2 : Option Value) (s0 : Value) (s1 : Value) (s2 : Value) (s3 : Value) (v : Int32) : E d 232 647 [x0, x1, x2, some (.int v)] [s0, s1, s2, s3] h = E d 232 648 [x0, x1, x2, some (.int v)] [.int v, s0, s1, s2, s3] h := E_nx rfl
set_option maxRecDepth 60000 in
theorem s232_648 (d : Nat) (h : AH) (x0 x1 x2 x3 : Option Value) (s0 : Value) (s1 : Value) (s2 : Value) (s3 : Value) (s4 : Value) : E d 232 648 [x0, x1, x2, x3] [s0, s1, s2, s3, s4] h = E d 232 649 [x0, x1, x2, x3] [.int 3, s0, s1, s2, s3, s4] h := E_nx rfl
set_option maxRecDepth 60000 in
theorem s232_649 (d : Nat) (h : AH) (x0 x1 x2 x3 : Option Value) (s0 : Int32) (s1 : Int32) (s2 : Value) (s3 : Value) (s4 : Value) (s5 : Value) : E d 232 649 [x0, x1, x2, x3] [.int s0, .int s1, s2, s3, s4, s5] h = E d 232 650 [x0, x1, x2, x3] [.int (s1 + s0), s2, s3, s4, s5] h := E_nx rfl
set_option maxRecDepth 60000 in
theorem s232_650 (d : Nat) (h : AH) (x0 x1 x2 x3 : Option Value) (s0 : Int32) (s1 : Nat) (s2 : Value) (s3 : Value) (s4 : Value) : E d 232 650 [x0, x1, x2, x3] [.int s0, .ref s1, s2, s3, s4] h = if inb s0 (alen h s1 0) = true ∨ inb s0 (alen h s1 8) = true then E d 232 651 [x0, x1, x2, x3] [.int (hI h s1 s0.toNatClampNeg), s2, s3, s4] h else none := E_gd rfl
set_option maxRecDepth 60000 in
theorem s232_651 (d : Nat) (h : AH) (x0 x1 x2 x3 : Option Value) (s0 : Int32) (s1 : Int32) (s2 : Int32) (s3 : Nat) : E (d + 1) 232 651 [x0, x1, x2, x3] [.int s0, .int s1, .int s2, .ref s3] h = if hS h s3 = some (104, 0) then (E d 106 0 [some (.ref s3), some (.int s2), some (.int s1), some (.int s0), none] [] h).bind fun r => E (d + 1) 232 652 [x0, x1, x2, x3] (r.1.toList ++ []) r.2 else none := E_callg rfl
set_option maxRecDepth 60000 in
theorem s232_652 (d : Nat) (h : AH) (x0 x1 x3 : Option Value) (s0 : Value) (v : Nat) : E d 232 652 [x0, x1, some (.ref v), x3] [s0] h = E d 232 653 [x0, x1, some (.ref v), x3] [.ref v, s0] h := E_nx rfl
set_option maxRecDepth 60000 in
theorem s232_653 (d : Nat) (h : AH) (x1 x2 x3 : Option Value) (s0 : Value) (s1 : Value) (v : Nat) : E d 232 653 [some (.ref v), x1, x2, x3] [s0, s1] h = E d 232 654 [some (.ref v), x1, x2, x3] [.ref v, s0, s1] h := E_nx rfl
set_option maxRecDepth 60000 in
theorem s232_654 (d : Nat) (h : AH) (x0 x1 x2 : Option Value) (s0 : Value) (s1 : Value) (s2 : Value) (v : Int32) : E d 232 654 [x0, x1, x2, some (.int v)] [s0, s1, s2] h = E d 232 655 [x0, x1, x2, some (.int v)] [.int v, s0, s1, s2] h := E_nx rfl
set_option maxRecDepth 60000 in
theorem s232_655 (d : Nat) (h : AH) (x0 x1 x2 x3 : Option Value) (s0 : Value) (s1 : Value) (s2 : Value) (s3 : Value) : E d 232 655 [x0, x1, x2, x3] [s0, s1, s2, s3] h = E d 232 656 [x0, x1, x2, x3] [.int 1, s0, s1, s2, s3] h := E_nx rfl
set_option maxRecDepth 60000 in
theorem s232_656 (d : Nat) (h : AH) (x0 x1 x2 x3 : Option Value) (s0 : Int32) (s1 : Int32) (s2 : Value) (s3 : Value) (s4 : Value) : E d 232 656 [x0, x1, x2, x3] [.int s0, .int s1, s2, s3, s4] h = E d 232 657 [x0, x1, x2, x3] [.int (s1 + s0), s2, s3, s4] h := E_nx rfl
set_option maxRecDepth 60000 in
theorem s232_657 (d : Nat) (h : AH) (x0 x1 x2 x3 : Option Value) (s0 : Int32) (s1 : Nat) (s2 : Value) (s3 : Value) : E d 232 657 [x0, x1, x2, x3] [.int s0, .ref s1, s2, s3] h = if inb s0 (alen h s1 0) = true ∨ inb s0 (alen h s1 8) = true then E d 232 658 [x0, x1, x2, x3] [.int (hI h s1 s0.toNatClampNeg), s2, s3] h else none := E_gd rfl
set_option maxRecDepth 60000 in
theorem s232_658 (d : Nat) (h : AH) (x1 x2 x3 : Option Value) (s0 : Value) (s1 : Value) (s2 : Value) (v : Nat) : E d 232 658 [some (.ref v), x1, x2, x3] [s0, s1, s2] h = E d 232 659 [some (.ref v), x1, x2, x3] [.ref v, s0, s1, s2] h := E_nx rfl
set_option maxRecDepth 60000 in
theorem s232_659 (d : Nat) (h : AH) (x0 x1 x2 : Option Value) (s0 : Value) (s1 : Value) (s2 : Value) (s3 : Value) (v : Int32) : E d 232 659 [x0, x1, x2, some (.int v)] [s0, s1, s2, s3] h = E d 232 660 [x0, x1, x2, some (.int v)] [.int v, s0, s1, s2, s3] h := E_nx rfl
set_option maxRecDepth 60000 in
theorem s232_660 (d : Nat) (h : AH) (x0 x1 x2 x3 : Option Value) (s0 : Value) (s1 : Value) (s2 : Value) (s3 : Value) (s4 : Value) : E d 232 660 [x0, x1, x2, x3] [s0, s1, s2, s3, s4] h = E d 232 661 [x0, x1, x2, x3] [.int 2, s0, s1, s2, s3, s4] h := E_nx rfl
set_option maxRecDepth 60000 in
theorem s232_661 (d : Nat) (h : AH) (x0 x1 x2 x3 : Option Value) (s0 : Int32) (s1 : Int32) (s2 : Value) (s3 : Value) (s4 : Value) (s5 : Value) : E d 232 661 [x0, x1, x2, x3] [.int s0, .int s1, s2, s3, s4, s5] h = E d 232 662 [x0, x1, x2, x3] [.int (s1 + s0), s2, s3, s4, s5] h := E_nx rfl
set_option maxRecDepth 60000 in
theorem s232_662 (d : Nat) (h : AH) (x0 x1 x2 x3 : Option Value) (s0 : Int32) (s1 : Nat) (s2 : Value) (s3 : Value) (s4 : Value) : E d 232 662 [x0, x1, x2, x3] [.int s0, .ref s1, s2, s3, s4] h = if inb s0 (alen h s1 0) = true ∨ inb s0 (alen h s1 8) = true then E d 232 663 [x0, x1, x2, x3] [.int (hI h s1 s0.toNatClampNeg), s2, s3, s4] h else none := E_gd rfl
set_option maxRecDepth 60000 in
theorem s232_663 (d : Nat) (h : AH) (x1 x2 x3 : Option Value) (s0 : Value) (s1 : Value) (s2 : Value) (s3 : Value) (v : Nat) : E d 232 663 [some (.ref v), x1, x2, x3] [s0, s1, s2, s3] h = E d 232 664 [some (.ref v), x1, x2, x3] [.ref v, s0, s1, s2, s3] h := E_nx rfl
set_option maxRecDepth 60000 in
theorem s232_664 (d : Nat) (h : AH) (x0 x1 x2 : Option Value) (s0 : Value) (s1 : Value) (s2 : Value) (s3 : Value) (s4 : Value) (v : Int32) : E d 232 664 [x0, x1, x2, some (.int v)] [s0, s1, s2, s3, s4] h = E d 232 665 [x0, x1, x2, some (.int v)] [.int v, s0, s1, s2, s3, s4] h := E_nx rfl
set_option maxRecDepth 60000 in
theorem s232_665 (d : Nat) (h : AH) (x0 x1 x2 x3 : Option Value) (s0 : Value) (s1 : Value) (s2 : Value) (s3 : Value) (s4 : Value) (s5 : Value) : E d 232 665 [x0, x1, x2, x3] [s0, s1, s2, s3, s4, s5] h = E d 232 666 [x0, x1, x2, x3] [.int 3, s0, s1, s2, s3, s4, s5] h := E_nx rfl
set_option maxRecDepth 60000 in
theorem s232_666 (d : Nat) (h : AH) (x0 x1 x2 x3 : Option Value) (s0 : Int32) (s1 : Int32) (s2 : Value) (s3 : Value) (s4 : Value) (s5 : Value) (s6 : Value) : E d 232 666 [x0, x1, x2, x3] [.int s0, .int s1, s2, s3, s4, s5, s6] h = E d 232 667 [x0, x1, x2, x3] [.int (s1 + s0), s2, s3, s4, s5, s6] h := E_nx rfl
set_option maxRecDepth 60000 in
theorem s232_667 (d : Nat) (h : AH) (x0 x1 x2 x3 : Option Value) (s0 : Int32) (s1 : Nat) (s2 : Value) (s3 : Value) (s4 : Value) (s5 : Value) : E d 232 667 [x0, x1, x2, x3] [.int s0, .ref s1, s2, s3, s4, s5] h = if inb s0 (alen h s1 0) = true ∨ inb s0 (alen h s1 8) = true then E d 232 668 [x0, x1, x2, x3] [.int (hI h s1 s0.toNatClampNeg), s2, s3, s4, s5] h else none := E_gd rfl
set_option maxRecDepth 60000 in
theorem s232_668 (d : Nat) (h : AH) (x0 x1 x2 x3 : Option Value) (s0 : Int32) (s1 : Int32) (s2 : Int32) (s3 : Nat) (s4 : Value) : E (d + 1) 232 668 [x0, x1, x2, x3] [.int s0, .int s1, .int s2, .ref s3, s4] h = if hS h s3 = some (105, 0) then (E d 193 0 [some (.ref s3), some (.int s2), some (.int s1), some (.int s0), none, none] [] h).bind fun r => E (d + 1) 232 669 [x0, x1, x2, x3] (r.1.toList ++ [s4]) r.2 else none := E_callg rfl
set_option maxRecDepth 60000 in
theorem s232_669 (d : Nat) (h : AH) (x0 x1 x2 x3 : Option Value) (s0 : Int32) (s1 : Int32) : E d 232 669 [x0, x1, x2, x3] [.int s0, .int s1] h = if s1 = s0 then E d 232 1068 [x0, x1, x2, x3] [] h else E d 232 670 [x0, x1, x2, x3] [] h := E_ifc rfl
set_option maxRecDepth 60000 in
theorem s232_670 (d : Nat) (h : AH) (x0 x1 x2 x3 : Option Value)  : E d 232 670 [x0, x1, x2, x3] [] h = E d 232 671 [x0, x1, x2, x3] [.int 0] h := E_nx rfl
set_option maxRecDepth 60000 in
theorem s232_671 (d : Nat) (h : AH) (x0 x1 x2 x3 : Option Value) (s0 : Int32) : E d 232 671 [x0, x1, x2, x3] [.int s0] h = if s0 = 0 ∨ s0 = 1 then some (some (.int s0), h) else none := E_retg rfl
set_option maxRecDepth 60000 in
theorem s232_672 (d : Nat) (h : AH) (x0 x2 x3 : Option Value) (v : Nat) : E d 232 672 [x0, some (.ref v), x2, x3] [] h = E d 232 673 [x0, some (.ref v), x2, x3] [.ref v] h := E_nx rfl
set_option maxRecDepth 60000 in
theorem s232_673 (d : Nat) (h : AH) (x1 x2 x3 : Option Value) (s0 : Value) (v : Nat) : E d 232 673 [some (.ref v), x1, x2, x3] [s0] h = E d 232 674 [some (.ref v), x1, x2, x3] [.ref v, s0] h := E_nx rfl
set_option maxRecDepth 60000 in
theorem s232_674 (d : Nat) (h : AH) (x0 x1 x2 : Option Value) (s0 : Value) (s1 : Value) (v : Int32) : E d 232 674 [x0, x1, x2, some (.int v)] [s0, s1] h = E d 232 675 [x0, x1, x2, some (.int v)] [.int v, s0, s1] h := E_nx rfl
set_option maxRecDepth 60000 in
theorem s232_675 (d : Nat) (h : AH) (x0 x1 x2 x3 : Option Value) (s0 : Value) (s1 : Value) (s2 : Value) : E d 232 675 [x0, x1, x2, x3] [s0, s1, s2] h = E d 232 676 [x0, x1, x2, x3] [.int 1, s0, s1, s2] h := E_nx rfl
set_option maxRecDepth 60000 in
theorem s232_676 (d : Nat) (h : AH) (x0 x1 x2 x3 : Option Value) (s0 : Int32) (s1 : Int32) (s2 : Value) (s3 : Value) : E d 232 676 [x0, x1, x2, x3] [.int s0, .int s1, s2, s3] h = E d 232 677 [x0, x1, x2, x3] [.int (s1 + s0), s2, s3] h := E_nx rfl
set_option maxRecDepth 60000 in
theorem s232_677 (d : Nat) (h : AH) (x0 x1 x2 x3 : Option Value) (s0 : Int32) (s1 : Nat) (s2 : Value) : E d 232 677 [x0, x1, x2, x3] [.int s0, .ref s1, s2] h = if inb s0 (alen h s1 0) = true ∨ inb s0 (alen h s1 8) = true then E d 232 678 [x0, x1, x2, x3] [.int (hI h s1 s0.toNatClampNeg), s2] h else none := E_gd rfl
set_option maxRecDepth 60000 in
theorem s232_678 (d : Nat) (h : AH) (x1 x2 x3 : Option Value) (s0 : Value) (s1 : Value) (v : Nat) : E d 232 678 [some (.ref v), x1, x2, x3] [s0, s1] h = E d 232 679 [some (.ref v), x1, x2, x3] [.ref v, s0, s1] h := E_nx rfl
set_option maxRecDepth 60000 in
theorem s232_679 (d : Nat) (h : AH) (x0 x1 x2 : Option Value) (s0 : Value) (s1 : Value) (s2 : Value) (v : Int32) : E d 232 679 [x0, x1, x2, some (.int v)] [s0, s1, s2] h = E d 232 680 [x0, x1, x2, some (.int v)] [.int v, s0, s1, s2] h := E_nx rfl
set_option maxRecDepth 60000 in
theorem s232_680 (d : Nat) (h : AH) (x0 x1 x2 x3 : Option Value) (s0 : Value) (s1 : Value) (s2 : Value) (s3 : Value) : E d 232 680 [x0, x1, x2, x3] [s0, s1, s2, s3] h = E d 232 681 [x0, x1, x2, x3] [.int 2, s0, s1, s2, s3] h := E_nx rfl
set_option maxRecDepth 60000 in
theorem s232_681 (d : Nat) (h : AH) (x0 x1 x2 x3 : Option Value) (s0 : Int32) (s1 : Int32) (s2 : Value) (s3 : Value) (s4 : Value) : E d 232 681 [x0, x1, x2, x3] [.int s0, .int s1, s2, s3, s4] h = E d 232 682 [x0, x1, x2, x3] [.int (s1 + s0), s2, s3, s4] h := E_nx rfl
set_option maxRecDepth 60000 in
theorem s232_682 (d : Nat) (h : AH) (x0 x1 x2 x3 : Option Value) (s0 : Int32) (s1 : Nat) (s2 : Value) (s3 : Value) : E d 232 682 [x0, x1, x2, x3] [.int s0, .ref s1, s2, s3] h = if inb s0 (alen h s1 0) = true ∨ inb s0 (alen h s1 8) = true then E d 232 683 [x0, x1, x2, x3] [.int (hI h s1 s0.toNatClampNeg), s2, s3] h else none := E_gd rfl
set_option maxRecDepth 60000 in
theorem s232_683 (d : Nat) (h : AH) (x0 x1 x2 x3 : Option Value) (s0 : Int32) (s1 : Int32) (s2 : Nat) : E (d + 1) 232 683 [x0, x1, x2, x3] [.int s0, .int s1, .ref s2] h = if hS h s2 = some (104, 0) then (E d 107 0 [some (.ref s2), some (.int s1), some (.int s0), none, none, none] [] h).bind fun r => E (d + 1) 232 684 [x0, x1, x2, x3] (r.1.toList ++ []) r.2 else none := E_callg rfl
set_option maxRecDepth 60000 in
theorem s232_684 (d : Nat) (h : AH) (x0 x1 x3 : Option Value) (s0 : Value) (v : Nat) : E d 232 684 [x0, x1, some (.ref v), x3] [s0] h = E d 232 685 [x0, x1, some (.ref v), x3] [.ref v, s0] h := E_nx rfl
set_option maxRecDepth 60000 in
theorem s232_685 (d : Nat) (h : AH) (x1 x2 x3 : Option Value) (s0 : Value) (s1 : Value) (v : Nat) : E d 232 685 [some (.ref v), x1, x2, x3] [s0, s1] h = E d 232 686 [some (.ref v), x1, x2, x3] [.ref v, s0, s1] h := E_nx rfl
set_option maxRecDepth 60000 in
theorem s232_686 (d : Nat) (h : AH) (x0 x1 x2 : Option Value) (s0 : Value) (s1 : Value) (s2 : Value) (v : Int32) : E d 232 686 [x0, x1, x2, some (.int v)] [s0, s1, s2] h = E d 232 687 [x0, x1, x2, some (.int v)] [.int v, s0, s1, s2] h := E_nx rfl
set_option maxRecDepth 60000 in
theorem s232_687 (d : Nat) (h : AH) (x0 x1 x2 x3 : Option Value) (s0 : Value) (s1 : Value) (s2 : Value) (s3 : Value) : E d 232 687 [x0, x1, x2, x3] [s0, s1, s2, s3] h = E d 232 688 [x0, x1, x2, x3] [.int 1, s0, s1, s2, s3] h := E_nx rfl
set_option maxRecDepth 60000 in
theorem s232_688 (d : Nat) (h : AH) (x0 x1 x2 x3 : Option Value) (s0 : Int32) (s1 : Int32) (s2 : Value) (s3 : Value) (s4 : Value) : E d 232 688 [x0, x1, x2, x3] [.int s0, .int s1, s2, s3, s4] h = E d 232 689 [x0, x1, x2, x3] [.int (s1 + s0), s2, s3, s4] h := E_nx rfl
set_option maxRecDepth 60000 in
theorem s232_689 (d : Nat) (h : AH) (x0 x1 x2 x3 : Option Value) (s0 : Int32) (s1 : Nat) (s2 : Value) (s3 : Value) : E d 232 689 [x0, x1, x2, x3] [.int s0, .ref s1, s2, s3] h = if inb s0 (alen h s1 0) = true ∨ inb s0 (alen h s1 8) = true then E d 232 690 [x0, x1, x2, x3] [.int (hI h s1 s0.toNatClampNeg), s2, s3] h else none := E_gd rfl
set_option maxRecDepth 60000 in
theorem s232_690 (d : Nat) (h : AH) (x1 x2 x3 : Option Value) (s0 : Value) (s1 : Value) (s2 : Value) (v : Nat) : E d 232 690 [some (.ref v), x1, x2, x3] [s0, s1, s2] h = E d 232 691 [some (.ref v), x1, x2, x3] [.ref v, s0, s1, s2] h := E_nx rfl
set_option maxRecDepth 60000 in
theorem s232_691 (d : Nat) (h : AH) (x0 x1 x2 : Option Value) (s0 : Value) (s1 : Value) (s2 : Value) (s3 : Value) (v : Int32) : E d 232 691 [x0, x1, x2, some (.int v)] [s0, s1, s2, s3] h = E d 232 692 [x0, x1, x2, some (.int v)] [.int v, s0, s1, s2, s3] h := E_nx rfl
set_option maxRecDepth 60000 in
theorem s232_692 (d : Nat) (h : AH) (x0 x1 x2 x3 : Option Value) (s0 : Value) (s1 : Value) (s2 : Value) (s3 : Value) (s4 : Value) : E d 232 692 [x0, x1, x2, x3] [s0, s1, s2, s3, s4] h = E d 232 693 [x0, x1, x2, x3] [.int 2, s0, s1, s2, s3, s4] h := E_nx rfl
set_option maxRecDepth 60000 in
theorem s232_693 (d : Nat) (h : AH) (x0 x1 x2 x3 : Option Value) (s0 : Int32) (s1 : Int32) (s2 : Value) (s3 : Value) (s4 : Value) (s5 : Value) : E d 232 693 [x0, x1, x2, x3] [.int s0, .int s1, s2, s3, s4, s5] h = E d 232 694 [x0, x1, x2, x3] [.int (s1 + s0), s2, s3, s4, s5] h := E_nx rfl
set_option maxRecDepth 60000 in
theorem s232_694 (d : Nat) (h : AH) (x0 x1 x2 x3 : Option Value) (s0 : Int32) (s1 : Nat) (s2 : Value) (s3 : Value) (s4 : Value) : E d 232 694 [x0, x1, x2, x3] [.int s0, .ref s1, s2, s3, s4] h = if inb s0 (alen h s1 0) = true ∨ inb s0 (alen h s1 8) = true then E d 232 695 [x0, x1, x2, x3] [.int (hI h s1 s0.toNatClampNeg), s2, s3, s4] h else none := E_gd rfl
set_option maxRecDepth 60000 in
theorem s232_695 (d : Nat) (h : AH) (x0 x1 x2 x3 : Option Value) (s0 : Int32) (s1 : Int32) (s2 : Nat) (s3 : Value) : E (d + 1) 232 695 [x0, x1, x2, x3] [.int s0, .int s1, .ref s2, s3] h = if hS h s2 = some (105, 0) then (E d 194 0 [some (.ref s2), some (.int s1), some (.int s0), none, none, none, none] [] h).bind fun r => E (d + 1) 232 696 [x0, x1, x2, x3] (r.1.toList ++ [s3]) r.2 else none := E_callg rfl
set_option maxRecDepth 60000 in
theorem s232_696 (d : Nat) (h : AH) (x0 x1 x2 x3 : Option Value) (s0 : Int32) (s1 : Int32) : E d 232 696 [x0, x1, x2, x3] [.int s0, .int s1] h = if s1 = s0 then E d 232 1068 [x0, x1, x2, x3] [] h else E d 232 697 [x0, x1, x2, x3] [] h := E_ifc rfl
set_option maxRecDepth 60000 in
theorem s232_697 (d : Nat) (h : AH) (x0 x1 x2 x3 : Option Value)  : E d 232 697 [x0, x1, x2, x3] [] h = E d 232 698 [x0, x1, x2, x3] [.int 0] h := E_nx rfl
set_option maxRecDepth 60000 in
theorem s232_698 (d : Nat) (h : AH) (x0 x1 x2 x3 : Option Value) (s0 : Int32) : E d 232 698 [x0, x1, x2, x3] [.int s0] h = if s0 = 0 ∨ s0 = 1 then some (some (.int s0), h) else none := E_retg rfl
set_option maxRecDepth 60000 in
theorem s232_699 (d : Nat) (h : AH) (x0 x2 x3 : Option Value) (v : Nat) : E d 232 699 [x0, some (.ref v), x2, x3] [] h = E d 232 700 [x0, some (.ref v), x2, x3] [.ref v] h := E_nx rfl
set_option maxRecDepth 60000 in
theorem s232_700 (d : Nat) (h : AH) (x1 x2 x3 : Option Value) (s0 : Value) (v : Nat) : E d 232 700 [some (.ref v), x1, x2, x3] [s0] h = E d 232 701 [some (.ref v), x1, x2, x3] [.ref v, s0] h := E_nx rfl
set_option maxRecDepth 60000 in
theorem s232_701 (d : Nat) (h : AH) (x0 x1 x2 : Option Value) (s0 : Value) (s1 : Value) (v : Int32) : E d 232 701 [x0, x1, x2, some (.int v)] [s0, s1] h = E d 232 702 [x0, x1, x2, some (.int v)] [.int v, s0, s1] h := E_nx rfl
set_option maxRecDepth 60000 in
theorem s232_702 (d : Nat) (h : AH) (x0 x1 x2 x3 : Option Value) (s0 : Value) (s1 : Value) (s2 : Value) : E d 232 702 [x0, x1, x2, x3] [s0, s1, s2] h = E d 232 703 [x0, x1, x2, x3] [.int 1, s0, s1, s2] h := E_nx rfl
set_option maxRecDepth 60000 in
theorem s232_703 (d : Nat) (h : AH) (x0 x1 x2 x3 : Option Value) (s0 : Int32) (s1 : Int32) (s2 : Value) (s3 : Value) : E d 232 703 [x0, x1, x2, x3] [.int s0, .int s1, s2, s3] h = E d 232 704 [x0, x1, x2, x3] [.int (s1 + s0), s2, s3] h := E_nx rfl
set_option maxRecDepth 60000 in
theorem s232_704 (d : Nat) (h : AH) (x0 x1 x2 x3 : Option Value) (s0 : Int32) (s1 : Nat) (s2 : Value) : E d 232 704 [x0, x1, x2, x3] [.int s0, .ref s1, s2] h = if inb s0 (alen h s1 0) = true ∨ inb s0 (alen h s1 8) = true then E d 232 705 [x0, x1, x2, x3] [.int (hI h s1 s0.toNatClampNeg), s2] h else none := E_gd rfl
set_option maxRecDepth 60000 in
theorem s232_705 (d : Nat) (h : AH) (x0 x1 x2 x3 : Option Value) (s0 : Int32) (s1 : Nat) : E (d + 1) 232 705 [x0, x1, x2, x3] [.int s0, .ref s1] h = if hS h s1 = some (104, 0) then (E d 110 0 [some (.ref s1), some (.int s0)] [] h).bind fun r => E (d + 1) 232 706 [x0, x1, x2, x3] (r.1.toList ++ []) r.2 else none := E_callg rfl
set_option maxRecDepth 60000 in
theorem s232_706 (d : Nat) (h : AH) (x0 x1 x3 : Option Value) (s0 : Value) (v : Nat) : E d 232 706 [x0, x1, some (.ref v), x3] [s0] h = E d 232 707 [x0, x1, some (.ref v), x3] [.ref v, s0] h := E_nx rfl
set_option maxRecDepth 60000 in
theorem s232_707 (d : Nat) (h : AH) (x1 x2 x3 : Option Value) (s0 : Value) (s1 : Value) (v : Nat) : E d 232 707 [some (.ref v), x1, x2, x3] [s0, s1] h = E d 232 708 [some (.ref v), x1, x2, x3] [.ref v, s0, s1] h := E_nx rfl
set_option maxRecDepth 60000 in
theorem s232_708 (d : Nat) (h : AH) (x0 x1 x2 : Option Value) (s0 : Value) (s1 : Value) (s2 : Value) (v : Int32) : E d 232 708 [x0, x1, x2, some (.int v)] [s0, s1, s2] h = E d 232 709 [x0, x1, x2, some (.int v)] [.int v, s0, s1, s2] h := E_nx rfl
set_option maxRecDepth 60000 in
theorem s232_709 (d : Nat) (h : AH) (x0 x1 x2 x3 : Option Value) (s0 : Value) (s1 : Value) (s2 : Value) (s3 : Value) : E d 232 709 [x0, x1, x2, x3] [s0, s1, s2, s3] h = E d 232 710 [x0, x1, x2, x3] [.int 1, s0, s1, s2, s3] h := E_nx rfl
set_option maxRecDepth 60000 in
theorem s232_710 (d : Nat) (h : AH) (x0 x1 x2 x3 : Option Value) (s0 : Int32) (s1 : Int32) (s2 : Value) (s3 : Value) (s4 : Value) : E d 232 710 [x0, x1, x2, x3] [.int s0, .int s1, s2, s3, s4] h = E d 232 711 [x0, x1, x2, x3] [.int (s1 + s0), s2, s3, s4] h := E_nx rfl
set_option maxRecDepth 60000 in
theorem s232_711 (d : Nat) (h : AH) (x0 x1 x2 x3 : Option Value) (s0 : Int32) (s1 : Nat) (s2 : Value) (s3 : Value) : E d 232 711 [x0, x1, x2, x3] [.int s0, .ref s1, s2, s3] h = if inb s0 (alen h s1 0) = true ∨ inb s0 (alen h s1 8) = true then E d 232 712 [x0, x1, x2, x3] [.int (hI h s1 s0.toNatClampNeg), s2, s3] h else none := E_gd rfl
set_option maxRecDepth 60000 in
theorem s232_712 (d : Nat) (h : AH) (x0 x1 x2 x3 : Option Value) (s0 : Int32) (s1 : Nat) (s2 : Value) : E (d + 1) 232 712 [x0, x1, x2, x3] [.int s0, .ref s1, s2] h = if hS h s1 = some (105, 0) then (E d 203 0 [some (.ref s1), some (.int s0), none] [] h).bind fun r => E (d + 1) 232 713 [x0, x1, x2, x3] (r.1.toList ++ [s2]) r.2 else none := E_callg rfl
set_option maxRecDepth 60000 in
theorem s232_713 (d : Nat) (h : AH) (x0 x1 x2 x3 : Option Value) (s0 : Int32) (s1 : Int32) : E d 232 713 [x0, x1, x2, x3] [.int s0, .int s1] h = if s1 = s0 then E d 232 1068 [x0, x1, x2, x3] [] h else E d 232 714 [x0, x1, x2, x3] [] h := E_ifc rfl
set_option maxRecDepth 60000 in
theorem s232_714 (d : Nat) (h : AH) (x0 x1 x2 x3 : Option Value)  : E d 232 714 [x0, x1, x2, x3] [] h = E d 232 715 [x0, x1, x2, x3] [.int 0] h := E_nx rfl
set_option maxRecDepth 60000 in
theorem s232_715 (d : Nat) (h : AH) (x0 x1 x2 x3 : Option Value) (s0 : Int32) : E d 232 715 [x0, x1, x2, x3] [.int s0] h = if s0 = 0 ∨ s0 = 1 then some (some (.int s0), h) else none := E_retg rfl
set_option maxRecDepth 60000 in
theorem s232_716 (d : Nat) (h : AH) (x0 x2 x3 : Option Value) (v : Nat) : E d 232 716 [x0, some (.ref v), x2, x3] [] h = E d 232 717 [x0, some (.ref v), x2, x3] [.ref v] h := E_nx rfl
set_option maxRecDepth 60000 in
theorem s232_717 (d : Nat) (h : AH) (x1 x2 x3 : Option Value) (s0 : Value) (v : Nat) : E d 232 717 [some (.ref v), x1, x2, x3] [s0] h = E d 232 718 [some (.ref v), x1, x2, x3] [.ref v, s0] h := E_nx rfl
set_option maxRecDepth 60000 in
theorem s232_718 (d : Nat) (h : AH) (x0 x1 x2 : Option Value) (s0 : Value) (s1 : Value) (v : Int32) : E d 232 718 [x0, x1, x2, some (.int v)] [s0, s1] h = E d 232 719 [x0, x1, x2, some (.int v)] [.int v, s0, s1] h := E_nx rfl
set_option maxRecDepth 60000 in
theorem s232_719 (d : Nat) (h : AH) (x0 x1 x2 x3 : Option Value) (s0 : Value) (s1 : Value) (s2 : Value) : E d 232 719 [x0, x1, x2, x3] [s0, s1, s2] h = E d 232 720 [x0, x1, x2, x3] [.int 1, s0, s1, s2] h := E_nx rfl
set_option maxRecDepth 60000 in
theorem s232_720 (d : Nat) (h : AH) (x0 x1 x2 x3 : Option Value) (s0 : Int32) (s1 : Int32) (s2 : Value) (s3 : Value) : E d 232 720 [x0, x1, x2, x3] [.int s0, .int s1, s2, s3] h = E d 232 721 [x0, x1, x2, x3] [.int (s1 + s0), s2, s3] h := E_nx rfl
set_option maxRecDepth 60000 in
theorem s232_721 (d : Nat) (h : AH) (x0 x1 x2 x3 : Option Value) (s0 : Int32) (s1 : Nat) (s2 : Value) : E d 232 721 [x0, x1, x2, x3] [.int s0, .ref s1, s2] h = if inb s0 (alen h s1 0) = true ∨ inb s0 (alen h s1 8) = true then E d 232 722 [x0, x1, x2, x3] [.int (hI h s1 s0.toNatClampNeg), s2] h else none := E_gd rfl
set_option maxRecDepth 60000 in
theorem s232_722 (d : Nat) (h : AH) (x0 x1 x2 x3 : Option Value) (s0 : Int32) (s1 : Nat) : E (d + 1) 232 722 [x0, x1, x2, x3] [.int s0, .ref s1] h = if hS h s1 = some (104, 0) then (E d 111 0 [some (.ref s1), some (.int s0)] [] h).bind fun r => E (d + 1) 232 723 [x0, x1, x2, x3] (r.1.toList ++ []) r.2 else none := E_callg rfl
set_option maxRecDepth 60000 in
theorem s232_723 (d : Nat) (h : AH) (x0 x1 x3 : Option Value) (s0 : Value) (v : Nat) : E d 232 723 [x0, x1, some (.ref v), x3] [s0] h = E d 232 724 [x0, x1, some (.ref v), x3] [.ref v, s0] h := E_nx rfl
set_option maxRecDepth 60000 in
theorem s232_724 (d : Nat) (h : AH) (x1 x2 x3 : Option Value) (s0 : Value) (s1 : Value) (v : Nat) : E d 232 724 [some (.ref v), x1, x2, x3] [s0, s1] h = E d 232 725 [some (.ref v), x1, x2, x3] [.ref v, s0, s1] h := E_nx rfl
set_option maxRecDepth 60000 in
theorem s232_725 (d : Nat) (h : AH) (x0 x1 x2 : Option Value) (s0 : Value) (s1 : Value) (s2 : Value) (v : Int32) : E d 232 725 [x0, x1, x2, some (.int v)] [s0, s1, s2] h = E d 232 726 [x0, x1, x2, some (.int v)] [.int v, s0, s1, s2] h := E_nx rfl
set_option maxRecDepth 60000 in
theorem s232_726 (d : Nat) (h : AH) (x0 x1 x2 x3 : Option Value) (s0 : Value) (s1 : Value) (s2 : Value) (s3 : Value) : E d 232 726 [x0, x1, x2, x3] [s0, s1, s2, s3] h = E d 232 727 [x0, x1, x2, x3] [.int 1, s0, s1, s2, s3] h := E_nx rfl
set_option maxRecDepth 60000 in
theorem s232_727 (d : Nat) (h : AH) (x0 x1 x2 x3 : Option Value) (s0 : Int32) (s1 : Int32) (s2 : Value) (s3 : Value) (s4 : Value) : E d 232 727 [x0, x1, x2, x3] [.int s0, .int s1, s2, s3, s4] h = E d 232 728 [x0, x1, x2, x3] [.int (s1 + s0), s2, s3, s4] h := E_nx rfl
set_option maxRecDepth 60000 in
theorem s232_728 (d : Nat) (h : AH) (x0 x1 x2 x3 : Option Value) (s0 : Int32) (s1 : Nat) (s2 : Value) (s3 : Value) : E d 232 728 [x0, x1, x2, x3] [.int s0, .ref s1, s2, s3] h = if inb s0 (alen h s1 0) = true ∨ inb s0 (alen h s1 8) = true then E d 232 729 [x0, x1, x2, x3] [.int (hI h s1 s0.toNatClampNeg), s2, s3] h else none := E_gd rfl
set_option maxRecDepth 60000 in
theorem s232_729 (d : Nat) (h : AH) (x0 x1 x2 x3 : Option Value) (s0 : Int32) (s1 : Nat) (s2 : Value) : E (d + 1) 232 729 [x0, x1, x2, x3] [.int s0, .ref s1, s2] h = if hS h s1 = some (105, 0) then (E d 204 0 [some (.ref s1), some (.int s0), none, none, none, none, none] [] h).bind fun r => E (d + 1) 232 730 [x0, x1, x2, x3] (r.1.toList ++ [s2]) r.2 else none := E_callg rfl
set_option maxRecDepth 60000 in
theorem s232_730 (d : Nat) (h : AH) (x0 x1 x2 x3 : Option Value) (s0 : Int32) (s1 : Int32) : E d 232 730 [x0, x1, x2, x3] [.int s0, .int s1] h = if s1 = s0 then E d 232 1068 [x0, x1, x2, x3] [] h else E d 232 731 [x0, x1, x2, x3] [] h := E_ifc rfl
set_option maxRecDepth 60000 in
theorem s232_731 (d : Nat) (h : AH) (x0 x1 x2 x3 : Option Value)  : E d 232 731 [x0, x1, x2, x3] [] h = E d 232 732 [x0, x1, x2, x3] [.int 0] h := E_nx rfl
set_option maxRecDepth 60000 in
theorem s232_732 (d : Nat) (h : AH) (x0 x1 x2 x3 : Option Value) (s0 : Int32) : E d 232 732 [x0, x1, x2, x3] [.int s0] h = if s0 = 0 ∨ s0 = 1 then some (some (.int s0), h) else none := E_retg rfl
set_option maxRecDepth 60000 in
theorem s232_733 (d : Nat) (h : AH) (x0 x2 x3 : Option Value) (v : Nat) : E d 232 733 [x0, some (.ref v), x2, x3] [] h = E d 232 734 [x0, some (.ref v), x2, x3] [.ref v] h := E_nx rfl
set_option maxRecDepth 60000 in
theorem s232_734 (d : Nat) (h : AH) (x0 x1 x2 x3 : Option Value) (s0 : Nat) : E (d + 1) 232 734 [x0, x1, x2, x3] [.ref s0] h = if hS h s0 = some (104, 0) then (E d 112 0 [some (.ref s0), none, none, none, none] [] h).bind fun r => E (d + 1) 232 735 [x0, x1, x2, x3] (r.1.toList ++ []) r.2 else none := E_callg rfl
set_option maxRecDepth 60000 in
theorem s232_735 (d : Nat) (h : AH) (x0 x1 x3 : Option Value) (s0 : Value) (v : Nat) : E d 232 735 [x0, x1, some (.ref v), x3] [s0] h = E d 232 736 [x0, x1, some (.ref v), x3] [.ref v, s0] h := E_nx rfl
set_option maxRecDepth 60000 in
theorem s232_736 (d : Nat) (h : AH) (x0 x1 x2 x3 : Option Value) (s0 : Nat) (s1 : Value) : E (d + 1) 232 736 [x0, x1, x2, x3] [.ref s0, s1] h = if hS h s0 = some (105, 0) then (E d 206 0 [some (.ref s0), none, none, none, none, none] [] h).bind fun r => E (d + 1) 232 737 [x0, x1, x2, x3] (r.1.toList ++ [s1]) r.2 else none := E_callg rfl
set_option maxRecDepth 60000 in
theorem s232_737 (d : Nat) (h : AH) (x0 x1 x2 x3 : Option Value) (s0 : Int32) (s1 : Int32) : E d 232 737 [x0, x1, x2, x3] [.int s0, .int s1] h = if s1 = s0 then E d 232 1068 [x0, x1, x2, x3] [] h else E d 232 738 [x0, x1, x2, x3] [] h := E_ifc rfl
set_option maxRecDepth 60000 in
theorem s232_738 (d : Nat) (h : AH) (x0 x1 x2 x3 : Option Value)  : E d 232 738 [x0, x1, x2, x3] [] h = E d 232 739 [x0, x1, x2, x3] [.int 0] h := E_nx rfl
set_option maxRecDepth 60000 in
theorem s232_739 (d : Nat) (h : AH) (x0 x1 x2 x3 : Option Value) (s0 : Int32) : E d 232 739 [x0, x1, x2, x3] [.int s0] h = if s0 = 0 ∨ s0 = 1 then some (some (.int s0), h) else none := E_retg rfl
set_option maxRecDepth 60000 in
theorem s232_740 (d : Nat) (h : AH) (x0 x2 x3 : Option Value) (v : Nat) : E d 232 740 [x0, some (.ref v), x2, x3] [] h = E d 232 741 [x0, some (.ref v), x2, x3] [.ref v] h := E_nx rfl
set_option maxRecDepth 60000 in
theorem s232_741 (d : Nat) (h : AH) (x1 x2 x3 : Option Value) (s0 : Value) (v : Nat) : E d 232 741 [some (.ref v), x1, x2, x3] [s0] h = E d 232 742 [some (.ref v), x1, x2, x3] [.ref v, s0] h := E_nx rfl
set_option maxRecDepth 60000 in
theorem s232_742 (d : Nat) (h : AH) (x0 x1 x2 : Option Value) (s0 : Value) (s1 : Value) (v : Int32) : E d 232 742 [x0, x1, x2, some (.int v)] [s0, s1] h = E d 232 743 [x0, x1, x2, some (.int v)] [.int v, s0, s1] h := E_nx rfl
set_option maxRecDepth 60000 in
theorem s232_743 (d : Nat) (h : AH) (x0 x1 x2 x3 : Option Value) (s0 : Value) (s1 : Value) (s2 : Value) : E d 232 743 [x0, x1, x2, x3] [s0, s1, s2] h = E d 232 744 [x0, x1, x2, x3] [.int 1, s0, s1, s2] h := E_nx rfl
set_option maxRecDepth 60000 in
theorem s232_744 (d : Nat) (h : AH) (x0 x1 x2 x3 : Option Value) (s0 : Int32) (s1 : Int32) (s2 : Value) (s3 : Value) : E d 232 744 [x0, x1, x2, x3] [.int s0, .int s1, s2, s3] h = E d 232 745 [x0, x1, x2, x3] [.int (s1 + s0), s2, s3] h := E_nx rfl
set_option maxRecDepth 60000 in
theorem s232_745 (d : Nat) (h : AH) (x0 x1 x2 x3 : Option Value) (s0 : Int32) (s1 : Nat) (s2 : Value) : E d 232 745 [x0, x1, x2, x3] [.int s0, .ref s1, s2] h = if inb s0 (alen h s1 0) = true ∨ inb s0 (alen h s1 8) = true then E d 232 746 [x0, x1, x2, x3] [.int (hI h s1 s0.toNatClampNeg), s2] h else none := E_gd rfl
set_option maxRecDepth 60000 in
theorem s232_746 (d : Nat) (h : AH) (x1 x2 x3 : Option Value) (s0 : Value) (s1 : Value) (v : Nat) : E d 232 746 [some (.ref v), x1, x2, x3] [s0, s1] h = E d 232 747 [some (.ref v), x1, x2, x3] [.ref v, s0, s1] h := E_nx rfl
set_option maxRecDepth 60000 in
theorem s232_747 (d : Nat) (h : AH) (x0 x1 x2 : Option Value) (s0 : Value) (s1 : Value) (s2 : Value) (v : Int32) : E d 232 747 [x0, x1, x2, some (.int v)] [s0, s1, s2] h = E d 232 748 [x0, x1, x2, some (.int v)] [.int v, s0, s1, s2] h := E_nx rfl
set_option maxRecDepth 60000 in
theorem s232_748 (d : Nat) (h : AH) (x0 x1 x2 x3 : Option Value) (s0 : Value) (s1 : Value) (s2 : Value) (s3 : Value) : E d 232 748 [x0, x1, x2, x3] [s0, s1, s2, s3] h = E d 232 749 [x0, x1, x2, x3] [.int 2, s0, s1, s2, s3] h := E_nx rfl
set_option maxRecDepth 60000 in
theorem s232_749 (d : Nat) (h : AH) (x0 x1 x2 x3 : Option Value) (s0 : Int32) (s1 : Int32) (s2 : Value) (s3 : Value) (s4 : Value) : E d 232 749 [x0, x1, x2, x3] [.int s0, .int s1, s2, s3, s4] h = E d 232 750 [x0, x1, x2, x3] [.int (s1 + s0), s2, s3, s4] h := E_nx rfl
set_option maxRecDepth 60000 in
theorem s232_750 (d : Nat) (h : AH) (x0 x1 x2 x3 : Option Value) (s0 : Int32) (s1 : Nat) (s2 : Value) (s3 : Value) : E d 232 750 [x0, x1, x2, x3] [.int s0, .ref s1, s2, s3] h = if inb s0 (alen h s1 0) = true ∨ inb s0 (alen h s1 8) = true then E d 232 751 [x0, x1, x2, x3] [.int (hI h s1 s0.toNatClampNeg), s2, s3] h else none := E_gd rfl
set_option maxRecDepth 60000 in
theorem s232_751 (d : Nat) (h : AH) (x0 x1 x2 x3 : Option Value) (s0 : Int32) (s1 : Int32) (s2 : Nat) : E (d + 1) 232 751 [x0, x1, x2, x3] [.int s0, .int s1, .ref s2] h = if hS h s2 = some (104, 0) then (E d 113 0 [some (.ref s2), some (.int s1), some (.int s0), none] [] h).bind fun r => E (d + 1) 232 752 [x0, x1, x2, x3] (r.1.toList ++ []) r.2 else none := E_callg rfl
set_option maxRecDepth 60000 in
theorem s232_752 (d : Nat) (h : AH) (x0 x1 x3 : Option Value) (s0 : Value) (v : Nat) : E d 232 752 [x0, x1, some (.ref v), x3] [s0] h = E d 232 753 [x0, x1, some (.ref v), x3] [.ref v, s0] h := E_nx rfl
set_option maxRecDepth 60000 in
theorem s232_753 (d : Nat) (h : AH) (x1 x2 x3 : Option Value) (s0 : Value) (s1 : Value) (v : Nat) : E d 232 753 [some (.ref v), x1, x2, x3] [s0, s1] h = E d 232 754 [some (.ref v), x1, x2, x3] [.ref v, s0, s1] h := E_nx rfl
set_option maxRecDepth 60000 in
theorem s232_754 (d : Nat) (h : AH) (x0 x1 x2 : Option Value) (s0 : Value) (s1 : Value) (s2 : Value) (v : Int32) : E d 232 754 [x0, x1, x2, some (.int v)] [s0, s1, s2] h = E d 232 755 [x0, x1, x2, some (.int v)] [.int v, s0, s1, s2] h := E_nx rfl
set_option maxRecDepth 60000 in
theorem s232_755 (d : Nat) (h : AH) (x0 x1 x2 x3 : Option Value) (s0 : Value) (s1 : Value) (s2 : Value) (s3 : Value) : E d 232 755 [x0, x1, x2, x3] [s0, s1, s2, s3] h = E d 232 756 [x0, x1, x2, x3] [.int 1, s0, s1, s2, s3] h := E_nx rfl
set_option maxRecDepth 60000 in
theorem s232_756 (d : Nat) (h : AH) (x0 x1 x2 x3 : Option Value) (s0 : Int32) (s1 : Int32) (s2 : Value) (s3 : Value) (s4 : Value) : E d 232 756 [x0, x1, x2, x3] [.int s0, .int s1, s2, s3, s4] h = E d 232 757 [x0, x1, x2, x3] [.int (s1 + s0), s2, s3, s4] h := E_nx rfl
set_option maxRecDepth 60000 in
theorem s232_757 (d : Nat) (h : AH) (x0 x1 x2 x3 : Option Value) (s0 : Int32) (s1 : Nat) (s2 : Value) (s3 : Value) : E d 232 757 [x0, x1, x2, x3] [.int s0, .ref s1, s2, s3] h = if inb s0 (alen h s1 0) = true ∨ inb s0 (alen h s1 8) = true then E d 232 758 [x0, x1, x2, x3] [.int (hI h s1 s0.toNatClampNeg), s2, s3] h else none := E_gd rfl
set_option maxRecDepth 60000 in
theorem s232_758 (d : Nat) (h : AH) (x1 x2 x3 : Option Value) (s0 : Value) (s1 : Value) (s2 : Value) (v : Nat) : E d 232 758 [some (.ref v), x1, x2, x3] [s0, s1, s2] h = E d 232 759 [some (.ref v), x1, x2, x3] [.ref v, s0, s1, s2] h := E_nx rfl
set_option maxRecDepth 60000 in
theorem s232_759 (d : Nat) (h : AH) (x0 x1 x2 : Option Value) (s0 : Value) (s1 : Value) (s2 : Value) (s3 : Value) (v : Int32) : E d 232 759 [x0, x1, x2, some (.int v)] [s0, s1, s2, s3] h = E d 232 760 [x0, x1, x2, some (.int v)] [.int v, s0, s1, s2, s3] h := E_nx rfl
set_option maxRecDepth 60000 in
theorem s232_760 (d : Nat) (h : AH) (x0 x1 x2 x3 : Option Value) (s0 : Value) (s1 : Value) (s2 : Value) (s3 : Value) (s4 : Value) : E d 232 760 [x0, x1, x2, x3] [s0, s1, s2, s3, s4] h = E d 232 761 [x0, x1, x2, x3] [.int 2, s0, s1, s2, s3, s4] h := E_nx rfl
set_option maxRecDepth 60000 in
theorem s232_761 (d : Nat) (h : AH) (x0 x1 x2 x3 : Option Value) (s0 : Int32) (s1 : Int32) (s2 : Value) (s3 : Value) (s4 : Value) (s5 : Value) : E d 232 761 [x0, x1, x2, x3] [.int s0, .int s1, s2, s3, s4, s5] h = E d 232 762 [x0, x1, x2, x3] [.int (s1 + s0), s2, s3, s4, s5] h := E_nx rfl
set_option maxRecDepth 60000 in
theorem s232_762 (d : Nat) (h : AH) (x0 x1 x2 x3 : Option Value) (s0 : Int32) (s1 : Nat) (s2 : Value) (s3 : Value) (s4 : Value) : E d 232 762 [x0, x1, x2, x3] [.int s0, .ref s1, s2, s3, s4] h = if inb s0 (alen h s1 0) = true ∨ inb s0 (alen h s1 8) = true then E d 232 763 [x0, x1, x2, x3] [.int (hI h s1 s0.toNatClampNeg), s2, s3, s4] h else none := E_gd rfl
set_option maxRecDepth 60000 in
theorem s232_763 (d : Nat) (h : AH) (x0 x1 x2 x3 : Option Value) (s0 : Int32) (s1 : Int32) (s2 : Nat) (s3 : Value) : E (d + 1) 232 763 [x0, x1, x2, x3] [.int s0, .int s1, .ref s2, s3] h = if hS h s2 = some (105, 0) then (E d 207 0 [some (.ref s2), some (.int s1), some (.int s0), none, none] [] h).bind fun r => E (d + 1) 232 764 [x0, x1, x2, x3] (r.1.toList ++ [s3]) r.2 else none := E_callg rfl
set_option maxRecDepth 60000 in
theorem s232_764 (d : Nat) (h : AH) (x0 x1 x2 x3 : Option Value) (s0 : Int32) (s1 : Int32) : E d 232 764 [x0, x1, x2, x3] [.int s0, .int s1] h = if s1 = s0 then E d 232 1068 [x0, x1, x2, x3] [] h else E d 232 765 [x0, x1, x2, x3] [] h := E_ifc rfl
set_option maxRecDepth 60000 in
theorem s232_765 (d : Nat) (h : AH) (x0 x1 x2 x3 : Option Value)  : E d 232 765 [x0, x1, x2, x3] [] h = E d 232 766 [x0, x1, x2, x3] [.int 0] h := E_nx rfl
set_option maxRecDepth 60000 in
theorem s232_766 (d : Nat) (h : AH) (x0 x1 x2 x3 : Option Value) (s0 : Int32) : E d 232 766 [x0, x1, x2, x3] [.int s0] h = if s0 = 0 ∨ s0 = 1 then some (some (.int s0), h) else none := E_retg rfl
set_option maxRecDepth 60000 in
theorem s232_767 (d : Nat) (h : AH) (x0 x2 x3 : Option Value) (v : Nat) : E d 232 767 [x0, some (.ref v), x2, x3] [] h = E d 232 768 [x0, some (.ref v), x2, x3] [.ref v] h := E_nx rfl
set_option maxRecDepth 60000 in
theorem s232_768 (d : Nat) (h : AH) (x1 x2 x3 : Option Value) (s0 : Value) (v : Nat) : E d 232 768 [some (.ref v), x1, x2, x3] [s0] h = E d 232 769 [some (.ref v), x1, x2, x3] [.ref v, s0] h := E_nx rfl
set_option maxRecDepth 60000 in
theorem s232_769 (d : Nat) (h : AH) (x0 x1 x2 : Option Value) (s0 : Value) (s1 : Value) (v : Int32) : E d 232 769 [x0, x1, x2, some (.int v)] [s0, s1] h = E d 232 770 [x0, x1, x2, some (.int v)] [.int v, s0, s1] h := E_nx rfl
set_option maxRecDepth 60000 in
theorem s232_770 (d : Nat) (h : AH) (x0 x1 x2 x3 : Option Value) (s0 : Value) (s1 : Value) (s2 : Value) : E d 232 770 [x0, x1, x2, x3] [s0, s1, s2] h = E d 232 771 [x0, x1, x2, x3] [.int 1, s0, s1, s2] h := E_nx rfl
set_option maxRecDepth 60000 in
theorem s232_771 (d : Nat) (h : AH) (x0 x1 x2 x3 : Option Value) (s0 : Int32) (s1 : Int32) (s2 : Value) (s3 : Value) : E d 232 771 [x0, x1, x2, x3] [.int s0, .int s1, s2, s3] h = E d 232 772 [x0, x1, x2, x3] [.int (s1 + s0), s2, s3] h := E_nx rfl
set_option maxRecDepth 60000 in
theorem s232_772 (d : Nat) (h : AH) (x0 x1 x2 x3 : Option Value) (s0 : Int32) (s1 : Nat) (s2 : Value) : E d 232 772 [x0, x1, x2, x3] [.int s0, .ref s1, s2] h = if inb s0 (alen h s1 0) = true ∨ inb s0 (alen h s1 8) = true then E d 232 773 [x0, x1, x2, x3] [.int (hI h s1 s0.toNatClampNeg), s2] h else none := E_gd rfl
set_option maxRecDepth 60000 in
theorem s232_773 (d : Nat) (h : AH) (x1 x2 x3 : Option Value) (s0 : Value) (s1 : Value) (v : Nat) : E d 232 773 [some (.ref v), x1, x2, x3] [s0, s1] h = E d 232 774 [some (.ref v), x1, x2, x3] [.ref v, s0, s1] h := E_nx rfl
set_option maxRecDepth 60000 in
theorem s232_774 (d : Nat) (h : AH) (x0 x1 x2 : Option Value) (s0 : Value) (s1 : Value) (s2 : Value) (v : Int32) : E d 232 774 [x0, x1, x2, some (.int v)] [s0, s1, s2] h = E d 232 775 [x0, x1, x2, some (.int v)] [.int v, s0, s1, s2] h := E_nx rfl
set_option maxRecDepth 60000 in
theorem s232_775 (d : Nat) (h : AH) (x0 x1 x2 x3 : Option Value) (s0 : Value) (s1 : Value) (s2 : Value) (s3 : Value) : E d 232 775 [x0, x1, x2, x3] [s0, s1, s2, s3] h = E d 232 776 [x0, x1, x2, x3] [.int 2, s0, s1, s2, s3] h := E_nx rfl
set_option maxRecDepth 60000 in
theorem s232_776 (d : Nat) (h : AH) (x0 x1 x2 x3 : Option Value) (s0 : Int32) (s1 : Int32) (s2 : Value) (s3 : Value) (s4 : Value) : E d 232 776 [x0, x1, x2, x3] [.int s0, .int s1, s2, s3, s4] h = E d 232 777 [x0, x1, x2, x3] [.int (s1 + s0), s2, s3, s4] h := E_nx rfl
set_option maxRecDepth 60000 in
theorem s232_777 (d : Nat) (h : AH) (x0 x1 x2 x3 : Option Value) (s0 : Int32) (s1 : Nat) (s2 : Value) (s3 : Value) : E d 232 777 [x0, x1, x2, x3] [.int s0, .ref s1, s2, s3] h = if inb s0 (alen h s1 0) = true ∨ inb s0 (alen h s1 8) = true then E d 232 778 [x0, x1, x2, x3] [.int (hI h s1 s0.toNatClampNeg), s2, s3] h else none := E_gd rfl
set_option maxRecDepth 60000 in
theorem s232_778 (d : Nat) (h : AH) (x0 x1 x2 x3 : Option Value) (s0 : Int32) (s1 : Int32) (s2 : Nat) : E (d + 1) 232 778 [x0, x1, x2, x3] [.int s0, .int s1, .ref s2] h = if hS h s2 = some (104, 0) then (E d 114 0 [some (.ref s2), some (.int s1), some (.int s0)] [] h).bind fun r => E (d + 1) 232 779 [x0, x1, x2, x3] (r.1.toList ++ []) r.2 else none := E_callg rfl
set_option maxRecDepth 60000 in
theorem s232_779 (d : Nat) (h : AH) (x0 x1 x3 : Option Value) (s0 : Value) (v : Nat) : E d 232 779 [x0, x1, some (.ref v), x3] [s0] h = E d 232 780 [x0, x1, some (.ref v), x3] [.ref v, s0] h := E_nx rfl
set_option maxRecDepth 60000 in
theorem s232_780 (d : Nat) (h : AH) (x1 x2 x3 : Option Value) (s0 : Value) (s1 : Value) (v : Nat) : E d 232 780 [some (.ref v), x1, x2, x3] [s0, s1] h = E d 232 781 [some (.ref v), x1, x2, x3] [.ref v, s0, s1] h := E_nx rfl
set_option maxRecDepth 60000 in
theorem s232_781 (d : Nat) (h : AH) (x0 x1 x2 : Option Value) (s0 : Value) (s1 : Value) (s2 : Value) (v : Int32) : E d 232 781 [x0, x1, x2, some (.int v)] [s0, s1, s2] h = E d 232 782 [x0, x1, x2, some (.int v)] [.int v, s0, s1, s2] h := E_nx rfl
set_option maxRecDepth 60000 in
theorem s232_782 (d : Nat) (h : AH) (x0 x1 x2 x3 : Option Value) (s0 : Value) (s1 : Value) (s2 : Value) (s3 : Value) : E d 232 782 [x0, x1, x2, x3] [s0, s1, s2, s3] h = E d 232 783 [x0, x1, x2, x3] [.int 1, s0, s1, s2, s3] h := E_nx rfl
set_option maxRecDepth 60000 in
theorem s232_783 (d : Nat) (h : AH) (x0 x1 x2 x3 : Option Value) (s0 : Int32) (s1 : Int32) (s2 : Value) (s3 : Value) (s4 : Value) : E d 232 783 [x0, x1, x2, x3] [.int s0, .int s1, s2, s3, s4] h = E d 232 784 [x0, x1, x2, x3] [.int (s1 + s0), s2, s3, s4] h := E_nx rfl
set_option maxRecDepth 60000 in
theorem s232_784 (d : Nat) (h : AH) (x0 x1 x2 x3 : Option Value) (s0 : Int32) (s1 : Nat) (s2 : Value) (s3 : Value) : E d 232 784 [x0, x1, x2, x3] [.int s0, .ref s1, s2, s3] h = if inb s0 (alen h s1 0) = true ∨ inb s0 (alen h s1 8) = true then E d 232 785 [x0, x1, x2, x3] [.int (hI h s1 s0.toNatClampNeg), s2, s3] h else none := E_gd rfl
set_option maxRecDepth 60000 in
theorem s232_785 (d : Nat) (h : AH) (x1 x2 x3 : Option Value) (s0 : Value) (s1 : Value) (s2 : Value) (v : Nat) : E d 232 785 [some (.ref v), x1, x2, x3] [s0, s1, s2] h = E d 232 786 [some (.ref v), x1, x2, x3] [.ref v, s0, s1, s2] h := E_nx rfl
set_option maxRecDepth 60000 in
theorem s232_786 (d : Nat) (h : AH) (x0 x1 x2 : Option Value) (s0 : Value) (s1 : Value) (s2 : Value) (s3 : Value) (v : Int32) : E d 232 786 [x0, x1, x2, some (.int v)] [s0, s1, s2, s3] h = E d 232 787 [x0, x1, x2, some (.int v)] [.int v, s0, s1, s2, s3] h := E_nx rfl
set_option maxRecDepth 60000 in
theorem s232_787 (d : Nat) (h : AH) (x0 x1 x2 x3 : Option Value) (s0 : Value) (s1 : Value) (s2 : Value) (s3 : Value) (s4 : Value) : E d 232 787 [x0, x1, x2, x3] [s0, s1, s2, s3, s4] h = E d 232 788 [x0, x1, x2, x3] [.int 2, s0, s1, s2, s3, s4] h := E_nx rfl
set_option maxRecDepth 60000 in
theorem s232_788 (d : Nat) (h : AH) (x0 x1 x2 x3 : Option Value) (s0 : Int32) (s1 : Int32) (s2 : Value) (s3 : Value) (s4 : Value) (s5 : Value) : E d 232 788 [x0, x1, x2, x3] [.int s0, .int s1, s2, s3, s4, s5] h = E d 232 789 [x0, x1, x2, x3] [.int (s1 + s0), s2, s3, s4, s5] h := E_nx rfl
set_option maxRecDepth 60000 in
theorem s232_789 (d : Nat) (h : AH) (x0 x1 x2 x3 : Option Value) (s0 : Int32) (s1 : Nat) (s2 : Value) (s3 : Value) (s4 : Value) : E d 232 789 [x0, x1, x2, x3] [.int s0, .ref s1, s2, s3, s4] h = if inb s0 (alen h s1 0) = true ∨ inb s0 (alen h s1 8) = true then E d 232 790 [x0, x1, x2, x3] [.int (hI h s1 s0.toNatClampNeg), s2, s3, s4] h else none := E_gd rfl
set_option maxRecDepth 60000 in
theorem s232_790 (d : Nat) (h : AH) (x0 x1 x2 x3 : Option Value) (s0 : Int32) (s1 : Int32) (s2 : Nat) (s3 : Value) : E (d + 1) 232 790 [x0, x1, x2, x3] [.int s0, .int s1, .ref s2, s3] h = if hS h s2 = some (105, 0) then (E d 208 0 [some (.ref s2), some (.int s1), some (.int s0), none, none, none, none, none, none, none] [] h).bind fun r => E (d + 1) 232 791 [x0, x1, x2, x3] (r.1.toList ++ [s3]) r.2 else none := E_callg rfl
set_option maxRecDepth 60000 in
theorem s232_791 (d : Nat) (h : AH) (x0 x1 x2 x3 : Option Value) (s0 : Int32) (s1 : Int32) : E d 232 791 [x0, x1, x2, x3] [.int s0, .int s1] h = if s1 = s0 then E d 232 1068 [x0, x1, x2, x3] [] h else E d 232 792 [x0, x1, x2, x3] [] h := E_ifc rfl
set_option maxRecDepth 60000 in
theorem s232_792 (d : Nat) (h : AH) (x0 x1 x2 x3 : Option Value)  : E d 232 792 [x0, x1, x2, x3] [] h = E d 232 793 [x0, x1, x2, x3] [.int 0] h := E_nx rfl
set_option maxRecDepth 60000 in
theorem s232_793 (d : Nat) (h : AH) (x0 x1 x2 x3 : Option Value) (s0 : Int32) : E d 232 793 [x0, x1, x2, x3] [.int s0] h = if s0 = 0 ∨ s0 = 1 then some (some (.int s0), h) else none := E_retg rfl
set_option maxRecDepth 60000 in
theorem s232_794 (d : Nat) (h : AH) (x0 x2 x3 : Option Value) (v : Nat) : E d 232 794 [x0, some (.ref v), x2, x3] [] h = E d 232 795 [x0, some (.ref v), x2, x3] [.ref v] h := E_nx rfl
set_option maxRecDepth 60000 in
theorem s232_795 (d : Nat) (h : AH) (x1 x2 x3 : Option Value) (s0 : Value) (v : Nat) : E d 232 795 [some (.ref v), x1, x2, x3] [s0] h = E d 232 796 [some (.ref v), x1, x2, x3] [.ref v, s0] h := E_nx rfl
set_option maxRecDepth 60000 in
theorem s232_796 (d : Nat) (h : AH) (x0 x1 x2 : Option Value) (s0 : Value) (s1 : Value) (v : Int32) : E d 232 796 [x0, x1, x2, some (.int v)] [s0, s1] h = E d 232 797 [x0, x1, x2, some (.int v)] [.int v, s0, s1] h := E_nx rfl
set_option maxRecDepth 60000 in
theorem s232_797 (d : Nat) (h : AH) (x0 x1 x2 x3 : Option Value) (s0 : Value) (s1 : Value) (s2 : Value) : E d 232 797 [x0, x1, x2, x3] [s0, s1, s2] h = E d 232 798 [x0, x1, x2, x3] [.int 1, s0, s1, s2] h := E_nx rfl
set_option maxRecDepth 60000 in
theorem s232_798 (d : Nat) (h : AH) (x0 x1 x2 x3 : Option Value) (s0 : Int32) (s1 : Int32) (s2 : Value) (s3 : Value) : E d 232 798 [x0, x1, x2, x3] [.int s0, .int s1, s2, s3] h = E d 232 799 [x0, x1, x2, x3] [.int (s1 + s0), s2, s3] h := E_nx rfl
set_option maxRecDepth 60000 in
theorem s232_799 (d : Nat) (h : AH) (x0 x1 x2 x3 : Option Value) (s0 : Int32) (s1 : Nat) (s2 : Value) : E d 232 799 [x0, x1, x2, x3] [.int s0, .ref s1, s2] h = if inb s0 (alen h s1 0) = true ∨ inb s0 (alen h s1 8) = true then E d 232 800 [x0, x1, x2, x3] [.int (hI h s1 s0.toNatClampNeg), s2] h else none := E_gd rfl
set_option maxRecDepth 60000 in
theorem s232_800 (d : Nat) (h : AH) (x0 x1 x2 x3 : Option Value) (s0 : Int32) (s1 : Nat) : E (d + 1) 232 800 [x0, x1, x2, x3] [.int s0, .ref s1] h = if hS h s1 = some (104, 0) then (E d 115 0 [some (.ref s1), some (.int s0), none, none, none] [] h).bind fun r => E (d + 1) 232 801 [x0, x1, x2, x3] (r.1.toList ++ []) r.2 else none := E_callg rfl
set_option maxRecDepth 60000 in
theorem s232_801 (d : Nat) (h : AH) (x0 x1 x3 : Option Value) (s0 : Value) (v : Nat) : E d 232 801 [x0, x1, some (.ref v), x3] [s0] h = E d 232 802 [x0, x1, some (.ref v), x3] [.ref v, s0] h := E_nx rfl
set_option maxRecDepth 60000 in
theorem s232_802 (d : Nat) (h : AH) (x1 x2 x3 : Option Value) (s0 : Value) (s1 : Value) (v : Nat) : E d 232 802 [some (.ref v), x1, x2, x3] [s0, s1] h = E d 232 803 [some (.ref v), x1, x2, x3] [.ref v, s0, s1] h := E_nx rfl
set_option maxRecDepth 60000 in
theorem s232_803 (d : Nat) (h : AH) (x0 x1 x2 : Option Value) (s0 : Value) (s1 : Value) (s2 : Value) (v : Int32) : E d 232 803 [x0, x1, x2, some (.int v)] [s0, s1, s2] h = E d 232 804 [x0, x1, x2, some (.int v)] [.int v, s0, s1, s2] h := E_nx rfl
set_option maxRecDepth 60000 in
theorem s232_804 (d : Nat) (h : AH) (x0 x1 x2 x3 : Option Value) (s0 : Value) (s1 : Value) (s2 : Value) (s3 : Value) : E d 232 804 [x0, x1, x2, x3] [s0, s1, s2, s3] h = E d 232 805 [x0, x1, x2, x3] [.int 1, s0, s1, s2, s3] h := E_nx rfl
set_option maxRecDepth 60000 in
theorem s232_805 (d : Nat) (h : AH) (x0 x1 x2 x3 : Option Value) (s0 : Int32) (s1 : Int32) (s2 : Value) (s3 : Value) (s4 : Value) : E d 232 805 [x0, x1, x2, x3] [.int s0, .int s1, s2, s3, s4] h = E d 232 806 [x0, x1, x2, x3] [.int (s1 + s0), s2, s3, s4] h := E_nx rfl
set_option maxRecDepth 60000 in
theorem s232_806 (d : Nat) (h : AH) (x0 x1 x2 x3 : Option Value) (s0 : Int32) (s1 : Nat) (s2 : Value) (s3 : Value) : E d 232 806 [x0, x1, x2, x3] [.int s0, .ref s1, s2, s3] h = if inb s0 (alen h s1 0) = true ∨ inb s0 (alen h s1 8) = true then E d 232 807 [x0, x1, x2, x3] [.int (hI h s1 s0.toNatClampNeg), s2, s3] h else none := E_gd rfl
set_option maxRecDepth 60000 in
theorem s232_807 (d : Nat) (h : AH) (x0 x1 x2 x3 : Option Value) (s0 : Int32) (s1 : Nat) (s2 : Value) : E (d + 1) 232 807 [x0, x1, x2, x3] [.int s0, .ref s1, s2] h = if hS h s1 = some (105, 0) then (E d 211 0 [some (.ref s1), some (.int s0), none, none] [] h).bind fun r => E (d + 1) 232 808 [x0, x1, x2, x3] (r.1.toList ++ [s2]) r.2 else none := E_callg rfl
set_option maxRecDepth 60000 in
theorem s232_808 (d : Nat) (h : AH) (x0 x1 x2 x3 : Option Value) (s0 : Int32) (s1 : Int32) : E d 232 808 [x0, x1, x2, x3] [.int s0, .int s1] h = if s1 = s0 then E d 232 1068 [x0, x1, x2, x3] [] h else E d 232 809 [x0, x1, x2, x3] [] h := E_ifc rfl
set_option maxRecDepth 60000 in
theorem s232_809 (d : Nat) (h : AH) (x0 x1 x2 x3 : Option Value)  : E d 232 809 [x0, x1, x2, x3] [] h = E d 232 810 [x0, x1, x2, x3] [.int 0] h := E_nx rfl
set_option maxRecDepth 60000 in
theorem s232_810 (d : Nat) (h : AH) (x0 x1 x2 x3 : Option Value) (s0 : Int32) : E d 232 810 [x0, x1, x2, x3] [.int s0] h = if s0 = 0 ∨ s0 = 1 then some (some (.int s0), h) else none := E_retg rfl
set_option maxRecDepth 60000 in
theorem s232_811 (d : Nat) (h : AH) (x0 x2 x3 : Option Value) (v : Nat) : E d 232 811 [x0, some (.ref v), x2, x3] [] h = E d 232 812 [x0, some (.ref v), x2, x3] [.ref v] h := E_nx rfl
set_option maxRecDepth 60000 in
theorem s232_812 (d : Nat) (h : AH) (x1 x2 x3 : Option Value) (s0 : Value) (v : Nat) : E d 232 812 [some (.ref v), x1, x2, x3] [s0] h = E d 232 813 [some (.ref v), x1, x2, x3] [.ref v, s0] h := E_nx rfl
set_option maxRecDepth 60000 in
theorem s232_813 (d : Nat) (h : AH) (x0 x1 x2 : Option Value) (s0 : Value) (s1 : Value) (v : Int32) : E d 232 813 [x0, x1, x2, some (.int v)] [s0, s1] h = E d 232 814 [x0, x1, x2, some (.int v)] [.int v, s0, s1] h := E_nx rfl
set_option maxRecDepth 60000 in
theorem s232_814 (d : Nat) (h : AH) (x0 x1 x2 x3 : Option Value) (s0 : Value) (s1 : Value) (s2 : Value) : E d 232 814 [x0, x1, x2, x3] [s0, s1, s2] h = E d 232 815 [x0, x1, x2, x3] [.int 1, s0, s1, s2] h := E_nx rfl
set_option maxRecDepth 60000 in
theorem s232_815 (d : Nat) (h : AH) (x0 x1 x2 x3 : Option Value) (s0 : Int32) (s1 : Int32) (s2 : Value) (s3 : Value) : E d 232 815 [x0, x1, x2, x3] [.int s0, .int s1, s2, s3] h = E d 232 816 [x0, x1, x2, x3] [.int (s1 + s0), s2, s3] h := E_nx rfl
set_option maxRecDepth 60000 in
theorem s232_816 (d : Nat) (h : AH) (x0 x1 x2 x3 : Option Value) (s0 : Int32) (s1 : Nat) (s2 : Value) : E d 232 816 [x0, x1, x2, x3] [.int s0, .ref s1, s2] h = if inb s0 (alen h s1 0) = true ∨ inb s0 (alen h s1 8) = true then E d 232 817 [x0, x1, x2, x3] [.int (hI h s1 s0.toNatClampNeg), s2] h else none := E_gd rfl
set_option maxRecDepth 60000 in
theorem s232_817 (d : Nat) (h : AH) (x0 x1 x2 x3 : Option Value) (s0 : Int32) (s1 : Nat) : E (d + 1) 232 817 [x0, x1, x2, x3] [.int s0, .ref s1] h = if hS h s1 = some (104, 0) then (E d 116 0 [some (.ref s1), some (.int s0)] [] h).bind fun r => E (d + 1) 232 818 [x0, x1, x2, x3] (r.1.toList ++ []) r.2 else none := E_callg rfl
set_option maxRecDepth 60000 in
theorem s232_818 (d : Nat) (h : AH) (x0 x1 x3 : Option Value) (s0 : Value) (v : Nat) : E d 232 818 [x0, x1, some (.ref v), x3] [s0] h = E d 232 819 [x0, x1, some (.ref v), x3] [.ref v, s0] h := E_nx rfl
set_option maxRecDepth 60000 in
theorem s232_819 (d : Nat) (h : AH) (x1 x2 x3 : Option Value) (s0 : Value) (s1 : Value) (v : Nat) : E d 232 819 [some (.ref v), x1, x2, x3] [s0, s1] h = E d 232 820 [some (.ref v), x1, x2, x3] [.ref v, s0, s1] h := E_nx rfl
set_option maxRecDepth 60000 in
theorem s232_820 (d : Nat) (h : AH) (x0 x1 x2 : Option Value) (s0 : Value) (s1 : Value) (s2 : Value) (v : Int32) : E d 232 820 [x0, x1, x2, some (.int v)] [s0, s1, s2] h = E d 232 821 [x0, x1, x2, some (.int v)] [.int v, s0, s1, s2] h := E_nx rfl
set_option maxRecDepth 60000 in
theorem s232_821 (d : Nat) (h : AH) (x0 x1 x2 x3 : Option Value) (s0 : Value) (s1 : Value) (s2 : Value) (s3 : Value) : E d 232 821 [x0, x1, x2, x3] [s0, s1, s2, s3] h = E d 232 822 [x0, x1, x2, x3] [.int 1, s0, s1, s2, s3] h := E_nx rfl
set_option maxRecDepth 60000 in
theorem s232_822 (d : Nat) (h : AH) (x0 x1 x2 x3 : Option Value) (s0 : Int32) (s1 : Int32) (s2 : Value) (s3 : Value) (s4 : Value) : E d 232 822 [x0, x1, x2, x3] [.int s0, .int s1, s2, s3, s4] h = E d 232 823 [x0, x1, x2, x3] [.int (s1 + s0), s2, s3, s4] h := E_nx rfl
set_option maxRecDepth 60000 in
theorem s232_823 (d : Nat) (h : AH) (x0 x1 x2 x3 : Option Value) (s0 : Int32) (s1 : Nat) (s2 : Value) (s3 : Value) : E d 232 823 [x0, x1, x2, x3] [.int s0, .ref s1, s2, s3] h = if inb s0 (alen h s1 0) = true ∨ inb s0 (alen h s1 8) = true then E d 232 824 [x0, x1, x2, x3] [.int (hI h s1 s0.toNatClampNeg), s2, s3] h else none := E_gd rfl
set_option maxRecDepth 60000 in
theorem s232_824 (d : Nat) (h : AH) (x0 x1 x2 x3 : Option Value) (s0 : Int32) (s1 : Nat) (s2 : Value) : E (d + 1) 232 824 [x0, x1, x2, x3] [.int s0, .ref s1, s2] h = if hS h s1 = some (105, 0) then (E d 214 0 [some (.ref s1), some (.int s0), none, none] [] h).bind fun r => E (d + 1) 232 825 [x0, x1, x2, x3] (r.1.toList ++ [s2]) r.2 else none := E_callg rfl
set_option maxRecDepth 60000 in
theorem s232_825 (d : Nat) (h : AH) (x0 x1 x2 x3 : Option Value) (s0 : Int32) (s1 : Int32) : E d 232 825 [x0, x1, x2, x3] [.int s0, .int s1] h = if s1 = s0 then E d 232 1068 [x0, x1, x2, x3] [] h else E d 232 826 [x0, x1, x2, x3] [] h := E_ifc rfl
set_option maxRecDepth 60000 in
theorem s232_826 (d : Nat) (h : AH) (x0 x1 x2 x3 : Option Value)  : E d 232 826 [x0, x1, x2, x3] [] h = E d 232 827 [x0, x1, x2, x3] [.int 0] h := E_nx rfl
set_option maxRecDepth 60000 in
theorem s232_827 (d : Nat) (h : AH) (x0 x1 x2 x3 : Option Value) (s0 : Int32) : E d 232 827 [x0, x1, x2, x3] [.int s0] h = if s0 = 0 ∨ s0 = 1 then some (some (.int s0), h) else none := E_retg rfl
set_option maxRecDepth 60000 in
theorem s232_828 (d : Nat) (h : AH) (x0 x2 x3 : Option Value) (v : Nat) : E d 232 828 [x0, some (.ref v), x2, x3] [] h = E d 232 829 [x0, some (.ref v), x2, x3] [.ref v] h := E_nx rfl
set_option maxRecDepth 60000 in
theorem s232_829 (d : Nat) (h : AH) (x1 x2 x3 : Option Value) (s0 : Value) (v : Nat) : E d 232 829 [some (.ref v), x1, x2, x3] [s0] h = E d 232 830 [some (.ref v), x1, x2, x3] [.ref v, s0] h := E_nx rfl
set_option maxRecDepth 60000 in
theorem s232_830 (d : Nat) (h : AH) (x0 x1 x2 : Option Value) (s0 : Value) (s1 : Value) (v : Int32) : E d 232 830 [x0, x1, x2, some (.int v)] [s0, s1] h = E d 232 831 [x0, x1, x2, some (.int v)] [.int v, s0, s1] h := E_nx rfl
set_option maxRecDepth 60000 in
theorem s232_831 (d : Nat) (h : AH) (x0 x1 x2 x3 : Option Value) (s0 : Value) (s1 : Value) (s2 : Value) : E d 232 831 [x0, x1, x2, x3] [s0, s1, s2] h = E d 232 832 [x0, x1, x2, x3] [.int 1, s0, s1, s2] h := E_nx rfl
set_option maxRecDepth 60000 in
theorem s232_832 (d : Nat) (h : AH) (x0 x1 x2 x3 : Option Value) (s0 : Int32) (s1 : Int32) (s2 : Value) (s3 : Value) : E d 232 832 [x0, x1, x2, x3] [.int s0, .int s1, s2, s3] h = E d 232 833 [x0, x1, x2, x3] [.int (s1 + s0), s2, s3] h := E_nx rfl
set_option maxRecDepth 60000 in
theorem s232_833 (d : Nat) (h : AH) (x0 x1 x2 x3 : Option Value) (s0 : Int32) (s1 : Nat) (s2 : Value) : E d 232 833 [x0, x1, x2, x3] [.int s0, .ref s1, s2] h = if inb s0 (alen h s1 0) = true ∨ inb s0 (alen h s1 8) = true then E d 232 834 [x0, x1, x2, x3] [.int (hI h s1 s0.toNatClampNeg), s2] h else none := E_gd rfl
set_option maxRecDepth 60000 in
theorem s232_834 (d : Nat) (h : AH) (x1 x2 x3 : Option Value) (s0 : Value) (s1 : Value) (v : Nat) : E d 232 834 [some (.ref v), x1, x2, x3] [s0, s1] h = E d 232 835 [some (.ref v), x1, x2, x3] [.ref v, s0, s1] h := E_nx rfl
set_option maxRecDepth 60000 in
theorem s232_835 (d : Nat) (h : AH) (x0 x1 x2 : Option Value) (s0 : Value) (s1 : Value) (s2 : Value) (v : Int32) : E d 232 835 [x0, x1, x2, some (.int v)] [s0, s1, s2] h = E d 232 836 [x0, x1, x2, some (.int v)] [.int v, s0, s1, s2] h := E_nx rfl
set_option maxRecDepth 60000 in
theorem s232_836 (d : Nat) (h : AH) (x0 x1 x2 x3 : Option Value) (s0 : Value) (s1 : Value) (s2 : Value) (s3 : Value) : E d 232 836 [x0, x1, x2, x3] [s0, s1, s2, s3] h = E d 232 837 [x0, x1, x2, x3] [.int 2, s0, s1, s2, s3] h := E_nx rfl
set_option maxRecDepth 60000 in
theorem s232_837 (d : Nat) (h : AH) (x0 x1 x2 x3 : Option Value) (s0 : Int32) (s1 : Int32) (s2 : Value) (s3 : Value) (s4 : Value) : E d 232 837 [x0, x1, x2, x3] [.int s0, .int s1, s2, s3, s4] h = E d 232 838 [x0, x1, x2, x3] [.int (s1 + s0), s2, s3, s4] h := E_nx rfl
set_option maxRecDepth 60000 in
theorem s232_838 (d : Nat) (h : AH) (x0 x1 x2 x3 : Option Value) (s0 : Int32) (s1 : Nat) (s2 : Value) (s3 : Value) : E d 232 838 [x0, x1, x2, x3] [.int s0, .ref s1, s2, s3] h = if inb s0 (alen h s1 0) = true ∨ inb s0 (alen h s1 8) = true then E d 232 839 [x0, x1, x2, x3] [.int (hI h s1 s0.toNatClampNeg), s2, s3] h else none := E_gd rfl
set_option maxRecDepth 60000 in
theorem s232_839 (d : Nat) (h : AH) (x0 x1 x2 x3 : Option Value) (s0 : Int32) (s1 : Int32) (s2 : Nat) : E (d + 1) 232 839 [x0, x1, x2, x3] [.int s0, .int s1, .ref s2] h = if hS h s2 = some (104, 0) then (E d 117 0 [some (.ref s2), some (.int s1), some (.int s0)] [] h).bind fun r => E (d + 1) 232 840 [x0, x1, x2, x3] (r.1.toList ++ []) r.2 else none := E_callg rfl
set_option maxRecDepth 60000 in
theorem s232_840 (d : Nat) (h : AH) (x0 x1 x3 : Option Value) (s0 : Value) (v : Nat) : E d 232 840 [x0, x1, some (.ref v), x3] [s0] h = E d 232 841 [x0, x1, some (.ref v), x3] [.ref v, s0] h := E_nx rfl
set_option maxRecDepth 60000 in
theorem s232_841 (d : Nat) (h : AH) (x1 x2 x3 : Option Value) (s0 : Value) (s1 : Value) (v : Nat) : E d 232 841 [some (.ref v), x1, x2, x3] [s0, s1] h = E d 232 842 [some (.ref v), x1, x2, x3] [.ref v, s0, s1] h := E_nx rfl
set_option maxRecDepth 60000 in
theorem s232_842 (d : Nat) (h : AH) (x0 x1 x2 : Option Value) (s0 : Value) (s1 : Value) (s2 : Value) (v : Int32) : E d 232 842 [x0, x1, x2, some (.int v)] [s0, s1, s2] h = E d 232 843 [x0, x1, x2, some (.int v)] [.int v, s0, s1, s2] h := E_nx rfl
set_option maxRecDepth 60000 in
theorem s232_843 (d : Nat) (h : AH) (x0 x1 x2 x3 : Option Value) (s0 : Value) (s1 : Value) (s2 : Value) (s3 : Value) : E d 232 843 [x0, x1, x2, x3] [s0, s1, s2, s3] h = E d 232 844 [x0, x1, x2, x3] [.int 1, s0, s1, s2, s3] h := E_nx rfl
set_option maxRecDepth 60000 in
theorem s232_844 (d : Nat) (h : AH) (x0 x1 x2 x3 : Option Value) (s0 : Int32) (s1 : Int32) (s2 : Value) (s3 : Value) (s4 : Value) : E d 232 844 [x0, x1, x2, x3] [.int s0, .int s1, s2, s3, s4] h = E d 232 845 [x0, x1, x2, x3] [.int (s1 + s0), s2, s3, s4] h := E_nx rfl
set_option maxRecDepth 60000 in
theorem s232_845 (d : Nat) (h : AH) (x0 x1 x2 x3 : Option Value) (s0 : Int32) (s1 : Nat) (s2 : Value) (s3 : Value) : E d 232 845 [x0, x1, x2, x3] [.int s0, .ref s1, s2, s3] h = if inb s0 (alen h s1 0) = true ∨ inb s0 (alen h s1 8) = true then E d 232 846 [x0, x1, x2, x3] [.int (hI h s1 s0.toNatClampNeg), s2, s3] h else none := E_gd rfl
set_option maxRecDepth 60000 in
theorem s232_846 (d : Nat) (h : AH) (x1 x2 x3 : Option Value) (s0 : Value) (s1 : Value) (s2 : Value) (v : Nat) : E d 232 846 [some (.ref v), x1, x2, x3] [s0, s1, s2] h = E d 232 847 [some (.ref v), x1, x2, x3] [.ref v, s0, s1, s2] h := E_nx rfl
set_option maxRecDepth 60000 in
theorem s232_847 (d : Nat) (h : AH) (x0 x1 x2 : Option Value) (s0 : Value) (s1 : Value) (s2 : Value) (s3 : Value) (v : Int32) : E d 232 847 [x0, x1, x2, some (.int v)] [s0, s1, s2, s3] h = E d 232 848 [x0, x1, x2, some (.int v)] [.int v, s0, s1, s2, s3] h := E_nx rfl
set_option maxRecDepth 60000 in
theorem s232_848 (d : Nat) (h : AH) (x0 x1 x2 x3 : Option Value) (s0 : Value) (s1 : Value) (s2 : Value) (s3 : Value) (s4 : Value) : E d 232 848 [x0, x1, x2, x3] [s0, s1, s2, s3, s4] h = E d 232 849 [x0, x1, x2, x3] [.int 2, s0, s1, s2, s3, s4] h := E_nx rfl
set_option maxRecDepth 60000 in
theorem s232_849 (d : Nat) (h : AH) (x0 x1 x2 x3 : Option Value) (s0 : Int32) (s1 : Int32) (s2 : Value) (s3 : Value) (s4 : Value) (s5 : Value) : E d 232 849 [x0, x1, x2, x3] [.int s0, .int s1, s2, s3, s4, s5] h = E d 232 850 [x0, x1, x2, x3] [.int (s1 + s0), s2, s3, s4, s5] h := E_nx rfl
set_option maxRecDepth 60000 in
theorem s232_850 (d : Nat) (h : AH) (x0 x1 x2 x3 : Option Value) (s0 : Int32) (s1 : Nat) (s2 : Value) (s3 : Value) (s4 : Value) : E d 232 850 [x0, x1, x2, x3] [.int s0, .ref s1, s2, s3, s4] h = if inb s0 (alen h s1 0) = true ∨ inb s0 (alen h s1 8) = true then E d 232 851 [x0, x1, x2, x3] [.int (hI h s1 s0.toNatClampNeg), s2, s3, s4] h else none := E_gd rfl
set_option maxRecDepth 60000 in
theorem s232_851 (d : Nat) (h : AH) (x0 x1 x2 x3 : Option Value) (s0 : Int32) (s1 : Int32) (s2 : Nat) (s3 : Value) : E (d + 1) 232 851 [x0, x1, x2, x3] [.int s0, .int s1, .ref s2, s3] h = if hS h s2 = some (105, 0) then (E d 215 0 [some (.ref s2), some (.int s1), some (.int s0), none] [] h).bind fun r => E (d + 1) 232 852 [x0, x1, x2, x3] (r.1.toList ++ [s3]) r.2 else none := E_callg rfl
set_option maxRecDepth 60000 in
theorem s232_852 (d : Nat) (h : AH) (x0 x1 x2 x3 : Option Value) (s0 : Int32) (s1 : Int32) : E d 232 852 [x0, x1, x2, x3] [.int s0, .int s1] h = if s1 = s0 then E d 232 1068 [x0, x1, x2, x3] [] h else E d 232 853 [x0, x1, x2, x3] [] h := E_ifc rfl
set_option maxRecDepth 60000 in
theorem s232_853 (d : Nat) (h : AH) (x0 x1 x2 x3 : Option Value)  : E d 232 853 [x0, x1, x2, x3] [] h = E d 232 854 [x0, x1, x2, x3] [.int 0] h := E_nx rfl
set_option maxRecDepth 60000 in
theorem s232_854 (d : Nat) (h : AH) (x0 x1 x2 x3 : Option Value) (s0 : Int32) : E d 232 854 [x0, x1, x2, x3] [.int s0] h = if s0 = 0 ∨ s0 = 1 then some (some (.int s0), h) else none := E_retg rfl
set_option maxRecDepth 60000 in
theorem s232_855 (d : Nat) (h : AH) (x0 x2 x3 : Option Value) (v : Nat) : E d 232 855 [x0, some (.ref v), x2, x3] [] h = E d 232 856 [x0, some (.ref v), x2, x3] [.ref v] h := E_nx rfl
set_option maxRecDepth 60000 in
theorem s232_856 (d : Nat) (h : AH) (x1 x2 x3 : Option Value) (s0 : Value) (v : Nat) : E d 232 856 [some (.ref v), x1, x2, x3] [s0] h = E d 232 857 [some (.ref v), x1, x2, x3] [.ref v, s0] h := E_nx rfl
set_option maxRecDepth 60000 in
theorem s232_857 (d : Nat) (h : AH) (x0 x1 x2 : Option Value) (s0 : Value) (s1 : Value) (v : Int32) : E d 232 857 [x0, x1, x2, some (.int v)] [s0, s1] h = E d 232 858 [x0, x1, x2, some (.int v)] [.int v, s0, s1] h := E_nx rfl
set_option maxRecDepth 60000 in
theorem s232_858 (d : Nat) (h : AH) (x0 x1 x2 x3 : Option Value) (s0 : Value) (s1 : Value) (s2 : Value) : E d 232 858 [x0, x1, x2, x3] [s0, s1, s2] h = E d 232 859 [x0, x1, x2, x3] [.int 1, s0, s1, s2] h := E_nx rfl
set_option maxRecDepth 60000 in
theorem s232_859 (d : Nat) (h : AH) (x0 x1 x2 x3 : Option Value) (s0 : Int32) (s1 : Int32) (s2 : Value) (s3 : Value) : E d 232 859 [x0, x1, x2, x3] [.int s0, .int s1, s2, s3] h = E d 232 860 [x0, x1, x2, x3] [.int (s1 + s0), s2, s3] h := E_nx rfl
set_option maxRecDepth 60000 in
theorem s232_860 (d : Nat) (h : AH) (x0 x1 x2 x3 : Option Value) (s0 : Int32) (s1 : Nat) (s2 : Value) : E d 232 860 [x0, x1, x2, x3] [.int s0, .ref s1, s2] h = if inb s0 (alen h s1 0) = true ∨ inb s0 (alen h s1 8) = true then E d 232 861 [x0, x1, x2, x3] [.int (hI h s1 s0.toNatClampNeg), s2] h else none := E_gd rfl
set_option maxRecDepth 60000 in
theorem s232_861 (d : Nat) (h : AH) (x1 x2 x3 : Option Value) (s0 : Value) (s1 : Value) (v : Nat) : E d 232 861 [some (.ref v), x1, x2, x3] [s0, s1] h = E d 232 862 [some (.ref v), x1, x2, x3] [.ref v, s0, s1] h := E_nx rfl
set_option maxRecDepth 60000 in
theorem s232_862 (d : Nat) (h : AH) (x0 x1 x2 : Option Value) (s0 : Value) (s1 : Value) (s2 : Value) (v : Int32) : E d 232 862 [x0, x1, x2, some (.int v)] [s0, s1, s2] h = E d 232 863 [x0, x1, x2, some (.int v)] [.int v, s0, s1, s2] h := E_nx rfl
set_option maxRecDepth 60000 in
theorem s232_863 (d : Nat) (h : AH) (x0 x1 x2 x3 : Option Value) (s0 : Value) (s1 : Value) (s2 : Value) (s3 : Value) : E d 232 863 [x0, x1, x2, x3] [s0, s1, s2, s3] h = E d 232 864 [x0, x1, x2, x3] [.int 2, s0, s1, s2, s3] h := E_nx rfl
set_option maxRecDepth 60000 in
theorem s232_864 (d : Nat) (h : AH) (x0 x1 x2 x3 : Option Value) (s0 : Int32) (s1 : Int32) (s2 : Value) (s3 : Value) (s4 : Value) : E d 232 864 [x0, x1, x2, x3] [.int s0, .int s1, s2, s3, s4] h = E d 232 865 [x0, x1, x2, x3] [.int (s1 + s0), s2, s3, s4] h := E_nx rfl
set_option maxRecDepth 60000 in
theorem s232_865 (d : Nat) (h : AH) (x0 x1 x2 x3 : Option Value) (s0 : Int32) (s1 : Nat) (s2 : Value) (s3 : Value) : E d 232 865 [x0, x1, x2, x3] [.int s0, .ref s1, s2, s3] h = if inb s0 (alen h s1 0) = true ∨ inb s0 (alen h s1 8) = true then E d 232 866 [x0, x1, x2, x3] [.int (hI h s1 s0.toNatClampNeg), s2, s3] h else none := E_gd rfl
set_option maxRecDepth 60000 in
theorem s232_866 (d : Nat) (h : AH) (x1 x2 x3 : Option Value) (s0 : Value) (s1 : Value) (s2 : Value) (v : Nat) : E d 232 866 [some (.ref v), x1, x2, x3] [s0, s1, s2] h = E d 232 867 [some (.ref v), x1, x2, x3] [.ref v, s0, s1, s2] h := E_nx rfl
set_option maxRecDepth 60000 in
theorem s232_867 (d : Nat) (h : AH) (x0 x1 x2 : Option Value) (s0 : Value) (s1 : Value) (s2 : Value) (s3 : Value) (v : Int32) : E d 232 867 [x0, x1, x2, some (.int v)] [s0, s1, s2, s3] h = E d 232 868 [x0, x1, x2, some (.int v)] [.int v, s0, s1, s2, s3] h := E_nx rfl
set_option maxRecDepth 60000 in
theorem s232_868 (d : Nat) (h : AH) (x0 x1 x2 x3 : Option Value) (s0 : Value) (s1 : Value) (s2 : Value) (s3 : Value) (s4 : Value) : E d 232 868 [x0, x1, x2, x3] [s0, s1, s2, s3, s4] h = E d 232 869 [x0, x1, x2, x3] [.int 3, s0, s1, s2, s3, s4] h := E_nx rfl
set_option maxRecDepth 60000 in
theorem s232_869 (d : Nat) (h : AH) (x0 x1 x2 x3 : Option Value) (s0 : Int32) (s1 : Int32) (s2 : Value) (s3 : Value) (s4 : Value) (s5 : Value) : E d 232 869 [x0, x1, x2, x3] [.int s0, .int s1, s2, s3, s4, s5] h = E d 232 870 [x0, x1, x2, x3] [.int (s1 + s0), s2, s3, s4, s5] h := E_nx rfl
set_option maxRecDepth 60000 in
theorem s232_870 (d : Nat) (h : AH) (x0 x1 x2 x3 : Option Value) (s0 : Int32) (s1 : Nat) (s2 : Value) (s3 : Value) (s4 : Value) : E d 232 870 [x0, x1, x2, x3] [.int s0, .ref s1, s2, s3, s4] h = if inb s0 (alen h s1 0) = true ∨ inb s0 (alen h s1 8) = true then E d 232 871 [x0, x1, x2, x3] [.int (hI h s1 s0.toNatClampNeg), s2, s3, s4] h else none := E_gd rfl
set_option maxRecDepth 60000 in
theorem s232_871 (d : Nat) (h : AH) (x1 x2 x3 : Option Value) (s0 : Value) (s1 : Value) (s2 : Value) (s3 : Value) (v : Nat) : E d 232 871 [some (.ref v), x1, x2, x3] [s0, s1, s2, s3] h = E d 232 872 [some (.ref v), x1, x2, x3] [.ref v, s0, s1, s2, s3] h := E_nx rfl
set_option maxRecDepth 60000 in
theorem s232_872 (d : Nat) (h : AH) (x0 x1 x2 : Option Value) (s0 : Value) (s1 : Value) (s2 : Value) (s3 : Value) (s4 : Value) (v : Int32) : E d 232 872 [x0, x1, x2, some (.int v)] [s0, s1, s2, s3, s4] h = E d 232 873 [x0, x1, x2, some (.int v)] [.int v, s0, s1, s2, s3, s4] h := E_nx rfl
set_option maxRecDepth 60000 in
theorem s232_873 (d : Nat) (h : AH) (x0 x1 x2 x3 : Option Value) (s0 : Value) (s1 : Value) (s2 : Value) (s3 : Value) (s4 : Value) (s5 : Value) : E d 232 873 [x0, x1, x2, x3] [s0, s1, s2, s3, s4, s5] h = E d 232 874 [x0, x1, x2, x3] [.int 4, s0, s1, s2, s3, s4, s5] h := E_nx rfl
set_option maxRecDepth 60000 in
theorem s232_874 (d : Nat) (h : AH) (x0 x1 x2 x3 : Option Value) (s0 : Int32) (s1 : Int32) (s2 : Value) (s3 : Value) (s4 : Value) (s5 : Value) (s6 : Value) : E d 232 874 [x0, x1, x2, x3] [.int s0, .int s1, s2, s3, s4, s5, s6] h = E d 232 875 [x0, x1, x2, x3] [.int (s1 + s0), s2, s3, s4, s5, s6] h := E_nx rfl
set_option maxRecDepth 60000 in
theorem s232_875 (d : Nat) (h : AH) (x0 x1 x2 x3 : Option Value) (s0 : Int32) (s1 : Nat) (s2 : Value) (s3 : Value) (s4 : Value) (s5 : Value) : E d 232 875 [x0, x1, x2, x3] [.int s0, .ref s1, s2, s3, s4, s5] h = if inb s0 (alen h s1 0) = true ∨ inb s0 (alen h s1 8) = true then E d 232 876 [x0, x1, x2, x3] [.int (hI h s1 s0.toNatClampNeg), s2, s3, s4, s5] h else none := E_gd rfl
set_option maxRecDepth 60000 in
theorem s232_876 (d : Nat) (h : AH) (x0 x1 x2 x3 : Option Value) (s0 : Int32) (s1 : Int32) (s2 : Int32) (s3 : Int32) (s4 : Nat) : E (d + 1) 232 876 [x0, x1, x2, x3] [.int s0, .int s1, .int s2, .int s3, .ref s4] h = if hS h s4 = some (104, 0) then (E d 118 0 [some (.ref s4), some (.int s3), some (.int s2), some (.int s1), some (.int s0), none, none, none, none, none] [] h).bind fun r => E (d + 1) 232 877 [x0, x1, x2, x3] (r.1.toList ++ []) r.2 else none := E_callg rfl
set_option maxRecDepth 60000 in
theorem s232_877 (d : Nat) (h : AH) (x0 x1 x3 : Option Value) (s0 : Value) (v : Nat) : E d 232 877 [x0, x1, some (.ref v), x3] [s0] h = E d 232 878 [x0, x1, some (.ref v), x3] [.ref v, s0] h := E_nx rfl
set_option maxRecDepth 60000 in
theorem s232_878 (d : Nat) (h : AH) (x1 x2 x3 : Option Value) (s0 : Value) (s1 : Value) (v : Nat) : E d 232 878 [some (.ref v), x1, x2, x3] [s0, s1] h = E d 232 879 [some (.ref v), x1, x2, x3] [.ref v, s0, s1] h := E_nx rfl
set_option maxRecDepth 60000 in
theorem s232_879 (d : Nat) (h : AH) (x0 x1 x2 : Option Value) (s0 : Value) (s1 : Value) (s2 : Value) (v : Int32) : E d 232 879 [x0, x1, x2, some (.int v)] [s0, s1, s2] h = E d 232 880 [x0, x1, x2, some (.int v)] [.int v, s0, s1, s2] h := E_nx rfl
set_option maxRecDepth 60000 in
theorem s232_880 (d : Nat) (h : AH) (x0 x1 x2 x3 : Option Value) (s0 : Value) (s1 : Value) (s2 : Value) (s3 : Value) : E d 232 880 [x0, x1, x2, x3] [s0, s1, s2, s3] h = E d 232 881 [x0, x1, x2, x3] [.int 1, s0, s1, s2, s3] h := E_nx rfl
set_option maxRecDepth 60000 in
theorem s232_881 (d : Nat) (h : AH) (x0 x1 x2 x3 : Option Value) (s0 : Int32) (s1 : Int32) (s2 : Value) (s3 : Value) (s4 : Value) : E d 232 881 [x0, x1, x2, x3] [.int s0, .int s1, s2, s3, s4] h = E d 232 882 [x0, x1, x2, x3] [.int (s1 + s0), s2, s3, s4] h := E_nx rfl
set_option maxRecDepth 60000 in
theorem s232_882 (d : Nat) (h : AH) (x0 x1 x2 x3 : Option Value) (s0 : Int32) (s1 : Nat) (s2 : Value) (s3 : Value) : E d 232 882 [x0, x1, x2, x3] [.int s0, .ref s1, s2, s3] h = if inb s0 (alen h s1 0) = true ∨ inb s0 (alen h s1 8) = true then E d 232 883 [x0, x1, x2, x3] [.int (hI h s1 s0.toNatClampNeg), s2, s3] h else none := E_gd rfl
set_option maxRecDepth 60000 in
theorem s232_883 (d : Nat) (h : AH) (x1 x2 x3 : Option Value) (s0 : Value) (s1 : Value) (s2 : Value) (v : Nat) : E d 232 883 [some (.ref v), x1, x2, x3] [s0, s1, s2] h = E d 232 884 [some (.ref v), x1, x2, x3] [.ref v, s0, s1, s2] h := E_nx rfl
set_option maxRecDepth 60000 in
theorem s232_884 (d : Nat) (h : AH) (x0 x1 x2 : Option Value) (s0 : Value) (s1 : Value) (s2 : Value) (s3 : Value) (v : Int32) : E d 232 884 [x0, x1, x2, some (.int v)] [s0, s1, s2, s3] h = E d 232 885 [x0, x1, x2, some (.int v)] [.int v, s0, s1, s2, s3] h := E_nx rfl
set_option maxRecDepth 60000 in
theorem s232_885 (d : Nat) (h : AH) (x0 x1 x2 x3 : Option Value) (s0 : Value) (s1 : Value) (s2 : Value) (s3 : Value) (s4 : Value) : E d 232 885 [x0, x1, x2, x3] [s0, s1, s2, s3, s4] h = E d 232 886 [x0, x1, x2, x3] [.int 2, s0, s1, s2, s3, s4] h := E_nx rfl
set_option maxRecDepth 60000 in
theorem s232_886 (d : Nat) (h : AH) (x0 x1 x2 x3 : Option Value) (s0 : Int32) (s1 : Int32) (s2 : Value) (s3 : Value) (s4 : Value) (s5 : Value) : E d 232 886 [x0, x1, x2, x3] [.int s0, .int s1, s2, s3, s4, s5] h = E d 232 887 [x0, x1, x2, x3] [.int (s1 + s0), s2, s3, s4, s5] h := E_nx rfl
set_option maxRecDepth 60000 in
theorem s232_887 (d : Nat) (h : AH) (x0 x1 x2 x3 : Option Value) (s0 : Int32) (s1 : Nat) (s2 : Value) (s3 : Value) (s4 : Value) : E d 232 887 [x0, x1, x2, x3] [.int s0, .ref s1, s2, s3, s4] h = if inb s0 (alen h s1 0) = true ∨ inb s0 (alen h s1 8) = true then E d 232 888 [x0, x1, x2, x3] [.int (hI h s1 s0.toNatClampNeg), s2, s3, s4] h else none := E_gd rfl
set_option maxRecDepth 60000 in
theorem s232_888 (d : Nat) (h : AH) (x1 x2 x3 : Option Value) (s0 : Value) (s1 : Value) (s2 : Value) (s3 : Value) (v : Nat) : E d 232 888 [some (.ref v), x1, x2, x3] [s0, s1, s2, s3] h = E d 232 889 [some (.ref v), x1, x2, x3] [.ref v, s0, s1, s2, s3] h := E_nx rfl
set_option maxRecDepth 60000 in
theorem s232_889 (d : Nat) (h : AH) (x0 x1 x2 : Option Value) (s0 : Value) (s1 : Value) (s2 : Value) (s3 : Value) (s4 : Value) (v : Int32) : E d 232 889 [x0, x1, x2, some (.int v)] [s0, s1, s2, s3, s4] h = E d 232 890 [x0, x1, x2, some (.int v)] [.int v, s0, s1, s2, s3, s4] h := E_nx rfl
set_option maxRecDepth 60000 in
theorem s232_890 (d : Nat) (h : AH) (x0 x1 x2 x3 : Option Value) (s0 : Value) (s1 : Value) (s2 : Value) (s3 : Value) (s4 : Value) (s5 : Value) : E d 232 890 [x0, x1, x2, x3] [s0, s1, s2, s3, s4, s5] h = E d 232 891 [x0, x1, x2, x3] [.int 3, s0, s1, s2, s3, s4, s5] h := E_nx rfl
set_option maxRecDepth 60000 in
theorem s232_891 (d : Nat) (h : AH) (x0 x1 x2 x3 : Option Value) (s0 : Int32) (s1 : Int32) (s2 : Value) (s3 : Value) (s4 : Value) (s5 : Value) (s6 : Value) : E d 232 891 [x0, x1, x2, x3] [.int s0, .int s1, s2, s3, s4, s5, s6] h = E d 232 892 [x0, x1, x2, x3] [.int (s1 + s0), s2, s3, s4, s5, s6] h := E_nx rfl
set_option maxRecDepth 60000 in
theorem s232_892 (d : Nat) (h : AH) (x0 x1 x2 x3 : Option Value) (s0 : Int32) (s1 : Nat) (s2 : Value) (s3 : Value) (s4 : Value) (s5 : Value) : E d 232 892 [x0, x1, x2, x3] [.int s0, .ref s1, s2, s3, s4, s5] h = if inb s0 (alen h s1 0) = true ∨ inb s0 (alen h s1 8) = true then E d 232 893 [x0, x1, x2, x3] [.int (hI h s1 s0.toNatClampNeg), s2, s3, s4, s5] h else none := E_gd rfl
set_option maxRecDepth 60000 in
theorem s232_893 (d : Nat) (h : AH) (x1 x2 x3 : Option Value) (s0 : Value) (s1 : Value) (s2 : Value) (s3 : Value) (s4 : Value) (v : Nat) : E d 232 893 [some (.ref v), x1, x2, x3] [s0, s1, s2, s3, s4] h = E d 232 894 [some (.ref v), x1, x2, x3] [.ref v, s0, s1, s2, s3, s4] h := E_nx rfl
set_option maxRecDepth 60000 in
theorem s232_894 (d : Nat) (h : AH) (x0 x1 x2 : Option Value) (s0 : Value) (s1 : Value) (s2 : Value) (s3 : Value) (s4 : Value) (s5 : Value) (v : Int32) : E d 232 894 [x0, x1, x2, some (.int v)] [s0, s1, s2, s3, s4, s5] h = E d 232 895 [x0, x1, x2, some (.int v)] [.int v, s0, s1, s2, s3, s4, s5] h := E_nx rfl
set_option maxRecDepth 60000 in
theorem s232_895 (d : Nat) (h : AH) (x0 x1 x2 x3 : Option Value) (s0 : Value) (s1 : Value) (s2 : Value) (s3 : Value) (s4 : Value) (s5 : Value) (s6 : Value) : E d 232 895 [x0, x1, x2, x3] [s0, s1, s2, s3, s4, s5, s6] h = E d 232 896 [x0, x1, x2, x3] [.int 4, s0, s1, s2, s3, s4, s5, s6] h := E_nx rfl
set_option maxRecDepth 60000 in
theorem s232_896 (d : Nat) (h : AH) (x0 x1 x2 x3 : Option Value) (s0 : Int32) (s1 : Int32) (s2 : Value) (s3 : Value) (s4 : Value) (s5 : Value) (s6 : Value) (s7 : Value) : E d 232 896 [x0, x1, x2, x3] [.int s0, .int s1, s2, s3, s4, s5, s6, s7] h = E d 232 897 [x0, x1, x2, x3] [.int (s1 + s0), s2, s3, s4, s5, s6, s7] h := E_nx rfl
set_option maxRecDepth 60000 in
theorem s232_897 (d : Nat) (h : AH) (x0 x1 x2 x3 : Option Value) (s0 : Int32) (s1 : Nat) (s2 : Value) (s3 : Value) (s4 : Value) (s5 : Value) (s6 : Value) : E d 232 897 [x0, x1, x2, x3] [.int s0, .ref s1, s2, s3, s4, s5, s6] h = if inb s0 (alen h s1 0) = true ∨ inb s0 (alen h s1 8) = true then E d 232 898 [x0, x1, x2, x3] [.int (hI h s1 s0.toNatClampNeg), s2, s3, s4, s5, s6] h else none := E_gd rfl
set_option maxRecDepth 60000 in
theorem s232_898 (d : Nat) (h : AH) (x0 x1 x2 x3 : Option Value) (s0 : Int32) (s1 : Int32) (s2 : Int32) (s3 : Int32) (s4 : Nat) (s5 : Value) : E (d + 1) 232 898 [x0, x1, x2, x3] [.int s0, .int s1, .int s2, .int s3, .ref s4, s5] h = if hS h s4 = some (105, 0) then (E d 217 0 [some (.ref s4), some (.int s3), some (.int s2), some (.int s1), some (.int s0), none, none, none, none] [] h).bind fun r => E (d + 1) 232 899 [x0, x1, x2, x3] (r.1.toList ++ [s5]) r.2 else none := E_callg rfl
set_option maxRecDepth 60000 in
theorem s232_899 (d : Nat) (h : AH) (x0 x1 x2 x3 : Option Value) (s0 : Int32) (s1 : Int32) : E d 232 899 [x0, x1, x2, x3] [.int s0, .int s1] h = if s1 = s0 then E d 232 1068 [x0, x1, x2, x3] [] h else E d 232 900 [x0, x1, x2, x3] [] h := E_ifc rfl
set_option maxRecDepth 60000 in
theorem s232_900 (d : Nat) (h : AH) (x0 x1 x2 x3 : Option Value)  : E d 232 900 [x0, x1, x2, x3] [] h = E d 232 901 [x0, x1, x2, x3] [.int 0] h := E_nx rfl
set_option maxRecDepth 60000 in
theorem s232_901 (d : Nat) (h : AH) (x0 x1 x2 x3 : Option Value) (s0 : Int32) : E d 232 901 [x0, x1, x2, x3] [.int s0] h = if s0 = 0 ∨ s0 = 1 then some (some (.int s0), h) else none := E_retg rfl
set_option maxRecDepth 60000 in
theorem s232_902 (d : Nat) (h : AH) (x0 x2 x3 : Option Value) (v : Nat) : E d 232 902 [x0, some (.ref v), x2, x3] [] h = E d 232 903 [x0, some (.ref v), x2, x3] [.ref v] h := E_nx rfl
set_option maxRecDepth 60000 in
theorem s232_903 (d : Nat) (h : AH) (x1 x2 x3 : Option Value) (s0 : Value) (v : Nat) : E d 232 903 [some (.ref v), x1, x2, x3] [s0] h = E d 232 904 [some (.ref v), x1, x2, x3] [.ref v, s0] h := E_nx rfl
set_option maxRecDepth 60000 in
theorem s232_904 (d : Nat) (h : AH) (x0 x1 x2 : Option Value) (s0 : Value) (s1 : Value) (v : Int32) : E d 232 904 [x0, x1, x2, some (.int v)] [s0, s1] h = E d 232 905 [x0, x1, x2, some (.int v)] [.int v, s0, s1] h := E_nx rfl
set_option maxRecDepth 60000 in
theorem s232_905 (d : Nat) (h : AH) (x0 x1 x2 x3 : Option Value) (s0 : Value) (s1 : Value) (s2 : Value) : E d 232 905 [x0, x1, x2, x3] [s0, s1, s2] h = E d 232 906 [x0, x1, x2, x3] [.int 1, s0, s1, s2] h := E_nx rfl
set_option maxRecDepth 60000 in
theorem s232_906 (d : Nat) (h : AH) (x0 x1 x2 x3 : Option Value) (s0 : Int32) (s1 : Int32) (s2 : Value) (s3 : Value) : E d 232 906 [x0, x1, x2, x3] [.int s0, .int s1, s2, s3] h = E d 232 907 [x0, x1, x2, x3] [.int (s1 + s0), s2, s3] h := E_nx rfl
set_option maxRecDepth 60000 in
theorem s232_907 (d : Nat) (h : AH) (x0 x1 x2 x3 : Option Value) (s0 : Int32) (s1 : Nat) (s2 : Value) : E d 232 907 [x0, x1, x2, x3] [.int s0, .ref s1, s2] h = if inb s0 (alen h s1 0) = true ∨ inb s0 (alen h s1 8) = true then E d 232 908 [x0, x1, x2, x3] [.int (hI h s1 s0.toNatClampNeg), s2] h else none := E_gd rfl
set_option maxRecDepth 60000 in
theorem s232_908 (d : Nat) (h : AH) (x1 x2 x3 : Option Value) (s0 : Value) (s1 : Value) (v : Nat) : E d 232 908 [some (.ref v), x1, x2, x3] [s0, s1] h = E d 232 909 [some (.ref v), x1, x2, x3] [.ref v, s0, s1] h := E_nx rfl
set_option maxRecDepth 60000 in
theorem s232_909 (d : Nat) (h : AH) (x0 x1 x2 : Option Value) (s0 : Value) (s1 : Value) (s2 : Value) (v : Int32) : E d 232 909 [x0, x1, x2, some (.int v)] [s0, s1, s2] h = E d 232 910 [x0, x1, x2, some (.int v)] [.int v, s0, s1, s2] h := E_nx rfl
set_option maxRecDepth 60000 in
theorem s232_910 (d : Nat) (h : AH) (x0 x1 x2 x3 : Option Value) (s0 : Value) (s1 : Value) (s2 : Value) (s3 : Value) : E d 232 910 [x0, x1, x2, x3] [s0, s1, s2, s3] h = E d 232 911 [x0, x1, x2, x3] [.int 2, s0, s1, s2, s3] h := E_nx rfl
set_option maxRecDepth 60000 in
theorem s232_911 (d : Nat) (h : AH) (x0 x1 x2 x3 : Option Value) (s0 : Int32) (s1 : Int32) (s2 : Value) (s3 : Value) (s4 : Value) : E d 232 911 [x0, x1, x2, x3] [.int s0, .int s1, s2, s3, s4] h = E d 232 912 [x0, x1, x2, x3] [.int (s1 + s0), s2, s3, s4] h := E_nx rfl
set_option maxRecDepth 60000 in
theorem s232_912 (d : Nat) (h : AH) (x0 x1 x2 x3 : Option Value) (s0 : Int32) (s1 : Nat) (s2 : Value) (s3 : Value) : E d 232 912 [x0, x1, x2, x3] [.int s0, .ref s1, s2, s3] h = if inb s0 (alen h s1 0) = true ∨ inb s0 (alen h s1 8) = true then E d 232 913 [x0, x1, x2, x3] [.int (hI h s1 s0.toNatClampNeg), s2, s3] h else none := E_gd rfl
set_option maxRecDepth 60000 in
theorem s232_913 (d : Nat) (h : AH) (x1 x2 x3 : Option Value) (s0 : Value) (s1 : Value) (s2 : Value) (v : Nat) : E d 232 913 [some (.ref v), x1, x2, x3] [s0, s1, s2] h = E d 232 914 [some (.ref v), x1, x2, x3] [.ref v, s0, s1, s2] h := E_nx rfl
set_option maxRecDepth 60000 in
theorem s232_914 (d : Nat) (h : AH) (x0 x1 x2 : Option Value) (s0 : Value) (s1 : Value) (s2 : Value) (s3 : Value) (v : Int32) : E d 232 914 [x0, x1, x2, some (.int v)] [s0, s1, s2, s3] h = E d 232 915 [x0, x1, x2, some (.int v)] [.int v, s0, s1, s2, s3] h := E_nx rfl
set_option maxRecDepth 60000 in
theorem s232_915 (d : Nat) (h : AH) (x0 x1 x2 x3 : Option Value) (s0 : Value) (s1 : Value) (s2 : Value) (s3 : Value) (s4 : Value) : E d 232 915 [x0, x1, x2, x3] [s0, s1, s2, s3, s4] h = E d 232 916 [x0, x1, x2, x3] [.int 3, s0, s1, s2, s3, s4] h := E_nx rfl
set_option maxRecDepth 60000 in
theorem s232_916 (d : Nat) (h : AH) (x0 x1 x2 x3 : Option Value) (s0 : Int32) (s1 : Int32) (s2 : Value) (s3 : Value) (s4 : Value) (s5 : Value) : E d 232 916 [x0, x1, x2, x3] [.int s0, .int s1, s2, s3, s4, s5] h = E d 232 917 [x0, x1, x2, x3] [.int (s1 + s0), s2, s3, s4, s5] h := E_nx rfl
set_option maxRecDepth 60000 in
theorem s232_917 (d : Nat) (h : AH) (x0 x1 x2 x3 : Option Value) (s0 : Int32) (s1 : Nat) (s2 : Value) (s3 : Value) (s4 : Value) : E d 232 917 [x0, x1, x2, x3] [.int s0, .ref s1, s2, s3, s4] h = if inb s0 (alen h s1 0) = true ∨ inb s0 (alen h s1 8) = true then E d 232 918 [x0, x1, x2, x3] [.int (hI h s1 s0.toNatClampNeg), s2, s3, s4] h else none := E_gd rfl
set_option maxRecDepth 60000 in
theorem s232_918 (d : Nat) (h : AH) (x1 x2 x3 : Option Value) (s0 : Value) (s1 : Value) (s2 : Value) (s3 : Value) (v : Nat) : E d 232 918 [some (.ref v), x1, x2, x3] [s0, s1, s2, s3] h = E d 232 919 [some (.ref v), x1, x2, x3] [.ref v, s0, s1, s2, s3] h := E_nx rfl
set_option maxRecDepth 60000 in
theorem s232_919 (d : Nat) (h : AH) (x0 x1 x2 : Option Value) (s0 : Value) (s1 : Value) (s2 : Value) (s3 : Value) (s4 : Value) (v : Int32) : E d 232 919 [x0, x1, x2, some (.int v)] [s0, s1, s2, s3, s4] h = E d 232 920 [x0, x1, x2, some (.int v)] [.int v, s0, s1, s2, s3, s4] h := E_nx rfl
set_option maxRecDepth 60000 in
theorem s232_920 (d : Nat) (h : AH) (x0 x1 x2 x3 : Option Value) (s0 : Value) (s1 : Value) (s2 : Value) (s3 : Value) (s4 : Value) (s5 : Value) : E d 232 920 [x0, x1, x2, x3] [s0, s1, s2, s3, s4, s5] h = E d 232 921 [x0, x1, x2, x3] [.int 4, s0, s1, s2, s3, s4, s5] h := E_nx rfl
set_option maxRecDepth 60000 in
theorem s232_921 (d : Nat) (h : AH) (x0 x1 x2 x3 : Option Value) (s0 : Int32) (s1 : Int32) (s2 : Value) (s3 : Value) (s4 : Value) (s5 : Value) (s6 : Value) : E d 232 921 [x0, x1, x2, x3] [.int s0, .int s1, s2, s3, s4, s5, s6] h = E d 232 922 [x0, x1, x2, x3] [.int (s1 + s0), s2, s3, s4, s5, s6] h := E_nx rfl
set_option maxRecDepth 60000 in
theorem s232_922 (d : Nat) (h : AH) (x0 x1 x2 x3 : Option Value) (s0 : Int32) (s1 : Nat) (s2 : Value) (s3 : Value) (s4 : Value) (s5 : Value) : E d 232 922 [x0, x1, x2, x3] [.int s0, .ref s1, s2, s3, s4, s5] h = if inb s0 (alen h s1 0) = true ∨ inb s0 (alen h s1 8) = true then E d 232 923 [x0, x1, x2, x3] [.int (hI h s1 s0.toNatClampNeg), s2, s3, s4, s5] h else none := E_gd rfl
set_option maxRecDepth 60000 in
theorem s232_923 (d : Nat) (h : AH) (x0 x1 x2 x3 : Option Value) (s0 : Int32) (s1 : Int32) (s2 : Int32) (s3 : Int32) (s4 : Nat) : E (d + 1) 232 923 [x0, x1, x2, x3] [.int s0, .int s1, .int s2, .int s3, .ref s4] h = if hS h s4 = some (104, 0) then (E d 119 0 [some (.ref s4), some (.int s3), some (.int s2), some (.int s1), some (.int s0), none, none, none, none, none, none] [] h).bind fun r => E (d + 1) 232 924 [x0, x1, x2, x3] (r.1.toList ++ []) r.2 else none := E_callg rfl
set_option maxRecDepth 60000 in
theorem s232_924 (d : Nat) (h : AH) (x0 x1 x3 : Option Value) (s0 : Value) (v : Nat) : E d 232 924 [x0, x1, some (.ref v), x3] [s0] h = E d 232 925 [x0, x1, some (.ref v), x3] [.ref v, s0] h := E_nx rfl
set_option maxRecDepth 60000 in
theorem s232_925 (d : Nat) (h : AH) (x1 x2 x3 : Option Value) (s0 : Value) (s1 : Value) (v : Nat) : E d 232 925 [some (.ref v), x1, x2, x3] [s0, s1] h = E d 232 926 [some (.ref v), x1, x2, x3] [.ref v, s0, s1] h := E_nx rfl
set_option maxRecDepth 60000 in
theorem s232_926 (d : Nat) (h : AH) (x0 x1 x2 : Option Value) (s0 : Value) (s1 : Value) (s2 : Value) (v : Int32) : E d 232 926 [x0, x1, x2, some (.int v)] [s0, s1, s2] h = E d 232 927 [x0, x1, x2, some (.int v)] [.int v, s0, s1, s2] h := E_nx rfl
set_option maxRecDepth 60000 in
theorem s232_927 (d : Nat) (h : AH) (x0 x1 x2 x3 : Option Value) (s0 : Value) (s1 : Value) (s2 : Value) (s3 : Value) : E d 232 927 [x0, x1, x2, x3] [s0, s1, s2, s3] h = E d 232 928 [x0, x1, x2, x3] [.int 1, s0, s1, s2, s3] h := E_nx rfl
set_option maxRecDepth 60000 in
theorem s232_928 (d : Nat) (h : AH) (x0 x1 x2 x3 : Option Value) (s0 : Int32) (s1 : Int32) (s2 : Value) (s3 : Value) (s4 : Value) : E d 232 928 [x0, x1, x2, x3] [.int s0, .int s1, s2, s3, s4] h = E d 232 929 [x0, x1, x2, x3] [.int (s1 + s0), s2, s3, s4] h := E_nx rfl
set_option maxRecDepth 60000 in
theorem s232_929 (d : Nat) (h : AH) (x0 x1 x2 x3 : Option Value) (s0 : Int32) (s1 : Nat) (s2 : Value) (s3 : Value) : E d 232 929 [x0, x1, x2, x3] [.int s0, .ref s1, s2, s3] h = if inb s0 (alen h s1 0) = true ∨ inb s0 (alen h s1 8) = true then E d 232 930 [x0, x1, x2, x3] [.int (hI h s1 s0.toNatClampNeg), s2, s3] h else none := E_gd rfl
set_option maxRecDepth 60000 in
theorem s232_930 (d : Nat) (h : AH) (x1 x2 x3 : Option Value) (s0 : Value) (s1 : Value) (s2 : Value) (v : Nat) : E d 232 930 [some (.ref v), x1, x2, x3] [s0, s1, s2] h = E d 232 931 [some (.ref v), x1, x2, x3] [.ref v, s0, s1, s2] h := E_nx rfl
set_option maxRecDepth 60000 in
theorem s232_931 (d : Nat) (h : AH) (x0 x1 x2 : Option Value) (s0 : Value) (s1 : Value) (s2 : Value) (s3 : Value) (v : Int32) : E d 232 931 [x0, x1, x2, some (.int v)] [s0, s1, s2, s3] h = E d 232 932 [x0, x1, x2, some (.int v)] [.int v, s0, s1, s2, s3] h := E_nx rfl
set_option maxRecDepth 60000 in
theorem s232_932 (d : Nat) (h : AH) (x0 x1 x2 x3 : Option Value) (s0 : Value) (s1 : Value) (s2 : Value) (s3 : Value) (s4 : Value) : E d 232 932 [x0, x1, x2, x3] [s0, s1, s2, s3, s4] h = E d 232 933 [x0, x1, x2, x3] [.int 2, s0, s1, s2, s3, s4] h := E_nx rfl
set_option maxRecDepth 60000 in
theorem s232_933 (d : Nat) (h : AH) (x0 x1 x2 x3 : Option Value) (s0 : Int32) (s1 : Int32) (s2 : Value) (s3 : Value) (s4 : Value) (s5 : Value) : E d 232 933 [x0, x1, x2, x3] [.int s0, .int s1, s2, s3, s4, s5] h = E d 232 934 [x0, x1, x2, x3] [.int (s1 + s0), s2, s3, s4, s5] h := E_nx rfl
set_option maxRecDepth 60000 in
theorem s232_934 (d : Nat) (h : AH) (x0 x1 x2 x3 : Option Value) (s0 : Int32) (s1 : Nat) (s2 : Value) (s3 : Value) (s4 : Value) : E d 232 934 [x0, x1, x2, x3] [.int s0, .ref s1, s2, s3, s4] h = if inb s0 (alen h s1 0) = true ∨ inb s0 (alen h s1 8) = true then E d 232 935 [x0, x1, x2, x3] [.int (hI h s1 s0.toNatClampNeg), s2, s3, s4] h else none := E_gd rfl
set_option maxRecDepth 60000 in
theorem s232_935 (d : Nat) (h : AH) (x1 x2 x3 : Option Value) (s0 : Value) (s1 : Value) (s2 : Value) (s3 : Value) (v : Nat) : E d 232 935 [some (.ref v), x1, x2, x3] [s0, s1, s2, s3] h = E d 232 936 [some (.ref v), x1, x2, x3] [.ref v, s0, s1, s2, s3] h := E_nx rfl
set_option maxRecDepth 60000 in
theorem s232_936 (d : Nat) (h : AH) (x0 x1 x2 : Option Value) (s0 : Value) (s1 : Value) (s2 : Value) (s3 : Value) (s4 : Value) (v : Int32) : E d 232 936 [x0, x1, x2, some (.int v)] [s0, s1, s2, s3, s4] h = E d 232 937 [x0, x1, x2, some (.int v)] [.int v, s0, s1, s2, s3, s4] h := E_nx rfl
set_option maxRecDepth 60000 in
theorem s232_937 (d : Nat) (h : AH) (x0 x1 x2 x3 : Option Value) (s0 : Value) (s1 : Value) (s2 : Value) (s3 : Value) (s4 : Value) (s5 : Value) : E d 232 937 [x0, x1, x2, x3] [s0, s1, s2, s3, s4, s5] h = E d 232 938 [x0, x1, x2, x3] [.int 3, s0, s1, s2, s3, s4, s5] h := E_nx rfl
set_option maxRecDepth 60000 in
theorem s232_938 (d : Nat) (h : AH) (x0 x1 x2 x3 : Option Value) (s0 : Int32) (s1 : Int32) (s2 : Value) (s3 : Value) (s4 : Value) (s5 : Value) (s6 : Value) : E d 232 938 [x0, x1, x2, x3] [.int s0, .int s1, s2, s3, s4, s5, s6] h = E d 232 939 [x0, x1, x2, x3] [.int (s1 + s0), s2, s3, s4, s5, s6] h := E_nx rfl
set_option maxRecDepth 60000 in
theorem s232_939 (d : Nat) (h : AH) (x0 x1 x2 x3 : Option Value) (s0 : Int32) (s1 : Nat) (s2 : Value) (s3 : Value) (s4 : Value) (s5 : Value) : E d 232 939 [x0, x1, x2, x3] [.int s0, .ref s1, s2, s3, s4, s5] h = if inb s0 (alen h s1 0) = true ∨ inb s0 (alen h s1 8) = true then E d 232 940 [x0, x1, x2, x3] [.int (hI h s1 s0.toNatClampNeg), s2, s3, s4, s5] h else none := E_gd rfl
set_option maxRecDepth 60000 in
theorem s232_940 (d : Nat) (h : AH) (x1 x2 x3 : Option Value) (s0 : Value) (s1 : Value) (s2 : Value) (s3 : Value) (s4 : Value) (v : Nat) : E d 232 940 [some (.ref v), x1, x2, x3] [s0, s1, s2, s3, s4] h = E d 232 941 [some (.ref v), x1, x2, x3] [.ref v, s0, s1, s2, s3, s4] h := E_nx rfl
set_option maxRecDepth 60000 in
theorem s232_941 (d : Nat) (h : AH) (x0 x1 x2 : Option Value) (s0 : Value) (s1 : Value) (s2 : Value) (s3 : Value) (s4 : Value) (s5 : Value) (v : Int32) : E d 232 941 [x0, x1, x2, some (.int v)] [s0, s1, s2, s3, s4, s5] h = E d 232 942 [x0, x1, x2, some (.int v)] [.int v, s0, s1, s2, s3, s4, s5] h := E_nx rfl
set_option maxRecDepth 60000 in
theorem s232_942 (d : Nat) (h : AH) (x0 x1 x2 x3 : Option Value) (s0 : Value) (s1 : Value) (s2 : Value) (s3 : Value) (s4 : Value) (s5 : Value) (s6 : Value) : E d 232 942 [x0, x1, x2, x3] [s0, s1, s2, s3, s4, s5, s6] h = E d 232 943 [x0, x1, x2, x3] [.int 4, s0, s1, s2, s3, s4, s5, s6] h := E_nx rfl
set_option maxRecDepth 60000 in
theorem s232_943 (d : Nat) (h : AH) (x0 x1 x2 x3 : Option Value) (s0 : Int32) (s1 : Int32) (s2 : Value) (s3 : Value) (s4 : Value) (s5 : Value) (s6 : Value) (s7 : Value) : E d 232 943 [x0, x1, x2, x3] [.int s0, .int s1, s2, s3, s4, s5, s6, s7] h = E d 232 944 [x0, x1, x2, x3] [.int (s1 + s0), s2, s3, s4, s5, s6, s7] h := E_nx rfl
set_option maxRecDepth 60000 in
theorem s232_944 (d : Nat) (h : AH) (x0 x1 x2 x3 : Option Value) (s0 : Int32) (s1 : Nat) (s2 : Value) (s3 : Value) (s4 : Value) (s5 : Value) (s6 : Value) : E d 232 944 [x0, x1, x2, x3] [.int s0, .ref s1, s2, s3, s4, s5, s6] h = if inb s0 (alen h s1 0) = true ∨ inb s0 (alen h s1 8) = true then E d 232 945 [x0, x1, x2, x3] [.int (hI h s1 s0.toNatClampNeg), s2, s3, s4, s5, s6] h else none := E_gd rfl
set_option maxRecDepth 60000 in
theorem s232_945 (d : Nat) (h : AH) (x0 x1 x2 x3 : Option Value) (s0 : Int32) (s1 : Int32) (s2 : Int32) (s3 : Int32) (s4 : Nat) (s5 : Value) : E (d + 1) 232 945 [x0, x1, x2, x3] [.int s0, .int s1, .int s2, .int s3, .ref s4, s5] h = if hS h s4 = some (105, 0) then (E d 218 0 [some (.ref s4), some (.int s3), some (.int s2), some (.int s1), some (.int s0), none, none, none, none, none, none, none, none] [] h).bind fun r => E (d + 1) 232 946 [x0, x1, x2, x3] (r.1.toList ++ [s5]) r.2 else none := E_callg rfl
set_option maxRecDepth 60000 in
theorem s232_946 (d : Nat) (h : AH) (x0 x1 x2 x3 : Option Value) (s0 : Int32) (s1 : Int32) : E d 232 946 [x0, x1, x2, x3] [.int s0, .int s1] h = if s1 = s0 then E d 232 1068 [x0, x1, x2, x3] [] h else E d 232 947 [x0, x1, x2, x3] [] h := E_ifc rfl
set_option maxRecDepth 60000 in
theorem s232_947 (d : Nat) (h : AH) (x0 x1 x2 x3 : Option Value)  : E d 232 947 [x0, x1, x2, x3] [] h = E d 232 948 [x0, x1, x2, x3] [.int 0] h := E_nx rfl
set_option maxRecDepth 60000 in
theorem s232_948 (d : Nat) (h : AH) (x0 x1 x2 x3 : Option Value) (s0 : Int32) : E d 232 948 [x0, x1, x2, x3] [.int s0] h = if s0 = 0 ∨ s0 = 1 then some (some (.int s0), h) else none := E_retg rfl
set_option maxRecDepth 60000 in
theorem s232_949 (d : Nat) (h : AH) (x0 x2 x3 : Option Value) (v : Nat) : E d 232 949 [x0, some (.ref v), x2, x3] [] h = E d 232 950 [x0, some (.ref v), x2, x3] [.ref v] h := E_nx rfl
set_option maxRecDepth 60000 in
theorem s232_950 (d : Nat) (h : AH) (x1 x2 x3 : Option Value) (s0 : Value) (v : Nat) : E d 232 950 [some (.ref v), x1, x2, x3] [s0] h = E d 232 951 [some (.ref v), x1, x2, x3] [.ref v, s0] h := E_nx rfl
set_option maxRecDepth 60000 in
theorem s232_951 (d : Nat) (h : AH) (x0 x1 x2 : Option Value) (s0 : Value) (s1 : Value) (v : Int32) : E d 232 951 [x0, x1, x2, some (.int v)] [s0, s1] h = E d 232 952 [x0, x1, x2, some (.int v)] [.int v, s0, s1] h := E_nx rfl
set_option maxRecDepth 60000 in
theorem s232_952 (d : Nat) (h : AH) (x0 x1 x2 x3 : Option Value) (s0 : Value) (s1 : Value) (s2 : Value) : E d 232 952 [x0, x1, x2, x3] [s0, s1, s2] h = E d 232 953 [x0, x1, x2, x3] [.int 1, s0, s1, s2] h := E_nx rfl
set_option maxRecDepth 60000 in
theorem s232_953 (d : Nat) (h : AH) (x0 x1 x2 x3 : Option Value) (s0 : Int32) (s1 : Int32) (s2 : Value) (s3 : Value) : E d 232 953 [x0, x1, x2, x3] [.int s0, .int s1, s2, s3] h = E d 232 954 [x0, x1, x2, x3] [.int (s1 + s0), s2, s3] h := E_nx rfl
set_option maxRecDepth 60000 in
theorem s232_954 (d : Nat) (h : AH) (x0 x1 x2 x3 : Option Value) (s0 : Int32) (s1 : Nat) (s2 : Value) : E d 232 954 [x0, x1, x2, x3] [.int s0, .ref s1, s2] h = if inb s0 (alen h s1 0) = true ∨ inb s0 (alen h s1 8) = true then E d 232 955 [x0, x1, x2, x3] [.int (hI h s1 s0.toNatClampNeg), s2] h else none := E_gd rfl
set_option maxRecDepth 60000 in
theorem s232_955 (d : Nat) (h : AH) (x1 x2 x3 : Option Value) (s0 : Value) (s1 : Value) (v : Nat) : E d 232 955 [some (.ref v), x1, x2, x3] [s0, s1] h = E d 232 956 [some (.ref v), x1, x2, x3] [.ref v, s0, s1] h := E_nx rfl
set_option maxRecDepth 60000 in
theorem s232_956 (d : Nat) (h : AH) (x0 x1 x2 : Option Value) (s0 : Value) (s1 : Value) (s2 : Value) (v : Int32) : E d 232 956 [x0, x1, x2, some (.int v)] [s0, s1, s2] h = E d 232 957 [x0, x1, x2, some (.int v)] [.int v, s0, s1, s2] h := E_nx rfl
set_option maxRecDepth 60000 in
theorem s232_957 (d : Nat) (h : AH) (x0 x1 x2 x3 : Option Value) (s0 : Value) (s1 : Value) (s2 : Value) (s3 : Value) : E d 232 957 [x0, x1, x2, x3] [s0, s1, s2, s3] h = E d 232 958 [x0, x1, x2, x3] [.int 2, s0, s1, s2, s3] h := E_nx rfl
set_option maxRecDepth 60000 in
theorem s232_958 (d : Nat) (h : AH) (x0 x1 x2 x3 : Option Value) (s0 : Int32) (s1 : Int32) (s2 : Value) (s3 : Value) (s4 : Value) : E d 232 958 [x0, x1, x2, x3] [.int s0, .int s1, s2, s3, s4] h = E d 232 959 [x0, x1, x2, x3] [.int (s1 + s0), s2, s3, s4] h := E_nx rfl
set_option maxRecDepth 60000 in
theorem s232_959 (d : Nat) (h : AH) (x0 x1 x2 x3 : Option Value) (s0 : Int32) (s1 : Nat) (s2 : Value) (s3 : Value) : E d 232 959 [x0, x1, x2, x3] [.int s0, .ref s1, s2, s3] h = if inb s0 (alen h s1 0) = true ∨ inb s0 (alen h s1 8) = true then E d 232 960 [x0, x1, x2, x3] [.int (hI h s1 s0.toNatClampNeg), s2, s3] h else none := E_gd rfl
set_option maxRecDepth 60000 in
theorem s232_960 (d : Nat) (h : AH) (x1 x2 x3 : Option Value) (s0 : Value) (s1 : Value) (s2 : Value) (v : Nat) : E d 232 960 [some (.ref v), x1, x2, x3] [s0, s1, s2] h = E d 232 961 [some (.ref v), x1, x2, x3] [.ref v, s0, s1, s2] h := E_nx rfl
set_option maxRecDepth 60000 in
theorem s232_961 (d : Nat) (h : AH) (x0 x1 x2 : Option Value) (s0 : Value) (s1 : Value) (s2 : Value) (s3 : Value) (v : Int32) : E d 232 961 [x0, x1, x2, some (.int v)] [s0, s1, s2, s3] h = E d 232 962 [x0, x1, x2, some (.int v)] [.int v, s0, s1, s2, s3] h := E_nx rfl
set_option maxRecDepth 60000 in
theorem s232_962 (d : Nat) (h : AH) (x0 x1 x2 x3 : Option Value) (s0 : Value) (s1 : Value) (s2 : Value) (s3 : Value) (s4 : Value) : E d 232 962 [x0, x1, x2, x3] [s0, s1, s2, s3, s4] h = E d 232 963 [x0, x1, x2, x3] [.int 3, s0, s1, s2, s3, s4] h := E_nx rfl
set_option maxRecDepth 60000 in
theorem s232_963 (d : Nat) (h : AH) (x0 x1 x2 x3 : Option Value) (s0 : Int32) (s1 : Int32) (s2 : Value) (s3 : Value) (s4 : Value) (s5 : Value) : E d 232 963 [x0, x1, x2, x3] [.int s0, .int s1, s2, s3, s4, s5] h = E d 232 964 [x0, x1, x2, x3] [.int (s1 + s0), s2, s3, s4, s5] h := E_nx rfl
set_option maxRecDepth 60000 in
theorem s232_964 (d : Nat) (h : AH) (x0 x1 x2 x3 : Option Value) (s0 : Int32) (s1 : Nat) (s2 : Value) (s3 : Value) (s4 : Value) : E d 232 964 [x0, x1, x2, x3] [.int s0, .ref s1, s2, s3, s4] h = if inb s0 (alen h s1 0) = true ∨ inb s0 (alen h s1 8) = true then E d 232 965 [x0, x1, x2, x3] [.int (hI h s1 s0.toNatClampNeg), s2, s3, s4] h else none := E_gd rfl
set_option maxRecDepth 60000 in
theorem s232_965 (d : Nat) (h : AH) (x1 x2 x3 : Option Value) (s0 : Value) (s1 : Value) (s2 : Value) (s3 : Value) (v : Nat) : E d 232 965 [some (.ref v), x1, x2, x3] [s0, s1, s2, s3] h = E d 232 966 [some (.ref v), x1, x2, x3] [.ref v, s0, s1, s2, s3] h := E_nx rfl
set_option maxRecDepth 60000 in
theorem s232_966 (d : Nat) (h : AH) (x0 x1 x2 : Option Value) (s0 : Value) (s1 : Value) (s2 : Value) (s3 : Value) (s4 : Value) (v : Int32) : E d 232 966 [x0, x1, x2, some (.int v)] [s0, s1, s2, s3, s4] h = E d 232 967 [x0, x1, x2, some (.int v)] [.int v, s0, s1, s2, s3, s4] h := E_nx rfl
set_option maxRecDepth 60000 in
theorem s232_967 (d : Nat) (h : AH) (x0 x1 x2 x3 : Option Value) (s0 : Value) (s1 : Value) (s2 : Value) (s3 : Value) (s4 : Value) (s5 : Value) : E d 232 967 [x0, x1, x2, x3] [s0, s1, s2, s3, s4, s5] h = E d 232 968 [x0, x1, x2, x3] [.int 4, s0, s1, s2, s3, s4, s5] h := E_nx rfl
set_option maxRecDepth 60000 in
theorem s232_968 (d : Nat) (h : AH) (x0 x1 x2 x3 : Option Value) (s0 : Int32) (s1 : Int32) (s2 : Value) (s3 : Value) (s4 : Value) (s5 : Value) (s6 : Value) : E d 232 968 [x0, x1, x2, x3] [.int s0, .int s1, s2, s3, s4, s5, s6] h = E d 232 969 [x0, x1, x2, x3] [.int (s1 + s0), s2, s3, s4, s5, s6] h := E_nx rfl
set_option maxRecDepth 60000 in
theorem s232_969 (d : Nat) (h : AH) (x0 x1 x2 x3 : Option Value) (s0 : Int32) (s1 : Nat) (s2 : Value) (s3 : Value) (s4 : Value) (s5 : Value) : E d 232 969 [x0, x1, x2, x3] [.int s0, .ref s1, s2, s3, s4, s5] h = if inb s0 (alen h s1 0) = true ∨ inb s0 (alen h s1 8) = true then E d 232 970 [x0, x1, x2, x3] [.int (hI h s1 s0.toNatClampNeg), s2, s3, s4, s5] h else none := E_gd rfl
set_option maxRecDepth 60000 in
theorem s232_970 (d : Nat) (h : AH) (x0 x1 x2 x3 : Option Value) (s0 : Int32) (s1 : Int32) (s2 : Int32) (s3 : Int32) (s4 : Nat) : E (d + 1) 232 970 [x0, x1, x2, x3] [.int s0, .int s1, .int s2, .int s3, .ref s4] h = if hS h s4 = some (104, 0) then (E d 121 0 [some (.ref s4), some (.int s3), some (.int s2), some (.int s1), some (.int s0), none, none, none] [] h).bind fun r => E (d + 1) 232 971 [x0, x1, x2, x3] (r.1.toList ++ []) r.2 else none := E_callg rfl
set_option maxRecDepth 60000 in
theorem s232_971 (d : Nat) (h : AH) (x0 x1 x3 : Option Value) (s0 : Value) (v : Nat) : E d 232 971 [x0, x1, some (.ref v), x3] [s0] h = E d 232 972 [x0, x1, some (.ref v), x3] [.ref v, s0] h := E_nx rfl
set_option maxRecDepth 60000 in
theorem s232_972 (d : Nat) (h : AH) (x1 x2 x3 : Option Value) (s0 : Value) (s1 : Value) (v : Nat) : E d 232 972 [some (.ref v), x1, x2, x3] [s0, s1] h = E d 232 973 [some (.ref v), x1, x2, x3] [.ref v, s0, s1] h := E_nx rfl
set_option maxRecDepth 60000 in
theorem s232_973 (d : Nat) (h : AH) (x0 x1 x2 : Option Value) (s0 : Value) (s1 : Value) (s2 : Value) (v : Int32) : E d 232 973 [x0, x1, x2, some (.int v)] [s0, s1, s2] h = E d 232 974 [x0, x1, x2, some (.int v)] [.int v, s0, s1, s2] h := E_nx rfl
set_option maxRecDepth 60000 in
theorem s232_974 (d : Nat) (h : AH) (x0 x1 x2 x3 : Option Value) (s0 : Value) (s1 : Value) (s2 : Value) (s3 : Value) : E d 232 974 [x0, x1, x2, x3] [s0, s1, s2, s3] h = E d 232 975 [x0, x1, x2, x3] [.int 1, s0, s1, s2, s3] h := E_nx rfl
set_option maxRecDepth 60000 in
theorem s232_975 (d : Nat) (h : AH) (x0 x1 x2 x3 : Option Value) (s0 : Int32) (s1 : Int32) (s2 : Value) (s3 : Value) (s4 : Value) : E d 232 975 [x0, x1, x2, x3] [.int s0, .int s1, s2, s3, s4] h = E d 232 976 [x0, x1, x2, x3] [.int (s1 + s0), s2, s3, s4] h := E_nx rfl
set_option maxRecDepth 60000 in
theorem s232_976 (d : Nat) (h : AH) (x0 x1 x2 x3 : Option Value) (s0 : Int32) (s1 : Nat) (s2 : Value) (s3 : Value) : E d 232 976 [x0, x1, x2, x3] [.int s0, .ref s1, s2, s3] h = if inb s0 (alen h s1 0) = true ∨ inb s0 (alen h s1 8) = true then E d 232 977 [x0, x1, x2, x3] [.int (hI h s1 s0.toNatClampNeg), s2, s3] h else none := E_gd rfl
set_option maxRecDepth 60000 in
theorem s232_977 (d : Nat) (h : AH) (x1 x2 x3 : Option Value) (s0 : Value) (s1 : Value) (s2 : Value) (v : Nat) : E d 232 977 [some (.ref v), x1, x2, x3] [s0, s1, s2] h = E d 232 978 [some (.ref v), x1, x2, x3] [.ref v, s0, s1, s2] h := E_nx rfl
set_option maxRecDepth 60000 in
theorem s232_978 (d : Nat) (h : AH) (x0 x1 x2 : Option Value) (s0 : Value) (s1 : Value) (s2 : Value) (s3 : Value) (v : Int32) : E d 232 978 [x0, x1, x2, some (.int v)] [s0, s1, s2, s3] h = E d 232 979 [x0, x1, x2, some (.int v)] [.int v, s0, s1, s2, s3] h := E_nx rfl
set_option maxRecDepth 60000 in
theorem s232_979 (d : Nat) (h : AH) (x0 x1 x2 x3 : Option Value) (s0 : Value) (s1 : Value) (s2 : Value) (s3 : Value) (s4 : Value) : E d 232 979 [x0, x1, x2, x3] [s0, s1, s2, s3, s4] h = E d 232 980 [x0, x1, x2, x3] [.int 2, s0, s1, s2, s3, s4] h := E_nx rfl
set_option maxRecDepth 60000 in
theorem s232_980 (d : Nat) (h : AH) (x0 x1 x2 x3 : Option Value) (s0 : Int32) (s1 : Int32) (s2 : Value) (s3 : Value) (s4 : Value) (s5 : Value) : E d 232 980 [x0, x1, x2, x3] [.int s0, .int s1, s2, s3, s4, s5] h = E d 232 981 [x0, x1, x2, x3] [.int (s1 + s0), s2, s3, s4, s5] h := E_nx rfl
set_option maxRecDepth 60000 in
theorem s232_981 (d : Nat) (h : AH) (x0 x1 x2 x3 : Option Value) (s0 : Int32) (s1 : Nat) (s2 : Value) (s3 : Value) (s4 : Value) : E d 232 981 [x0, x1, x2, x3] [.int s0, .ref s1, s2, s3, s4] h = if inb s0 (alen h s1 0) = true ∨ inb s0 (alen h s1 8) = true then E d 232 982 [x0, x1, x2, x3] [.int (hI h s1 s0.toNatClampNeg), s2, s3, s4] h else none := E_gd rfl
set_option maxRecDepth 60000 in
theorem s232_982 (d : Nat) (h : AH) (x1 x2 x3 : Option Value) (s0 : Value) (s1 : Value) (s2 : Value) (s3 : Value) (v : Nat) : E d 232 982 [some (.ref v), x1, x2, x3] [s0, s1, s2, s3] h = E d 232 983 [some (.ref v), x1, x2, x3] [.ref v, s0, s1, s2, s3] h := E_nx rfl
set_option maxRecDepth 60000 in
theorem s232_983 (d : Nat) (h : AH) (x0 x1 x2 : Option Value) (s0 : Value) (s1 : Value) (s2 : Value) (s3 : Value) (s4 : Value) (v : Int32) : E d 232 983 [x0, x1, x2, some (.int v)] [s0, s1, s2, s3, s4] h = E d 232 984 [x0, x1, x2, some (.int v)] [.int v, s0, s1, s2, s3, s4] h := E_nx rfl
set_option maxRecDepth 60000 in
theorem s232_984 (d : Nat) (h : AH) (x0 x1 x2 x3 : Option Value) (s0 : Value) (s1 : Value) (s2 : Value) (s3 : Value) (s4 : Value) (s5 : Value) : E d 232 984 [x0, x1, x2, x3] [s0, s1, s2, s3, s4, s5] h = E d 232 985 [x0, x1, x2, x3] [.int 3, s0, s1, s2, s3, s4, s5] h := E_nx rfl
set_option maxRecDepth 60000 in
theorem s232_985 (d : Nat) (h : AH) (x0 x1 x2 x3 : Option Value) (s0 : Int32) (s1 : Int32) (s2 : Value) (s3 : Value) (s4 : Value) (s5 : Value) (s6 : Value) : E d 232 985 [x0, x1, x2, x3] [.int s0, .int s1, s2, s3, s4, s5, s6] h = E d 232 986 [x0, x1, x2, x3] [.int (s1 + s0), s2, s3, s4, s5, s6] h := E_nx rfl
set_option maxRecDepth 60000 in
theorem s232_986 (d : Nat) (h : AH) (x0 x1 x2 x3 : Option Value) (s0 : Int32) (s1 : Nat) (s2 : Value) (s3 : Value) (s4 : Value) (s5 : Value) : E d 232 986 [x0, x1, x2, x3] [.int s0, .ref s1, s2, s3, s4, s5] h = if inb s0 (alen h s1 0) = true ∨ inb s0 (alen h s1 8) = true then E d 232 987 [x0, x1, x2, x3] [.int (hI h s1 s0.toNatClampNeg), s2, s3, s4, s5] h else none := E_gd rfl
set_option maxRecDepth 60000 in
theorem s232_987 (d : Nat) (h : AH) (x1 x2 x3 : Option Value) (s0 : Value) (s1 : Value) (s2 : Value) (s3 : Value) (s4 : Value) (v : Nat) : E d 232 987 [some (.ref v), x1, x2, x3] [s0, s1, s2, s3, s4] h = E d 232 988 [some (.ref v), x1, x2, x3] [.ref v, s0, s1, s2, s3, s4] h := E_nx rfl
set_option maxRecDepth 60000 in
theorem s232_988 (d : Nat) (h : AH) (x0 x1 x2 : Option Value) (s0 : Value) (s1 : Value) (s2 : Value) (s3 : Value) (s4 : Value) (s5 : Value) (v : Int32) : E d 232 988 [x0, x1, x2, some (.int v)] [s0, s1, s2, s3, s4, s5] h = E d 232 989 [x0, x1, x2, some (.int v)] [.int v, s0, s1, s2, s3, s4, s5] h := E_nx rfl
set_option maxRecDepth 60000 in
theorem s232_989 (d : Nat) (h : AH) (x0 x1 x2 x3 : Option Value) (s0 : Value) (s1 : Value) (s2 : Value) (s3 : Value) (s4 : Value) (s5 : Value) (s6 : Value) : E d 232 989 [x0, x1, x2, x3] [s0, s1, s2, s3, s4, s5, s6] h = E d 232 990 [x0, x1, x2, x3] [.int 4, s0, s1, s2, s3, s4, s5, s6] h := E_nx rfl
set_option maxRecDepth 60000 in
theorem s232_990 (d : Nat) (h : AH) (x0 x1 x2 x3 : Option Value) (s0 : Int32) (s1 : Int32) (s2 : Value) (s3 : Value) (s4 : Value) (s5 : Value) (s6 : Value) (s7 : Value) : E d 232 990 [x0, x1, x2, x3] [.int s0, .int s1, s2, s3, s4, s5, s6, s7] h = E d 232 991 [x0, x1, x2, x3] [.int (s1 + s0), s2, s3, s4, s5, s6, s7] h := E_nx rfl
set_option maxRecDepth 60000 in
theorem s232_991 (d : Nat) (h : AH) (x0 x1 x2 x3 : Option Value) (s0 : Int32) (s1 : Nat) (s2 : Value) (s3 : Value) (s4 : Value) (s5 : Value) (s6 : Value) : E d 232 991 [x0, x1, x2, x3] [.int s0, .ref s1, s2, s3, s4, s5, s6] h = if inb s0 (alen h s1 0) = true ∨ inb s0 (alen h s1 8) = true then E d 232 992 [x0, x1, x2, x3] [.int (hI h s1 s0.toNatClampNeg), s2, s3, s4, s5, s6] h else none := E_gd rfl
set_option maxRecDepth 60000 in
theorem s232_992 (d : Nat) (h : AH) (x0 x1 x2 x3 : Option Value) (s0 : Int32) (s1 : Int32) (s2 : Int32) (s3 : Int32) (s4 : Nat) (s5 : Value) : E (d + 1) 232 992 [x0, x1, x2, x3] [.int s0, .int s1, .int s2, .int s3, .ref s4, s5] h = if hS h s4 = some (105, 0) then (E d 220 0 [some (.ref s4), some (.int s3), some (.int s2), some (.int s1), some (.int s0), none, none, none] [] h).bind fun r => E (d + 1) 232 993 [x0, x1, x2, x3] (r.1.toList ++ [s5]) r.2 else none := E_callg rfl
set_option maxRecDepth 60000 in
theorem s232_993 (d : Nat) (h : AH) (x0 x1 x2 x3 : Option Value) (s0 : Int32) (s1 : Int32) : E d 232 993 [x0, x1, x2, x3] [.int s0, .int s1] h = if s1 = s0 then E d 232 1068 [x0, x1, x2, x3] [] h else E d 232 994 [x0, x1, x2, x3] [] h := E_ifc rfl
set_option maxRecDepth 60000 in
theorem s232_994 (d : Nat) (h : AH) (x0 x1 x2 x3 : Option Value)  : E d 232 994 [x0, x1, x2, x3] [] h = E d 232 995 [x0, x1, x2, x3] [.int 0] h := E_nx rfl
set_option maxRecDepth 60000 in
theorem s232_995 (d : Nat) (h : AH) (x0 x1 x2 x3 : Option Value) (s0 : Int32) : E d 232 995 [x0, x1, x2, x3] [.int s0] h = if s0 = 0 ∨ s0 = 1 then some (some (.int s0), h) else none := E_retg rfl
set_option maxRecDepth 60000 in
theorem s232_996 (d : Nat) (h : AH) (x0 x2 x3 : Option Value) (v : Nat) : E d 232 996 [x0, some (.ref v), x2, x3] [] h = E d 232 997 [x0, some (.ref v), x2, x3] [.ref v] h := E_nx rfl
set_option maxRecDepth 60000 in
theorem s232_997 (d : Nat) (h : AH) (x1 x2 x3 : Option Value) (s0 : Value) (v : Nat) : E d 232 997 [some (.ref v), x1, x2, x3] [s0] h = E d 232 998 [some (.ref v), x1, x2, x3] [.ref v, s0] h := E_nx rfl
set_option maxRecDepth 60000 in
theorem s232_998 (d : Nat) (h : AH) (x0 x1 x2 : Option Value) (s0 : Value) (s1 : Value) (v : Int32) : E d 232 998 [x0, x1, x2, some (.int v)] [s0, s1] h = E d 232 999 [x0, x1, x2, some (.int v)] [.int v, s0, s1] h := E_nx rfl
set_option maxRecDepth 60000 in
theorem s232_999 (d : Nat) (h : AH) (x0 x1 x2 x3 : Option Value) (s0 : Value) (s1 : Value) (s2 : Value) : E d 232 999 [x0, x1, x2, x3] [s0, s1, s2] h = E d 232 1000 [x0, x1, x2, x3] [.int 1, s0, s1, s2] h := E_nx rfl
set_option maxRecDepth 60000 in
theorem s232_1000 (d : Nat) (h : AH) (x0 x1 x2 x3 : Option Value) (s0 : Int32) (s1 : Int32) (s2 : Value) (s3 : Value) : E d 232 1000 [x0, x1, x2, x3] [.int s0, .int s1, s2, s3] h = E d 232 1001 [x0, x1, x2, x3] [.int (s1 + s0), s2, s3] h := E_nx rfl
set_option maxRecDepth 60000 in
theorem s232_1001 (d : Nat) (h : AH) (x0 x1 x2 x3 : Option Value) (s0 : Int32) (s1 : Nat) (s2 : Value) : E d 232 1001 [x0, x1, x2, x3] [.int s0, .ref s1, s2] h = if inb s0 (alen h s1 0) = true ∨ inb s0 (alen h s1 8) = true then E d 232 1002 [x0, x1, x2, x3] [.int (hI h s1 s0.toNatClampNeg), s2] h else none := E_gd rfl
set_option maxRecDepth 60000 in
theorem s232_1002 (d : Nat) (h : AH) (x0 x1 x2 x3 : Option Value) (s0 : Int32) (s1 : Nat) : E (d + 1) 232 1002 [x0, x1, x2, x3] [.int s0, .ref s1] h = if hS h s1 = some (104, 0) then (E d 124 0 [some (.ref s1), some (.int s0), none, none, none] [] h).bind fun r => E (d + 1) 232 1003 [x0, x1, x2, x3] (r.1.toList ++ []) r.2 else none := E_callg rfl
set_option maxRecDepth 60000 in
theorem s232_1003 (d : Nat) (h : AH) (x0 x1 x3 : Option Value) (s0 : Value) (v : Nat) : E d 232 1003 [x0, x1, some (.ref v), x3] [s0] h = E d 232 1004 [x0, x1, some (.ref v), x3] [.ref v, s0] h := E_nx rfl
set_option maxRecDepth 60000 in
theorem s232_1004 (d : Nat) (h : AH) (x1 x2 x3 : Option Value) (s0 : Value) (s1 : Value) (v : Nat) : E d 232 1004 [some (.ref v), x1, x2, x3] [s0, s1] h = E d 232 1005 [some (.ref v), x1, x2, x3] [.ref v, s0, s1] h := E_nx rfl
set_option maxRecDepth 60000 in
theorem s232_1005 (d : Nat) (h : AH) (x0 x1 x2 : Option Value) (s0 : Value) (s1 : Value) (s2 : Value) (v : Int32) : E d 232 1005 [x0, x1, x2, some (.int v)] [s0, s1, s2] h = E d 232 1006 [x0, x1, x2, some (.int v)] [.int v, s0, s1, s2] h := E_nx rfl
set_option maxRecDepth 60000 in
theorem s232_1006 (d : Nat) (h : AH) (x0 x1 x2 x3 : Option Value) (s0 : Value) (s1 : Value) (s2 : Value) (s3 : Value) : E d 232 1006 [x0, x1, x2, x3] [s0, s1, s2, s3] h = E d 232 1007 [x0, x1, x2, x3] [.int 1, s0, s1, s2, s3] h := E_nx rfl
set_option maxRecDepth 60000 in
theorem s232_1007 (d : Nat) (h : AH) (x0 x1 x2 x3 : Option Value) (s0 : Int32) (s1 : Int32) (s2 : Value) (s3 : Value) (s4 : Value) : E d 232 1007 [x0, x1, x2, x3] [.int s0, .int s1, s2, s3, s4] h = E d 232 1008 [x0, x1, x2, x3] [.int (s1 + s0), s2, s3, s4] h := E_nx rfl
set_option maxRecDepth 60000 in
theorem s232_1008 (d : Nat) (h : AH) (x0 x1 x2 x3 : Option Value) (s0 : Int32) (s1 : Nat) (s2 : Value) (s3 : Value) : E d 232 1008 [x0, x1, x2, x3] [.int s0, .ref s1, s2, s3] h = if inb s0 (alen h s1 0) = true ∨ inb s0 (alen h s1 8) = true then E d 232 1009 [x0, x1, x2, x3] [.int (hI h s1 s0.toNatClampNeg), s2, s3] h else none := E_gd rfl
set_option maxRecDepth 60000 in
theorem s232_1009 (d : Nat) (h : AH) (x0 x1 x2 x3 : Option Value) (s0 : Int32) (s1 : Nat) (s2 : Value) : E (d + 1) 232 1009 [x0, x1, x2, x3] [.int s0, .ref s1, s2] h = if hS h s1 = some (105, 0) then (E d 222 0 [some (.ref s1), some (.int s0), none, none, none, none, none] [] h).bind fun r => E (d + 1) 232 1010 [x0, x1, x2, x3] (r.1.toList ++ [s2]) r.2 else none := E_callg rfl
set_option maxRecDepth 60000 in
theorem s232_1010 (d : Nat) (h : AH) (x0 x1 x2 x3 : Option Value) (s0 : Int32) (s1 : Int32) : E d 232 1010 [x0, x1, x2, x3] [.int s0, .int s1] h = if s1 = s0 then E d 232 1068 [x0, x1, x2, x3] [] h else E d 232 1011 [x0, x1, x2, x3] [] h := E_ifc rfl
set_option maxRecDepth 60000 in
theorem s232_1011 (d : Nat) (h : AH) (x0 x1 x2 x3 : Option Value)  : E d 232 1011 [x0, x1, x2, x3] [] h = E d 232 1012 [x0, x1, x2, x3] [.int 0] h := E_nx rfl
set_option maxRecDepth 60000 in
theorem s232_1012 (d : Nat) (h : AH) (x0 x1 x2 x3 : Option Value) (s0 : Int32) : E d 232 1012 [x0, x1, x2, x3] [.int s0] h = if s0 = 0 ∨ s0 = 1 then some (some (.int s0), h) else none := E_retg rfl
set_option maxRecDepth 60000 in
theorem s232_1013 (d : Nat) (h : AH) (x0 x2 x3 : Option Value) (v : Nat) : E d 232 1013 [x0, some (.ref v), x2, x3] [] h = E d 232 1014 [x0, some (.ref v), x2, x3] [.ref v] h := E_nx rfl
set_option maxRecDepth 60000 in
theorem s232_1014 (d : Nat) (h : AH) (x0 x1 x2 x3 : Option Value) (s0 : Nat) : E (d + 1) 232 1014 [x0, x1, x2, x3] [.ref s0] h = if hS h s0 = some (104, 0) then (E d 125 0 [some (.ref s0), none, none] [] h).bind fun r => E (d + 1) 232 1015 [x0, x1, x2, x3] (r.1.toList ++ []) r.2 else none := E_callg rfl
set_option maxRecDepth 60000 in
theorem s232_1015 (d : Nat) (h : AH) (x0 x1 x3 : Option Value) (s0 : Value) (v : Nat) : E d 232 1015 [x0, x1, some (.ref v), x3] [s0] h = E d 232 1016 [x0, x1, some (.ref v), x3] [.ref v, s0] h := E_nx rfl
set_option maxRecDepth 60000 in
theorem s232_1016 (d : Nat) (h : AH) (x0 x1 x2 x3 : Option Value) (s0 : Nat) (s1 : Value) : E (d + 1) 232 1016 [x0, x1, x2, x3] [.ref s0, s1] h = if hS h s0 = some (105, 0) then (E d 223 0 [some (.ref s0), none, none] [] h).bind fun r => E (d + 1) 232 1017 [x0, x1, x2, x3] (r.1.toList ++ [s1]) r.2 else none := E_callg rfl
set_option maxRecDepth 60000 in
theorem s232_1017 (d : Nat) (h : AH) (x0 x1 x2 x3 : Option Value) (s0 : Int32) (s1 : Int32) : E d 232 1017 [x0, x1, x2, x3] [.int s0, .int s1] h = if s1 = s0 then E d 232 1068 [x0, x1, x2, x3] [] h else E d 232 1018 [x0, x1, x2, x3] [] h := E_ifc rfl
set_option maxRecDepth 60000 in
theorem s232_1018 (d : Nat) (h : AH) (x0 x1 x2 x3 : Option Value)  : E d 232 1018 [x0, x1, x2, x3] [] h = E d 232 1019 [x0, x1, x2, x3] [.int 0] h := E_nx rfl
set_option maxRecDepth 60000 in
theorem s232_1019 (d : Nat) (h : AH) (x0 x1 x2 x3 : Option Value) (s0 : Int32) : E d 232 1019 [x0, x1, x2, x3] [.int s0] h = if s0 = 0 ∨ s0 = 1 then some (some (.int s0), h) else none := E_retg rfl
set_option maxRecDepth 60000 in
theorem s232_1020 (d : Nat) (h : AH) (x0 x2 x3 : Option Value) (v : Nat) : E d 232 1020 [x0, some (.ref v), x2, x3] [] h = E d 232 1021 [x0, some (.ref v), x2, x3] [.ref v] h := E_nx rfl
set_option maxRecDepth 60000 in
theorem s232_1021 (d : Nat) (h : AH) (x1 x2 x3 : Option Value) (s0 : Value) (v : Nat) : E d 232 1021 [some (.ref v), x1, x2, x3] [s0] h = E d 232 1022 [some (.ref v), x1, x2, x3] [.ref v, s0] h := E_nx rfl
set_option maxRecDepth 60000 in
theorem s232_1022 (d : Nat) (h : AH) (x0 x1 x2 : Option Value) (s0 : Value) (s1 : Value) (v : Int32) : E d 232 1022 [x0, x1, x2, some (.int v)] [s0, s1] h = E d 232 1023 [x0, x1, x2, some (.int v)] [.int v, s0, s1] h := E_nx rfl
set_option maxRecDepth 60000 in
theorem s232_1023 (d : Nat) (h : AH) (x0 x1 x2 x3 : Option Value) (s0 : Value) (s1 : Value) (s2 : Value) : E d 232 1023 [x0, x1, x2, x3] [s0, s1, s2] h = E d 232 1024 [x0, x1, x2, x3] [.int 1, s0, s1, s2] h := E_nx rfl
set_option maxRecDepth 60000 in
theorem s232_1024 (d : Nat) (h : AH) (x0 x1 x2 x3 : Option Value) (s0 : Int32) (s1 : Int32) (s2 : Value) (s3 : Value) : E d 232 1024 [x0, x1, x2, x3] [.int s0, .int s1, s2, s3] h = E d 232 1025 [x0, x1, x2, x3] [.int (s1 + s0), s2, s3] h := E_nx rfl
set_option maxRecDepth 60000 in
theorem s232_1025 (d : Nat) (h : AH) (x0 x1 x2 x3 : Option Value) (s0 : Int32) (s1 : Nat) (s2 : Value) : E d 232 1025 [x0, x1, x2, x3] [.int s0, .ref s1, s2] h = if inb s0 (alen h s1 0) = true ∨ inb s0 (alen h s1 8) = true then E d 232 1026 [x0, x1, x2, x3] [.int (hI h s1 s0.toNatClampNeg), s2] h else none := E_gd rfl
set_option maxRecDepth 60000 in
theorem s232_1026 (d : Nat) (h : AH) (x0 x1 x2 x3 : Option Value) (s0 : Int32) (s1 : Nat) : E (d + 1) 232 1026 [x0, x1, x2, x3] [.int s0, .ref s1] h = if hS h s1 = some (104, 0) then (E d 126 0 [some (.ref s1), some (.int s0), none] [] h).bind fun r => E (d + 1) 232 1027 [x0, x1, x2, x3] (r.1.toList ++ []) r.2 else none := E_callg rfl
set_option maxRecDepth 60000 in
theorem s232_1027 (d : Nat) (h : AH) (x0 x1 x3 : Option Value) (s0 : Value) (v : Nat) : E d 232 1027 [x0, x1, some (.ref v), x3] [s0] h = E d 232 1028 [x0, x1, some (.ref v), x3] [.ref v, s0] h := E_nx rfl
set_option maxRecDepth 60000 in
theorem s232_1028 (d : Nat) (h : AH) (x1 x2 x3 : Option Value) (s0 : Value) (s1 : Value) (v : Nat) : E d 232 1028 [some (.ref v), x1, x2, x3] [s0, s1] h = E d 232 1029 [some (.ref v), x1, x2, x3] [.ref v, s0, s1] h := E_nx rfl
set_option maxRecDepth 60000 in
theorem s232_1029 (d : Nat) (h : AH) (x0 x1 x2 : Option Value) (s0 : Value) (s1 : Value) (s2 : Value) (v : Int32) : E d 232 1029 [x0, x1, x2, some (.int v)] [s0, s1, s2] h = E d 232 1030 [x0, x1, x2, some (.int v)] [.int v, s0, s1, s2] h := E_nx rfl
set_option maxRecDepth 60000 in
theorem s232_1030 (d : Nat) (h : AH) (x0 x1 x2 x3 : Option Value) (s0 : Value) (s1 : Value) (s2 : Value) (s3 : Value) : E d 232 1030 [x0, x1, x2, x3] [s0, s1, s2, s3] h = E d 232 1031 [x0, x1, x2, x3] [.int 1, s0, s1, s2, s3] h := E_nx rfl
set_option maxRecDepth 60000 in
theorem s232_1031 (d : Nat) (h : AH) (x0 x1 x2 x3 : Option Value) (s0 : Int32) (s1 : Int32) (s2 : Value) (s3 : Value) (s4 : Value) : E d 232 1031 [x0, x1, x2, x3] [.int s0, .int s1, s2, s3, s4] h = E d 232 1032 [x0, x1, x2, x3] [.int (s1 + s0), s2, s3, s4] h := E_nx rfl
set_option maxRecDepth 60000 in
theorem s232_1032 (d : Nat) (h : AH) (x0 x1 x2 x3 : Option Value) (s0 : Int32) (s1 : Nat) (s2 : Value) (s3 : Value) : E d 232 1032 [x0, x1, x2, x3] [.int s0, .ref s1, s2, s3] h = if inb s0 (alen h s1 0) = true ∨ inb s0 (alen h s1 8) = true then E d 232 1033 [x0, x1, x2, x3] [.int (hI h s1 s0.toNatClampNeg), s2, s3] h else none := E_gd rfl
set_option maxRecDepth 60000 in
theorem s232_1033 (d : Nat) (h : AH) (x0 x1 x2 x3 : Option Value) (s0 : Int32) (s1 : Nat) (s2 : Value) : E (d + 1) 232 1033 [x0, x1, x2, x3] [.int s0, .ref s1, s2] h = if hS h s1 = some (105, 0) then (E d 224 0 [some (.ref s1), some (.int s0), none] [] h).bind fun r => E (d + 1) 232 1034 [x0, x1, x2, x3] (r.1.toList ++ [s2]) r.2 else none := E_callg rfl
set_option maxRecDepth 60000 in
theorem s232_1034 (d : Nat) (h : AH) (x0 x1 x2 x3 : Option Value) (s0 : Int32) (s1 : Int32) : E d 232 1034 [x0, x1, x2, x3] [.int s0, .int s1] h = if s1 = s0 then E d 232 1068 [x0, x1, x2, x3] [] h else E d 232 1035 [x0, x1, x2, x3] [] h := E_ifc rfl
set_option maxRecDepth 60000 in
theorem s232_1035 (d : Nat) (h : AH) (x0 x1 x2 x3 : Option Value)  : E d 232 1035 [x0, x1, x2, x3] [] h = E d 232 1036 [x0, x1, x2, x3] [.int 0] h := E_nx rfl
set_option maxRecDepth 60000 in
theorem s232_1036 (d : Nat) (h : AH) (x0 x1 x2 x3 : Option Value) (s0 : Int32) : E d 232 1036 [x0, x1, x2, x3] [.int s0] h = if s0 = 0 ∨ s0 = 1 then some (some (.int s0), h) else none := E_retg rfl
set_option maxRecDepth 60000 in
theorem s232_1037 (d : Nat) (h : AH) (x0 x2 x3 : Option Value) (v : Nat) : E d 232 1037 [x0, some (.ref v), x2, x3] [] h = E d 232 1038 [x0, some (.ref v), x2, x3] [.ref v] h := E_nx rfl
set_option maxRecDepth 60000 in
theorem s232_1038 (d : Nat) (h : AH) (x0 x1 x2 x3 : Option Value) (s0 : Nat) : E (d + 1) 232 1038 [x0, x1, x2, x3] [.ref s0] h = if hS h s0 = some (104, 0) then (E d 127 0 [some (.ref s0)] [] h).bind fun r => E (d + 1) 232 1039 [x0, x1, x2, x3] (r.1.toList ++ []) r.2 else none := E_callg rfl
set_option maxRecDepth 60000 in
theorem s232_1039 (d : Nat) (h : AH) (x0 x1 x3 : Option Value) (s0 : Value) (v : Nat) : E d 232 1039 [x0, x1, some (.ref v), x3] [s0] h = E d 232 1040 [x0, x1, some (.ref v), x3] [.ref v, s0] h := E_nx rfl
set_option maxRecDepth 60000 in
theorem s232_1040 (d : Nat) (h : AH) (x0 x1 x2 x3 : Option Value) (s0 : Nat) (s1 : Value) : E (d + 1) 232 1040 [x0, x1, x2, x3] [.ref s0, s1] h = if hS h s0 = some (105, 0) then (E d 228 0 [some (.ref s0)] [] h).bind fun r => E (d + 1) 232 1041 [x0, x1, x2, x3] (r.1.toList ++ [s1]) r.2 else none := E_callg rfl
set_option maxRecDepth 60000 in
theorem s232_1041 (d : Nat) (h : AH) (x0 x1 x2 x3 : Option Value) (s0 : Int32) (s1 : Int32) : E d 232 1041 [x0, x1, x2, x3] [.int s0, .int s1] h = if s1 = s0 then E d 232 1068 [x0, x1, x2, x3] [] h else E d 232 1042 [x0, x1, x2, x3] [] h := E_ifc rfl
set_option maxRecDepth 60000 in
theorem s232_1042 (d : Nat) (h : AH) (x0 x1 x2 x3 : Option Value)  : E d 232 1042 [x0, x1, x2, x3] [] h = E d 232 1043 [x0, x1, x2, x3] [.int 0] h := E_nx rfl
set_option maxRecDepth 60000 in
theorem s232_1043 (d : Nat) (h : AH) (x0 x1 x2 x3 : Option Value) (s0 : Int32) : E d 232 1043 [x0, x1, x2, x3] [.int s0] h = if s0 = 0 ∨ s0 = 1 then some (some (.int s0), h) else none := E_retg rfl
set_option maxRecDepth 60000 in
theorem s232_1044 (d : Nat) (h : AH) (x0 x2 x3 : Option Value) (v : Nat) : E d 232 1044 [x0, some (.ref v), x2, x3] [] h = E d 232 1045 [x0, some (.ref v), x2, x3] [.ref v] h := E_nx rfl
set_option maxRecDepth 60000 in
theorem s232_1045 (d : Nat) (h : AH) (x0 x1 x2 x3 : Option Value) (s0 : Nat) : E (d + 1) 232 1045 [x0, x1, x2, x3] [.ref s0] h = if hS h s0 = some (104, 0) then (E d 128 0 [some (.ref s0), none] [] h).bind fun r => E (d + 1) 232 1046 [x0, x1, x2, x3] (r.1.toList ++ []) r.2 else none := E_callg rfl
set_option maxRecDepth 60000 in
theorem s232_1046 (d : Nat) (h : AH) (x0 x1 x3 : Option Value) (s0 : Value) (v : Nat) : E d 232 1046 [x0, x1, some (.ref v), x3] [s0] h = E d 232 1047 [x0, x1, some (.ref v), x3] [.ref v, s0] h := E_nx rfl
set_option maxRecDepth 60000 in
theorem s232_1047 (d : Nat) (h : AH) (x0 x1 x2 x3 : Option Value) (s0 : Nat) (s1 : Value) : E (d + 1) 232 1047 [x0, x1, x2, x3] [.ref s0, s1] h = if hS h s0 = some (105, 0) then (E d 229 0 [some (.ref s0), none] [] h).bind fun r => E (d + 1) 232 1048 [x0, x1, x2, x3] (r.1.toList ++ [s1]) r.2 else none := E_callg rfl
set_option maxRecDepth 60000 in
theorem s232_1048 (d : Nat) (h : AH) (x0 x1 x2 x3 : Option Value) (s0 : Int32) (s1 : Int32) : E d 232 1048 [x0, x1, x2, x3] [.int s0, .int s1] h = if s1 = s0 then E d 232 1068 [x0, x1, x2, x3] [] h else E d 232 1049 [x0, x1, x2, x3] [] h := E_ifc rfl
set_option maxRecDepth 60000 in
theorem s232_1049 (d : Nat) (h : AH) (x0 x1 x2 x3 : Option Value)  : E d 232 1049 [x0, x1, x2, x3] [] h = E d 232 1050 [x0, x1, x2, x3] [.int 0] h := E_nx rfl
set_option maxRecDepth 60000 in
theorem s232_1050 (d : Nat) (h : AH) (x0 x1 x2 x3 : Option Value) (s0 : Int32) : E d 232 1050 [x0, x1, x2, x3] [.int s0] h = if s0 = 0 ∨ s0 = 1 then some (some (.int s0), h) else none := E_retg rfl
set_option maxRecDepth 60000 in
theorem s232_1051 (d : Nat) (h : AH) (x0 x2 x3 : Option Value) (v : Nat) : E d 232 1051 [x0, some (.ref v), x2, x3] [] h = E d 232 1052 [x0, some (.ref v), x2, x3] [.ref v] h := E_nx rfl
set_option maxRecDepth 60000 in
theorem s232_1052 (d : Nat) (h : AH) (x1 x2 x3 : Option Value) (s0 : Value) (v : Nat) : E d 232 1052 [some (.ref v), x1, x2, x3] [s0] h = E d 232 1053 [some (.ref v), x1, x2, x3] [.ref v, s0] h := E_nx rfl
set_option maxRecDepth 60000 in
theorem s232_1053 (d : Nat) (h : AH) (x0 x1 x2 : Option Value) (s0 : Value) (s1 : Value) (v : Int32) : E d 232 1053 [x0, x1, x2, some (.int v)] [s0, s1] h = E d 232 1054 [x0, x1, x2, some (.int v)] [.int v, s0, s1] h := E_nx rfl
set_option maxRecDepth 60000 in
theorem s232_1054 (d : Nat) (h : AH) (x0 x1 x2 x3 : Option Value) (s0 : Value) (s1 : Value) (s2 : Value) : E d 232 1054 [x0, x1, x2, x3] [s0, s1, s2] h = E d 232 1055 [x0, x1, x2, x3] [.int 1, s0, s1, s2] h := E_nx rfl
set_option maxRecDepth 60000 in
theorem s232_1055 (d : Nat) (h : AH) (x0 x1 x2 x3 : Option Value) (s0 : Int32) (s1 : Int32) (s2 : Value) (s3 : Value) : E d 232 1055 [x0, x1, x2, x3] [.int s0, .int s1, s2, s3] h = E d 232 1056 [x0, x1, x2, x3] [.int (s1 + s0), s2, s3] h := E_nx rfl
set_option maxRecDepth 60000 in
theorem s232_1056 (d : Nat) (h : AH) (x0 x1 x2 x3 : Option Value) (s0 : Int32) (s1 : Nat) (s2 : Value) : E d 232 1056 [x0, x1, x2, x3] [.int s0, .ref s1, s2] h = if inb s0 (alen h s1 0) = true ∨ inb s0 (alen h s1 8) = true then E d 232 1057 [x0, x1, x2, x3] [.int (hI h s1 s0.toNatClampNeg), s2] h else none := E_gd rfl
set_option maxRecDepth 60000 in
theorem s232_1057 (d : Nat) (h : AH) (x0 x1 x2 x3 : Option Value) (s0 : Int32) (s1 : Nat) : E (d + 1) 232 1057 [x0, x1, x2, x3] [.int s0, .ref s1] h = if hS h s1 = some (104, 0) then (E d 129 0 [some (.ref s1), some (.int s0)] [] h).bind fun r => E (d + 1) 232 1058 [x0, x1, x2, x3] (r.1.toList ++ []) r.2 else none := E_callg rfl
set_option maxRecDepth 60000 in
theorem s232_1058 (d : Nat) (h : AH) (x0 x1 x3 : Option Value) (s0 : Value) (v : Nat) : E d 232 1058 [x0, x1, some (.ref v), x3] [s0] h = E d 232 1059 [x0, x1, some (.ref v), x3] [.ref v, s0] h := E_nx rfl
set_option maxRecDepth 60000 in
theorem s232_1059 (d : Nat) (h : AH) (x1 x2 x3 : Option Value) (s0 : Value) (s1 : Value) (v : Nat) : E d 232 1059 [some (.ref v), x1, x2, x3] [s0, s1] h = E d 232 1060 [some (.ref v), x1, x2, x3] [.ref v, s0, s1] h := E_nx rfl
set_option maxRecDepth 60000 in
theorem s232_1060 (d : Nat) (h : AH) (x0 x1 x2 : Option Value) (s0 : Value) (s1 : Value) (s2 : Value) (v : Int32) : E d 232 1060 [x0, x1, x2, some (.int v)] [s0, s1, s2] h = E d 232 1061 [x0, x1, x2, some (.int v)] [.int v, s0, s1, s2] h := E_nx rfl
set_option maxRecDepth 60000 in
theorem s232_1061 (d : Nat) (h : AH) (x0 x1 x2 x3 : Option Value) (s0 : Value) (s1 : Value) (s2 : Value) (s3 : Value) : E d 232 1061 [x0, x1, x2, x3] [s0, s1, s2, s3] h = E d 232 1062 [x0, x1, x2, x3] [.int 1, s0, s1, s2, s3] h := E_nx rfl
set_option maxRecDepth 60000 in
theorem s232_1062 (d : Nat) (h : AH) (x0 x1 x2 x3 : Option Value) (s0 : Int32) (s1 : Int32) (s2 : Value) (s3 : Value) (s4 : Value) : E d 232 1062 [x0, x1, x2, x3] [.int s0, .int s1, s2, s3, s4] h = E d 232 1063 [x0, x1, x2, x3] [.int (s1 + s0), s2, s3, s4] h := E_nx rfl
set_option maxRecDepth 60000 in
theorem s232_1063 (d : Nat) (h : AH) (x0 x1 x2 x3 : Option Value) (s0 : Int32) (s1 : Nat) (s2 : Value) (s3 : Value) : E d 232 1063 [x0, x1, x2, x3] [.int s0, .ref s1, s2, s3] h = if inb s0 (alen h s1 0) = true ∨ inb s0 (alen h s1 8) = true then E d 232 1064 [x0, x1, x2, x3] [.int (hI h s1 s0.toNatClampNeg), s2, s3] h else none := E_gd rfl
set_option maxRecDepth 60000 in
theorem s232_1064 (d : Nat) (h : AH) (x0 x1 x2 x3 : Option Value) (s0 : Int32) (s1 : Nat) (s2 : Value) : E (d + 1) 232 1064 [x0, x1, x2, x3] [.int s0, .ref s1, s2] h = if hS h s1 = some (105, 0) then (E d 230 0 [some (.ref s1), some (.int s0), none, none] [] h).bind fun r => E (d + 1) 232 1065 [x0, x1, x2, x3] (r.1.toList ++ [s2]) r.2 else none := E_callg rfl
set_option maxRecDepth 60000 in
theorem s232_1065 (d : Nat) (h : AH) (x0 x1 x2 x3 : Option Value) (s0 : Int32) (s1 : Int32) : E d 232 1065 [x0, x1, x2, x3] [.int s0, .int s1] h = if s1 = s0 then E d 232 1068 [x0, x1, x2, x3] [] h else E d 232 1066 [x0, x1, x2, x3] [] h := E_ifc rfl
set_option maxRecDepth 60000 in
theorem s232_1066 (d : Nat) (h : AH) (x0 x1 x2 x3 : Option Value)  : E d 232 1066 [x0, x1, x2, x3] [] h = E d 232 1067 [x0, x1, x2, x3] [.int 0] h := E_nx rfl
set_option maxRecDepth 60000 in
theorem s232_1067 (d : Nat) (h : AH) (x0 x1 x2 x3 : Option Value) (s0 : Int32) : E d 232 1067 [x0, x1, x2, x3] [.int s0] h = if s0 = 0 ∨ s0 = 1 then some (some (.int s0), h) else none := E_retg rfl
set_option maxRecDepth 60000 in
theorem s232_1068 (d : Nat) (h : AH) (x0 x1 x2 : Option Value) (v : Int32) : E d 232 1068 [x0, x1, x2, some (.int v)] [] h = E d 232 1069 [x0, x1, x2, some (.int (v + 6))] [] h := E_nx rfl
set_option maxRecDepth 60000 in
theorem s232_1069 (d : Nat) (h : AH) (x0 x1 x2 x3 : Option Value)  : E d 232 1069 [x0, x1, x2, x3] [] h = E d 232 10 [x0, x1, x2, x3] [] h := E_nx rfl
set_option maxRecDepth 60000 in
theorem s232_1070 (d : Nat) (h : AH) (x0 x1 x2 x3 : Option Value)  : E d 232 1070 [x0, x1, x2, x3] [] h = E d 232 1071 [x0, x1, x2, x3] [.int 1] h := E_nx rfl
set_option maxRecDepth 60000 in
theorem s232_1071 (d : Nat) (h : AH) (x0 x1 x2 x3 : Option Value) (s0 : Int32) : E d 232 1071 [x0, x1, x2, x3] [.int s0] h = if s0 = 0 ∨ s0 = 1 then some (some (.int s0), h) else none := E_retg rfl
