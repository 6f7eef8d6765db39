/-! step equations, one an instruction, by wip/whole/gensteps.py -/
-- 233: RefusedLastLaw.law([I)Z
theorem s233_0 (d : Nat) (h : AH) (x0 x1 x2 x3 : Option Value)  : E d 233 0 [x0, x1, x2, x3] [] h = E d 233 1 [x0, x1, x2, x3] [.ref (hN h)] (newC h (104, 0) 8) := E_nx rfl
theorem s233_1 (d : Nat) (h : AH) (x0 x1 x2 x3 : Option Value) (s0 : Nat) : E d 233 1 [x0, x1, x2, x3] [.ref s0] h = E d 233 2 [x0, x1, x2, x3] [.ref s0, .ref s0] h := E_nx rfl
theorem s233_2 (d : Nat) (h : AH) (x0 x1 x2 x3 : Option Value) (s0 : Nat) (s1 : Value) : E (d + 1) 233 2 [x0, x1, x2, x3] [.ref s0, s1] h = (E d 80 0 [some (.ref s0), none] [] h).bind fun r => E (d + 1) 233 3 [x0, x1, x2, x3] (r.1.toList ++ [s1]) r.2 := E_call rfl
theorem s233_3 (d : Nat) (h : AH) (x0 x1 x2 x3 : Option Value) (s0 : Nat) : E d 233 3 [x0, x1, x2, x3] [.ref s0] h = E d 233 4 [x0, some (.ref s0), x2, x3] [] h := E_nx rfl
theorem s233_4 (d : Nat) (h : AH) (x0 x1 x2 x3 : Option Value)  : E d 233 4 [x0, x1, x2, x3] [] h = E d 233 5 [x0, x1, x2, x3] [.ref (hN h)] (newC h (105, 0) 40) := E_nx rfl
theorem s233_5 (d : Nat) (h : AH) (x0 x1 x2 x3 : Option Value) (s0 : Nat) : E d 233 5 [x0, x1, x2, x3] [.ref s0] h = E d 233 6 [x0, x1, x2, x3] [.ref s0, .ref s0] h := E_nx rfl
theorem s233_6 (d : Nat) (h : AH) (x0 x1 x2 x3 : Option Value) (s0 : Nat) (s1 : Value) : E (d + 1) 233 6 [x0, x1, x2, x3] [.ref s0, s1] h = (E d 135 0 [some (.ref s0)] [] h).bind fun r => E (d + 1) 233 7 [x0, x1, x2, x3] (r.1.toList ++ [s1]) r.2 := E_call rfl
theorem s233_7 (d : Nat) (h : AH) (x0 x1 x2 x3 : Option Value) (s0 : Nat) : E d 233 7 [x0, x1, x2, x3] [.ref s0] h = E d 233 8 [x0, x1, some (.ref s0), x3] [] h := E_nx rfl
theorem s233_8 (d : Nat) (h : AH) (x0 x1 x2 x3 : Option Value)  : E d 233 8 [x0, x1, x2, x3] [] h = E d 233 9 [x0, x1, x2, x3] [.int 0] h := E_nx rfl
theorem s233_9 (d : Nat) (h : AH) (x0 x1 x2 x3 : Option Value) (s0 : Int32) : E d 233 9 [x0, x1, x2, x3] [.int s0] h = E d 233 10 [x0, x1, x2, some (.int s0)] [] h := E_nx rfl
theorem s233_10 (d : Nat) (h : AH) (x0 x1 x2 : Option Value) (v : Int32) : E d 233 10 [x0, x1, x2, some (.int v)] [] h = E d 233 11 [x0, x1, x2, some (.int v)] [.int v] h := E_nx rfl
theorem s233_11 (d : Nat) (h : AH) (x1 x2 x3 : Option Value) (s0 : Value) (v : Nat) : E d 233 11 [some (.ref v), x1, x2, x3] [s0] h = E d 233 12 [some (.ref v), x1, x2, x3] [.ref v, s0] h := E_nx rfl
theorem s233_12 (d : Nat) (h : AH) (x0 x1 x2 x3 : Option Value) (s0 : Nat) (s1 : Value) : E d 233 12 [x0, x1, x2, x3] [.ref s0, s1] h = (lenA h s0).bind fun n => E d 233 13 [x0, x1, x2, x3] [.int (nI n), s1] h := E_g2 rfl
theorem s233_13 (d : Nat) (h : AH) (x0 x1 x2 x3 : Option Value) (s0 : Value) (s1 : Value) : E d 233 13 [x0, x1, x2, x3] [s0, s1] h = E d 233 14 [x0, x1, x2, x3] [.int 6, s0, s1] h := E_nx rfl
theorem s233_14 (d : Nat) (h : AH) (x0 x1 x2 x3 : Option Value) (s0 : Int32) (s1 : Int32) (s2 : Value) : E d 233 14 [x0, x1, x2, x3] [.int s0, .int s1, s2] h = E d 233 15 [x0, x1, x2, x3] [.int (s1 - s0), s2] h := E_nx rfl
theorem s233_15 (d : Nat) (h : AH) (x0 x1 x2 x3 : Option Value) (s0 : Int32) (s1 : Int32) : E d 233 15 [x0, x1, x2, x3] [.int s0, .int s1] h = if s0 < s1 then E d 233 1070 [x0, x1, x2, x3] [] h else E d 233 16 [x0, x1, x2, x3] [] h := E_ifc rfl
theorem s233_16 (d : Nat) (h : AH) (x1 x2 x3 : Option Value) (v : Nat) : E d 233 16 [some (.ref v), x1, x2, x3] [] h = E d 233 17 [some (.ref v), x1, x2, x3] [.ref v] h := E_nx rfl
theorem s233_17 (d : Nat) (h : AH) (x0 x1 x2 : Option Value) (s0 : Value) (v : Int32) : E d 233 17 [x0, x1, x2, some (.int v)] [s0] h = E d 233 18 [x0, x1, x2, some (.int v)] [.int v, s0] h := E_nx rfl
theorem s233_18 (d : Nat) (h : AH) (x0 x1 x2 x3 : Option Value) (s0 : Int32) (s1 : Nat) : E d 233 18 [x0, x1, x2, x3] [.int s0, .ref s1] h = if inb s0 (alen h s1 0) = true ∨ inb s0 (alen h s1 8) = true then E d 233 19 [x0, x1, x2, x3] [.int (hI h s1 s0.toNatClampNeg)] h else none := E_gd rfl
theorem s233_19 (d : Nat) (h : AH) (x0 x1 x2 x3 : Option Value) (s0 : Value) : E d 233 19 [x0, x1, x2, x3] [s0] h = E d 233 20 [x0, x1, x2, x3] [.int 63, s0] h := E_nx rfl
theorem s233_20 (d : Nat) (h : AH) (x0 x1 x2 x3 : Option Value) (s0 : Int32) (s1 : Int32) : E d 233 20 [x0, x1, x2, x3] [.int s0, .int s1] h = E d 233 21 [x0, x1, x2, x3] [.int (s1 &&& s0)] h := E_nx rfl
theorem s233_21 (d : Nat) (h : AH) (x0 x1 x2 x3 : Option Value) (s0 : Int32) : E d 233 21 [x0, x1, x2, x3] [.int s0] h = if s0 = 0 then E d 233 22 [x0, x1, x2, x3] [] h else if s0 = 1 then E d 233 59 [x0, x1, x2, x3] [] h else if s0 = 2 then E d 233 120 [x0, x1, x2, x3] [] h else if s0 = 3 then E d 233 177 [x0, x1, x2, x3] [] h else if s0 = 4 then E d 233 205 [x0, x1, x2, x3] [] h else if s0 = 5 then E d 233 222 [x0, x1, x2, x3] [] h else if s0 = 6 then E d 233 249 [x0, x1, x2, x3] [] h else if s0 = 7 then E d 233 276 [x0, x1, x2, x3] [] h else if s0 = 8 then E d 233 293 [x0, x1, x2, x3] [] h else if s0 = 9 then E d 233 320 [x0, x1, x2, x3] [] h else if s0 = 10 then E d 233 337 [x0, x1, x2, x3] [] h else if s0 = 11 then E d 233 364 [x0, x1, x2, x3] [] h else if s0 = 12 then E d 233 391 [x0, x1, x2, x3] [] h else if s0 = 13 then E d 233 428 [x0, x1, x2, x3] [] h else if s0 = 14 then E d 233 455 [x0, x1, x2, x3] [] h else if s0 = 15 then E d 233 472 [x0, x1, x2, x3] [] h else if s0 = 16 then E d 233 479 [x0, x1, x2, x3] [] h else if s0 = 17 then E d 233 486 [x0, x1, x2, x3] [] h else if s0 = 18 then E d 233 513 [x0, x1, x2, x3] [] h else if s0 = 19 then E d 233 540 [x0, x1, x2, x3] [] h else if s0 = 20 then E d 233 557 [x0, x1, x2, x3] [] h else if s0 = 21 then E d 233 564 [x0, x1, x2, x3] [] h else if s0 = 22 then E d 233 581 [x0, x1, x2, x3] [] h else if s0 = 23 then E d 233 608 [x0, x1, x2, x3] [] h else if s0 = 24 then E d 233 635 [x0, x1, x2, x3] [] h else if s0 = 25 then E d 233 672 [x0, x1, x2, x3] [] h else if s0 = 26 then E d 233 699 [x0, x1, x2, x3] [] h else if s0 = 27 then E d 233 716 [x0, x1, x2, x3] [] h else if s0 = 28 then E d 233 733 [x0, x1, x2, x3] [] h else if s0 = 29 then E d 233 740 [x0, x1, x2, x3] [] h else if s0 = 30 then E d 233 767 [x0, x1, x2, x3] [] h else if s0 = 31 then E d 233 794 [x0, x1, x2, x3] [] h else if s0 = 32 then E d 233 811 [x0, x1, x2, x3] [] h else if s0 = 33 then E d 233 828 [x0, x1, x2, x3] [] h else if s0 = 34 then E d 233 855 [x0, x1, x2, x3] [] h else if s0 = 35 then E d 233 902 [x0, x1, x2, x3] [] h else if s0 = 36 then E d 233 949 [x0, x1, x2, x3] [] h else if s0 = 37 then E d 233 996 [x0, x1, x2, x3] [] h else if s0 = 38 then E d 233 1013 [x0, x1, x2, x3] [] h else if s0 = 39 then E d 233 1020 [x0, x1, x2, x3] [] h else if s0 = 40 then E d 233 1037 [x0, x1, x2, x3] [] h else if s0 = 41 then E d 233 1044 [x0, x1, x2, x3] [] h else if s0 = 42 then E d 233 1051 [x0, x1, x2, x3] [] h else E d 233 1068 [x0, x1, x2, x3] [] h := by rw [E_nx (show stepA _ _ _ _ _ = nx (if s0 = 0 then 22 else if s0 = 1 then 59 else if s0 = 2 then 120 else if s0 = 3 then 177 else if s0 = 4 then 205 else if s0 = 5 then 222 else if s0 = 6 then 249 else if s0 = 7 then 276 else if s0 = 8 then 293 else if s0 = 9 then 320 else if s0 = 10 then 337 else if s0 = 11 then 364 else if s0 = 12 then 391 else if s0 = 13 then 428 else if s0 = 14 then 455 else if s0 = 15 then 472 else if s0 = 16 then 479 else if s0 = 17 then 486 else if s0 = 18 then 513 else if s0 = 19 then 540 else if s0 = 20 then 557 else if s0 = 21 then 564 else if s0 = 22 then 581 else if s0 = 23 then 608 else if s0 = 24 then 635 else if s0 = 25 then 672 else if s0 = 26 then 699 else if s0 = 27 then 716 else if s0 = 28 then 733 else if s0 = 29 then 740 else if s0 = 30 then 767 else if s0 = 31 then 794 else if s0 = 32 then 811 else if s0 = 33 then 828 else if s0 = 34 then 855 else if s0 = 35 then 902 else if s0 = 36 then 949 else if s0 = 37 then 996 else if s0 = 38 then 1013 else if s0 = 39 then 1020 else if s0 = 40 then 1037 else if s0 = 41 then 1044 else if s0 = 42 then 1051 else 1068) _ _ _ from rfl)]; simp only [E_ite]
theorem s233_22 (d : Nat) (h : AH) (x0 x2 x3 : Option Value) (v : Nat) : E d 233 22 [x0, some (.ref v), x2, x3] [] h = E d 233 23 [x0, some (.ref v), x2, x3] [.ref v] h := E_nx rfl
theorem s233_23 (d : Nat) (h : AH) (x1 x2 x3 : Option Value) (s0 : Value) (v : Nat) : E d 233 23 [some (.ref v), x1, x2, x3] [s0] h = E d 233 24 [some (.ref v), x1, x2, x3] [.ref v, s0] h := E_nx rfl
theorem s233_24 (d : Nat) (h : AH) (x0 x1 x2 : Option Value) (s0 : Value) (s1 : Value) (v : Int32) : E d 233 24 [x0, x1, x2, some (.int v)] [s0, s1] h = E d 233 25 [x0, x1, x2, some (.int v)] [.int v, s0, s1] h := E_nx rfl
theorem s233_25 (d : Nat) (h : AH) (x0 x1 x2 x3 : Option Value) (s0 : Value) (s1 : Value) (s2 : Value) : E d 233 25 [x0, x1, x2, x3] [s0, s1, s2] h = E d 233 26 [x0, x1, x2, x3] [.int 1, s0, s1, s2] h := E_nx rfl
theorem s233_26 (d : Nat) (h : AH) (x0 x1 x2 x3 : Option Value) (s0 : Int32) (s1 : Int32) (s2 : Value) (s3 : Value) : E d 233 26 [x0, x1, x2, x3] [.int s0, .int s1, s2, s3] h = E d 233 27 [x0, x1, x2, x3] [.int (s1 + s0), s2, s3] h := E_nx rfl
theorem s233_27 (d : Nat) (h : AH) (x0 x1 x2 x3 : Option Value) (s0 : Int32) (s1 : Nat) (s2 : Value) : E d 233 27 [x0, x1, x2, x3] [.int s0, .ref s1, s2] h = if inb s0 (alen h s1 0) = true ∨ inb s0 (alen h s1 8) = true then E d 233 28 [x0, x1, x2, x3] [.int (hI h s1 s0.toNatClampNeg), s2] h else none := E_gd rfl
theorem s233_28 (d : Nat) (h : AH) (x1 x2 x3 : Option Value) (s0 : Value) (s1 : Value) (v : Nat) : E d 233 28 [some (.ref v), x1, x2, x3] [s0, s1] h = E d 233 29 [some (.ref v), x1, x2, x3] [.ref v, s0, s1] h := E_nx rfl
theorem s233_29 (d : Nat) (h : AH) (x0 x1 x2 : Option Value) (s0 : Value) (s1 : Value) (s2 : Value) (v : Int32) : E d 233 29 [x0, x1, x2, some (.int v)] [s0, s1, s2] h = E d 233 30 [x0, x1, x2, some (.int v)] [.int v, s0, s1, s2] h := E_nx rfl
theorem s233_30 (d : Nat) (h : AH) (x0 x1 x2 x3 : Option Value) (s0 : Value) (s1 : Value) (s2 : Value) (s3 : Value) : E d 233 30 [x0, x1, x2, x3] [s0, s1, s2, s3] h = E d 233 31 [x0, x1, x2, x3] [.int 2, s0, s1, s2, s3] h := E_nx rfl
theorem s233_31 (d : Nat) (h : AH) (x0 x1 x2 x3 : Option Value) (s0 : Int32) (s1 : Int32) (s2 : Value) (s3 : Value) (s4 : Value) : E d 233 31 [x0, x1, x2, x3] [.int s0, .int s1, s2, s3, s4] h = E d 233 32 [x0, x1, x2, x3] [.int (s1 + s0), s2, s3, s4] h := E_nx rfl
theorem s233_32 (d : Nat) (h : AH) (x0 x1 x2 x3 : Option Value) (s0 : Int32) (s1 : Nat) (s2 : Value) (s3 : Value) : E d 233 32 [x0, x1, x2, x3] [.int s0, .ref s1, s2, s3] h = if inb s0 (alen h s1 0) = true ∨ inb s0 (alen h s1 8) = true then E d 233 33 [x0, x1, x2, x3] [.int (hI h s1 s0.toNatClampNeg), s2, s3] h else none := E_gd rfl
theorem s233_33 (d : Nat) (h : AH) (x1 x2 x3 : Option Value) (s0 : Value) (s1 : Value) (s2 : Value) (v : Nat) : E d 233 33 [some (.ref v), x1, x2, x3] [s0, s1, s2] h = E d 233 34 [some (.ref v), x1, x2, x3] [.ref v, s0, s1, s2] h := E_nx rfl
theorem s233_34 (d : Nat) (h : AH) (x0 x1 x2 : Option Value) (s0 : Value) (s1 : Value) (s2 : Value) (s3 : Value) (v : Int32) : E d 233 34 [x0, x1, x2, some (.int v)] [s0, s1, s2, s3] h = E d 233 35 [x0, x1, x2, some (.int v)] [.int v, s0, s1, s2, s3] h := E_nx rfl
theorem s233_35 (d : Nat) (h : AH) (x0 x1 x2 x3 : Option Value) (s0 : Value) (s1 : Value) (s2 : Value) (s3 : Value) (s4 : Value) : E d 233 35 [x0, x1, x2, x3] [s0, s1, s2, s3, s4] h = E d 233 36 [x0, x1, x2, x3] [.int 3, s0, s1, s2, s3, s4] h := E_nx rfl
theorem s233_36 (d : Nat) (h : AH) (x0 x1 x2 x3 : Option Value) (s0 : Int32) (s1 : Int32) (s2 : Value) (s3 : Value) (s4 : Value) (s5 : Value) : E d 233 36 [x0, x1, x2, x3] [.int s0, .int s1, s2, s3, s4, s5] h = E d 233 37 [x0, x1, x2, x3] [.int (s1 + s0), s2, s3, s4, s5] h := E_nx rfl
theorem s233_37 (d : Nat) (h : AH) (x0 x1 x2 x3 : Option Value) (s0 : Int32) (s1 : Nat) (s2 : Value) (s3 : Value) (s4 : Value) : E d 233 37 [x0, x1, x2, x3] [.int s0, .ref s1, s2, s3, s4] h = if inb s0 (alen h s1 0) = true ∨ inb s0 (alen h s1 8) = true then E d 233 38 [x0, x1, x2, x3] [.int (hI h s1 s0.toNatClampNeg), s2, s3, s4] h else none := E_gd rfl
theorem s233_38 (d : Nat) (h : AH) (x0 x1 x2 x3 : Option Value) (s0 : Int32) (s1 : Int32) (s2 : Int32) (s3 : Nat) : E (d + 1) 233 38 [x0, x1, x2, x3] [.int s0, .int s1, .int s2, .ref s3] h = if hS h s3 = some (104, 0) then (E d 81 0 [some (.ref s3), some (.int s2), some (.int s1), some (.int s0)] [] h).bind fun r => E (d + 1) 233 39 [x0, x1, x2, x3] (r.1.toList ++ []) r.2 else none := E_callg rfl
theorem s233_39 (d : Nat) (h : AH) (x0 x1 x3 : Option Value) (s0 : Value) (v : Nat) : E d 233 39 [x0, x1, some (.ref v), x3] [s0] h = E d 233 40 [x0, x1, some (.ref v), x3] [.ref v, s0] h := E_nx rfl
theorem s233_40 (d : Nat) (h : AH) (x1 x2 x3 : Option Value) (s0 : Value) (s1 : Value) (v : Nat) : E d 233 40 [some (.ref v), x1, x2, x3] [s0, s1] h = E d 233 41 [some (.ref v), x1, x2, x3] [.ref v, s0, s1] h := E_nx rfl
theorem s233_41 (d : Nat) (h : AH) (x0 x1 x2 : Option Value) (s0 : Value) (s1 : Value) (s2 : Value) (v : Int32) : E d 233 41 [x0, x1, x2, some (.int v)] [s0, s1, s2] h = E d 233 42 [x0, x1, x2, some (.int v)] [.int v, s0, s1, s2] h := E_nx rfl
theorem s233_42 (d : Nat) (h : AH) (x0 x1 x2 x3 : Option Value) (s0 : Value) (s1 : Value) (s2 : Value) (s3 : Value) : E d 233 42 [x0, x1, x2, x3] [s0, s1, s2, s3] h = E d 233 43 [x0, x1, x2, x3] [.int 1, s0, s1, s2, s3] h := E_nx rfl
theorem s233_43 (d : Nat) (h : AH) (x0 x1 x2 x3 : Option Value) (s0 : Int32) (s1 : Int32) (s2 : Value) (s3 : Value) (s4 : Value) : E d 233 43 [x0, x1, x2, x3] [.int s0, .int s1, s2, s3, s4] h = E d 233 44 [x0, x1, x2, x3] [.int (s1 + s0), s2, s3, s4] h := E_nx rfl
theorem s233_44 (d : Nat) (h : AH) (x0 x1 x2 x3 : Option Value) (s0 : Int32) (s1 : Nat) (s2 : Value) (s3 : Value) : E d 233 44 [x0, x1, x2, x3] [.int s0, .ref s1, s2, s3] h = if inb s0 (alen h s1 0) = true ∨ inb s0 (alen h s1 8) = true then E d 233 45 [x0, x1, x2, x3] [.int (hI h s1 s0.toNatClampNeg), s2, s3] h else none := E_gd rfl
theorem s233_45 (d : Nat) (h : AH) (x1 x2 x3 : Option Value) (s0 : Value) (s1 : Value) (s2 : Value) (v : Nat) : E d 233 45 [some (.ref v), x1, x2, x3] [s0, s1, s2] h = E d 233 46 [some (.ref v), x1, x2, x3] [.ref v, s0, s1, s2] h := E_nx rfl
theorem s233_46 (d : Nat) (h : AH) (x0 x1 x2 : Option Value) (s0 : Value) (s1 : Value) (s2 : Value) (s3 : Value) (v : Int32) : E d 233 46 [x0, x1, x2, some (.int v)] [s0, s1, s2, s3] h = E d 233 47 [x0, x1, x2, some (.int v)] [.int v, s0, s1, s2, s3] h := E_nx rfl
theorem s233_47 (d : Nat) (h : AH) (x0 x1 x2 x3 : Option Value) (s0 : Value) (s1 : Value) (s2 : Value) (s3 : Value) (s4 : Value) : E d 233 47 [x0, x1, x2, x3] [s0, s1, s2, s3, s4] h = E d 233 48 [x0, x1, x2, x3] [.int 2, s0, s1, s2, s3, s4] h := E_nx rfl
theorem s233_48 (d : Nat) (h : AH) (x0 x1 x2 x3 : Option Value) (s0 : Int32) (s1 : Int32) (s2 : Value) (s3 : Value) (s4 : Value) (s5 : Value) : E d 233 48 [x0, x1, x2, x3] [.int s0, .int s1, s2, s3, s4, s5] h = E d 233 49 [x0, x1, x2, x3] [.int (s1 + s0), s2, s3, s4, s5] h := E_nx rfl
theorem s233_49 (d : Nat) (h : AH) (x0 x1 x2 x3 : Option Value) (s0 : Int32) (s1 : Nat) (s2 : Value) (s3 : Value) (s4 : Value) : E d 233 49 [x0, x1, x2, x3] [.int s0, .ref s1, s2, s3, s4] h = if inb s0 (alen h s1 0) = true ∨ inb s0 (alen h s1 8) = true then E d 233 50 [x0, x1, x2, x3] [.int (hI h s1 s0.toNatClampNeg), s2, s3, s4] h else none := E_gd rfl
theorem s233_50 (d : Nat) (h : AH) (x1 x2 x3 : Option Value) (s0 : Value) (s1 : Value) (s2 : Value) (s3 : Value) (v : Nat) : E d 233 50 [some (.ref v), x1, x2, x3] [s0, s1, s2, s3] h = E d 233 51 [some (.ref v), x1, x2, x3] [.ref v, s0, s1, s2, s3] h := E_nx rfl
theorem s233_51 (d : Nat) (h : AH) (x0 x1 x2 : Option Value) (s0 : Value) (s1 : Value) (s2 : Value) (s3 : Value) (s4 : Value) (v : Int32) : E d 233 51 [x0, x1, x2, some (.int v)] [s0, s1, s2, s3, s4] h = E d 233 52 [x0, x1, x2, some (.int v)] [.int v, s0, s1, s2, s3, s4] h := E_nx rfl
theorem s233_52 (d : Nat) (h : AH) (x0 x1 x2 x3 : Option Value) (s0 : Value) (s1 : Value) (s2 : Value) (s3 : Value) (s4 : Value) (s5 : Value) : E d 233 52 [x0, x1, x2, x3] [s0, s1, s2, s3, s4, s5] h = E d 233 53 [x0, x1, x2, x3] [.int 3, s0, s1, s2, s3, s4, s5] h := E_nx rfl
theorem s233_53 (d : Nat) (h : AH) (x0 x1 x2 x3 : Option Value) (s0 : Int32) (s1 : Int32) (s2 : Value) (s3 : Value) (s4 : Value) (s5 : Value) (s6 : Value) : E d 233 53 [x0, x1, x2, x3] [.int s0, .int s1, s2, s3, s4, s5, s6] h = E d 233 54 [x0, x1, x2, x3] [.int (s1 + s0), s2, s3, s4, s5, s6] h := E_nx rfl
theorem s233_54 (d : Nat) (h : AH) (x0 x1 x2 x3 : Option Value) (s0 : Int32) (s1 : Nat) (s2 : Value) (s3 : Value) (s4 : Value) (s5 : Value) : E d 233 54 [x0, x1, x2, x3] [.int s0, .ref s1, s2, s3, s4, s5] h = if inb s0 (alen h s1 0) = true ∨ inb s0 (alen h s1 8) = true then E d 233 55 [x0, x1, x2, x3] [.int (hI h s1 s0.toNatClampNeg), s2, s3, s4, s5] h else none := E_gd rfl
theorem s233_55 (d : Nat) (h : AH) (x0 x1 x2 x3 : Option Value) (s0 : Int32) (s1 : Int32) (s2 : Int32) (s3 : Nat) (s4 : Value) : E (d + 1) 233 55 [x0, x1, x2, x3] [.int s0, .int s1, .int s2, .ref s3, s4] h = if hS h s3 = some (105, 0) then (E d 142 0 [some (.ref s3), some (.int s2), some (.int s1), some (.int s0), none] [] h).bind fun r => E (d + 1) 233 56 [x0, x1, x2, x3] (r.1.toList ++ [s4]) r.2 else none := E_callg rfl
theorem s233_56 (d : Nat) (h : AH) (x0 x1 x2 x3 : Option Value) (s0 : Int32) (s1 : Int32) : E d 233 56 [x0, x1, x2, x3] [.int s0, .int s1] h = if s1 = s0 then E d 233 1068 [x0, x1, x2, x3] [] h else E d 233 57 [x0, x1, x2, x3] [] h := E_ifc rfl
theorem s233_57 (d : Nat) (h : AH) (x0 x1 x2 x3 : Option Value)  : E d 233 57 [x0, x1, x2, x3] [] h = E d 233 58 [x0, x1, x2, x3] [.int 0] h := E_nx rfl
theorem s233_58 (d : Nat) (h : AH) (x0 x1 x2 x3 : Option Value) (s0 : Int32) : E d 233 58 [x0, x1, x2, x3] [.int s0] h = if s0 = 0 ∨ s0 = 1 then some (some (.int s0), h) else none := E_retg rfl
theorem s233_59 (d : Nat) (h : AH) (x0 x2 x3 : Option Value) (v : Nat) : E d 233 59 [x0, some (.ref v), x2, x3] [] h = E d 233 60 [x0, some (.ref v), x2, x3] [.ref v] h := E_nx rfl
theorem s233_60 (d : Nat) (h : AH) (x1 x2 x3 : Option Value) (s0 : Value) (v : Nat) : E d 233 60 [some (.ref v), x1, x2, x3] [s0] h = E d 233 61 [some (.ref v), x1, x2, x3] [.ref v, s0] h := E_nx rfl
theorem s233_61 (d : Nat) (h : AH) (x0 x1 x2 : Option Value) (s0 : Value) (s1 : Value) (v : Int32) : E d 233 61 [x0, x1, x2, some (.int v)] [s0, s1] h = E d 233 62 [x0, x1, x2, some (.int v)] [.int v, s0, s1] h := E_nx rfl
theorem s233_62 (d : Nat) (h : AH) (x0 x1 x2 x3 : Option Value) (s0 : Value) (s1 : Value) (s2 : Value) : E d 233 62 [x0, x1, x2, x3] [s0, s1, s2] h = E d 233 63 [x0, x1, x2, x3] [.int 1, s0, s1, s2] h := E_nx rfl
theorem s233_63 (d : Nat) (h : AH) (x0 x1 x2 x3 : Option Value) (s0 : Int32) (s1 : Int32) (s2 : Value) (s3 : Value) : E d 233 63 [x0, x1, x2, x3] [.int s0, .int s1, s2, s3] h = E d 233 64 [x0, x1, x2, x3] [.int (s1 + s0), s2, s3] h := E_nx rfl
theorem s233_64 (d : Nat) (h : AH) (x0 x1 x2 x3 : Option Value) (s0 : Int32) (s1 : Nat) (s2 : Value) : E d 233 64 [x0, x1, x2, x3] [.int s0, .ref s1, s2] h = if inb s0 (alen h s1 0) = true ∨ inb s0 (alen h s1 8) = true then E d 233 65 [x0, x1, x2, x3] [.int (hI h s1 s0.toNatClampNeg), s2] h else none := E_gd rfl
theorem s233_65 (d : Nat) (h : AH) (x1 x2 x3 : Option Value) (s0 : Value) (s1 : Value) (v : Nat) : E d 233 65 [some (.ref v), x1, x2, x3] [s0, s1] h = E d 233 66 [some (.ref v), x1, x2, x3] [.ref v, s0, s1] h := E_nx rfl
theorem s233_66 (d : Nat) (h : AH) (x0 x1 x2 : Option Value) (s0 : Value) (s1 : Value) (s2 : Value) (v : Int32) : E d 233 66 [x0, x1, x2, some (.int v)] [s0, s1, s2] h = E d 233 67 [x0, x1, x2, some (.int v)] [.int v, s0, s1, s2] h := E_nx rfl
theorem s233_67 (d : Nat) (h : AH) (x0 x1 x2 x3 : Option Value) (s0 : Value) (s1 : Value) (s2 : Value) (s3 : Value) : E d 233 67 [x0, x1, x2, x3] [s0, s1, s2, s3] h = E d 233 68 [x0, x1, x2, x3] [.int 2, s0, s1, s2, s3] h := E_nx rfl
theorem s233_68 (d : Nat) (h : AH) (x0 x1 x2 x3 : Option Value) (s0 : Int32) (s1 : Int32) (s2 : Value) (s3 : Value) (s4 : Value) : E d 233 68 [x0, x1, x2, x3] [.int s0, .int s1, s2, s3, s4] h = E d 233 69 [x0, x1, x2, x3] [.int (s1 + s0), s2, s3, s4] h := E_nx rfl
theorem s233_69 (d : Nat) (h : AH) (x0 x1 x2 x3 : Option Value) (s0 : Int32) (s1 : Nat) (s2 : Value) (s3 : Value) : E d 233 69 [x0, x1, x2, x3] [.int s0, .ref s1, s2, s3] h = if inb s0 (alen h s1 0) = true ∨ inb s0 (alen h s1 8) = true then E d 233 70 [x0, x1, x2, x3] [.int (hI h s1 s0.toNatClampNeg), s2, s3] h else none := E_gd rfl
theorem s233_70 (d : Nat) (h : AH) (x1 x2 x3 : Option Value) (s0 : Value) (s1 : Value) (s2 : Value) (v : Nat) : E d 233 70 [some (.ref v), x1, x2, x3] [s0, s1, s2] h = E d 233 71 [some (.ref v), x1, x2, x3] [.ref v, s0, s1, s2] h := E_nx rfl
theorem s233_71 (d : Nat) (h : AH) (x0 x1 x2 : Option Value) (s0 : Value) (s1 : Value) (s2 : Value) (s3 : Value) (v : Int32) : E d 233 71 [x0, x1, x2, some (.int v)] [s0, s1, s2, s3] h = E d 233 72 [x0, x1, x2, some (.int v)] [.int v, s0, s1, s2, s3] h := E_nx rfl
theorem s233_72 (d : Nat) (h : AH) (x0 x1 x2 x3 : Option Value) (s0 : Value) (s1 : Value) (s2 : Value) (s3 : Value) (s4 : Value) : E d 233 72 [x0, x1, x2, x3] [s0, s1, s2, s3, s4] h = E d 233 73 [x0, x1, x2, x3] [.int 3, s0, s1, s2, s3, s4] h := E_nx rfl
theorem s233_73 (d : Nat) (h : AH) (x0 x1 x2 x3 : Option Value) (s0 : Int32) (s1 : Int32) (s2 : Value) (s3 : Value) (s4 : Value) (s5 : Value) : E d 233 73 [x0, x1, x2, x3] [.int s0, .int s1, s2, s3, s4, s5] h = E d 233 74 [x0, x1, x2, x3] [.int (s1 + s0), s2, s3, s4, s5] h := E_nx rfl
theorem s233_74 (d : Nat) (h : AH) (x0 x1 x2 x3 : Option Value) (s0 : Int32) (s1 : Nat) (s2 : Value) (s3 : Value) (s4 : Value) : E d 233 74 [x0, x1, x2, x3] [.int s0, .ref s1, s2, s3, s4] h = if inb s0 (alen h s1 0) = true ∨ inb s0 (alen h s1 8) = true then E d 233 75 [x0, x1, x2, x3] [.int (hI h s1 s0.toNatClampNeg), s2, s3, s4] h else none := E_gd rfl
theorem s233_75 (d : Nat) (h : AH) (x0 x1 x2 x3 : Option Value) (s0 : Int32) (s1 : Value) (s2 : Value) (s3 : Value) : E d 233 75 [x0, x1, x2, x3] [.int s0, s1, s2, s3] h = E d 233 76 [x0, x1, x2, x3] [.long s0.toInt64, s1, s2, s3] h := E_nx rfl
theorem s233_76 (d : Nat) (h : AH) (x0 x1 x2 x3 : Option Value) (s0 : Value) (s1 : Value) (s2 : Value) (s3 : Value) : E d 233 76 [x0, x1, x2, x3] [s0, s1, s2, s3] h = E d 233 77 [x0, x1, x2, x3] [.int 32, s0, s1, s2, s3] h := E_nx rfl
theorem s233_77 (d : Nat) (h : AH) (x0 x1 x2 x3 : Option Value) (s0 : Int32) (s1 : Int64) (s2 : Value) (s3 : Value) (s4 : Value) : E d 233 77 [x0, x1, x2, x3] [.int s0, .long s1, s2, s3, s4] h = E d 233 78 [x0, x1, x2, x3] [.long (s1 <<< (s0.toInt64 &&& 63)), s2, s3, s4] h := E_nx rfl
theorem s233_78 (d : Nat) (h : AH) (x1 x2 x3 : Option Value) (s0 : Value) (s1 : Value) (s2 : Value) (s3 : Value) (v : Nat) : E d 233 78 [some (.ref v), x1, x2, x3] [s0, s1, s2, s3] h = E d 233 79 [some (.ref v), x1, x2, x3] [.ref v, s0, s1, s2, s3] h := E_nx rfl
theorem s233_79 (d : Nat) (h : AH) (x0 x1 x2 : Option Value) (s0 : Value) (s1 : Value) (s2 : Value) (s3 : Value) (s4 : Value) (v : Int32) : E d 233 79 [x0, x1, x2, some (.int v)] [s0, s1, s2, s3, s4] h = E d 233 80 [x0, x1, x2, some (.int v)] [.int v, s0, s1, s2, s3, s4] h := E_nx rfl
theorem s233_80 (d : Nat) (h : AH) (x0 x1 x2 x3 : Option Value) (s0 : Value) (s1 : Value) (s2 : Value) (s3 : Value) (s4 : Value) (s5 : Value) : E d 233 80 [x0, x1, x2, x3] [s0, s1, s2, s3, s4, s5] h = E d 233 81 [x0, x1, x2, x3] [.int 4, s0, s1, s2, s3, s4, s5] h := E_nx rfl
theorem s233_81 (d : Nat) (h : AH) (x0 x1 x2 x3 : Option Value) (s0 : Int32) (s1 : Int32) (s2 : Value) (s3 : Value) (s4 : Value) (s5 : Value) (s6 : Value) : E d 233 81 [x0, x1, x2, x3] [.int s0, .int s1, s2, s3, s4, s5, s6] h = E d 233 82 [x0, x1, x2, x3] [.int (s1 + s0), s2, s3, s4, s5, s6] h := E_nx rfl
theorem s233_82 (d : Nat) (h : AH) (x0 x1 x2 x3 : Option Value) (s0 : Int32) (s1 : Nat) (s2 : Value) (s3 : Value) (s4 : Value) (s5 : Value) : E d 233 82 [x0, x1, x2, x3] [.int s0, .ref s1, s2, s3, s4, s5] h = if inb s0 (alen h s1 0) = true ∨ inb s0 (alen h s1 8) = true then E d 233 83 [x0, x1, x2, x3] [.int (hI h s1 s0.toNatClampNeg), s2, s3, s4, s5] h else none := E_gd rfl
theorem s233_83 (d : Nat) (h : AH) (x0 x1 x2 x3 : Option Value) (s0 : Int32) (s1 : Value) (s2 : Value) (s3 : Value) (s4 : Value) : E d 233 83 [x0, x1, x2, x3] [.int s0, s1, s2, s3, s4] h = E d 233 84 [x0, x1, x2, x3] [.long s0.toInt64, s1, s2, s3, s4] h := E_nx rfl
theorem s233_84 (d : Nat) (h : AH) (x0 x1 x2 x3 : Option Value) (s0 : Value) (s1 : Value) (s2 : Value) (s3 : Value) (s4 : Value) : E d 233 84 [x0, x1, x2, x3] [s0, s1, s2, s3, s4] h = E d 233 85 [x0, x1, x2, x3] [.long 4294967295, s0, s1, s2, s3, s4] h := E_nx rfl
theorem s233_85 (d : Nat) (h : AH) (x0 x1 x2 x3 : Option Value) (s0 : Int64) (s1 : Int64) (s2 : Value) (s3 : Value) (s4 : Value) (s5 : Value) : E d 233 85 [x0, x1, x2, x3] [.long s0, .long s1, s2, s3, s4, s5] h = E d 233 86 [x0, x1, x2, x3] [.long (s1 &&& s0), s2, s3, s4, s5] h := E_nx rfl
theorem s233_86 (d : Nat) (h : AH) (x0 x1 x2 x3 : Option Value) (s0 : Int64) (s1 : Int64) (s2 : Value) (s3 : Value) (s4 : Value) : E d 233 86 [x0, x1, x2, x3] [.long s0, .long s1, s2, s3, s4] h = E d 233 87 [x0, x1, x2, x3] [.long (s1 ||| s0), s2, s3, s4] h := E_nx rfl
theorem s233_87 (d : Nat) (h : AH) (x0 x1 x2 x3 : Option Value) (s0 : Int64) (s1 : Int32) (s2 : Int32) (s3 : Nat) : E (d + 1) 233 87 [x0, x1, x2, x3] [.long s0, .int s1, .int s2, .ref s3] h = if hS h s3 = some (104, 0) then (E d 82 0 [some (.ref s3), some (.int s2), some (.int s1), some (.long s0), none, none] [] h).bind fun r => E (d + 1) 233 88 [x0, x1, x2, x3] (r.1.toList ++ []) r.2 else none := E_callg rfl
theorem s233_88 (d : Nat) (h : AH) (x0 x1 x3 : Option Value) (s0 : Value) (v : Nat) : E d 233 88 [x0, x1, some (.ref v), x3] [s0] h = E d 233 89 [x0, x1, some (.ref v), x3] [.ref v, s0] h := E_nx rfl
theorem s233_89 (d : Nat) (h : AH) (x1 x2 x3 : Option Value) (s0 : Value) (s1 : Value) (v : Nat) : E d 233 89 [some (.ref v), x1, x2, x3] [s0, s1] h = E d 233 90 [some (.ref v), x1, x2, x3] [.ref v, s0, s1] h := E_nx rfl
theorem s233_90 (d : Nat) (h : AH) (x0 x1 x2 : Option Value) (s0 : Value) (s1 : Value) (s2 : Value) (v : Int32) : E d 233 90 [x0, x1, x2, some (.int v)] [s0, s1, s2] h = E d 233 91 [x0, x1, x2, some (.int v)] [.int v, s0, s1, s2] h := E_nx rfl
theorem s233_91 (d : Nat) (h : AH) (x0 x1 x2 x3 : Option Value) (s0 : Value) (s1 : Value) (s2 : Value) (s3 : Value) : E d 233 91 [x0, x1, x2, x3] [s0, s1, s2, s3] h = E d 233 92 [x0, x1, x2, x3] [.int 1, s0, s1, s2, s3] h := E_nx rfl
theorem s233_92 (d : Nat) (h : AH) (x0 x1 x2 x3 : Option Value) (s0 : Int32) (s1 : Int32) (s2 : Value) (s3 : Value) (s4 : Value) : E d 233 92 [x0, x1, x2, x3] [.int s0, .int s1, s2, s3, s4] h = E d 233 93 [x0, x1, x2, x3] [.int (s1 + s0), s2, s3, s4] h := E_nx rfl
theorem s233_93 (d : Nat) (h : AH) (x0 x1 x2 x3 : Option Value) (s0 : Int32) (s1 : Nat) (s2 : Value) (s3 : Value) : E d 233 93 [x0, x1, x2, x3] [.int s0, .ref s1, s2, s3] h = if inb s0 (alen h s1 0) = true ∨ inb s0 (alen h s1 8) = true then E d 233 94 [x0, x1, x2, x3] [.int (hI h s1 s0.toNatClampNeg), s2, s3] h else none := E_gd rfl
theorem s233_94 (d : Nat) (h : AH) (x1 x2 x3 : Option Value) (s0 : Value) (s1 : Value) (s2 : Value) (v : Nat) : E d 233 94 [some (.ref v), x1, x2, x3] [s0, s1, s2] h = E d 233 95 [some (.ref v), x1, x2, x3] [.ref v, s0, s1, s2] h := E_nx rfl
theorem s233_95 (d : Nat) (h : AH) (x0 x1 x2 : Option Value) (s0 : Value) (s1 : Value) (s2 : Value) (s3 : Value) (v : Int32) : E d 233 95 [x0, x1, x2, some (.int v)] [s0, s1, s2, s3] h = E d 233 96 [x0, x1, x2, some (.int v)] [.int v, s0, s1, s2, s3] h := E_nx rfl
theorem s233_96 (d : Nat) (h : AH) (x0 x1 x2 x3 : Option Value) (s0 : Value) (s1 : Value) (s2 : Value) (s3 : Value) (s4 : Value) : E d 233 96 [x0, x1, x2, x3] [s0, s1, s2, s3, s4] h = E d 233 97 [x0, x1, x2, x3] [.int 2, s0, s1, s2, s3, s4] h := E_nx rfl
theorem s233_97 (d : Nat) (h : AH) (x0 x1 x2 x3 : Option Value) (s0 : Int32) (s1 : Int32) (s2 : Value) (s3 : Value) (s4 : Value) (s5 : Value) : E d 233 97 [x0, x1, x2, x3] [.int s0, .int s1, s2, s3, s4, s5] h = E d 233 98 [x0, x1, x2, x3] [.int (s1 + s0), s2, s3, s4, s5] h := E_nx rfl
theorem s233_98 (d : Nat) (h : AH) (x0 x1 x2 x3 : Option Value) (s0 : Int32) (s1 : Nat) (s2 : Value) (s3 : Value) (s4 : Value) : E d 233 98 [x0, x1, x2, x3] [.int s0, .ref s1, s2, s3, s4] h = if inb s0 (alen h s1 0) = true ∨ inb s0 (alen h s1 8) = true then E d 233 99 [x0, x1, x2, x3] [.int (hI h s1 s0.toNatClampNeg), s2, s3, s4] h else none := E_gd rfl
theorem s233_99 (d : Nat) (h : AH) (x1 x2 x3 : Option Value) (s0 : Value) (s1 : Value) (s2 : Value) (s3 : Value) (v : Nat) : E d 233 99 [some (.ref v), x1, x2, x3] [s0, s1, s2, s3] h = E d 233 100 [some (.ref v), x1, x2, x3] [.ref v, s0, s1, s2, s3] h := E_nx rfl
theorem s233_100 (d : Nat) (h : AH) (x0 x1 x2 : Option Value) (s0 : Value) (s1 : Value) (s2 : Value) (s3 : Value) (s4 : Value) (v : Int32) : E d 233 100 [x0, x1, x2, some (.int v)] [s0, s1, s2, s3, s4] h = E d 233 101 [x0, x1, x2, some (.int v)] [.int v, s0, s1, s2, s3, s4] h := E_nx rfl
theorem s233_101 (d : Nat) (h : AH) (x0 x1 x2 x3 : Option Value) (s0 : Value) (s1 : Value) (s2 : Value) (s3 : Value) (s4 : Value) (s5 : Value) : E d 233 101 [x0, x1, x2, x3] [s0, s1, s2, s3, s4, s5] h = E d 233 102 [x0, x1, x2, x3] [.int 3, s0, s1, s2, s3, s4, s5] h := E_nx rfl
theorem s233_102 (d : Nat) (h : AH) (x0 x1 x2 x3 : Option Value) (s0 : Int32) (s1 : Int32) (s2 : Value) (s3 : Value) (s4 : Value) (s5 : Value) (s6 : Value) : E d 233 102 [x0, x1, x2, x3] [.int s0, .int s1, s2, s3, s4, s5, s6] h = E d 233 103 [x0, x1, x2, x3] [.int (s1 + s0), s2, s3, s4, s5, s6] h := E_nx rfl
theorem s233_103 (d : Nat) (h : AH) (x0 x1 x2 x3 : Option Value) (s0 : Int32) (s1 : Nat) (s2 : Value) (s3 : Value) (s4 : Value) (s5 : Value) : E d 233 103 [x0, x1, x2, x3] [.int s0, .ref s1, s2, s3, s4, s5] h = if inb s0 (alen h s1 0) = true ∨ inb s0 (alen h s1 8) = true then E d 233 104 [x0, x1, x2, x3] [.int (hI h s1 s0.toNatClampNeg), s2, s3, s4, s5] h else none := E_gd rfl
theorem s233_104 (d : Nat) (h : AH) (x0 x1 x2 x3 : Option Value) (s0 : Int32) (s1 : Value) (s2 : Value) (s3 : Value) (s4 : Value) : E d 233 104 [x0, x1, x2, x3] [.int s0, s1, s2, s3, s4] h = E d 233 105 [x0, x1, x2, x3] [.long s0.toInt64, s1, s2, s3, s4] h := E_nx rfl
theorem s233_105 (d : Nat) (h : AH) (x0 x1 x2 x3 : Option Value) (s0 : Value) (s1 : Value) (s2 : Value) (s3 : Value) (s4 : Value) : E d 233 105 [x0, x1, x2, x3] [s0, s1, s2, s3, s4] h = E d 233 106 [x0, x1, x2, x3] [.int 32, s0, s1, s2, s3, s4] h := E_nx rfl
theorem s233_106 (d : Nat) (h : AH) (x0 x1 x2 x3 : Option Value) (s0 : Int32) (s1 : Int64) (s2 : Value) (s3 : Value) (s4 : Value) (s5 : Value) : E d 233 106 [x0, x1, x2, x3] [.int s0, .long s1, s2, s3, s4, s5] h = E d 233 107 [x0, x1, x2, x3] [.long (s1 <<< (s0.toInt64 &&& 63)), s2, s3, s4, s5] h := E_nx rfl
theorem s233_107 (d : Nat) (h : AH) (x1 x2 x3 : Option Value) (s0 : Value) (s1 : Value) (s2 : Value) (s3 : Value) (s4 : Value) (v : Nat) : E d 233 107 [some (.ref v), x1, x2, x3] [s0, s1, s2, s3, s4] h = E d 233 108 [some (.ref v), x1, x2, x3] [.ref v, s0, s1, s2, s3, s4] h := E_nx rfl
theorem s233_108 (d : Nat) (h : AH) (x0 x1 x2 : Option Value) (s0 : Value) (s1 : Value) (s2 : Value) (s3 : Value) (s4 : Value) (s5 : Value) (v : Int32) : E d 233 108 [x0, x1, x2, some (.int v)] [s0, s1, s2, s3, s4, s5] h = E d 233 109 [x0, x1, x2, some (.int v)] [.int v, s0, s1, s2, s3, s4, s5] h := E_nx rfl
theorem s233_109 (d : Nat) (h : AH) (x0 x1 x2 x3 : Option Value) (s0 : Value) (s1 : Value) (s2 : Value) (s3 : Value) (s4 : Value) (s5 : Value) (s6 : Value) : E d 233 109 [x0, x1, x2, x3] [s0, s1, s2, s3, s4, s5, s6] h = E d 233 110 [x0, x1, x2, x3] [.int 4, s0, s1, s2, s3, s4, s5, s6] h := E_nx rfl
theorem s233_110 (d : Nat) (h : AH) (x0 x1 x2 x3 : Option Value) (s0 : Int32) (s1 : Int32) (s2 : Value) (s3 : Value) (s4 : Value) (s5 : Value) (s6 : Value) (s7 : Value) : E d 233 110 [x0, x1, x2, x3] [.int s0, .int s1, s2, s3, s4, s5, s6, s7] h = E d 233 111 [x0, x1, x2, x3] [.int (s1 + s0), s2, s3, s4, s5, s6, s7] h := E_nx rfl
theorem s233_111 (d : Nat) (h : AH) (x0 x1 x2 x3 : Option Value) (s0 : Int32) (s1 : Nat) (s2 : Value) (s3 : Value) (s4 : Value) (s5 : Value) (s6 : Value) : E d 233 111 [x0, x1, x2, x3] [.int s0, .ref s1, s2, s3, s4, s5, s6] h = if inb s0 (alen h s1 0) = true ∨ inb s0 (alen h s1 8) = true then E d 233 112 [x0, x1, x2, x3] [.int (hI h s1 s0.toNatClampNeg), s2, s3, s4, s5, s6] h else none := E_gd rfl
theorem s233_112 (d : Nat) (h : AH) (x0 x1 x2 x3 : Option Value) (s0 : Int32) (s1 : Value) (s2 : Value) (s3 : Value) (s4 : Value) (s5 : Value) : E d 233 112 [x0, x1, x2, x3] [.int s0, s1, s2, s3, s4, s5] h = E d 233 113 [x0, x1, x2, x3] [.long s0.toInt64, s1, s2, s3, s4, s5] h := E_nx rfl
theorem s233_113 (d : Nat) (h : AH) (x0 x1 x2 x3 : Option Value) (s0 : Value) (s1 : Value) (s2 : Value) (s3 : Value) (s4 : Value) (s5 : Value) : E d 233 113 [x0, x1, x2, x3] [s0, s1, s2, s3, s4, s5] h = E d 233 114 [x0, x1, x2, x3] [.long 4294967295, s0, s1, s2, s3, s4, s5] h := E_nx rfl
theorem s233_114 (d : Nat) (h : AH) (x0 x1 x2 x3 : Option Value) (s0 : Int64) (s1 : Int64) (s2 : Value) (s3 : Value) (s4 : Value) (s5 : Value) (s6 : Value) : E d 233 114 [x0, x1, x2, x3] [.long s0, .long s1, s2, s3, s4, s5, s6] h = E d 233 115 [x0, x1, x2, x3] [.long (s1 &&& s0), s2, s3, s4, s5, s6] h := E_nx rfl
theorem s233_115 (d : Nat) (h : AH) (x0 x1 x2 x3 : Option Value) (s0 : Int64) (s1 : Int64) (s2 : Value) (s3 : Value) (s4 : Value) (s5 : Value) : E d 233 115 [x0, x1, x2, x3] [.long s0, .long s1, s2, s3, s4, s5] h = E d 233 116 [x0, x1, x2, x3] [.long (s1 ||| s0), s2, s3, s4, s5] h := E_nx rfl
theorem s233_116 (d : Nat) (h : AH) (x0 x1 x2 x3 : Option Value) (s0 : Int64) (s1 : Int32) (s2 : Int32) (s3 : Nat) (s4 : Value) : E (d + 1) 233 116 [x0, x1, x2, x3] [.long s0, .int s1, .int s2, .ref s3, s4] h = if hS h s3 = some (105, 0) then (E d 145 0 [some (.ref s3), some (.int s2), some (.int s1), some (.long s0), none, none] [] h).bind fun r => E (d + 1) 233 117 [x0, x1, x2, x3] (r.1.toList ++ [s4]) r.2 else none := E_callg rfl
theorem s233_117 (d : Nat) (h : AH) (x0 x1 x2 x3 : Option Value) (s0 : Int32) (s1 : Int32) : E d 233 117 [x0, x1, x2, x3] [.int s0, .int s1] h = if s1 = s0 then E d 233 1068 [x0, x1, x2, x3] [] h else E d 233 118 [x0, x1, x2, x3] [] h := E_ifc rfl
theorem s233_118 (d : Nat) (h : AH) (x0 x1 x2 x3 : Option Value)  : E d 233 118 [x0, x1, x2, x3] [] h = E d 233 119 [x0, x1, x2, x3] [.int 0] h := E_nx rfl
theorem s233_119 (d : Nat) (h : AH) (x0 x1 x2 x3 : Option Value) (s0 : Int32) : E d 233 119 [x0, x1, x2, x3] [.int s0] h = if s0 = 0 ∨ s0 = 1 then some (some (.int s0), h) else none := E_retg rfl
theorem s233_120 (d : Nat) (h : AH) (x0 x2 x3 : Option Value) (v : Nat) : E d 233 120 [x0, some (.ref v), x2, x3] [] h = E d 233 121 [x0, some (.ref v), x2, x3] [.ref v] h := E_nx rfl
theorem s233_121 (d : Nat) (h : AH) (x1 x2 x3 : Option Value) (s0 : Value) (v : Nat) : E d 233 121 [some (.ref v), x1, x2, x3] [s0] h = E d 233 122 [some (.ref v), x1, x2, x3] [.ref v, s0] h := E_nx rfl
theorem s233_122 (d : Nat) (h : AH) (x0 x1 x2 : Option Value) (s0 : Value) (s1 : Value) (v : Int32) : E d 233 122 [x0, x1, x2, some (.int v)] [s0, s1] h = E d 233 123 [x0, x1, x2, some (.int v)] [.int v, s0, s1] h := E_nx rfl
theorem s233_123 (d : Nat) (h : AH) (x0 x1 x2 x3 : Option Value) (s0 : Value) (s1 : Value) (s2 : Value) : E d 233 123 [x0, x1, x2, x3] [s0, s1, s2] h = E d 233 124 [x0, x1, x2, x3] [.int 1, s0, s1, s2] h := E_nx rfl
theorem s233_124 (d : Nat) (h : AH) (x0 x1 x2 x3 : Option Value) (s0 : Int32) (s1 : Int32) (s2 : Value) (s3 : Value) : E d 233 124 [x0, x1, x2, x3] [.int s0, .int s1, s2, s3] h = E d 233 125 [x0, x1, x2, x3] [.int (s1 + s0), s2, s3] h := E_nx rfl
theorem s233_125 (d : Nat) (h : AH) (x0 x1 x2 x3 : Option Value) (s0 : Int32) (s1 : Nat) (s2 : Value) : E d 233 125 [x0, x1, x2, x3] [.int s0, .ref s1, s2] h = if inb s0 (alen h s1 0) = true ∨ inb s0 (alen h s1 8) = true then E d 233 126 [x0, x1, x2, x3] [.int (hI h s1 s0.toNatClampNeg), s2] h else none := E_gd rfl
theorem s233_126 (d : Nat) (h : AH) (x1 x2 x3 : Option Value) (s0 : Value) (s1 : Value) (v : Nat) : E d 233 126 [some (.ref v), x1, x2, x3] [s0, s1] h = E d 233 127 [some (.ref v), x1, x2, x3] [.ref v, s0, s1] h := E_nx rfl
theorem s233_127 (d : Nat) (h : AH) (x0 x1 x2 : Option Value) (s0 : Value) (s1 : Value) (s2 : Value) (v : Int32) : E d 233 127 [x0, x1, x2, some (.int v)] [s0, s1, s2] h = E d 233 128 [x0, x1, x2, some (.int v)] [.int v, s0, s1, s2] h := E_nx rfl
theorem s233_128 (d : Nat) (h : AH) (x0 x1 x2 x3 : Option Value) (s0 : Value) (s1 : Value) (s2 : Value) (s3 : Value) : E d 233 128 [x0, x1, x2, x3] [s0, s1, s2, s3] h = E d 233 129 [x0, x1, x2, x3] [.int 2, s0, s1, s2, s3] h := E_nx rfl
theorem s233_129 (d : Nat) (h : AH) (x0 x1 x2 x3 : Option Value) (s0 : Int32) (s1 : Int32) (s2 : Value) (s3 : Value) (s4 : Value) : E d 233 129 [x0, x1, x2, x3] [.int s0, .int s1, s2, s3, s4] h = E d 233 130 [x0, x1, x2, x3] [.int (s1 + s0), s2, s3, s4] h := E_nx rfl
theorem s233_130 (d : Nat) (h : AH) (x0 x1 x2 x3 : Option Value) (s0 : Int32) (s1 : Nat) (s2 : Value) (s3 : Value) : E d 233 130 [x0, x1, x2, x3] [.int s0, .ref s1, s2, s3] h = if inb s0 (alen h s1 0) = true ∨ inb s0 (alen h s1 8) = true then E d 233 131 [x0, x1, x2, x3] [.int (hI h s1 s0.toNatClampNeg), s2, s3] h else none := E_gd rfl
theorem s233_131 (d : Nat) (h : AH) (x1 x2 x3 : Option Value) (s0 : Value) (s1 : Value) (s2 : Value) (v : Nat) : E d 233 131 [some (.ref v), x1, x2, x3] [s0, s1, s2] h = E d 233 132 [some (.ref v), x1, x2, x3] [.ref v, s0, s1, s2] h := E_nx rfl
theorem s233_132 (d : Nat) (h : AH) (x0 x1 x2 : Option Value) (s0 : Value) (s1 : Value) (s2 : Value) (s3 : Value) (v : Int32) : E d 233 132 [x0, x1, x2, some (.int v)] [s0, s1, s2, s3] h = E d 233 133 [x0, x1, x2, some (.int v)] [.int v, s0, s1, s2, s3] h := E_nx rfl
theorem s233_133 (d : Nat) (h : AH) (x0 x1 x2 x3 : Option Value) (s0 : Value) (s1 : Value) (s2 : Value) (s3 : Value) (s4 : Value) : E d 233 133 [x0, x1, x2, x3] [s0, s1, s2, s3, s4] h = E d 233 134 [x0, x1, x2, x3] [.int 3, s0, s1, s2, s3, s4] h := E_nx rfl
theorem s233_134 (d : Nat) (h : AH) (x0 x1 x2 x3 : Option Value) (s0 : Int32) (s1 : Int32) (s2 : Value) (s3 : Value) (s4 : Value) (s5 : Value) : E d 233 134 [x0, x1, x2, x3] [.int s0, .int s1, s2, s3, s4, s5] h = E d 233 135 [x0, x1, x2, x3] [.int (s1 + s0), s2, s3, s4, s5] h := E_nx rfl
theorem s233_135 (d : Nat) (h : AH) (x0 x1 x2 x3 : Option Value) (s0 : Int32) (s1 : Nat) (s2 : Value) (s3 : Value) (s4 : Value) : E d 233 135 [x0, x1, x2, x3] [.int s0, .ref s1, s2, s3, s4] h = if inb s0 (alen h s1 0) = true ∨ inb s0 (alen h s1 8) = true then E d 233 136 [x0, x1, x2, x3] [.int (hI h s1 s0.toNatClampNeg), s2, s3, s4] h else none := E_gd rfl
theorem s233_136 (d : Nat) (h : AH) (x1 x2 x3 : Option Value) (s0 : Value) (s1 : Value) (s2 : Value) (s3 : Value) (v : Nat) : E d 233 136 [some (.ref v), x1, x2, x3] [s0, s1, s2, s3] h = E d 233 137 [some (.ref v), x1, x2, x3] [.ref v, s0, s1, s2, s3] h := E_nx rfl
theorem s233_137 (d : Nat) (h : AH) (x0 x1 x2 : Option Value) (s0 : Value) (s1 : Value) (s2 : Value) (s3 : Value) (s4 : Value) (v : Int32) : E d 233 137 [x0, x1, x2, some (.int v)] [s0, s1, s2, s3, s4] h = E d 233 138 [x0, x1, x2, some (.int v)] [.int v, s0, s1, s2, s3, s4] h := E_nx rfl
theorem s233_138 (d : Nat) (h : AH) (x0 x1 x2 x3 : Option Value) (s0 : Value) (s1 : Value) (s2 : Value) (s3 : Value) (s4 : Value) (s5 : Value) : E d 233 138 [x0, x1, x2, x3] [s0, s1, s2, s3, s4, s5] h = E d 233 139 [x0, x1, x2, x3] [.int 4, s0, s1, s2, s3, s4, s5] h := E_nx rfl
theorem s233_139 (d : Nat) (h : AH) (x0 x1 x2 x3 : Option Value) (s0 : Int32) (s1 : Int32) (s2 : Value) (s3 : Value) (s4 : Value) (s5 : Value) (s6 : Value) : E d 233 139 [x0, x1, x2, x3] [.int s0, .int s1, s2, s3, s4, s5, s6] h = E d 233 140 [x0, x1, x2, x3] [.int (s1 + s0), s2, s3, s4, s5, s6] h := E_nx rfl
theorem s233_140 (d : Nat) (h : AH) (x0 x1 x2 x3 : Option Value) (s0 : Int32) (s1 : Nat) (s2 : Value) (s3 : Value) (s4 : Value) (s5 : Value) : E d 233 140 [x0, x1, x2, x3] [.int s0, .ref s1, s2, s3, s4, s5] h = if inb s0 (alen h s1 0) = true ∨ inb s0 (alen h s1 8) = true then E d 233 141 [x0, x1, x2, x3] [.int (hI h s1 s0.toNatClampNeg), s2, s3, s4, s5] h else none := E_gd rfl
theorem s233_141 (d : Nat) (h : AH) (x1 x2 x3 : Option Value) (s0 : Value) (s1 : Value) (s2 : Value) (s3 : Value) (s4 : Value) (v : Nat) : E d 233 141 [some (.ref v), x1, x2, x3] [s0, s1, s2, s3, s4] h = E d 233 142 [some (.ref v), x1, x2, x3] [.ref v, s0, s1, s2, s3, s4] h := E_nx rfl
theorem s233_142 (d : Nat) (h : AH) (x0 x1 x2 : Option Value) (s0 : Value) (s1 : Value) (s2 : Value) (s3 : Value) (s4 : Value) (s5 : Value) (v : Int32) : E d 233 142 [x0, x1, x2, some (.int v)] [s0, s1, s2, s3, s4, s5] h = E d 233 143 [x0, x1, x2, some (.int v)] [.int v, s0, s1, s2, s3, s4, s5] h := E_nx rfl
theorem s233_143 (d : Nat) (h : AH) (x0 x1 x2 x3 : Option Value) (s0 : Value) (s1 : Value) (s2 : Value) (s3 : Value) (s4 : Value) (s5 : Value) (s6 : Value) : E d 233 143 [x0, x1, x2, x3] [s0, s1, s2, s3, s4, s5, s6] h = E d 233 144 [x0, x1, x2, x3] [.int 5, s0, s1, s2, s3, s4, s5, s6] h := E_nx rfl
theorem s233_144 (d : Nat) (h : AH) (x0 x1 x2 x3 : Option Value) (s0 : Int32) (s1 : Int32) (s2 : Value) (s3 : Value) (s4 : Value) (s5 : Value) (s6 : Value) (s7 : Value) : E d 233 144 [x0, x1, x2, x3] [.int s0, .int s1, s2, s3, s4, s5, s6, s7] h = E d 233 145 [x0, x1, x2, x3] [.int (s1 + s0), s2, s3, s4, s5, s6, s7] h := E_nx rfl
theorem s233_145 (d : Nat) (h : AH) (x0 x1 x2 x3 : Option Value) (s0 : Int32) (s1 : Nat) (s2 : Value) (s3 : Value) (s4 : Value) (s5 : Value) (s6 : Value) : E d 233 145 [x0, x1, x2, x3] [.int s0, .ref s1, s2, s3, s4, s5, s6] h = if inb s0 (alen h s1 0) = true ∨ inb s0 (alen h s1 8) = true then E d 233 146 [x0, x1, x2, x3] [.int (hI h s1 s0.toNatClampNeg), s2, s3, s4, s5, s6] h else none := E_gd rfl
theorem s233_146 (d : Nat) (h : AH) (x0 x1 x2 x3 : Option Value) (s0 : Int32) (s1 : Int32) (s2 : Int32) (s3 : Int32) (s4 : Int32) (s5 : Nat) : E (d + 1) 233 146 [x0, x1, x2, x3] [.int s0, .int s1, .int s2, .int s3, .int s4, .ref s5] h = if hS h s5 = some (104, 0) then (E d 83 0 [some (.ref s5), some (.int s4), some (.int s3), some (.int s2), some (.int s1), some (.int s0), none, none] [] h).bind fun r => E (d + 1) 233 147 [x0, x1, x2, x3] (r.1.toList ++ []) r.2 else none := E_callg rfl
theorem s233_147 (d : Nat) (h : AH) (x0 x1 x3 : Option Value) (s0 : Value) (v : Nat) : E d 233 147 [x0, x1, some (.ref v), x3] [s0] h = E d 233 148 [x0, x1, some (.ref v), x3] [.ref v, s0] h := E_nx rfl
theorem s233_148 (d : Nat) (h : AH) (x1 x2 x3 : Option Value) (s0 : Value) (s1 : Value) (v : Nat) : E d 233 148 [some (.ref v), x1, x2, x3] [s0, s1] h = E d 233 149 [some (.ref v), x1, x2, x3] [.ref v, s0, s1] h := E_nx rfl
theorem s233_149 (d : Nat) (h : AH) (x0 x1 x2 : Option Value) (s0 : Value) (s1 : Value) (s2 : Value) (v : Int32) : E d 233 149 [x0, x1, x2, some (.int v)] [s0, s1, s2] h = E d 233 150 [x0, x1, x2, some (.int v)] [.int v, s0, s1, s2] h := E_nx rfl
theorem s233_150 (d : Nat) (h : AH) (x0 x1 x2 x3 : Option Value) (s0 : Value) (s1 : Value) (s2 : Value) (s3 : Value) : E d 233 150 [x0, x1, x2, x3] [s0, s1, s2, s3] h = E d 233 151 [x0, x1, x2, x3] [.int 1, s0, s1, s2, s3] h := E_nx rfl
theorem s233_151 (d : Nat) (h : AH) (x0 x1 x2 x3 : Option Value) (s0 : Int32) (s1 : Int32) (s2 : Value) (s3 : Value) (s4 : Value) : E d 233 151 [x0, x1, x2, x3] [.int s0, .int s1, s2, s3, s4] h = E d 233 152 [x0, x1, x2, x3] [.int (s1 + s0), s2, s3, s4] h := E_nx rfl
theorem s233_152 (d : Nat) (h : AH) (x0 x1 x2 x3 : Option Value) (s0 : Int32) (s1 : Nat) (s2 : Value) (s3 : Value) : E d 233 152 [x0, x1, x2, x3] [.int s0, .ref s1, s2, s3] h = if inb s0 (alen h s1 0) = true ∨ inb s0 (alen h s1 8) = true then E d 233 153 [x0, x1, x2, x3] [.int (hI h s1 s0.toNatClampNeg), s2, s3] h else none := E_gd rfl
theorem s233_153 (d : Nat) (h : AH) (x1 x2 x3 : Option Value) (s0 : Value) (s1 : Value) (s2 : Value) (v : Nat) : E d 233 153 [some (.ref v), x1, x2, x3] [s0, s1, s2] h = E d 233 154 [some (.ref v), x1, x2, x3] [.ref v, s0, s1, s2] h := E_nx rfl
theorem s233_154 (d : Nat) (h : AH) (x0 x1 x2 : Option Value) (s0 : Value) (s1 : Value) (s2 : Value) (s3 : Value) (v : Int32) : E d 233 154 [x0, x1, x2, some (.int v)] [s0, s1, s2, s3] h = E d 233 155 [x0, x1, x2, some (.int v)] [.int v, s0, s1, s2, s3] h := E_nx rfl
theorem s233_155 (d : Nat) (h : AH) (x0 x1 x2 x3 : Option Value) (s0 : Value) (s1 : Value) (s2 : Value) (s3 : Value) (s4 : Value) : E d 233 155 [x0, x1, x2, x3] [s0, s1, s2, s3, s4] h = E d 233 156 [x0, x1, x2, x3] [.int 2, s0, s1, s2, s3, s4] h := E_nx rfl
theorem s233_156 (d : Nat) (h : AH) (x0 x1 x2 x3 : Option Value) (s0 : Int32) (s1 : Int32) (s2 : Value) (s3 : Value) (s4 : Value) (s5 : Value) : E d 233 156 [x0, x1, x2, x3] [.int s0, .int s1, s2, s3, s4, s5] h = E d 233 157 [x0, x1, x2, x3] [.int (s1 + s0), s2, s3, s4, s5] h := E_nx rfl
theorem s233_157 (d : Nat) (h : AH) (x0 x1 x2 x3 : Option Value) (s0 : Int32) (s1 : Nat) (s2 : Value) (s3 : Value) (s4 : Value) : E d 233 157 [x0, x1, x2, x3] [.int s0, .ref s1, s2, s3, s4] h = if inb s0 (alen h s1 0) = true ∨ inb s0 (alen h s1 8) = true then E d 233 158 [x0, x1, x2, x3] [.int (hI h s1 s0.toNatClampNeg), s2, s3, s4] h else none := E_gd rfl
theorem s233_158 (d : Nat) (h : AH) (x1 x2 x3 : Option Value) (s0 : Value) (s1 : Value) (s2 : Value) (s3 : Value) (v : Nat) : E d 233 158 [some (.ref v), x1, x2, x3] [s0, s1, s2, s3] h = E d 233 159 [some (.ref v), x1, x2, x3] [.ref v, s0, s1, s2, s3] h := E_nx rfl
theorem s233_159 (d : Nat) (h : AH) (x0 x1 x2 : Option Value) (s0 : Value) (s1 : Value) (s2 : Value) (s3 : Value) (s4 : Value) (v : Int32) : E d 233 159 [x0, x1, x2, some (.int v)] [s0, s1, s2, s3, s4] h = E d 233 160 [x0, x1, x2, some (.int v)] [.int v, s0, s1, s2, s3, s4] h := E_nx rfl
theorem s233_160 (d : Nat) (h : AH) (x0 x1 x2 x3 : Option Value) (s0 : Value) (s1 : Value) (s2 : Value) (s3 : Value) (s4 : Value) (s5 : Value) : E d 233 160 [x0, x1, x2, x3] [s0, s1, s2, s3, s4, s5] h = E d 233 161 [x0, x1, x2, x3] [.int 3, s0, s1, s2, s3, s4, s5] h := E_nx rfl
theorem s233_161 (d : Nat) (h : AH) (x0 x1 x2 x3 : Option Value) (s0 : Int32) (s1 : Int32) (s2 : Value) (s3 : Value) (s4 : Value) (s5 : Value) (s6 : Value) : E d 233 161 [x0, x1, x2, x3] [.int s0, .int s1, s2, s3, s4, s5, s6] h = E d 233 162 [x0, x1, x2, x3] [.int (s1 + s0), s2, s3, s4, s5, s6] h := E_nx rfl
theorem s233_162 (d : Nat) (h : AH) (x0 x1 x2 x3 : Option Value) (s0 : Int32) (s1 : Nat) (s2 : Value) (s3 : Value) (s4 : Value) (s5 : Value) : E d 233 162 [x0, x1, x2, x3] [.int s0, .ref s1, s2, s3, s4, s5] h = if inb s0 (alen h s1 0) = true ∨ inb s0 (alen h s1 8) = true then E d 233 163 [x0, x1, x2, x3] [.int (hI h s1 s0.toNatClampNeg), s2, s3, s4, s5] h else none := E_gd rfl
theorem s233_163 (d : Nat) (h : AH) (x1 x2 x3 : Option Value) (s0 : Value) (s1 : Value) (s2 : Value) (s3 : Value) (s4 : Value) (v : Nat) : E d 233 163 [some (.ref v), x1, x2, x3] [s0, s1, s2, s3, s4] h = E d 233 164 [some (.ref v), x1, x2, x3] [.ref v, s0, s1, s2, s3, s4] h := E_nx rfl
theorem s233_164 (d : Nat) (h : AH) (x0 x1 x2 : Option Value) (s0 : Value) (s1 : Value) (s2 : Value) (s3 : Value) (s4 : Value) (s5 : Value) (v : Int32) : E d 233 164 [x0, x1, x2, some (.int v)] [s0, s1, s2, s3, s4, s5] h = E d 233 165 [x0, x1, x2, some (.int v)] [.int v, s0, s1, s2, s3, s4, s5] h := E_nx rfl
theorem s233_165 (d : Nat) (h : AH) (x0 x1 x2 x3 : Option Value) (s0 : Value) (s1 : Value) (s2 : Value) (s3 : Value) (s4 : Value) (s5 : Value) (s6 : Value) : E d 233 165 [x0, x1, x2, x3] [s0, s1, s2, s3, s4, s5, s6] h = E d 233 166 [x0, x1, x2, x3] [.int 4, s0, s1, s2, s3, s4, s5, s6] h := E_nx rfl
theorem s233_166 (d : Nat) (h : AH) (x0 x1 x2 x3 : Option Value) (s0 : Int32) (s1 : Int32) (s2 : Value) (s3 : Value) (s4 : Value) (s5 : Value) (s6 : Value) (s7 : Value) : E d 233 166 [x0, x1, x2, x3] [.int s0, .int s1, s2, s3, s4, s5, s6, s7] h = E d 233 167 [x0, x1, x2, x3] [.int (s1 + s0), s2, s3, s4, s5, s6, s7] h := E_nx rfl
theorem s233_167 (d : Nat) (h : AH) (x0 x1 x2 x3 : Option Value) (s0 : Int32) (s1 : Nat) (s2 : Value) (s3 : Value) (s4 : Value) (s5 : Value) (s6 : Value) : E d 233 167 [x0, x1, x2, x3] [.int s0, .ref s1, s2, s3, s4, s5, s6] h = if inb s0 (alen h s1 0) = true ∨ inb s0 (alen h s1 8) = true then E d 233 168 [x0, x1, x2, x3] [.int (hI h s1 s0.toNatClampNeg), s2, s3, s4, s5, s6] h else none := E_gd rfl
theorem s233_168 (d : Nat) (h : AH) (x1 x2 x3 : Option Value) (s0 : Value) (s1 : Value) (s2 : Value) (s3 : Value) (s4 : Value) (s5 : Value) (v : Nat) : E d 233 168 [some (.ref v), x1, x2, x3] [s0, s1, s2, s3, s4, s5] h = E d 233 169 [some (.ref v), x1, x2, x3] [.ref v, s0, s1, s2, s3, s4, s5] h := E_nx rfl
theorem s233_169 (d : Nat) (h : AH) (x0 x1 x2 : Option Value) (s0 : Value) (s1 : Value) (s2 : Value) (s3 : Value) (s4 : Value) (s5 : Value) (s6 : Value) (v : Int32) : E d 233 169 [x0, x1, x2, some (.int v)] [s0, s1, s2, s3, s4, s5, s6] h = E d 233 170 [x0, x1, x2, some (.int v)] [.int v, s0, s1, s2, s3, s4, s5, s6] h := E_nx rfl
theorem s233_170 (d : Nat) (h : AH) (x0 x1 x2 x3 : Option Value) (s0 : Value) (s1 : Value) (s2 : Value) (s3 : Value) (s4 : Value) (s5 : Value) (s6 : Value) (s7 : Value) : E d 233 170 [x0, x1, x2, x3] [s0, s1, s2, s3, s4, s5, s6, s7] h = E d 233 171 [x0, x1, x2, x3] [.int 5, s0, s1, s2, s3, s4, s5, s6, s7] h := E_nx rfl
theorem s233_171 (d : Nat) (h : AH) (x0 x1 x2 x3 : Option Value) (s0 : Int32) (s1 : Int32) (s2 : Value) (s3 : Value) (s4 : Value) (s5 : Value) (s6 : Value) (s7 : Value) (s8 : Value) : E d 233 171 [x0, x1, x2, x3] [.int s0, .int s1, s2, s3, s4, s5, s6, s7, s8] h = E d 233 172 [x0, x1, x2, x3] [.int (s1 + s0), s2, s3, s4, s5, s6, s7, s8] h := E_nx rfl
theorem s233_172 (d : Nat) (h : AH) (x0 x1 x2 x3 : Option Value) (s0 : Int32) (s1 : Nat) (s2 : Value) (s3 : Value) (s4 : Value) (s5 : Value) (s6 : Value) (s7 : Value) : E d 233 172 [x0, x1, x2, x3] [.int s0, .ref s1, s2, s3, s4, s5, s6, s7] h = if inb s0 (alen h s1 0) = true ∨ inb s0 (alen h s1 8) = true then E d 233 173 [x0, x1, x2, x3] [.int (hI h s1 s0.toNatClampNeg), s2, s3, s4, s5, s6, s7] h else none := E_gd rfl
theorem s233_173 (d : Nat) (h : AH) (x0 x1 x2 x3 : Option Value) (s0 : Int32) (s1 : Int32) (s2 : Int32) (s3 : Int32) (s4 : Int32) (s5 : Nat) (s6 : Value) : E (d + 1) 233 173 [x0, x1, x2, x3] [.int s0, .int s1, .int s2, .int s3, .int s4, .ref s5, s6] h = if hS h s5 = some (105, 0) then (E d 146 0 [some (.ref s5), some (.int s4), some (.int s3), some (.int s2), some (.int s1), some (.int s0), none] [] h).bind fun r => E (d + 1) 233 174 [x0, x1, x2, x3] (r.1.toList ++ [s6]) r.2 else none := E_callg rfl
theorem s233_174 (d : Nat) (h : AH) (x0 x1 x2 x3 : Option Value) (s0 : Int32) (s1 : Int32) : E d 233 174 [x0, x1, x2, x3] [.int s0, .int s1] h = if s1 = s0 then E d 233 1068 [x0, x1, x2, x3] [] h else E d 233 175 [x0, x1, x2, x3] [] h := E_ifc rfl
theorem s233_175 (d : Nat) (h : AH) (x0 x1 x2 x3 : Option Value)  : E d 233 175 [x0, x1, x2, x3] [] h = E d 233 176 [x0, x1, x2, x3] [.int 0] h := E_nx rfl
theorem s233_176 (d : Nat) (h : AH) (x0 x1 x2 x3 : Option Value) (s0 : Int32) : E d 233 176 [x0, x1, x2, x3] [.int s0] h = if s0 = 0 ∨ s0 = 1 then some (some (.int s0), h) else none := E_retg rfl
theorem s233_177 (d : Nat) (h : AH) (x0 x2 x3 : Option Value) (v : Nat) : E d 233 177 [x0, some (.ref v), x2, x3] [] h = E d 233 178 [x0, some (.ref v), x2, x3] [.ref v] h := E_nx rfl
theorem s233_178 (d : Nat) (h : AH) (x1 x2 x3 : Option Value) (s0 : Value) (v : Nat) : E d 233 178 [some (.ref v), x1, x2, x3] [s0] h = E d 233 179 [some (.ref v), x1, x2, x3] [.ref v, s0] h := E_nx rfl
theorem s233_179 (d : Nat) (h : AH) (x0 x1 x2 : Option Value) (s0 : Value) (s1 : Value) (v : Int32) : E d 233 179 [x0, x1, x2, some (.int v)] [s0, s1] h = E d 233 180 [x0, x1, x2, some (.int v)] [.int v, s0, s1] h := E_nx rfl
theorem s233_180 (d : Nat) (h : AH) (x0 x1 x2 x3 : Option Value) (s0 : Value) (s1 : Value) (s2 : Value) : E d 233 180 [x0, x1, x2, x3] [s0, s1, s2] h = E d 233 181 [x0, x1, x2, x3] [.int 1, s0, s1, s2] h := E_nx rfl
theorem s233_181 (d : Nat) (h : AH) (x0 x1 x2 x3 : Option Value) (s0 : Int32) (s1 : Int32) (s2 : Value) (s3 : Value) : E d 233 181 [x0, x1, x2, x3] [.int s0, .int s1, s2, s3] h = E d 233 182 [x0, x1, x2, x3] [.int (s1 + s0), s2, s3] h := E_nx rfl
theorem s233_182 (d : Nat) (h : AH) (x0 x1 x2 x3 : Option Value) (s0 : Int32) (s1 : Nat) (s2 : Value) : E d 233 182 [x0, x1, x2, x3] [.int s0, .ref s1, s2] h = if inb s0 (alen h s1 0) = true ∨ inb s0 (alen h s1 8) = true then E d 233 183 [x0, x1, x2, x3] [.int (hI h s1 s0.toNatClampNeg), s2] h else none := E_gd rfl
theorem s233_183 (d : Nat) (h : AH) (x1 x2 x3 : Option Value) (s0 : Value) (s1 : Value) (v : Nat) : E d 233 183 [some (.ref v), x1, x2, x3] [s0, s1] h = E d 233 184 [some (.ref v), x1, x2, x3] [.ref v, s0, s1] h := E_nx rfl
theorem s233_184 (d : Nat) (h : AH) (x0 x1 x2 : Option Value) (s0 : Value) (s1 : Value) (s2 : Value) (v : Int32) : E d 233 184 [x0, x1, x2, some (.int v)] [s0, s1, s2] h = E d 233 185 [x0, x1, x2, some (.int v)] [.int v, s0, s1, s2] h := E_nx rfl
theorem s233_185 (d : Nat) (h : AH) (x0 x1 x2 x3 : Option Value) (s0 : Value) (s1 : Value) (s2 : Value) (s3 : Value) : E d 233 185 [x0, x1, x2, x3] [s0, s1, s2, s3] h = E d 233 186 [x0, x1, x2, x3] [.int 2, s0, s1, s2, s3] h := E_nx rfl
theorem s233_186 (d : Nat) (h : AH) (x0 x1 x2 x3 : Option Value) (s0 : Int32) (s1 : Int32) (s2 : Value) (s3 : Value) (s4 : Value) : E d 233 186 [x0, x1, x2, x3] [.int s0, .int s1, s2, s3, s4] h = E d 233 187 [x0, x1, x2, x3] [.int (s1 + s0), s2, s3, s4] h := E_nx rfl
theorem s233_187 (d : Nat) (h : AH) (x0 x1 x2 x3 : Option Value) (s0 : Int32) (s1 : Nat) (s2 : Value) (s3 : Value) : E d 233 187 [x0, x1, x2, x3] [.int s0, .ref s1, s2, s3] h = if inb s0 (alen h s1 0) = true ∨ inb s0 (alen h s1 8) = true then E d 233 188 [x0, x1, x2, x3] [.int (hI h s1 s0.toNatClampNeg), s2, s3] h else none := E_gd rfl
theorem s233_188 (d : Nat) (h : AH) (x0 x1 x2 x3 : Option Value) (s0 : Int32) (s1 : Int32) (s2 : Nat) : E (d + 1) 233 188 [x0, x1, x2, x3] [.int s0, .int s1, .ref s2] h = if hS h s2 = some (104, 0) then (E d 84 0 [some (.ref s2), some (.int s1), some (.int s0)] [] h).bind fun r => E (d + 1) 233 189 [x0, x1, x2, x3] (r.1.toList ++ []) r.2 else none := E_callg rfl
theorem s233_189 (d : Nat) (h : AH) (x0 x1 x3 : Option Value) (s0 : Value) (v : Nat) : E d 233 189 [x0, x1, some (.ref v), x3] [s0] h = E d 233 190 [x0, x1, some (.ref v), x3] [.ref v, s0] h := E_nx rfl
theorem s233_190 (d : Nat) (h : AH) (x1 x2 x3 : Option Value) (s0 : Value) (s1 : Value) (v : Nat) : E d 233 190 [some (.ref v), x1, x2, x3] [s0, s1] h = E d 233 191 [some (.ref v), x1, x2, x3] [.ref v, s0, s1] h := E_nx rfl
theorem s233_191 (d : Nat) (h : AH) (x0 x1 x2 : Option Value) (s0 : Value) (s1 : Value) (s2 : Value) (v : Int32) : E d 233 191 [x0, x1, x2, some (.int v)] [s0, s1, s2] h = E d 233 192 [x0, x1, x2, some (.int v)] [.int v, s0, s1, s2] h := E_nx rfl
theorem s233_192 (d : Nat) (h : AH) (x0 x1 x2 x3 : Option Value) (s0 : Value) (s1 : Value) (s2 : Value) (s3 : Value) : E d 233 192 [x0, x1, x2, x3] [s0, s1, s2, s3] h = E d 233 193 [x0, x1, x2, x3] [.int 1, s0, s1, s2, s3] h := E_nx rfl
theorem s233_193 (d : Nat) (h : AH) (x0 x1 x2 x3 : Option Value) (s0 : Int32) (s1 : Int32) (s2 : Value) (s3 : Value) (s4 : Value) : E d 233 193 [x0, x1, x2, x3] [.int s0, .int s1, s2, s3, s4] h = E d 233 194 [x0, x1, x2, x3] [.int (s1 + s0), s2, s3, s4] h := E_nx rfl
theorem s233_194 (d : Nat) (h : AH) (x0 x1 x2 x3 : Option Value) (s0 : Int32) (s1 : Nat) (s2 : Value) (s3 : Value) : E d 233 194 [x0, x1, x2, x3] [.int s0, .ref s1, s2, s3] h = if inb s0 (alen h s1 0) = true ∨ inb s0 (alen h s1 8) = true then E d 233 195 [x0, x1, x2, x3] [.int (hI h s1 s0.toNatClampNeg), s2, s3] h else none := E_gd rfl
theorem s233_195 (d : Nat) (h : AH) (x1 x2 x3 : Option Value) (s0 : Value) (s1 : Value) (s2 : Value) (v : Nat) : E d 233 195 [some (.ref v), x1, x2, x3] [s0, s1, s2] h = E d 233 196 [some (.ref v), x1, x2, x3] [.ref v, s0, s1, s2] h := E_nx rfl
theorem s233_196 (d : Nat) (h : AH) (x0 x1 x2 : Option Value) (s0 : Value) (s1 : Value) (s2 : Value) (s3 : Value) (v : Int32) : E d 233 196 [x0, x1, x2, some (.int v)] [s0, s1, s2, s3] h = E d 233 197 [x0, x1, x2, some (.int v)] [.int v, s0, s1, s2, s3] h := E_nx rfl
theorem s233_197 (d : Nat) (h : AH) (x0 x1 x2 x3 : Option Value) (s0 : Value) (s1 : Value) (s2 : Value) (s3 : Value) (s4 : Value) : E d 233 197 [x0, x1, x2, x3] [s0, s1, s2, s3, s4] h = E d 233 198 [x0, x1, x2, x3] [.int 2, s0, s1, s2, s3, s4] h := E_nx rfl
theorem s233_198 (d : Nat) (h : AH) (x0 x1 x2 x3 : Option Value) (s0 : Int32) (s1 : Int32) (s2 : Value) (s3 : Value) (s4 : Value) (s5 : Value) : E d 233 198 [x0, x1, x2, x3] [.int s0, .int s1, s2, s3, s4, s5] h = E d 233 199 [x0, x1, x2, x3] [.int (s1 + s0), s2, s3, s4, s5] h := E_nx rfl
theorem s233_199 (d : Nat) (h : AH) (x0 x1 x2 x3 : Option Value) (s0 : Int32) (s1 : Nat) (s2 : Value) (s3 : Value) (s4 : Value) : E d 233 199 [x0, x1, x2, x3] [.int s0, .ref s1, s2, s3, s4] h = if inb s0 (alen h s1 0) = true ∨ inb s0 (alen h s1 8) = true then E d 233 200 [x0, x1, x2, x3] [.int (hI h s1 s0.toNatClampNeg), s2, s3, s4] h else none := E_gd rfl
theorem s233_200 (d : Nat) (h : AH) (x0 x1 x2 x3 : Option Value) (s0 : Int32) (s1 : Int32) (s2 : Nat) (s3 : Value) : E (d + 1) 233 200 [x0, x1, x2, x3] [.int s0, .int s1, .ref s2, s3] h = if hS h s2 = some (105, 0) then (E d 147 0 [some (.ref s2), some (.int s1), some (.int s0)] [] h).bind fun r => E (d + 1) 233 201 [x0, x1, x2, x3] (r.1.toList ++ [s3]) r.2 else none := E_callg rfl
theorem s233_201 (d : Nat) (h : AH) (x0 x1 x2 x3 : Option Value) (s0 : Int64) (s1 : Int64) : E d 233 201 [x0, x1, x2, x3] [.long s0, .long s1] h = E d 233 202 [x0, x1, x2, x3] [.int (lg_cmp s1 s0)] h := E_nx rfl
theorem s233_202 (d : Nat) (h : AH) (x0 x1 x2 x3 : Option Value) (s0 : Int32) : E d 233 202 [x0, x1, x2, x3] [.int s0] h = if s0 = 0 then E d 233 1068 [x0, x1, x2, x3] [] h else E d 233 203 [x0, x1, x2, x3] [] h := E_ifc rfl
theorem s233_203 (d : Nat) (h : AH) (x0 x1 x2 x3 : Option Value)  : E d 233 203 [x0, x1, x2, x3] [] h = E d 233 204 [x0, x1, x2, x3] [.int 0] h := E_nx rfl
theorem s233_204 (d : Nat) (h : AH) (x0 x1 x2 x3 : Option Value) (s0 : Int32) : E d 233 204 [x0, x1, x2, x3] [.int s0] h = if s0 = 0 ∨ s0 = 1 then some (some (.int s0), h) else none := E_retg rfl
theorem s233_205 (d : Nat) (h : AH) (x0 x2 x3 : Option Value) (v : Nat) : E d 233 205 [x0, some (.ref v), x2, x3] [] h = E d 233 206 [x0, some (.ref v), x2, x3] [.ref v] h := E_nx rfl
theorem s233_206 (d : Nat) (h : AH) (x1 x2 x3 : Option Value) (s0 : Value) (v : Nat) : E d 233 206 [some (.ref v), x1, x2, x3] [s0] h = E d 233 207 [some (.ref v), x1, x2, x3] [.ref v, s0] h := E_nx rfl
theorem s233_207 (d : Nat) (h : AH) (x0 x1 x2 : Option Value) (s0 : Value) (s1 : Value) (v : Int32) : E d 233 207 [x0, x1, x2, some (.int v)] [s0, s1] h = E d 233 208 [x0, x1, x2, some (.int v)] [.int v, s0, s1] h := E_nx rfl
theorem s233_208 (d : Nat) (h : AH) (x0 x1 x2 x3 : Option Value) (s0 : Value) (s1 : Value) (s2 : Value) : E d 233 208 [x0, x1, x2, x3] [s0, s1, s2] h = E d 233 209 [x0, x1, x2, x3] [.int 1, s0, s1, s2] h := E_nx rfl
theorem s233_209 (d : Nat) (h : AH) (x0 x1 x2 x3 : Option Value) (s0 : Int32) (s1 : Int32) (s2 : Value) (s3 : Value) : E d 233 209 [x0, x1, x2, x3] [.int s0, .int s1, s2, s3] h = E d 233 210 [x0, x1, x2, x3] [.int (s1 + s0), s2, s3] h := E_nx rfl
theorem s233_210 (d : Nat) (h : AH) (x0 x1 x2 x3 : Option Value) (s0 : Int32) (s1 : Nat) (s2 : Value) : E d 233 210 [x0, x1, x2, x3] [.int s0, .ref s1, s2] h = if inb s0 (alen h s1 0) = true ∨ inb s0 (alen h s1 8) = true then E d 233 211 [x0, x1, x2, x3] [.int (hI h s1 s0.toNatClampNeg), s2] h else none := E_gd rfl
theorem s233_211 (d : Nat) (h : AH) (x0 x1 x2 x3 : Option Value) (s0 : Int32) (s1 : Nat) : E (d + 1) 233 211 [x0, x1, x2, x3] [.int s0, .ref s1] h = if hS h s1 = some (104, 0) then (E d 85 0 [some (.ref s1), some (.int s0), none] [] h).bind fun r => E (d + 1) 233 212 [x0, x1, x2, x3] (r.1.toList ++ []) r.2 else none := E_callg rfl
theorem s233_212 (d : Nat) (h : AH) (x0 x1 x3 : Option Value) (s0 : Value) (v : Nat) : E d 233 212 [x0, x1, some (.ref v), x3] [s0] h = E d 233 213 [x0, x1, some (.ref v), x3] [.ref v, s0] h := E_nx rfl
theorem s233_213 (d : Nat) (h : AH) (x1 x2 x3 : Option Value) (s0 : Value) (s1 : Value) (v : Nat) : E d 233 213 [some (.ref v), x1, x2, x3] [s0, s1] h = E d 233 214 [some (.ref v), x1, x2, x3] [.ref v, s0, s1] h := E_nx rfl
theorem s233_214 (d : Nat) (h : AH) (x0 x1 x2 : Option Value) (s0 : Value) (s1 : Value) (s2 : Value) (v : Int32) : E d 233 214 [x0, x1, x2, some (.int v)] [s0, s1, s2] h = E d 233 215 [x0, x1, x2, some (.int v)] [.int v, s0, s1, s2] h := E_nx rfl
theorem s233_215 (d : Nat) (h : AH) (x0 x1 x2 x3 : Option Value) (s0 : Value) (s1 : Value) (s2 : Value) (s3 : Value) : E d 233 215 [x0, x1, x2, x3] [s0, s1, s2, s3] h = E d 233 216 [x0, x1, x2, x3] [.int 1, s0, s1, s2, s3] h := E_nx rfl
theorem s233_216 (d : Nat) (h : AH) (x0 x1 x2 x3 : Option Value) (s0 : Int32) (s1 : Int32) (s2 : Value) (s3 : Value) (s4 : Value) : E d 233 216 [x0, x1, x2, x3] [.int s0, .int s1, s2, s3, s4] h = E d 233 217 [x0, x1, x2, x3] [.int (s1 + s0), s2, s3, s4] h := E_nx rfl
theorem s233_217 (d : Nat) (h : AH) (x0 x1 x2 x3 : Option Value) (s0 : Int32) (s1 : Nat) (s2 : Value) (s3 : Value) : E d 233 217 [x0, x1, x2, x3] [.int s0, .ref s1, s2, s3] h = if inb s0 (alen h s1 0) = true ∨ inb s0 (alen h s1 8) = true then E d 233 218 [x0, x1, x2, x3] [.int (hI h s1 s0.toNatClampNeg), s2, s3] h else none := E_gd rfl
theorem s233_218 (d : Nat) (h : AH) (x0 x1 x2 x3 : Option Value) (s0 : Int32) (s1 : Nat) (s2 : Value) : E (d + 1) 233 218 [x0, x1, x2, x3] [.int s0, .ref s1, s2] h = if hS h s1 = some (105, 0) then (E d 148 0 [some (.ref s1), some (.int s0)] [] h).bind fun r => E (d + 1) 233 219 [x0, x1, x2, x3] (r.1.toList ++ [s2]) r.2 else none := E_callg rfl
theorem s233_219 (d : Nat) (h : AH) (x0 x1 x2 x3 : Option Value) (s0 : Int32) (s1 : Int32) : E d 233 219 [x0, x1, x2, x3] [.int s0, .int s1] h = if s1 = s0 then E d 233 1068 [x0, x1, x2, x3] [] h else E d 233 220 [x0, x1, x2, x3] [] h := E_ifc rfl
theorem s233_220 (d : Nat) (h : AH) (x0 x1 x2 x3 : Option Value)  : E d 233 220 [x0, x1, x2, x3] [] h = E d 233 221 [x0, x1, x2, x3] [.int 0] h := E_nx rfl
theorem s233_221 (d : Nat) (h : AH) (x0 x1 x2 x3 : Option Value) (s0 : Int32) : E d 233 221 [x0, x1, x2, x3] [.int s0] h = if s0 = 0 ∨ s0 = 1 then some (some (.int s0), h) else none := E_retg rfl
theorem s233_222 (d : Nat) (h : AH) (x0 x2 x3 : Option Value) (v : Nat) : E d 233 222 [x0, some (.ref v), x2, x3] [] h = E d 233 223 [x0, some (.ref v), x2, x3] [.ref v] h := E_nx rfl
theorem s233_223 (d : Nat) (h : AH) (x1 x2 x3 : Option Value) (s0 : Value) (v : Nat) : E d 233 223 [some (.ref v), x1, x2, x3] [s0] h = E d 233 224 [some (.ref v), x1, x2, x3] [.ref v, s0] h := E_nx rfl
theorem s233_224 (d : Nat) (h : AH) (x0 x1 x2 : Option Value) (s0 : Value) (s1 : Value) (v : Int32) : E d 233 224 [x0, x1, x2, some (.int v)] [s0, s1] h = E d 233 225 [x0, x1, x2, some (.int v)] [.int v, s0, s1] h := E_nx rfl
theorem s233_225 (d : Nat) (h : AH) (x0 x1 x2 x3 : Option Value) (s0 : Value) (s1 : Value) (s2 : Value) : E d 233 225 [x0, x1, x2, x3] [s0, s1, s2] h = E d 233 226 [x0, x1, x2, x3] [.int 1, s0, s1, s2] h := E_nx rfl
theorem s233_226 (d : Nat) (h : AH) (x0 x1 x2 x3 : Option Value) (s0 : Int32) (s1 : Int32) (s2 : Value) (s3 : Value) : E d 233 226 [x0, x1, x2, x3] [.int s0, .int s1, s2, s3] h = E d 233 227 [x0, x1, x2, x3] [.int (s1 + s0), s2, s3] h := E_nx rfl
theorem s233_227 (d : Nat) (h : AH) (x0 x1 x2 x3 : Option Value) (s0 : Int32) (s1 : Nat) (s2 : Value) : E d 233 227 [x0, x1, x2, x3] [.int s0, .ref s1, s2] h = if inb s0 (alen h s1 0) = true ∨ inb s0 (alen h s1 8) = true then E d 233 228 [x0, x1, x2, x3] [.int (hI h s1 s0.toNatClampNeg), s2] h else none := E_gd rfl
theorem s233_228 (d : Nat) (h : AH) (x1 x2 x3 : Option Value) (s0 : Value) (s1 : Value) (v : Nat) : E d 233 228 [some (.ref v), x1, x2, x3] [s0, s1] h = E d 233 229 [some (.ref v), x1, x2, x3] [.ref v, s0, s1] h := E_nx rfl
theorem s233_229 (d : Nat) (h : AH) (x0 x1 x2 : Option Value) (s0 : Value) (s1 : Value) (s2 : Value) (v : Int32) : E d 233 229 [x0, x1, x2, some (.int v)] [s0, s1, s2] h = E d 233 230 [x0, x1, x2, some (.int v)] [.int v, s0, s1, s2] h := E_nx rfl
theorem s233_230 (d : Nat) (h : AH) (x0 x1 x2 x3 : Option Value) (s0 : Value) (s1 : Value) (s2 : Value) (s3 : Value) : E d 233 230 [x0, x1, x2, x3] [s0, s1, s2, s3] h = E d 233 231 [x0, x1, x2, x3] [.int 2, s0, s1, s2, s3] h := E_nx rfl
theorem s233_231 (d : Nat) (h : AH) (x0 x1 x2 x3 : Option Value) (s0 : Int32) (s1 : Int32) (s2 : Value) (s3 : Value) (s4 : Value) : E d 233 231 [x0, x1, x2, x3] [.int s0, .int s1, s2, s3, s4] h = E d 233 232 [x0, x1, x2, x3] [.int (s1 + s0), s2, s3, s4] h := E_nx rfl
theorem s233_232 (d : Nat) (h : AH) (x0 x1 x2 x3 : Option Value) (s0 : Int32) (s1 : Nat) (s2 : Value) (s3 : Value) : E d 233 232 [x0, x1, x2, x3] [.int s0, .ref s1, s2, s3] h = if inb s0 (alen h s1 0) = true ∨ inb s0 (alen h s1 8) = true then E d 233 233 [x0, x1, x2, x3] [.int (hI h s1 s0.toNatClampNeg), s2, s3] h else none := E_gd rfl
theorem s233_233 (d : Nat) (h : AH) (x0 x1 x2 x3 : Option Value) (s0 : Int32) (s1 : Int32) (s2 : Nat) : E (d + 1) 233 233 [x0, x1, x2, x3] [.int s0, .int s1, .ref s2] h = if hS h s2 = some (104, 0) then (E d 86 0 [some (.ref s2), some (.int s1), some (.int s0)] [] h).bind fun r => E (d + 1) 233 234 [x0, x1, x2, x3] (r.1.toList ++ []) r.2 else none := E_callg rfl
theorem s233_234 (d : Nat) (h : AH) (x0 x1 x3 : Option Value) (s0 : Value) (v : Nat) : E d 233 234 [x0, x1, some (.ref v), x3] [s0] h = E d 233 235 [x0, x1, some (.ref v), x3] [.ref v, s0] h := E_nx rfl
theorem s233_235 (d : Nat) (h : AH) (x1 x2 x3 : Option Value) (s0 : Value) (s1 : Value) (v : Nat) : E d 233 235 [some (.ref v), x1, x2, x3] [s0, s1] h = E d 233 236 [some (.ref v), x1, x2, x3] [.ref v, s0, s1] h := E_nx rfl
theorem s233_236 (d : Nat) (h : AH) (x0 x1 x2 : Option Value) (s0 : Value) (s1 : Value) (s2 : Value) (v : Int32) : E d 233 236 [x0, x1, x2, some (.int v)] [s0, s1, s2] h = E d 233 237 [x0, x1, x2, some (.int v)] [.int v, s0, s1, s2] h := E_nx rfl
theorem s233_237 (d : Nat) (h : AH) (x0 x1 x2 x3 : Option Value) (s0 : Value) (s1 : Value) (s2 : Value) (s3 : Value) : E d 233 237 [x0, x1, x2, x3] [s0, s1, s2, s3] h = E d 233 238 [x0, x1, x2, x3] [.int 1, s0, s1, s2, s3] h := E_nx rfl
theorem s233_238 (d : Nat) (h : AH) (x0 x1 x2 x3 : Option Value) (s0 : Int32) (s1 : Int32) (s2 : Value) (s3 : Value) (s4 : Value) : E d 233 238 [x0, x1, x2, x3] [.int s0, .int s1, s2, s3, s4] h = E d 233 239 [x0, x1, x2, x3] [.int (s1 + s0), s2, s3, s4] h := E_nx rfl
theorem s233_239 (d : Nat) (h : AH) (x0 x1 x2 x3 : Option Value) (s0 : Int32) (s1 : Nat) (s2 : Value) (s3 : Value) : E d 233 239 [x0, x1, x2, x3] [.int s0, .ref s1, s2, s3] h = if inb s0 (alen h s1 0) = true ∨ inb s0 (alen h s1 8) = true then E d 233 240 [x0, x1, x2, x3] [.int (hI h s1 s0.toNatClampNeg), s2, s3] h else none := E_gd rfl
theorem s233_240 (d : Nat) (h : AH) (x1 x2 x3 : Option Value) (s0 : Value) (s1 : Value) (s2 : Value) (v : Nat) : E d 233 240 [some (.ref v), x1, x2, x3] [s0, s1, s2] h = E d 233 241 [some (.ref v), x1, x2, x3] [.ref v, s0, s1, s2] h := E_nx rfl
theorem s233_241 (d : Nat) (h : AH) (x0 x1 x2 : Option Value) (s0 : Value) (s1 : Value) (s2 : Value) (s3 : Value) (v : Int32) : E d 233 241 [x0, x1, x2, some (.int v)] [s0, s1, s2, s3] h = E d 233 242 [x0, x1, x2, some (.int v)] [.int v, s0, s1, s2, s3] h := E_nx rfl
theorem s233_242 (d : Nat) (h : AH) (x0 x1 x2 x3 : Option Value) (s0 : Value) (s1 : Value) (s2 : Value) (s3 : Value) (s4 : Value) : E d 233 242 [x0, x1, x2, x3] [s0, s1, s2, s3, s4] h = E d 233 243 [x0, x1, x2, x3] [.int 2, s0, s1, s2, s3, s4] h := E_nx rfl
theorem s233_243 (d : Nat) (h : AH) (x0 x1 x2 x3 : Option Value) (s0 : Int32) (s1 : Int32) (s2 : Value) (s3 : Value) (s4 : Value) (s5 : Value) : E d 233 243 [x0, x1, x2, x3] [.int s0, .int s1, s2, s3, s4, s5] h = E d 233 244 [x0, x1, x2, x3] [.int (s1 + s0), s2, s3, s4, s5] h := E_nx rfl
theorem s233_244 (d : Nat) (h : AH) (x0 x1 x2 x3 : Option Value) (s0 : Int32) (s1 : Nat) (s2 : Value) (s3 : Value) (s4 : Value) : E d 233 244 [x0, x1, x2, x3] [.int s0, .ref s1, s2, s3, s4] h = if inb s0 (alen h s1 0) = true ∨ inb s0 (alen h s1 8) = true then E d 233 245 [x0, x1, x2, x3] [.int (hI h s1 s0.toNatClampNeg), s2, s3, s4] h else none := E_gd rfl
theorem s233_245 (d : Nat) (h : AH) (x0 x1 x2 x3 : Option Value) (s0 : Int32) (s1 : Int32) (s2 : Nat) (s3 : Value) : E (d + 1) 233 245 [x0, x1, x2, x3] [.int s0, .int s1, .ref s2, s3] h = if hS h s2 = some (105, 0) then (E d 149 0 [some (.ref s2), some (.int s1), some (.int s0)] [] h).bind fun r => E (d + 1) 233 246 [x0, x1, x2, x3] (r.1.toList ++ [s3]) r.2 else none := E_callg rfl
theorem s233_246 (d : Nat) (h : AH) (x0 x1 x2 x3 : Option Value) (s0 : Int32) (s1 : Int32) : E d 233 246 [x0, x1, x2, x3] [.int s0, .int s1] h = if s1 = s0 then E d 233 1068 [x0, x1, x2, x3] [] h else E d 233 247 [x0, x1, x2, x3] [] h := E_ifc rfl
theorem s233_247 (d : Nat) (h : AH) (x0 x1 x2 x3 : Option Value)  : E d 233 247 [x0, x1, x2, x3] [] h = E d 233 248 [x0, x1, x2, x3] [.int 0] h := E_nx rfl
theorem s233_248 (d : Nat) (h : AH) (x0 x1 x2 x3 : Option Value) (s0 : Int32) : E d 233 248 [x0, x1, x2, x3] [.int s0] h = if s0 = 0 ∨ s0 = 1 then some (some (.int s0), h) else none := E_retg rfl
theorem s233_249 (d : Nat) (h : AH) (x0 x2 x3 : Option Value) (v : Nat) : E d 233 249 [x0, some (.ref v), x2, x3] [] h = E d 233 250 [x0, some (.ref v), x2, x3] [.ref v] h := E_nx rfl
theorem s233_250 (d : Nat) (h : AH) (x1 x2 x3 : Option Value) (s0 : Value) (v : Nat) : E d 233 250 [some (.ref v), x1, x2, x3] [s0] h = E d 233 251 [some (.ref v), x1, x2, x3] [.ref v, s0] h := E_nx rfl
theorem s233_251 (d : Nat) (h : AH) (x0 x1 x2 : Option Value) (s0 : Value) (s1 : Value) (v : Int32) : E d 233 251 [x0, x1, x2, some (.int v)] [s0, s1] h = E d 233 252 [x0, x1, x2, some (.int v)] [.int v, s0, s1] h := E_nx rfl
theorem s233_252 (d : Nat) (h : AH) (x0 x1 x2 x3 : Option Value) (s0 : Value) (s1 : Value) (s2 : Value) : E d 233 252 [x0, x1, x2, x3] [s0, s1, s2] h = E d 233 253 [x0, x1, x2, x3] [.int 1, s0, s1, s2] h := E_nx rfl
theorem s233_253 (d : Nat) (h : AH) (x0 x1 x2 x3 : Option Value) (s0 : Int32) (s1 : Int32) (s2 : Value) (s3 : Value) : E d 233 253 [x0, x1, x2, x3] [.int s0, .int s1, s2, s3] h = E d 233 254 [x0, x1, x2, x3] [.int (s1 + s0), s2, s3] h := E_nx rfl
theorem s233_254 (d : Nat) (h : AH) (x0 x1 x2 x3 : Option Value) (s0 : Int32) (s1 : Nat) (s2 : Value) : E d 233 254 [x0, x1, x2, x3] [.int s0, .ref s1, s2] h = if inb s0 (alen h s1 0) = true ∨ inb s0 (alen h s1 8) = true then E d 233 255 [x0, x1, x2, x3] [.int (hI h s1 s0.toNatClampNeg), s2] h else none := E_gd rfl
theorem s233_255 (d : Nat) (h : AH) (x1 x2 x3 : Option Value) (s0 : Value) (s1 : Value) (v : Nat) : E d 233 255 [some (.ref v), x1, x2, x3] [s0, s1] h = E d 233 256 [some (.ref v), x1, x2, x3] [.ref v, s0, s1] h := E_nx rfl
theorem s233_256 (d : Nat) (h : AH) (x0 x1 x2 : Option Value) (s0 : Value) (s1 : Value) (s2 : Value) (v : Int32) : E d 233 256 [x0, x1, x2, some (.int v)] [s0, s1, s2] h = E d 233 257 [x0, x1, x2, some (.int v)] [.int v, s0, s1, s2] h := E_nx rfl
theorem s233_257 (d : Nat) (h : AH) (x0 x1 x2 x3 : Option Value) (s0 : Value) (s1 : Value) (s2 : Value) (s3 : Value) : E d 233 257 [x0, x1, x2, x3] [s0, s1, s2, s3] h = E d 233 258 [x0, x1, x2, x3] [.int 2, s0, s1, s2, s3] h := E_nx rfl
theorem s233_258 (d : Nat) (h : AH) (x0 x1 x2 x3 : Option Value) (s0 : Int32) (s1 : Int32) (s2 : Value) (s3 : Value) (s4 : Value) : E d 233 258 [x0, x1, x2, x3] [.int s0, .int s1, s2, s3, s4] h = E d 233 259 [x0, x1, x2, x3] [.int (s1 + s0), s2, s3, s4] h := E_nx rfl
theorem s233_259 (d : Nat) (h : AH) (x0 x1 x2 x3 : Option Value) (s0 : Int32) (s1 : Nat) (s2 : Value) (s3 : Value) : E d 233 259 [x0, x1, x2, x3] [.int s0, .ref s1, s2, s3] h = if inb s0 (alen h s1 0) = true ∨ inb s0 (alen h s1 8) = true then E d 233 260 [x0, x1, x2, x3] [.int (hI h s1 s0.toNatClampNeg), s2, s3] h else none := E_gd rfl
theorem s233_260 (d : Nat) (h : AH) (x0 x1 x2 x3 : Option Value) (s0 : Int32) (s1 : Int32) (s2 : Nat) : E (d + 1) 233 260 [x0, x1, x2, x3] [.int s0, .int s1, .ref s2] h = if hS h s2 = some (104, 0) then (E d 87 0 [some (.ref s2), some (.int s1), some (.int s0), none] [] h).bind fun r => E (d + 1) 233 261 [x0, x1, x2, x3] (r.1.toList ++ []) r.2 else none := E_callg rfl
theorem s233_261 (d : Nat) (h : AH) (x0 x1 x3 : Option Value) (s0 : Value) (v : Nat) : E d 233 261 [x0, x1, some (.ref v), x3] [s0] h = E d 233 262 [x0, x1, some (.ref v), x3] [.ref v, s0] h := E_nx rfl
theorem s233_262 (d : Nat) (h : AH) (x1 x2 x3 : Option Value) (s0 : Value) (s1 : Value) (v : Nat) : E d 233 262 [some (.ref v), x1, x2, x3] [s0, s1] h = E d 233 263 [some (.ref v), x1, x2, x3] [.ref v, s0, s1] h := E_nx rfl
theorem s233_263 (d : Nat) (h : AH) (x0 x1 x2 : Option Value) (s0 : Value) (s1 : Value) (s2 : Value) (v : Int32) : E d 233 263 [x0, x1, x2, some (.int v)] [s0, s1, s2] h = E d 233 264 [x0, x1, x2, some (.int v)] [.int v, s0, s1, s2] h := E_nx rfl
theorem s233_264 (d : Nat) (h : AH) (x0 x1 x2 x3 : Option Value) (s0 : Value) (s1 : Value) (s2 : Value) (s3 : Value) : E d 233 264 [x0, x1, x2, x3] [s0, s1, s2, s3] h = E d 233 265 [x0, x1, x2, x3] [.int 1, s0, s1, s2, s3] h := E_nx rfl
theorem s233_265 (d : Nat) (h : AH) (x0 x1 x2 x3 : Option Value) (s0 : Int32) (s1 : Int32) (s2 : Value) (s3 : Value) (s4 : Value) : E d 233 265 [x0, x1, x2, x3] [.int s0, .int s1, s2, s3, s4] h = E d 233 266 [x0, x1, x2, x3] [.int (s1 + s0), s2, s3, s4] h := E_nx rfl
theorem s233_266 (d : Nat) (h : AH) (x0 x1 x2 x3 : Option Value) (s0 : Int32) (s1 : Nat) (s2 : Value) (s3 : Value) : E d 233 266 [x0, x1, x2, x3] [.int s0, .ref s1, s2, s3] h = if inb s0 (alen h s1 0) = true ∨ inb s0 (alen h s1 8) = true then E d 233 267 [x0, x1, x2, x3] [.int (hI h s1 s0.toNatClampNeg), s2, s3] h else none := E_gd rfl
theorem s233_267 (d : Nat) (h : AH) (x1 x2 x3 : Option Value) (s0 : Value) (s1 : Value) (s2 : Value) (v : Nat) : E d 233 267 [some (.ref v), x1, x2, x3] [s0, s1, s2] h = E d 233 268 [some (.ref v), x1, x2, x3] [.ref v, s0, s1, s2] h := E_nx rfl
theorem s233_268 (d : Nat) (h : AH) (x0 x1 x2 : Option Value) (s0 : Value) (s1 : Value) (s2 : Value) (s3 : Value) (v : Int32) : E d 233 268 [x0, x1, x2, some (.int v)] [s0, s1, s2, s3] h = E d 233 269 [x0, x1, x2, some (.int v)] [.int v, s0, s1, s2, s3] h := E_nx rfl
theorem s233_269 (d : Nat) (h : AH) (x0 x1 x2 x3 : Option Value) (s0 : Value) (s1 : Value) (s2 : Value) (s3 : Value) (s4 : Value) : E d 233 269 [x0, x1, x2, x3] [s0, s1, s2, s3, s4] h = E d 233 270 [x0, x1, x2, x3] [.int 2, s0, s1, s2, s3, s4] h := E_nx rfl
theorem s233_270 (d : Nat) (h : AH) (x0 x1 x2 x3 : Option Value) (s0 : Int32) (s1 : Int32) (s2 : Value) (s3 : Value) (s4 : Value) (s5 : Value) : E d 233 270 [x0, x1, x2, x3] [.int s0, .int s1, s2, s3, s4, s5] h = E d 233 271 [x0, x1, x2, x3] [.int (s1 + s0), s2, s3, s4, s5] h := E_nx rfl
theorem s233_271 (d : Nat) (h : AH) (x0 x1 x2 x3 : Option Value) (s0 : Int32) (s1 : Nat) (s2 : Value) (s3 : Value) (s4 : Value) : E d 233 271 [x0, x1, x2, x3] [.int s0, .ref s1, s2, s3, s4] h = if inb s0 (alen h s1 0) = true ∨ inb s0 (alen h s1 8) = true then E d 233 272 [x0, x1, x2, x3] [.int (hI h s1 s0.toNatClampNeg), s2, s3, s4] h else none := E_gd rfl
theorem s233_272 (d : Nat) (h : AH) (x0 x1 x2 x3 : Option Value) (s0 : Int32) (s1 : Int32) (s2 : Nat) (s3 : Value) : E (d + 1) 233 272 [x0, x1, x2, x3] [.int s0, .int s1, .ref s2, s3] h = if hS h s2 = some (105, 0) then (E d 151 0 [some (.ref s2), some (.int s1), some (.int s0), none] [] h).bind fun r => E (d + 1) 233 273 [x0, x1, x2, x3] (r.1.toList ++ [s3]) r.2 else none := E_callg rfl
theorem s233_273 (d : Nat) (h : AH) (x0 x1 x2 x3 : Option Value) (s0 : Int32) (s1 : Int32) : E d 233 273 [x0, x1, x2, x3] [.int s0, .int s1] h = if s1 = s0 then E d 233 1068 [x0, x1, x2, x3] [] h else E d 233 274 [x0, x1, x2, x3] [] h := E_ifc rfl
theorem s233_274 (d : Nat) (h : AH) (x0 x1 x2 x3 : Option Value)  : E d 233 274 [x0, x1, x2, x3] [] h = E d 233 275 [x0, x1, x2, x3] [.int 0] h := E_nx rfl
theorem s233_275 (d : Nat) (h : AH) (x0 x1 x2 x3 : Option Value) (s0 : Int32) : E d 233 275 [x0, x1, x2, x3] [.int s0] h = if s0 = 0 ∨ s0 = 1 then some (some (.int s0), h) else none := E_retg rfl
theorem s233_276 (d : Nat) (h : AH) (x0 x2 x3 : Option Value) (v : Nat) : E d 233 276 [x0, some (.ref v), x2, x3] [] h = E d 233 277 [x0, some (.ref v), x2, x3] [.ref v] h := E_nx rfl
theorem s233_277 (d : Nat) (h : AH) (x1 x2 x3 : Option Value) (s0 : Value) (v : Nat) : E d 233 277 [some (.ref v), x1, x2, x3] [s0] h = E d 233 278 [some (.ref v), x1, x2, x3] [.ref v, s0] h := E_nx rfl
theorem s233_278 (d : Nat) (h : AH) (x0 x1 x2 : Option Value) (s0 : Value) (s1 : Value) (v : Int32) : E d 233 278 [x0, x1, x2, some (.int v)] [s0, s1] h = E d 233 279 [x0, x1, x2, some (.int v)] [.int v, s0, s1] h := E_nx rfl
theorem s233_279 (d : Nat) (h : AH) (x0 x1 x2 x3 : Option Value) (s0 : Value) (s1 : Value) (s2 : Value) : E d 233 279 [x0, x1, x2, x3] [s0, s1, s2] h = E d 233 280 [x0, x1, x2, x3] [.int 1, s0, s1, s2] h := E_nx rfl
theorem s233_280 (d : Nat) (h : AH) (x0 x1 x2 x3 : Option Value) (s0 : Int32) (s1 : Int32) (s2 : Value) (s3 : Value) : E d 233 280 [x0, x1, x2, x3] [.int s0, .int s1, s2, s3] h = E d 233 281 [x0, x1, x2, x3] [.int (s1 + s0), s2, s3] h := E_nx rfl
theorem s233_281 (d : Nat) (h : AH) (x0 x1 x2 x3 : Option Value) (s0 : Int32) (s1 : Nat) (s2 : Value) : E d 233 281 [x0, x1, x2, x3] [.int s0, .ref s1, s2] h = if inb s0 (alen h s1 0) = true ∨ inb s0 (alen h s1 8) = true then E d 233 282 [x0, x1, x2, x3] [.int (hI h s1 s0.toNatClampNeg), s2] h else none := E_gd rfl
theorem s233_282 (d : Nat) (h : AH) (x0 x1 x2 x3 : Option Value) (s0 : Int32) (s1 : Nat) : E (d + 1) 233 282 [x0, x1, x2, x3] [.int s0, .ref s1] h = if hS h s1 = some (104, 0) then (E d 89 0 [some (.ref s1), some (.int s0), none] [] h).bind fun r => E (d + 1) 233 283 [x0, x1, x2, x3] (r.1.toList ++ []) r.2 else none := E_callg rfl
theorem s233_283 (d : Nat) (h : AH) (x0 x1 x3 : Option Value) (s0 : Value) (v : Nat) : E d 233 283 [x0, x1, some (.ref v), x3] [s0] h = E d 233 284 [x0, x1, some (.ref v), x3] [.ref v, s0] h := E_nx rfl
theorem s233_284 (d : Nat) (h : AH) (x1 x2 x3 : Option Value) (s0 : Value) (s1 : Value) (v : Nat) : E d 233 284 [some (.ref v), x1, x2, x3] [s0, s1] h = E d 233 285 [some (.ref v), x1, x2, x3] [.ref v, s0, s1] h := E_nx rfl
theorem s233_285 (d : Nat) (h : AH) (x0 x1 x2 : Option Value) (s0 : Value) (s1 : Value) (s2 : Value) (v : Int32) : E d 233 285 [x0, x1, x2, some (.int v)] [s0, s1, s2] h = E d 233 286 [x0, x1, x2, some (.int v)] [.int v, s0, s1, s2] h := E_nx rfl
theorem s233_286 (d : Nat) (h : AH) (x0 x1 x2 x3 : Option Value) (s0 : Value) (s1 : Value) (s2 : Value) (s3 : Value) : E d 233 286 [x0, x1, x2, x3] [s0, s1, s2, s3] h = E d 233 287 [x0, x1, x2, x3] [.int 1, s0, s1, s2, s3] h := E_nx rfl
theorem s233_287 (d : Nat) (h : AH) (x0 x1 x2 x3 : Option Value) (s0 : Int32) (s1 : Int32) (s2 : Value) (s3 : Value) (s4 : Value) : E d 233 287 [x0, x1, x2, x3] [.int s0, .int s1, s2, s3, s4] h = E d 233 288 [x0, x1, x2, x3] [.int (s1 + s0), s2, s3, s4] h := E_nx rfl
theorem s233_288 (d : Nat) (h : AH) (x0 x1 x2 x3 : Option Value) (s0 : Int32) (s1 : Nat) (s2 : Value) (s3 : Value) : E d 233 288 [x0, x1, x2, x3] [.int s0, .ref s1, s2, s3] h = if inb s0 (alen h s1 0) = true ∨ inb s0 (alen h s1 8) = true then E d 233 289 [x0, x1, x2, x3] [.int (hI h s1 s0.toNatClampNeg), s2, s3] h else none := E_gd rfl
theorem s233_289 (d : Nat) (h : AH) (x0 x1 x2 x3 : Option Value) (s0 : Int32) (s1 : Nat) (s2 : Value) : E (d + 1) 233 289 [x0, x1, x2, x3] [.int s0, .ref s1, s2] h = if hS h s1 = some (105, 0) then (E d 152 0 [some (.ref s1), some (.int s0), none] [] h).bind fun r => E (d + 1) 233 290 [x0, x1, x2, x3] (r.1.toList ++ [s2]) r.2 else none := E_callg rfl
theorem s233_290 (d : Nat) (h : AH) (x0 x1 x2 x3 : Option Value) (s0 : Int32) (s1 : Int32) : E d 233 290 [x0, x1, x2, x3] [.int s0, .int s1] h = if s1 = s0 then E d 233 1068 [x0, x1, x2, x3] [] h else E d 233 291 [x0, x1, x2, x3] [] h := E_ifc rfl
theorem s233_291 (d : Nat) (h : AH) (x0 x1 x2 x3 : Option Value)  : E d 233 291 [x0, x1, x2, x3] [] h = E d 233 292 [x0, x1, x2, x3] [.int 0] h := E_nx rfl
theorem s233_292 (d : Nat) (h : AH) (x0 x1 x2 x3 : Option Value) (s0 : Int32) : E d 233 292 [x0, x1, x2, x3] [.int s0] h = if s0 = 0 ∨ s0 = 1 then some (some (.int s0), h) else none := E_retg rfl
theorem s233_293 (d : Nat) (h : AH) (x0 x2 x3 : Option Value) (v : Nat) : E d 233 293 [x0, some (.ref v), x2, x3] [] h = E d 233 294 [x0, some (.ref v), x2, x3] [.ref v] h := E_nx rfl
theorem s233_294 (d : Nat) (h : AH) (x1 x2 x3 : Option Value) (s0 : Value) (v : Nat) : E d 233 294 [some (.ref v), x1, x2, x3] [s0] h = E d 233 295 [some (.ref v), x1, x2, x3] [.ref v, s0] h := E_nx rfl
theorem s233_295 (d : Nat) (h : AH) (x0 x1 x2 : Option Value) (s0 : Value) (s1 : Value) (v : Int32) : E d 233 295 [x0, x1, x2, some (.int v)] [s0, s1] h = E d 233 296 [x0, x1, x2, some (.int v)] [.int v, s0, s1] h := E_nx rfl
theorem s233_296 (d : Nat) (h : AH) (x0 x1 x2 x3 : Option Value) (s0 : Value) (s1 : Value) (s2 : Value) : E d 233 296 [x0, x1, x2, x3] [s0, s1, s2] h = E d 233 297 [x0, x1, x2, x3] [.int 1, s0, s1, s2] h := E_nx rfl
theorem s233_297 (d : Nat) (h : AH) (x0 x1 x2 x3 : Option Value) (s0 : Int32) (s1 : Int32) (s2 : Value) (s3 : Value) : E d 233 297 [x0, x1, x2, x3] [.int s0, .int s1, s2, s3] h = E d 233 298 [x0, x1, x2, x3] [.int (s1 + s0), s2, s3] h := E_nx rfl
theorem s233_298 (d : Nat) (h : AH) (x0 x1 x2 x3 : Option Value) (s0 : Int32) (s1 : Nat) (s2 : Value) : E d 233 298 [x0, x1, x2, x3] [.int s0, .ref s1, s2] h = if inb s0 (alen h s1 0) = true ∨ inb s0 (alen h s1 8) = true then E d 233 299 [x0, x1, x2, x3] [.int (hI h s1 s0.toNatClampNeg), s2] h else none := E_gd rfl
theorem s233_299 (d : Nat) (h : AH) (x1 x2 x3 : Option Value) (s0 : Value) (s1 : Value) (v : Nat) : E d 233 299 [some (.ref v), x1, x2, x3] [s0, s1] h = E d 233 300 [some (.ref v), x1, x2, x3] [.ref v, s0, s1] h := E_nx rfl
theorem s233_300 (d : Nat) (h : AH) (x0 x1 x2 : Option Value) (s0 : Value) (s1 : Value) (s2 : Value) (v : Int32) : E d 233 300 [x0, x1, x2, some (.int v)] [s0, s1, s2] h = E d 233 301 [x0, x1, x2, some (.int v)] [.int v, s0, s1, s2] h := E_nx rfl
theorem s233_301 (d : Nat) (h : AH) (x0 x1 x2 x3 : Option Value) (s0 : Value) (s1 : Value) (s2 : Value) (s3 : Value) : E d 233 301 [x0, x1, x2, x3] [s0, s1, s2, s3] h = E d 233 302 [x0, x1, x2, x3] [.int 2, s0, s1, s2, s3] h := E_nx rfl
theorem s233_302 (d : Nat) (h : AH) (x0 x1 x2 x3 : Option Value) (s0 : Int32) (s1 : Int32) (s2 : Value) (s3 : Value) (s4 : Value) : E d 233 302 [x0, x1, x2, x3] [.int s0, .int s1, s2, s3, s4] h = E d 233 303 [x0, x1, x2, x3] [.int (s1 + s0), s2, s3, s4] h := E_nx rfl
theorem s233_303 (d : Nat) (h : AH) (x0 x1 x2 x3 : Option Value) (s0 : Int32) (s1 : Nat) (s2 : Value) (s3 : Value) : E d 233 303 [x0, x1, x2, x3] [.int s0, .ref s1, s2, s3] h = if inb s0 (alen h s1 0) = true ∨ inb s0 (alen h s1 8) = true then E d 233 304 [x0, x1, x2, x3] [.int (hI h s1 s0.toNatClampNeg), s2, s3] h else none := E_gd rfl
theorem s233_304 (d : Nat) (h : AH) (x0 x1 x2 x3 : Option Value) (s0 : Int32) (s1 : Int32) (s2 : Nat) : E (d + 1) 233 304 [x0, x1, x2, x3] [.int s0, .int s1, .ref s2] h = if hS h s2 = some (104, 0) then (E d 90 0 [some (.ref s2), some (.int s1), some (.int s0)] [] h).bind fun r => E (d + 1) 233 305 [x0, x1, x2, x3] (r.1.toList ++ []) r.2 else none := E_callg rfl
theorem s233_305 (d : Nat) (h : AH) (x0 x1 x3 : Option Value) (s0 : Value) (v : Nat) : E d 233 305 [x0, x1, some (.ref v), x3] [s0] h = E d 233 306 [x0, x1, some (.ref v), x3] [.ref v, s0] h := E_nx rfl
theorem s233_306 (d : Nat) (h : AH) (x1 x2 x3 : Option Value) (s0 : Value) (s1 : Value) (v : Nat) : E d 233 306 [some (.ref v), x1, x2, x3] [s0, s1] h = E d 233 307 [some (.ref v), x1, x2, x3] [.ref v, s0, s1] h := E_nx rfl
theorem s233_307 (d : Nat) (h : AH) (x0 x1 x2 : Option Value) (s0 : Value) (s1 : Value) (s2 : Value) (v : Int32) : E d 233 307 [x0, x1, x2, some (.int v)] [s0, s1, s2] h = E d 233 308 [x0, x1, x2, some (.int v)] [.int v, s0, s1, s2] h := E_nx rfl
theorem s233_308 (d : Nat) (h : AH) (x0 x1 x2 x3 : Option Value) (s0 : Value) (s1 : Value) (s2 : Value) (s3 : Value) : E d 233 308 [x0, x1, x2, x3] [s0, s1, s2, s3] h = E d 233 309 [x0, x1, x2, x3] [.int 1, s0, s1, s2, s3] h := E_nx rfl
theorem s233_309 (d : Nat) (h : AH) (x0 x1 x2 x3 : Option Value) (s0 : Int32) (s1 : Int32) (s2 : Value) (s3 : Value) (s4 : Value) : E d 233 309 [x0, x1, x2, x3] [.int s0, .int s1, s2, s3, s4] h = E d 233 310 [x0, x1, x2, x3] [.int (s1 + s0), s2, s3, s4] h := E_nx rfl
theorem s233_310 (d : Nat) (h : AH) (x0 x1 x2 x3 : Option Value) (s0 : Int32) (s1 : Nat) (s2 : Value) (s3 : Value) : E d 233 310 [x0, x1, x2, x3] [.int s0, .ref s1, s2, s3] h = if inb s0 (alen h s1 0) = true ∨ inb s0 (alen h s1 8) = true then E d 233 311 [x0, x1, x2, x3] [.int (hI h s1 s0.toNatClampNeg), s2, s3] h else none := E_gd rfl
theorem s233_311 (d : Nat) (h : AH) (x1 x2 x3 : Option Value) (s0 : Value) (s1 : Value) (s2 : Value) (v : Nat) : E d 233 311 [some (.ref v), x1, x2, x3] [s0, s1, s2] h = E d 233 312 [some (.ref v), x1, x2, x3] [.ref v, s0, s1, s2] h := E_nx rfl
theorem s233_312 (d : Nat) (h : AH) (x0 x1 x2 : Option Value) (s0 : Value) (s1 : Value) (s2 : Value) (s3 : Value) (v : Int32) : E d 233 312 [x0, x1, x2, some (.int v)] [s0, s1, s2, s3] h = E d 233 313 [x0, x1, x2, some (.int v)] [.int v, s0, s1, s2, s3] h := E_nx rfl
theorem s233_313 (d : Nat) (h : AH) (x0 x1 x2 x3 : Option Value) (s0 : Value) (s1 : Value) (s2 : Value) (s3 : Value) (s4 : Value) : E d 233 313 [x0, x1, x2, x3] [s0, s1, s2, s3, s4] h = E d 233 314 [x0, x1, x2, x3] [.int 2, s0, s1, s2, s3, s4] h := E_nx rfl
theorem s233_314 (d : Nat) (h : AH) (x0 x1 x2 x3 : Option Value) (s0 : Int32) (s1 : Int32) (s2 : Value) (s3 : Value) (s4 : Value) (s5 : Value) : E d 233 314 [x0, x1, x2, x3] [.int s0, .int s1, s2, s3, s4, s5] h = E d 233 315 [x0, x1, x2, x3] [.int (s1 + s0), s2, s3, s4, s5] h := E_nx rfl
theorem s233_315 (d : Nat) (h : AH) (x0 x1 x2 x3 : Option Value) (s0 : Int32) (s1 : Nat) (s2 : Value) (s3 : Value) (s4 : Value) : E d 233 315 [x0, x1, x2, x3] [.int s0, .ref s1, s2, s3, s4] h = if inb s0 (alen h s1 0) = true ∨ inb s0 (alen h s1 8) = true then E d 233 316 [x0, x1, x2, x3] [.int (hI h s1 s0.toNatClampNeg), s2, s3, s4] h else none := E_gd rfl
theorem s233_316 (d : Nat) (h : AH) (x0 x1 x2 x3 : Option Value) (s0 : Int32) (s1 : Int32) (s2 : Nat) (s3 : Value) : E (d + 1) 233 316 [x0, x1, x2, x3] [.int s0, .int s1, .ref s2, s3] h = if hS h s2 = some (105, 0) then (E d 154 0 [some (.ref s2), some (.int s1), some (.int s0)] [] h).bind fun r => E (d + 1) 233 317 [x0, x1, x2, x3] (r.1.toList ++ [s3]) r.2 else none := E_callg rfl
theorem s233_317 (d : Nat) (h : AH) (x0 x1 x2 x3 : Option Value) (s0 : Int32) (s1 : Int32) : E d 233 317 [x0, x1, x2, x3] [.int s0, .int s1] h = if s1 = s0 then E d 233 1068 [x0, x1, x2, x3] [] h else E d 233 318 [x0, x1, x2, x3] [] h := E_ifc rfl
theorem s233_318 (d : Nat) (h : AH) (x0 x1 x2 x3 : Option Value)  : E d 233 318 [x0, x1, x2, x3] [] h = E d 233 319 [x0, x1, x2, x3] [.int 0] h := E_nx rfl
theorem s233_319 (d : Nat) (h : AH) (x0 x1 x2 x3 : Option Value) (s0 : Int32) : E d 233 319 [x0, x1, x2, x3] [.int s0] h = if s0 = 0 ∨ s0 = 1 then some (some (.int s0), h) else none := E_retg rfl
theorem s233_320 (d : Nat) (h : AH) (x0 x2 x3 : Option Value) (v : Nat) : E d 233 320 [x0, some (.ref v), x2, x3] [] h = E d 233 321 [x0, some (.ref v), x2, x3] [.ref v] h := E_nx rfl
theorem s233_321 (d : Nat) (h : AH) (x1 x2 x3 : Option Value) (s0 : Value) (v : Nat) : E d 233 321 [some (.ref v), x1, x2, x3] [s0] h = E d 233 322 [some (.ref v), x1, x2, x3] [.ref v, s0] h := E_nx rfl
theorem s233_322 (d : Nat) (h : AH) (x0 x1 x2 : Option Value) (s0 : Value) (s1 : Value) (v : Int32) : E d 233 322 [x0, x1, x2, some (.int v)] [s0, s1] h = E d 233 323 [x0, x1, x2, some (.int v)] [.int v, s0, s1] h := E_nx rfl
theorem s233_323 (d : Nat) (h : AH) (x0 x1 x2 x3 : Option Value) (s0 : Value) (s1 : Value) (s2 : Value) : E d 233 323 [x0, x1, x2, x3] [s0, s1, s2] h = E d 233 324 [x0, x1, x2, x3] [.int 1, s0, s1, s2] h := E_nx rfl
theorem s233_324 (d : Nat) (h : AH) (x0 x1 x2 x3 : Option Value) (s0 : Int32) (s1 : Int32) (s2 : Value) (s3 : Value) : E d 233 324 [x0, x1, x2, x3] [.int s0, .int s1, s2, s3] h = E d 233 325 [x0, x1, x2, x3] [.int (s1 + s0), s2, s3] h := E_nx rfl
theorem s233_325 (d : Nat) (h : AH) (x0 x1 x2 x3 : Option Value) (s0 : Int32) (s1 : Nat) (s2 : Value) : E d 233 325 [x0, x1, x2, x3] [.int s0, .ref s1, s2] h = if inb s0 (alen h s1 0) = true ∨ inb s0 (alen h s1 8) = true then E d 233 326 [x0, x1, x2, x3] [.int (hI h s1 s0.toNatClampNeg), s2] h else none := E_gd rfl
theorem s233_326 (d : Nat) (h : AH) (x0 x1 x2 x3 : Option Value) (s0 : Int32) (s1 : Nat) : E (d + 1) 233 326 [x0, x1, x2, x3] [.int s0, .ref s1] h = if hS h s1 = some (104, 0) then (E d 91 0 [some (.ref s1), some (.int s0)] [] h).bind fun r => E (d + 1) 233 327 [x0, x1, x2, x3] (r.1.toList ++ []) r.2 else none := E_callg rfl
theorem s233_327 (d : Nat) (h : AH) (x0 x1 x3 : Option Value) (s0 : Value) (v : Nat) : E d 233 327 [x0, x1, some (.ref v), x3] [s0] h = E d 233 328 [x0, x1, some (.ref v), x3] [.ref v, s0] h := E_nx rfl
theorem s233_328 (d : Nat) (h : AH) (x1 x2 x3 : Option Value) (s0 : Value) (s1 : Value) (v : Nat) : E d 233 328 [some (.ref v), x1, x2, x3] [s0, s1] h = E d 233 329 [some (.ref v), x1, x2, x3] [.ref v, s0, s1] h := E_nx rfl
theorem s233_329 (d : Nat) (h : AH) (x0 x1 x2 : Option Value) (s0 : Value) (s1 : Value) (s2 : Value) (v : Int32) : E d 233 329 [x0, x1, x2, some (.int v)] [s0, s1, s2] h = E d 233 330 [x0, x1, x2, some (.int v)] [.int v, s0, s1, s2] h := E_nx rfl
theorem s233_330 (d : Nat) (h : AH) (x0 x1 x2 x3 : Option Value) (s0 : Value) (s1 : Value) (s2 : Value) (s3 : Value) : E d 233 330 [x0, x1, x2, x3] [s0, s1, s2, s3] h = E d 233 331 [x0, x1, x2, x3] [.int 1, s0, s1, s2, s3] h := E_nx rfl
theorem s233_331 (d : Nat) (h : AH) (x0 x1 x2 x3 : Option Value) (s0 : Int32) (s1 : Int32) (s2 : Value) (s3 : Value) (s4 : Value) : E d 233 331 [x0, x1, x2, x3] [.int s0, .int s1, s2, s3, s4] h = E d 233 332 [x0, x1, x2, x3] [.int (s1 + s0), s2, s3, s4] h := E_nx rfl
theorem s233_332 (d : Nat) (h : AH) (x0 x1 x2 x3 : Option Value) (s0 : Int32) (s1 : Nat) (s2 : Value) (s3 : Value) : E d 233 332 [x0, x1, x2, x3] [.int s0, .ref s1, s2, s3] h = if inb s0 (alen h s1 0) = true ∨ inb s0 (alen h s1 8) = true then E d 233 333 [x0, x1, x2, x3] [.int (hI h s1 s0.toNatClampNeg), s2, s3] h else none := E_gd rfl
theorem s233_333 (d : Nat) (h : AH) (x0 x1 x2 x3 : Option Value) (s0 : Int32) (s1 : Nat) (s2 : Value) : E (d + 1) 233 333 [x0, x1, x2, x3] [.int s0, .ref s1, s2] h = if hS h s1 = some (105, 0) then (E d 156 0 [some (.ref s1), some (.int s0)] [] h).bind fun r => E (d + 1) 233 334 [x0, x1, x2, x3] (r.1.toList ++ [s2]) r.2 else none := E_callg rfl
theorem s233_334 (d : Nat) (h : AH) (x0 x1 x2 x3 : Option Value) (s0 : Int32) (s1 : Int32) : E d 233 334 [x0, x1, x2, x3] [.int s0, .int s1] h = if s1 = s0 then E d 233 1068 [x0, x1, x2, x3] [] h else E d 233 335 [x0, x1, x2, x3] [] h := E_ifc rfl
theorem s233_335 (d : Nat) (h : AH) (x0 x1 x2 x3 : Option Value)  : E d 233 335 [x0, x1, x2, x3] [] h = E d 233 336 [x0, x1, x2, x3] [.int 0] h := E_nx rfl
theorem s233_336 (d : Nat) (h : AH) (x0 x1 x2 x3 : Option Value) (s0 : Int32) : E d 233 336 [x0, x1, x2, x3] [.int s0] h = if s0 = 0 ∨ s0 = 1 then some (some (.int s0), h) else none := E_retg rfl
theorem s233_337 (d : Nat) (h : AH) (x0 x2 x3 : Option Value) (v : Nat) : E d 233 337 [x0, some (.ref v), x2, x3] [] h = E d 233 338 [x0, some (.ref v), x2, x3] [.ref v] h := E_nx rfl
theorem s233_338 (d : Nat) (h : AH) (x1 x2 x3 : Option Value) (s0 : Value) (v : Nat) : E d 233 338 [some (.ref v), x1, x2, x3] [s0] h = E d 233 339 [some (.ref v), x1, x2, x3] [.ref v, s0] h := E_nx rfl
theorem s233_339 (d : Nat) (h : AH) (x0 x1 x2 : Option Value) (s0 : Value) (s1 : Value) (v : Int32) : E d 233 339 [x0, x1, x2, some (.int v)] [s0, s1] h = E d 233 340 [x0, x1, x2, some (.int v)] [.int v, s0, s1] h := E_nx rfl
theorem s233_340 (d : Nat) (h : AH) (x0 x1 x2 x3 : Option Value) (s0 : Value) (s1 : Value) (s2 : Value) : E d 233 340 [x0, x1, x2, x3] [s0, s1, s2] h = E d 233 341 [x0, x1, x2, x3] [.int 1, s0, s1, s2] h := E_nx rfl
theorem s233_341 (d : Nat) (h : AH) (x0 x1 x2 x3 : Option Value) (s0 : Int32) (s1 : Int32) (s2 : Value) (s3 : Value) : E d 233 341 [x0, x1, x2, x3] [.int s0, .int s1, s2, s3] h = E d 233 342 [x0, x1, x2, x3] [.int (s1 + s0), s2, s3] h := E_nx rfl
theorem s233_342 (d : Nat) (h : AH) (x0 x1 x2 x3 : Option Value) (s0 : Int32) (s1 : Nat) (s2 : Value) : E d 233 342 [x0, x1, x2, x3] [.int s0, .ref s1, s2] h = if inb s0 (alen h s1 0) = true ∨ inb s0 (alen h s1 8) = true then E d 233 343 [x0, x1, x2, x3] [.int (hI h s1 s0.toNatClampNeg), s2] h else none := E_gd rfl
theorem s233_343 (d : Nat) (h : AH) (x1 x2 x3 : Option Value) (s0 : Value) (s1 : Value) (v : Nat) : E d 233 343 [some (.ref v), x1, x2, x3] [s0, s1] h = E d 233 344 [some (.ref v), x1, x2, x3] [.ref v, s0, s1] h := E_nx rfl
theorem s233_344 (d : Nat) (h : AH) (x0 x1 x2 : Option Value) (s0 : Value) (s1 : Value) (s2 : Value) (v : Int32) : E d 233 344 [x0, x1, x2, some (.int v)] [s0, s1, s2] h = E d 233 345 [x0, x1, x2, some (.int v)] [.int v, s0, s1, s2] h := E_nx rfl
theorem s233_345 (d : Nat) (h : AH) (x0 x1 x2 x3 : Option Value) (s0 : Value) (s1 : Value) (s2 : Value) (s3 : Value) : E d 233 345 [x0, x1, x2, x3] [s0, s1, s2, s3] h = E d 233 346 [x0, x1, x2, x3] [.int 2, s0, s1, s2, s3] h := E_nx rfl
theorem s233_346 (d : Nat) (h : AH) (x0 x1 x2 x3 : Option Value) (s0 : Int32) (s1 : Int32) (s2 : Value) (s3 : Value) (s4 : Value) : E d 233 346 [x0, x1, x2, x3] [.int s0, .int s1, s2, s3, s4] h = E d 233 347 [x0, x1, x2, x3] [.int (s1 + s0), s2, s3, s4] h := E_nx rfl
theorem s233_347 (d : Nat) (h : AH) (x0 x1 x2 x3 : Option Value) (s0 : Int32) (s1 : Nat) (s2 : Value) (s3 : Value) : E d 233 347 [x0, x1, x2, x3] [.int s0, .ref s1, s2, s3] h = if inb s0 (alen h s1 0) = true ∨ inb s0 (alen h s1 8) = true then E d 233 348 [x0, x1, x2, x3] [.int (hI h s1 s0.toNatClampNeg), s2, s3] h else none := E_gd rfl
theorem s233_348 (d : Nat) (h : AH) (x0 x1 x2 x3 : Option Value) (s0 : Int32) (s1 : Int32) (s2 : Nat) : E (d + 1) 233 348 [x0, x1, x2, x3] [.int s0, .int s1, .ref s2] h = if hS h s2 = some (104, 0) then (E d 92 0 [some (.ref s2), some (.int s1), some (.int s0), none] [] h).bind fun r => E (d + 1) 233 349 [x0, x1, x2, x3] (r.1.toList ++ []) r.2 else none := E_callg rfl
theorem s233_349 (d : Nat) (h : AH) (x0 x1 x3 : Option Value) (s0 : Value) (v : Nat) : E d 233 349 [x0, x1, some (.ref v), x3] [s0] h = E d 233 350 [x0, x1, some (.ref v), x3] [.ref v, s0] h := E_nx rfl
theorem s233_350 (d : Nat) (h : AH) (x1 x2 x3 : Option Value) (s0 : Value) (s1 : Value) (v : Nat) : E d 233 350 [some (.ref v), x1, x2, x3] [s0, s1] h = E d 233 351 [some (.ref v), x1, x2, x3] [.ref v, s0, s1] h := E_nx rfl
theorem s233_351 (d : Nat) (h : AH) (x0 x1 x2 : Option Value) (s0 : Value) (s1 : Value) (s2 : Value) (v : Int32) : E d 233 351 [x0, x1, x2, some (.int v)] [s0, s1, s2] h = E d 233 352 [x0, x1, x2, some (.int v)] [.int v, s0, s1, s2] h := E_nx rfl
theorem s233_352 (d : Nat) (h : AH) (x0 x1 x2 x3 : Option Value) (s0 : Value) (s1 : Value) (s2 : Value) (s3 : Value) : E d 233 352 [x0, x1, x2, x3] [s0, s1, s2, s3] h = E d 233 353 [x0, x1, x2, x3] [.int 1, s0, s1, s2, s3] h := E_nx rfl
theorem s233_353 (d : Nat) (h : AH) (x0 x1 x2 x3 : Option Value) (s0 : Int32) (s1 : Int32) (s2 : Value) (s3 : Value) (s4 : Value) : E d 233 353 [x0, x1, x2, x3] [.int s0, .int s1, s2, s3, s4] h = E d 233 354 [x0, x1, x2, x3] [.int (s1 + s0), s2, s3, s4] h := E_nx rfl
theorem s233_354 (d : Nat) (h : AH) (x0 x1 x2 x3 : Option Value) (s0 : Int32) (s1 : Nat) (s2 : Value) (s3 : Value) : E d 233 354 [x0, x1, x2, x3] [.int s0, .ref s1, s2, s3] h = if inb s0 (alen h s1 0) = true ∨ inb s0 (alen h s1 8) = true then E d 233 355 [x0, x1, x2, x3] [.int (hI h s1 s0.toNatClampNeg), s2, s3] h else none := E_gd rfl
theorem s233_355 (d : Nat) (h : AH) (x1 x2 x3 : Option Value) (s0 : Value) (s1 : Value) (s2 : Value) (v : Nat) : E d 233 355 [some (.ref v), x1, x2, x3] [s0, s1, s2] h = E d 233 356 [some (.ref v), x1, x2, x3] [.ref v, s0, s1, s2] h := E_nx rfl
theorem s233_356 (d : Nat) (h : AH) (x0 x1 x2 : Option Value) (s0 : Value) (s1 : Value) (s2 : Value) (s3 : Value) (v : Int32) : E d 233 356 [x0, x1, x2, some (.int v)] [s0, s1, s2, s3] h = E d 233 357 [x0, x1, x2, some (.int v)] [.int v, s0, s1, s2, s3] h := E_nx rfl
theorem s233_357 (d : Nat) (h : AH) (x0 x1 x2 x3 : Option Value) (s0 : Value) (s1 : Value) (s2 : Value) (s3 : Value) (s4 : Value) : E d 233 357 [x0, x1, x2, x3] [s0, s1, s2, s3, s4] h = E d 233 358 [x0, x1, x2, x3] [.int 2, s0, s1, s2, s3, s4] h := E_nx rfl
theorem s233_358 (d : Nat) (h : AH) (x0 x1 x2 x3 : Option Value) (s0 : Int32) (s1 : Int32) (s2 : Value) (s3 : Value) (s4 : Value) (s5 : Value) : E d 233 358 [x0, x1, x2, x3] [.int s0, .int s1, s2, s3, s4, s5] h = E d 233 359 [x0, x1, x2, x3] [.int (s1 + s0), s2, s3, s4, s5] h := E_nx rfl
theorem s233_359 (d : Nat) (h : AH) (x0 x1 x2 x3 : Option Value) (s0 : Int32) (s1 : Nat) (s2 : Value) (s3 : Value) (s4 : Value) : E d 233 359 [x0, x1, x2, x3] [.int s0, .ref s1, s2, s3, s4] h = if inb s0 (alen h s1 0) = true ∨ inb s0 (alen h s1 8) = true then E d 233 360 [x0, x1, x2, x3] [.int (hI h s1 s0.toNatClampNeg), s2, s3, s4] h else none := E_gd rfl
theorem s233_360 (d : Nat) (h : AH) (x0 x1 x2 x3 : Option Value) (s0 : Int32) (s1 : Int32) (s2 : Nat) (s3 : Value) : E (d + 1) 233 360 [x0, x1, x2, x3] [.int s0, .int s1, .ref s2, s3] h = if hS h s2 = some (105, 0) then (E d 157 0 [some (.ref s2), some (.int s1), some (.int s0), none] [] h).bind fun r => E (d + 1) 233 361 [x0, x1, x2, x3] (r.1.toList ++ [s3]) r.2 else none := E_callg rfl
theorem s233_361 (d : Nat) (h : AH) (x0 x1 x2 x3 : Option Value) (s0 : Int32) (s1 : Int32) : E d 233 361 [x0, x1, x2, x3] [.int s0, .int s1] h = if s1 = s0 then E d 233 1068 [x0, x1, x2, x3] [] h else E d 233 362 [x0, x1, x2, x3] [] h := E_ifc rfl
theorem s233_362 (d : Nat) (h : AH) (x0 x1 x2 x3 : Option Value)  : E d 233 362 [x0, x1, x2, x3] [] h = E d 233 363 [x0, x1, x2, x3] [.int 0] h := E_nx rfl
theorem s233_363 (d : Nat) (h : AH) (x0 x1 x2 x3 : Option Value) (s0 : Int32) : E d 233 363 [x0, x1, x2, x3] [.int s0] h = if s0 = 0 ∨ s0 = 1 then some (some (.int s0), h) else none := E_retg rfl
theorem s233_364 (d : Nat) (h : AH) (x0 x2 x3 : Option Value) (v : Nat) : E d 233 364 [x0, some (.ref v), x2, x3] [] h = E d 233 365 [x0, some (.ref v), x2, x3] [.ref v] h := E_nx rfl
theorem s233_365 (d : Nat) (h : AH) (x1 x2 x3 : Option Value) (s0 : Value) (v : Nat) : E d 233 365 [some (.ref v), x1, x2, x3] [s0] h = E d 233 366 [some (.ref v), x1, x2, x3] [.ref v, s0] h := E_nx rfl
theorem s233_366 (d : Nat) (h : AH) (x0 x1 x2 : Option Value) (s0 : Value) (s1 : Value) (v : Int32) : E d 233 366 [x0, x1, x2, some (.int v)] [s0, s1] h = E d 233 367 [x0, x1, x2, some (.int v)] [.int v, s0, s1] h := E_nx rfl
theorem s233_367 (d : Nat) (h : AH) (x0 x1 x2 x3 : Option Value) (s0 : Value) (s1 : Value) (s2 : Value) : E d 233 367 [x0, x1, x2, x3] [s0, s1, s2] h = E d 233 368 [x0, x1, x2, x3] [.int 1, s0, s1, s2] h := E_nx rfl
theorem s233_368 (d : Nat) (h : AH) (x0 x1 x2 x3 : Option Value) (s0 : Int32) (s1 : Int32) (s2 : Value) (s3 : Value) : E d 233 368 [x0, x1, x2, x3] [.int s0, .int s1, s2, s3] h = E d 233 369 [x0, x1, x2, x3] [.int (s1 + s0), s2, s3] h := E_nx rfl
theorem s233_369 (d : Nat) (h : AH) (x0 x1 x2 x3 : Option Value) (s0 : Int32) (s1 : Nat) (s2 : Value) : E d 233 369 [x0, x1, x2, x3] [.int s0, .ref s1, s2] h = if inb s0 (alen h s1 0) = true ∨ inb s0 (alen h s1 8) = true then E d 233 370 [x0, x1, x2, x3] [.int (hI h s1 s0.toNatClampNeg), s2] h else none := E_gd rfl
theorem s233_370 (d : Nat) (h : AH) (x1 x2 x3 : Option Value) (s0 : Value) (s1 : Value) (v : Nat) : E d 233 370 [some (.ref v), x1, x2, x3] [s0, s1] h = E d 233 371 [some (.ref v), x1, x2, x3] [.ref v, s0, s1] h := E_nx rfl
theorem s233_371 (d : Nat) (h : AH) (x0 x1 x2 : Option Value) (s0 : Value) (s1 : Value) (s2 : Value) (v : Int32) : E d 233 371 [x0, x1, x2, some (.int v)] [s0, s1, s2] h = E d 233 372 [x0, x1, x2, some (.int v)] [.int v, s0, s1, s2] h := E_nx rfl
theorem s233_372 (d : Nat) (h : AH) (x0 x1 x2 x3 : Option Value) (s0 : Value) (s1 : Value) (s2 : Value) (s3 : Value) : E d 233 372 [x0, x1, x2, x3] [s0, s1, s2, s3] h = E d 233 373 [x0, x1, x2, x3] [.int 2, s0, s1, s2, s3] h := E_nx rfl
theorem s233_373 (d : Nat) (h : AH) (x0 x1 x2 x3 : Option Value) (s0 : Int32) (s1 : Int32) (s2 : Value) (s3 : Value) (s4 : Value) : E d 233 373 [x0, x1, x2, x3] [.int s0, .int s1, s2, s3, s4] h = E d 233 374 [x0, x1, x2, x3] [.int (s1 + s0), s2, s3, s4] h := E_nx rfl
theorem s233_374 (d : Nat) (h : AH) (x0 x1 x2 x3 : Option Value) (s0 : Int32) (s1 : Nat) (s2 : Value) (s3 : Value) : E d 233 374 [x0, x1, x2, x3] [.int s0, .ref s1, s2, s3] h = if inb s0 (alen h s1 0) = true ∨ inb s0 (alen h s1 8) = true then E d 233 375 [x0, x1, x2, x3] [.int (hI h s1 s0.toNatClampNeg), s2, s3] h else none := E_gd rfl
theorem s233_375 (d : Nat) (h : AH) (x0 x1 x2 x3 : Option Value) (s0 : Int32) (s1 : Int32) (s2 : Nat) : E (d + 1) 233 375 [x0, x1, x2, x3] [.int s0, .int s1, .ref s2] h = if hS h s2 = some (104, 0) then (E d 93 0 [some (.ref s2), some (.int s1), some (.int s0), none] [] h).bind fun r => E (d + 1) 233 376 [x0, x1, x2, x3] (r.1.toList ++ []) r.2 else none := E_callg rfl
theorem s233_376 (d : Nat) (h : AH) (x0 x1 x3 : Option Value) (s0 : Value) (v : Nat) : E d 233 376 [x0, x1, some (.ref v), x3] [s0] h = E d 233 377 [x0, x1, some (.ref v), x3] [.ref v, s0] h := E_nx rfl
theorem s233_377 (d : Nat) (h : AH) (x1 x2 x3 : Option Value) (s0 : Value) (s1 : Value) (v : Nat) : E d 233 377 [some (.ref v), x1, x2, x3] [s0, s1] h = E d 233 378 [some (.ref v), x1, x2, x3] [.ref v, s0, s1] h := E_nx rfl
theorem s233_378 (d : Nat) (h : AH) (x0 x1 x2 : Option Value) (s0 : Value) (s1 : Value) (s2 : Value) (v : Int32) : E d 233 378 [x0, x1, x2, some (.int v)] [s0, s1, s2] h = E d 233 379 [x0, x1, x2, some (.int v)] [.int v, s0, s1, s2] h := E_nx rfl
theorem s233_379 (d : Nat) (h : AH) (x0 x1 x2 x3 : Option Value) (s0 : Value) (s1 : Value) (s2 : Value) (s3 : Value) : E d 233 379 [x0, x1, x2, x3] [s0, s1, s2, s3] h = E d 233 380 [x0, x1, x2, x3] [.int 1, s0, s1, s2, s3] h := E_nx rfl
theorem s233_380 (d : Nat) (h : AH) (x0 x1 x2 x3 : Option Value) (s0 : Int32) (s1 : Int32) (s2 : Value) (s3 : Value) (s4 : Value) : E d 233 380 [x0, x1, x2, x3] [.int s0, .int s1, s2, s3, s4] h = E d 233 381 [x0, x1, x2, x3] [.int (s1 + s0), s2, s3, s4] h := E_nx rfl
theorem s233_381 (d : Nat) (h : AH) (x0 x1 x2 x3 : Option Value) (s0 : Int32) (s1 : Nat) (s2 : Value) (s3 : Value) : E d 233 381 [x0, x1, x2, x3] [.int s0, .ref s1, s2, s3] h = if inb s0 (alen h s1 0) = true ∨ inb s0 (alen h s1 8) = true then E d 233 382 [x0, x1, x2, x3] [.int (hI h s1 s0.toNatClampNeg), s2, s3] h else none := E_gd rfl
theorem s233_382 (d : Nat) (h : AH) (x1 x2 x3 : Option Value) (s0 : Value) (s1 : Value) (s2 : Value) (v : Nat) : E d 233 382 [some (.ref v), x1, x2, x3] [s0, s1, s2] h = E d 233 383 [some (.ref v), x1, x2, x3] [.ref v, s0, s1, s2] h := E_nx rfl
theorem s233_383 (d : Nat) (h : AH) (x0 x1 x2 : Option Value) (s0 : Value) (s1 : Value) (s2 : Value) (s3 : Value) (v : Int32) : E d 233 383 [x0, x1, x2, some (.int v)] [s0, s1, s2, s3] h = E d 233 384 [x0, x1, x2, some (.int v)] [.int v, s0, s1, s2, s3] h := E_nx rfl
theorem s233_384 (d : Nat) (h : AH) (x0 x1 x2 x3 : Option Value) (s0 : Value) (s1 : Value) (s2 : Value) (s3 : Value) (s4 : Value) : E d 233 384 [x0, x1, x2, x3] [s0, s1, s2, s3, s4] h = E d 233 385 [x0, x1, x2, x3] [.int 2, s0, s1, s2, s3, s4] h := E_nx rfl
theorem s233_385 (d : Nat) (h : AH) (x0 x1 x2 x3 : Option Value) (s0 : Int32) (s1 : Int32) (s2 : Value) (s3 : Value) (s4 : Value) (s5 : Value) : E d 233 385 [x0, x1, x2, x3] [.int s0, .int s1, s2, s3, s4, s5] h = E d 233 386 [x0, x1, x2, x3] [.int (s1 + s0), s2, s3, s4, s5] h := E_nx rfl
theorem s233_386 (d : Nat) (h : AH) (x0 x1 x2 x3 : Option Value) (s0 : Int32) (s1 : Nat) (s2 : Value) (s3 : Value) (s4 : Value) : E d 233 386 [x0, x1, x2, x3] [.int s0, .ref s1, s2, s3, s4] h = if inb s0 (alen h s1 0) = true ∨ inb s0 (alen h s1 8) = true then E d 233 387 [x0, x1, x2, x3] [.int (hI h s1 s0.toNatClampNeg), s2, s3, s4] h else none := E_gd rfl
theorem s233_387 (d : Nat) (h : AH) (x0 x1 x2 x3 : Option Value) (s0 : Int32) (s1 : Int32) (s2 : Nat) (s3 : Value) : E (d + 1) 233 387 [x0, x1, x2, x3] [.int s0, .int s1, .ref s2, s3] h = if hS h s2 = some (105, 0) then (E d 158 0 [some (.ref s2), some (.int s1), some (.int s0), none] [] h).bind fun r => E (d + 1) 233 388 [x0, x1, x2, x3] (r.1.toList ++ [s3]) r.2 else none := E_callg rfl
theorem s233_388 (d : Nat) (h : AH) (x0 x1 x2 x3 : Option Value) (s0 : Int32) (s1 : Int32) : E d 233 388 [x0, x1, x2, x3] [.int s0, .int s1] h = if s1 = s0 then E d 233 1068 [x0, x1, x2, x3] [] h else E d 233 389 [x0, x1, x2, x3] [] h := E_ifc rfl
theorem s233_389 (d : Nat) (h : AH) (x0 x1 x2 x3 : Option Value)  : E d 233 389 [x0, x1, x2, x3] [] h = E d 233 390 [x0, x1, x2, x3] [.int 0] h := E_nx rfl
theorem s233_390 (d : Nat) (h : AH) (x0 x1 x2 x3 : Option Value) (s0 : Int32) : E d 233 390 [x0, x1, x2, x3] [.int s0] h = if s0 = 0 ∨ s0 = 1 then some (some (.int s0), h) else none := E_retg rfl
theorem s233_391 (d : Nat) (h : AH) (x0 x2 x3 : Option Value) (v : Nat) : E d 233 391 [x0, some (.ref v), x2, x3] [] h = E d 233 392 [x0, some (.ref v), x2, x3] [.ref v] h := E_nx rfl
theorem s233_392 (d : Nat) (h : AH) (x1 x2 x3 : Option Value) (s0 : Value) (v : Nat) : E d 233 392 [some (.ref v), x1, x2, x3] [s0] h = E d 233 393 [some (.ref v), x1, x2, x3] [.ref v, s0] h := E_nx rfl
theorem s233_393 (d : Nat) (h : AH) (x0 x1 x2 : Option Value) (s0 : Value) (s1 : Value) (v : Int32) : E d 233 393 [x0, x1, x2, some (.int v)] [s0, s1] h = E d 233 394 [x0, x1, x2, some (.int v)] [.int v, s0, s1] h := E_nx rfl
theorem s233_394 (d : Nat) (h : AH) (x0 x1 x2 x3 : Option Value) (s0 : Value) (s1 : Value) (s2 : Value) : E d 233 394 [x0, x1, x2, x3] [s0, s1, s2] h = E d 233 395 [x0, x1, x2, x3] [.int 1, s0, s1, s2] h := E_nx rfl
theorem s233_395 (d : Nat) (h : AH) (x0 x1 x2 x3 : Option Value) (s0 : Int32) (s1 : Int32) (s2 : Value) (s3 : Value) : E d 233 395 [x0, x1, x2, x3] [.int s0, .int s1, s2, s3] h = E d 233 396 [x0, x1, x2, x3] [.int (s1 + s0), s2, s3] h := E_nx rfl
theorem s233_396 (d : Nat) (h : AH) (x0 x1 x2 x3 : Option Value) (s0 : Int32) (s1 : Nat) (s2 : Value) : E d 233 396 [x0, x1, x2, x3] [.int s0, .ref s1, s2] h = if inb s0 (alen h s1 0) = true ∨ inb s0 (alen h s1 8) = true then E d 233 397 [x0, x1, x2, x3] [.int (hI h s1 s0.toNatClampNeg), s2] h else none := E_gd rfl
theorem s233_397 (d : Nat) (h : AH) (x1 x2 x3 : Option Value) (s0 : Value) (s1 : Value) (v : Nat) : E d 233 397 [some (.ref v), x1, x2, x3] [s0, s1] h = E d 233 398 [some (.ref v), x1, x2, x3] [.ref v, s0, s1] h := E_nx rfl
theorem s233_398 (d : Nat) (h : AH) (x0 x1 x2 : Option Value) (s0 : Value) (s1 : Value) (s2 : Value) (v : Int32) : E d 233 398 [x0, x1, x2, some (.int v)] [s0, s1, s2] h = E d 233 399 [x0, x1, x2, some (.int v)] [.int v, s0, s1, s2] h := E_nx rfl
theorem s233_399 (d : Nat) (h : AH) (x0 x1 x2 x3 : Option Value) (s0 : Value) (s1 : Value) (s2 : Value) (s3 : Value) : E d 233 399 [x0, x1, x2, x3] [s0, s1, s2, s3] h = E d 233 400 [x0, x1, x2, x3] [.int 2, s0, s1, s2, s3] h := E_nx rfl
theorem s233_400 (d : Nat) (h : AH) (x0 x1 x2 x3 : Option Value) (s0 : Int32) (s1 : Int32) (s2 : Value) (s3 : Value) (s4 : Value) : E d 233 400 [x0, x1, x2, x3] [.int s0, .int s1, s2, s3, s4] h = E d 233 401 [x0, x1, x2, x3] [.int (s1 + s0), s2, s3, s4] h := E_nx rfl
theorem s233_401 (d : Nat) (h : AH) (x0 x1 x2 x3 : Option Value) (s0 : Int32) (s1 : Nat) (s2 : Value) (s3 : Value) : E d 233 401 [x0, x1, x2, x3] [.int s0, .ref s1, s2, s3] h = if inb s0 (alen h s1 0) = true ∨ inb s0 (alen h s1 8) = true then E d 233 402 [x0, x1, x2, x3] [.int (hI h s1 s0.toNatClampNeg), s2, s3] h else none := E_gd rfl
theorem s233_402 (d : Nat) (h : AH) (x1 x2 x3 : Option Value) (s0 : Value) (s1 : Value) (s2 : Value) (v : Nat) : E d 233 402 [some (.ref v), x1, x2, x3] [s0, s1, s2] h = E d 233 403 [some (.ref v), x1, x2, x3] [.ref v, s0, s1, s2] h := E_nx rfl
theorem s233_403 (d : Nat) (h : AH) (x0 x1 x2 : Option Value) (s0 : Value) (s1 : Value) (s2 : Value) (s3 : Value) (v : Int32) : E d 233 403 [x0, x1, x2, some (.int v)] [s0, s1, s2, s3] h = E d 233 404 [x0, x1, x2, some (.int v)] [.int v, s0, s1, s2, s3] h := E_nx rfl
theorem s233_404 (d : Nat) (h : AH) (x0 x1 x2 x3 : Option Value) (s0 : Value) (s1 : Value) (s2 : Value) (s3 : Value) (s4 : Value) : E d 233 404 [x0, x1, x2, x3] [s0, s1, s2, s3, s4] h = E d 233 405 [x0, x1, x2, x3] [.int 3, s0, s1, s2, s3, s4] h := E_nx rfl
theorem s233_405 (d : Nat) (h : AH) (x0 x1 x2 x3 : Option Value) (s0 : Int32) (s1 : Int32) (s2 : Value) (s3 : Value) (s4 : Value) (s5 : Value) : E d 233 405 [x0, x1, x2, x3] [.int s0, .int s1, s2, s3, s4, s5] h = E d 233 406 [x0, x1, x2, x3] [.int (s1 + s0), s2, s3, s4, s5] h := E_nx rfl
theorem s233_406 (d : Nat) (h : AH) (x0 x1 x2 x3 : Option Value) (s0 : Int32) (s1 : Nat) (s2 : Value) (s3 : Value) (s4 : Value) : E d 233 406 [x0, x1, x2, x3] [.int s0, .ref s1, s2, s3, s4] h = if inb s0 (alen h s1 0) = true ∨ inb s0 (alen h s1 8) = true then E d 233 407 [x0, x1, x2, x3] [.int (hI h s1 s0.toNatClampNeg), s2, s3, s4] h else none := E_gd rfl
theorem s233_407 (d : Nat) (h : AH) (x0 x1 x2 x3 : Option Value) (s0 : Int32) (s1 : Int32) (s2 : Int32) (s3 : Nat) : E (d + 1) 233 407 [x0, x1, x2, x3] [.int s0, .int s1, .int s2, .ref s3] h = if hS h s3 = some (104, 0) then (E d 94 0 [some (.ref s3), some (.int s2), some (.int s1), some (.int s0)] [] h).bind fun r => E (d + 1) 233 408 [x0, x1, x2, x3] (r.1.toList ++ []) r.2 else none := E_callg rfl
theorem s233_408 (d : Nat) (h : AH) (x0 x1 x3 : Option Value) (s0 : Value) (v : Nat) : E d 233 408 [x0, x1, some (.ref v), x3] [s0] h = E d 233 409 [x0, x1, some (.ref v), x3] [.ref v, s0] h := E_nx rfl
theorem s233_409 (d : Nat) (h : AH) (x1 x2 x3 : Option Value) (s0 : Value) (s1 : Value) (v : Nat) : E d 233 409 [some (.ref v), x1, x2, x3] [s0, s1] h = E d 233 410 [some (.ref v), x1, x2, x3] [.ref v, s0, s1] h := E_nx rfl
theorem s233_410 (d : Nat) (h : AH) (x0 x1 x2 : Option Value) (s0 : Value) (s1 : Value) (s2 : Value) (v : Int32) : E d 233 410 [x0, x1, x2, some (.int v)] [s0, s1, s2] h = E d 233 411 [x0, x1, x2, some (.int v)] [.int v, s0, s1, s2] h := E_nx rfl
theorem s233_411 (d : Nat) (h : AH) (x0 x1 x2 x3 : Option Value) (s0 : Value) (s1 : Value) (s2 : Value) (s3 : Value) : E d 233 411 [x0, x1, x2, x3] [s0, s1, s2, s3] h = E d 233 412 [x0, x1, x2, x3] [.int 1, s0, s1, s2, s3] h := E_nx rfl
theorem s233_412 (d : Nat) (h : AH) (x0 x1 x2 x3 : Option Value) (s0 : Int32) (s1 : Int32) (s2 : Value) (s3 : Value) (s4 : Value) : E d 233 412 [x0, x1, x2, x3] [.int s0, .int s1, s2, s3, s4] h = E d 233 413 [x0, x1, x2, x3] [.int (s1 + s0), s2, s3, s4] h := E_nx rfl
theorem s233_413 (d : Nat) (h : AH) (x0 x1 x2 x3 : Option Value) (s0 : Int32) (s1 : Nat) (s2 : Value) (s3 : Value) : E d 233 413 [x0, x1, x2, x3] [.int s0, .ref s1, s2, s3] h = if inb s0 (alen h s1 0) = true ∨ inb s0 (alen h s1 8) = true then E d 233 414 [x0, x1, x2, x3] [.int (hI h s1 s0.toNatClampNeg), s2, s3] h else none := E_gd rfl
theorem s233_414 (d : Nat) (h : AH) (x1 x2 x3 : Option Value) (s0 : Value) (s1 : Value) (s2 : Value) (v : Nat) : E d 233 414 [some (.ref v), x1, x2, x3] [s0, s1, s2] h = E d 233 415 [some (.ref v), x1, x2, x3] [.ref v, s0, s1, s2] h := E_nx rfl
theorem s233_415 (d : Nat) (h : AH) (x0 x1 x2 : Option Value) (s0 : Value) (s1 : Value) (s2 : Value) (s3 : Value) (v : Int32) : E d 233 415 [x0, x1, x2, some (.int v)] [s0, s1, s2, s3] h = E d 233 416 [x0, x1, x2, some (.int v)] [.int v, s0, s1, s2, s3] h := E_nx rfl
theorem s233_416 (d : Nat) (h : AH) (x0 x1 x2 x3 : Option Value) (s0 : Value) (s1 : Value) (s2 : Value) (s3 : Value) (s4 : Value) : E d 233 416 [x0, x1, x2, x3] [s0, s1, s2, s3, s4] h = E d 233 417 [x0, x1, x2, x3] [.int 2, s0, s1, s2, s3, s4] h := E_nx rfl
theorem s233_417 (d : Nat) (h : AH) (x0 x1 x2 x3 : Option Value) (s0 : Int32) (s1 : Int32) (s2 : Value) (s3 : Value) (s4 : Value) (s5 : Value) : E d 233 417 [x0, x1, x2, x3] [.int s0, .int s1, s2, s3, s4, s5] h = E d 233 418 [x0, x1, x2, x3] [.int (s1 + s0), s2, s3, s4, s5] h := E_nx rfl
theorem s233_418 (d : Nat) (h : AH) (x0 x1 x2 x3 : Option Value) (s0 : Int32) (s1 : Nat) (s2 : Value) (s3 : Value) (s4 : Value) : E d 233 418 [x0, x1, x2, x3] [.int s0, .ref s1, s2, s3, s4] h = if inb s0 (alen h s1 0) = true ∨ inb s0 (alen h s1 8) = true then E d 233 419 [x0, x1, x2, x3] [.int (hI h s1 s0.toNatClampNeg), s2, s3, s4] h else none := E_gd rfl
theorem s233_419 (d : Nat) (h : AH) (x1 x2 x3 : Option Value) (s0 : Value) (s1 : Value) (s2 : Value) (s3 : Value) (v : Nat) : E d 233 419 [some (.ref v), x1, x2, x3] [s0, s1, s2, s3] h = E d 233 420 [some (.ref v), x1, x2, x3] [.ref v, s0, s1, s2, s3] h := E_nx rfl
theorem s233_420 (d : Nat) (h : AH) (x0 x1 x2 : Option Value) (s0 : Value) (s1 : Value) (s2 : Value) (s3 : Value) (s4 : Value) (v : Int32) : E d 233 420 [x0, x1, x2, some (.int v)] [s0, s1, s2, s3, s4] h = E d 233 421 [x0, x1, x2, some (.int v)] [.int v, s0, s1, s2, s3, s4] h := E_nx rfl
theorem s233_421 (d : Nat) (h : AH) (x0 x1 x2 x3 : Option Value) (s0 : Value) (s1 : Value) (s2 : Value) (s3 : Value) (s4 : Value) (s5 : Value) : E d 233 421 [x0, x1, x2, x3] [s0, s1, s2, s3, s4, s5] h = E d 233 422 [x0, x1, x2, x3] [.int 3, s0, s1, s2, s3, s4, s5] h := E_nx rfl
theorem s233_422 (d : Nat) (h : AH) (x0 x1 x2 x3 : Option Value) (s0 : Int32) (s1 : Int32) (s2 : Value) (s3 : Value) (s4 : Value) (s5 : Value) (s6 : Value) : E d 233 422 [x0, x1, x2, x3] [.int s0, .int s1, s2, s3, s4, s5, s6] h = E d 233 423 [x0, x1, x2, x3] [.int (s1 + s0), s2, s3, s4, s5, s6] h := E_nx rfl
theorem s233_423 (d : Nat) (h : AH) (x0 x1 x2 x3 : Option Value) (s0 : Int32) (s1 : Nat) (s2 : Value) (s3 : Value) (s4 : Value) (s5 : Value) : E d 233 423 [x0, x1, x2, x3] [.int s0, .ref s1, s2, s3, s4, s5] h = if inb s0 (alen h s1 0) = true ∨ inb s0 (alen h s1 8) = true then E d 233 424 [x0, x1, x2, x3] [.int (hI h s1 s0.toNatClampNeg), s2, s3, s4, s5] h else none := E_gd rfl
theorem s233_424 (d : Nat) (h : AH) (x0 x1 x2 x3 : Option Value) (s0 : Int32) (s1 : Int32) (s2 : Int32) (s3 : Nat) (s4 : Value) : E (d + 1) 233 424 [x0, x1, x2, x3] [.int s0, .int s1, .int s2, .ref s3, s4] h = if hS h s3 = some (105, 0) then (E d 160 0 [some (.ref s3), some (.int s2), some (.int s1), some (.int s0)] [] h).bind fun r => E (d + 1) 233 425 [x0, x1, x2, x3] (r.1.toList ++ [s4]) r.2 else none := E_callg rfl
theorem s233_425 (d : Nat) (h : AH) (x0 x1 x2 x3 : Option Value) (s0 : Int32) (s1 : Int32) : E d 233 425 [x0, x1, x2, x3] [.int s0, .int s1] h = if s1 = s0 then E d 233 1068 [x0, x1, x2, x3] [] h else E d 233 426 [x0, x1, x2, x3] [] h := E_ifc rfl
theorem s233_426 (d : Nat) (h : AH) (x0 x1 x2 x3 : Option Value)  : E d 233 426 [x0, x1, x2, x3] [] h = E d 233 427 [x0, x1, x2, x3] [.int 0] h := E_nx rfl
theorem s233_427 (d : Nat) (h : AH) (x0 x1 x2 x3 : Option Value) (s0 : Int32) : E d 233 427 [x0, x1, x2, x3] [.int s0] h = if s0 = 0 ∨ s0 = 1 then some (some (.int s0), h) else none := E_retg rfl
theorem s233_428 (d : Nat) (h : AH) (x0 x2 x3 : Option Value) (v : Nat) : E d 233 428 [x0, some (.ref v), x2, x3] [] h = E d 233 429 [x0, some (.ref v), x2, x3] [.ref v] h := E_nx rfl
theorem s233_429 (d : Nat) (h : AH) (x1 x2 x3 : Option Value) (s0 : Value) (v : Nat) : E d 233 429 [some (.ref v), x1, x2, x3] [s0] h = E d 233 430 [some (.ref v), x1, x2, x3] [.ref v, s0] h := E_nx rfl
theorem s233_430 (d : Nat) (h : AH) (x0 x1 x2 : Option Value) (s0 : Value) (s1 : Value) (v : Int32) : E d 233 430 [x0, x1, x2, some (.int v)] [s0, s1] h = E d 233 431 [x0, x1, x2, some (.int v)] [.int v, s0, s1] h := E_nx rfl
theorem s233_431 (d : Nat) (h : AH) (x0 x1 x2 x3 : Option Value) (s0 : Value) (s1 : Value) (s2 : Value) : E d 233 431 [x0, x1, x2, x3] [s0, s1, s2] h = E d 233 432 [x0, x1, x2, x3] [.int 1, s0, s1, s2] h := E_nx rfl
theorem s233_432 (d : Nat) (h : AH) (x0 x1 x2 x3 : Option Value) (s0 : Int32) (s1 : Int32) (s2 : Value) (s3 : Value) : E d 233 432 [x0, x1, x2, x3] [.int s0, .int s1, s2, s3] h = E d 233 433 [x0, x1, x2, x3] [.int (s1 + s0), s2, s3] h := E_nx rfl
theorem s233_433 (d : Nat) (h : AH) (x0 x1 x2 x3 : Option Value) (s0 : Int32) (s1 : Nat) (s2 : Value) : E d 233 433 [x0, x1, x2, x3] [.int s0, .ref s1, s2] h = if inb s0 (alen h s1 0) = true ∨ inb s0 (alen h s1 8) = true then E d 233 434 [x0, x1, x2, x3] [.int (hI h s1 s0.toNatClampNeg), s2] h else none := E_gd rfl
theorem s233_434 (d : Nat) (h : AH) (x1 x2 x3 : Option Value) (s0 : Value) (s1 : Value) (v : Nat) : E d 233 434 [some (.ref v), x1, x2, x3] [s0, s1] h = E d 233 435 [some (.ref v), x1, x2, x3] [.ref v, s0, s1] h := E_nx rfl
theorem s233_435 (d : Nat) (h : AH) (x0 x1 x2 : Option Value) (s0 : Value) (s1 : Value) (s2 : Value) (v : Int32) : E d 233 435 [x0, x1, x2, some (.int v)] [s0, s1, s2] h = E d 233 436 [x0, x1, x2, some (.int v)] [.int v, s0, s1, s2] h := E_nx rfl
theorem s233_436 (d : Nat) (h : AH) (x0 x1 x2 x3 : Option Value) (s0 : Value) (s1 : Value) (s2 : Value) (s3 : Value) : E d 233 436 [x0, x1, x2, x3] [s0, s1, s2, s3] h = E d 233 437 [x0, x1, x2, x3] [.int 2, s0, s1, s2, s3] h := E_nx rfl
theorem s233_437 (d : Nat) (h : AH) (x0 x1 x2 x3 : Option Value) (s0 : Int32) (s1 : Int32) (s2 : Value) (s3 : Value) (s4 : Value) : E d 233 437 [x0, x1, x2, x3] [.int s0, .int s1, s2, s3, s4] h = E d 233 438 [x0, x1, x2, x3] [.int (s1 + s0), s2, s3, s4] h := E_nx rfl
theorem s233_438 (d : Nat) (h : AH) (x0 x1 x2 x3 : Option Value) (s0 : Int32) (s1 : Nat) (s2 : Value) (s3 : Value) : E d 233 438 [x0, x1, x2, x3] [.int s0, .ref s1, s2, s3] h = if inb s0 (alen h s1 0) = true ∨ inb s0 (alen h s1 8) = true then E d 233 439 [x0, x1, x2, x3] [.int (hI h s1 s0.toNatClampNeg), s2, s3] h else none := E_gd rfl
theorem s233_439 (d : Nat) (h : AH) (x0 x1 x2 x3 : Option Value) (s0 : Int32) (s1 : Int32) (s2 : Nat) : E (d + 1) 233 439 [x0, x1, x2, x3] [.int s0, .int s1, .ref s2] h = if hS h s2 = some (104, 0) then (E d 95 0 [some (.ref s2), some (.int s1), some (.int s0), none] [] h).bind fun r => E (d + 1) 233 440 [x0, x1, x2, x3] (r.1.toList ++ []) r.2 else none := E_callg rfl
set_option maxRecDepth 60000 in
theorem s233_440 (d : Nat) (h : AH) (x0 x1 x3 : Option Value) (s0 : Value) (v : Nat) : E d 233 440 [x0, x1, some (.ref v), x3] [s0] h = E d 233 441 [x0, x1, some (.ref v), x3] [.ref v, s0] h := E_nx rfl
set_option maxRecDepth 60000 in
theorem s233_441 (d : Nat) (h : AH) (x1 x2 x3 : Option Value) (s0 : Value) (s1 : Value) (v : Nat) : E d 233 441 [some (.ref v), x1, x2, x3] [s0, s1] h = E d 233 442 [some (.ref v), x1, x2, x3] [.ref v, s0, s1] h := E_nx rfl
set_option maxRecDepth 60000 in
theorem s233_442 (d : Nat) (h : AH) (x0 x1 x2 : Option Value) (s0 : Value) (s1 : Value) (s2 : Value) (v : Int32) : E d 233 442 [x0, x1, x2, some (.int v)] [s0, s1, s2] h = E d 233 443 [x0, x1, x2, some (.int v)] [.int v, s0, s1, s2] h := E_nx rfl
set_option maxRecDepth 60000 in
theorem s233_443 (d : Nat) (h : AH) (x0 x1 x2 x3 : Option Value) (s0 : Value) (s1 : Value) (s2 : Value) (s3 : Value) : E d 233 443 [x0, x1, x2, x3] [s0, s1, s2, s3] h = E d 233 444 [x0, x1, x2, x3] [.int 1, s0, s1, s2, s3] h := E_nx rfl
set_option maxRecDepth 60000 in
theorem s233_444 (d : Nat) (h : AH) (x0 x1 x2 x3 : Option Value) (s0 : Int32) (s1 : Int32) (s2 : Value) (s3 : Value) (s4 : Value) : E d 233 444 [x0, x1, x2, x3] [.int s0, .int s1, s2, s3, s4] h = E d 233 445 [x0, x1, x2, x3] [.int (s1 + s0), s2, s3, s4] h := E_nx rfl
set_option maxRecDepth 60000 in
theorem s233_445 (d : Nat) (h : AH) (x0 x1 x2 x3 : Option Value) (s0 : Int32) (s1 : Nat) (s2 : Value) (s3 : Value) : E d 233 445 [x0, x1, x2, x3] [.int s0, .ref s1, s2, s3] h = if inb s0 (alen h s1 0) = true ∨ inb s0 (alen h s1 8) = true then E d 233 446 [x0, x1, x2, x3] [.int (hI h s1 s0.toNatClampNeg), s2, s3] h else none := E_gd rfl
set_option maxRecDepth 60000 in
theorem s233_446 (d : Nat) (h : AH) (x1 x2 x3 : Option Value) (s0 : Value) (s1 : Value) (s2 : Value) (v : Nat) : E d 233 446 [some (.ref v), x1, x2, x3] [s0, s1, s2] h = E d 233 447 [some (.ref v), x1, x2, x3] [.ref v, s0, s1, s2] h := E_nx rfl
set_option maxRecDepth 60000 in
theorem s233_447 (d : Nat) (h : AH) (x0 x1 x2 : Option Value) (s0 : Value) (s1 : Value) (s2 : Value) (s3 : Value) (v : Int32) : E d 233 447 [x0, x1, x2, some (.int v)] [s0, s1, s2, s3] h = E d 233 448 [x0, x1, x2, some (.int v)] [.int v, s0, s1, s2, s3] h := E_nx rfl
set_option maxRecDepth 60000 in
theorem s233_448 (d : Nat) (h : AH) (x0 x1 x2 x3 : Option Value) (s0 : Value) (s1 : Value) (s2 : Value) (s3 : Value) (s4 : Value) : E d 233 448 [x0, x1, x2, x3] [s0, s1, s2, s3, s4] h = E d 233 449 [x0, x1, x2, x3] [.int 2, s0, s1, s2, s3, s4] h := E_nx rfl
set_option maxRecDepth 60000 in
theorem s233_449 (d : Nat) (h : AH) (x0 x1 x2 x3 : Option Value) (s0 : Int32) (s1 : Int32) (s2 : Value) (s3 : Value) (s4 : Value) (s5 : Value) : E d 233 449 [x0, x1, x2, x3] [.int s0, .int s1, s2, s3, s4, s5] h = E d 233 450 [x0, x1, x2, x3] [.int (s1 + s0), s2, s3, s4, s5] h := E_nx rfl
set_option maxRecDepth 60000 in
theorem s233_450 (d : Nat) (h : AH) (x0 x1 x2 x3 : Option Value) (s0 : Int32) (s1 : Nat) (s2 : Value) (s3 : Value) (s4 : Value) : E d 233 450 [x0, x1, x2, x3] [.int s0, .ref s1, s2, s3, s4] h = if inb s0 (alen h s1 0) = true ∨ inb s0 (alen h s1 8) = true then E d 233 451 [x0, x1, x2, x3] [.int (hI h s1 s0.toNatClampNeg), s2, s3, s4] h else none := E_gd rfl
set_option maxRecDepth 60000 in
theorem s233_451 (d : Nat) (h : AH) (x0 x1 x2 x3 : Option Value) (s0 : Int32) (s1 : Int32) (s2 : Nat) (s3 : Value) : E (d + 1) 233 451 [x0, x1, x2, x3] [.int s0, .int s1, .ref s2, s3] h = if hS h s2 = some (105, 0) then (E d 162 0 [some (.ref s2), some (.int s1), some (.int s0), none, none] [] h).bind fun r => E (d + 1) 233 452 [x0, x1, x2, x3] (r.1.toList ++ [s3]) r.2 else none := E_callg rfl
set_option maxRecDepth 60000 in
theorem s233_452 (d : Nat) (h : AH) (x0 x1 x2 x3 : Option Value) (s0 : Int32) (s1 : Int32) : E d 233 452 [x0, x1, x2, x3] [.int s0, .int s1] h = if s1 = s0 then E d 233 1068 [x0, x1, x2, x3] [] h else E d 233 453 [x0, x1, x2, x3] [] h := E_ifc rfl
set_option maxRecDepth 60000 in
theorem s233_453 (d : Nat) (h : AH) (x0 x1 x2 x3 : Option Value)  : E d 233 453 [x0, x1, x2, x3] [] h = E d 233 454 [x0, x1, x2, x3] [.int 0] h := E_nx rfl
set_option maxRecDepth 60000 in
theorem s233_454 (d : Nat) (h : AH) (x0 x1 x2 x3 : Option Value) (s0 : Int32) : E d 233 454 [x0, x1, x2, x3] [.int s0] h = if s0 = 0 ∨ s0 = 1 then some (some (.int s0), h) else none := E_retg rfl
set_option maxRecDepth 60000 in
theorem s233_455 (d : Nat) (h : AH) (x0 x2 x3 : Option Value) (v : Nat) : E d 233 455 [x0, some (.ref v), x2, x3] [] h = E d 233 456 [x0, some (.ref v), x2, x3] [.ref v] h := E_nx rfl
set_option maxRecDepth 60000 in
theorem s233_456 (d : Nat) (h : AH) (x1 x2 x3 : Option Value) (s0 : Value) (v : Nat) : E d 233 456 [some (.ref v), x1, x2, x3] [s0] h = E d 233 457 [some (.ref v), x1, x2, x3] [.ref v, s0] h := E_nx rfl
set_option maxRecDepth 60000 in
theorem s233_457 (d : Nat) (h : AH) (x0 x1 x2 : Option Value) (s0 : Value) (s1 : Value) (v : Int32) : E d 233 457 [x0, x1, x2, some (.int v)] [s0, s1] h = E d 233 458 [x0, x1, x2, some (.int v)] [.int v, s0, s1] h := E_nx rfl
set_option maxRecDepth 60000 in
theorem s233_458 (d : Nat) (h : AH) (x0 x1 x2 x3 : Option Value) (s0 : Value) (s1 : Value) (s2 : Value) : E d 233 458 [x0, x1, x2, x3] [s0, s1, s2] h = E d 233 459 [x0, x1, x2, x3] [.int 1, s0, s1, s2] h := E_nx rfl
set_option maxRecDepth 60000 in
theorem s233_459 (d : Nat) (h : AH) (x0 x1 x2 x3 : Option Value) (s0 : Int32) (s1 : Int32) (s2 : Value) (s3 : Value) : E d 233 459 [x0, x1, x2, x3] [.int s0, .int s1, s2, s3] h = E d 233 460 [x0, x1, x2, x3] [.int (s1 + s0), s2, s3] h := E_nx rfl
set_option maxRecDepth 60000 in
theorem s233_460 (d : Nat) (h : AH) (x0 x1 x2 x3 : Option Value) (s0 : Int32) (s1 : Nat) (s2 : Value) : E d 233 460 [x0, x1, x2, x3] [.int s0, .ref s1, s2] h = if inb s0 (alen h s1 0) = true ∨ inb s0 (alen h s1 8) = true then E d 233 461 [x0, x1, x2, x3] [.int (hI h s1 s0.toNatClampNeg), s2] h else none := E_gd rfl
set_option maxRecDepth 60000 in
theorem s233_461 (d : Nat) (h : AH) (x0 x1 x2 x3 : Option Value) (s0 : Int32) (s1 : Nat) : E (d + 1) 233 461 [x0, x1, x2, x3] [.int s0, .ref s1] h = if hS h s1 = some (104, 0) then (E d 96 0 [some (.ref s1), some (.int s0)] [] h).bind fun r => E (d + 1) 233 462 [x0, x1, x2, x3] (r.1.toList ++ []) r.2 else none := E_callg rfl
set_option maxRecDepth 60000 in
theorem s233_462 (d : Nat) (h : AH) (x0 x1 x3 : Option Value) (s0 : Value) (v : Nat) : E d 233 462 [x0, x1, some (.ref v), x3] [s0] h = E d 233 463 [x0, x1, some (.ref v), x3] [.ref v, s0] h := E_nx rfl
set_option maxRecDepth 60000 in
theorem s233_463 (d : Nat) (h : AH) (x1 x2 x3 : Option Value) (s0 : Value) (s1 : Value) (v : Nat) : E d 233 463 [some (.ref v), x1, x2, x3] [s0, s1] h = E d 233 464 [some (.ref v), x1, x2, x3] [.ref v, s0, s1] h := E_nx rfl
set_option maxRecDepth 60000 in
theorem s233_464 (d : Nat) (h : AH) (x0 x1 x2 : Option Value) (s0 : Value) (s1 : Value) (s2 : Value) (v : Int32) : E d 233 464 [x0, x1, x2, some (.int v)] [s0, s1, s2] h = E d 233 465 [x0, x1, x2, some (.int v)] [.int v, s0, s1, s2] h := E_nx rfl
set_option maxRecDepth 60000 in
theorem s233_465 (d : Nat) (h : AH) (x0 x1 x2 x3 : Option Value) (s0 : Value) (s1 : Value) (s2 : Value) (s3 : Value) : E d 233 465 [x0, x1, x2, x3] [s0, s1, s2, s3] h = E d 233 466 [x0, x1, x2, x3] [.int 1, s0, s1, s2, s3] h := E_nx rfl
set_option maxRecDepth 60000 in
theorem s233_466 (d : Nat) (h : AH) (x0 x1 x2 x3 : Option Value) (s0 : Int32) (s1 : Int32) (s2 : Value) (s3 : Value) (s4 : Value) : E d 233 466 [x0, x1, x2, x3] [.int s0, .int s1, s2, s3, s4] h = E d 233 467 [x0, x1, x2, x3] [.int (s1 + s0), s2, s3, s4] h := E_nx rfl
set_option maxRecDepth 60000 in
theorem s233_467 (d : Nat) (h : AH) (x0 x1 x2 x3 : Option Value) (s0 : Int32) (s1 : Nat) (s2 : Value) (s3 : Value) : E d 233 467 [x0, x1, x2, x3] [.int s0, .ref s1, s2, s3] h = if inb s0 (alen h s1 0) = true ∨ inb s0 (alen h s1 8) = true then E d 233 468 [x0, x1, x2, x3] [.int (hI h s1 s0.toNatClampNeg), s2, s3] h else none := E_gd rfl
set_option maxRecDepth 60000 in
theorem s233_468 (d : Nat) (h : AH) (x0 x1 x2 x3 : Option Value) (s0 : Int32) (s1 : Nat) (s2 : Value) : E (d + 1) 233 468 [x0, x1, x2, x3] [.int s0, .ref s1, s2] h = if hS h s1 = some (105, 0) then (E d 163 0 [some (.ref s1), some (.int s0)] [] h).bind fun r => E (d + 1) 233 469 [x0, x1, x2, x3] (r.1.toList ++ [s2]) r.2 else none := E_callg rfl
set_option maxRecDepth 60000 in
theorem s233_469 (d : Nat) (h : AH) (x0 x1 x2 x3 : Option Value) (s0 : Int32) (s1 : Int32) : E d 233 469 [x0, x1, x2, x3] [.int s0, .int s1] h = if s1 = s0 then E d 233 1068 [x0, x1, x2, x3] [] h else E d 233 470 [x0, x1, x2, x3] [] h := E_ifc rfl
set_option maxRecDepth 60000 in
theorem s233_470 (d : Nat) (h : AH) (x0 x1 x2 x3 : Option Value)  : E d 233 470 [x0, x1, x2, x3] [] h = E d 233 471 [x0, x1, x2, x3] [.int 0] h := E_nx rfl
set_option maxRecDepth 60000 in
theorem s233_471 (d : Nat) (h : AH) (x0 x1 x2 x3 : Option Value) (s0 : Int32) : E d 233 471 [x0, x1, x2, x3] [.int s0] h = if s0 = 0 ∨ s0 = 1 then some (some (.int s0), h) else none := E_retg rfl
set_option maxRecDepth 60000 in
theorem s233_472 (d : Nat) (h : AH) (x0 x2 x3 : Option Value) (v : Nat) : E d 233 472 [x0, some (.ref v), x2, x3] [] h = E d 233 473 [x0, some (.ref v), x2, x3] [.ref v] h := E_nx rfl
set_option maxRecDepth 60000 in
theorem s233_473 (d : Nat) (h : AH) (x0 x1 x2 x3 : Option Value) (s0 : Nat) : E (d + 1) 233 473 [x0, x1, x2, x3] [.ref s0] h = if hS h s0 = some (104, 0) then (E d 97 0 [some (.ref s0), none] [] h).bind fun r => E (d + 1) 233 474 [x0, x1, x2, x3] (r.1.toList ++ []) r.2 else none := E_callg rfl
set_option maxRecDepth 60000 in
theorem s233_474 (d : Nat) (h : AH) (x0 x1 x3 : Option Value) (s0 : Value) (v : Nat) : E d 233 474 [x0, x1, some (.ref v), x3] [s0] h = E d 233 475 [x0, x1, some (.ref v), x3] [.ref v, s0] h := E_nx rfl
set_option maxRecDepth 60000 in
theorem s233_475 (d : Nat) (h : AH) (x0 x1 x2 x3 : Option Value) (s0 : Nat) (s1 : Value) : E (d + 1) 233 475 [x0, x1, x2, x3] [.ref s0, s1] h = if hS h s0 = some (105, 0) then (E d 164 0 [some (.ref s0), none] [] h).bind fun r => E (d + 1) 233 476 [x0, x1, x2, x3] (r.1.toList ++ [s1]) r.2 else none := E_callg rfl
set_option maxRecDepth 60000 in
theorem s233_476 (d : Nat) (h : AH) (x0 x1 x2 x3 : Option Value) (s0 : Int32) (s1 : Int32) : E d 233 476 [x0, x1, x2, x3] [.int s0, .int s1] h = if s1 = s0 then E d 233 1068 [x0, x1, x2, x3] [] h else E d 233 477 [x0, x1, x2, x3] [] h := E_ifc rfl
set_option maxRecDepth 60000 in
theorem s233_477 (d : Nat) (h : AH) (x0 x1 x2 x3 : Option Value)  : E d 233 477 [x0, x1, x2, x3] [] h = E d 233 478 [x0, x1, x2, x3] [.int 0] h := E_nx rfl
set_option maxRecDepth 60000 in
theorem s233_478 (d : Nat) (h : AH) (x0 x1 x2 x3 : Option Value) (s0 : Int32) : E d 233 478 [x0, x1, x2, x3] [.int s0] h = if s0 = 0 ∨ s0 = 1 then some (some (.int s0), h) else none := E_retg rfl
set_option maxRecDepth 60000 in
theorem s233_479 (d : Nat) (h : AH) (x0 x2 x3 : Option Value) (v : Nat) : E d 233 479 [x0, some (.ref v), x2, x3] [] h = E d 233 480 [x0, some (.ref v), x2, x3] [.ref v] h := E_nx rfl
set_option maxRecDepth 60000 in
theorem s233_480 (d : Nat) (h : AH) (x0 x1 x2 x3 : Option Value) (s0 : Nat) : E (d + 1) 233 480 [x0, x1, x2, x3] [.ref s0] h = if hS h s0 = some (104, 0) then (E d 98 0 [some (.ref s0), none] [] h).bind fun r => E (d + 1) 233 481 [x0, x1, x2, x3] (r.1.toList ++ []) r.2 else none := E_callg rfl
set_option maxRecDepth 60000 in
theorem s233_481 (d : Nat) (h : AH) (x0 x1 x3 : Option Value) (s0 : Value) (v : Nat) : E d 233 481 [x0, x1, some (.ref v), x3] [s0] h = E d 233 482 [x0, x1, some (.ref v), x3] [.ref v, s0] h := E_nx rfl
set_option maxRecDepth 60000 in
theorem s233_482 (d : Nat) (h : AH) (x0 x1 x2 x3 : Option Value) (s0 : Nat) (s1 : Value) : E (d + 1) 233 482 [x0, x1, x2, x3] [.ref s0, s1] h = if hS h s0 = some (105, 0) then (E d 177 0 [some (.ref s0), none, none] [] h).bind fun r => E (d + 1) 233 483 [x0, x1, x2, x3] (r.1.toList ++ [s1]) r.2 else none := E_callg rfl
set_option maxRecDepth 60000 in
theorem s233_483 (d : Nat) (h : AH) (x0 x1 x2 x3 : Option Value) (s0 : Int32) (s1 : Int32) : E d 233 483 [x0, x1, x2, x3] [.int s0, .int s1] h = if s1 = s0 then E d 233 1068 [x0, x1, x2, x3] [] h else E d 233 484 [x0, x1, x2, x3] [] h := E_ifc rfl
set_option maxRecDepth 60000 in
theorem s233_484 (d : Nat) (h : AH) (x0 x1 x2 x3 : Option Value)  : E d 233 484 [x0, x1, x2, x3] [] h = E d 233 485 [x0, x1, x2, x3] [.int 0] h := E_nx rfl
set_option maxRecDepth 60000 in
theorem s233_485 (d : Nat) (h : AH) (x0 x1 x2 x3 : Option Value) (s0 : Int32) : E d 233 485 [x0, x1, x2, x3] [.int s0] h = if s0 = 0 ∨ s0 = 1 then some (some (.int s0), h) else none := E_retg rfl
set_option maxRecDepth 60000 in
theorem s233_486 (d : Nat) (h : AH) (x0 x2 x3 : Option Value) (v : Nat) : E d 233 486 [x0, some (.ref v), x2, x3] [] h = E d 233 487 [x0, some (.ref v), x2, x3] [.ref v] h := E_nx rfl
set_option maxRecDepth 60000 in
theorem s233_487 (d : Nat) (h : AH) (x1 x2 x3 : Option Value) (s0 : Value) (v : Nat) : E d 233 487 [some (.ref v), x1, x2, x3] [s0] h = E d 233 488 [some (.ref v), x1, x2, x3] [.ref v, s0] h := E_nx rfl
set_option maxRecDepth 60000 in
theorem s233_488 (d : Nat) (h : AH) (x0 x1 x2 : Option Value) (s0 : Value) (s1 : Value) (v : Int32) : E d 233 488 [x0, x1, x2, some (.int v)] [s0, s1] h = E d 233 489 [x0, x1, x2, some (.int v)] [.int v, s0, s1] h := E_nx rfl
set_option maxRecDepth 60000 in
theorem s233_489 (d : Nat) (h : AH) (x0 x1 x2 x3 : Option Value) (s0 : Value) (s1 : Value) (s2 : Value) : E d 233 489 [x0, x1, x2, x3] [s0, s1, s2] h = E d 233 490 [x0, x1, x2, x3] [.int 1, s0, s1, s2] h := E_nx rfl
set_option maxRecDepth 60000 in
theorem s233_490 (d : Nat) (h : AH) (x0 x1 x2 x3 : Option Value) (s0 : Int32) (s1 : Int32) (s2 : Value) (s3 : Value) : E d 233 490 [x0, x1, x2, x3] [.int s0, .int s1, s2, s3] h = E d 233 491 [x0, x1, x2, x3] [.int (s1 + s0), s2, s3] h := E_nx rfl
set_option maxRecDepth 60000 in
theorem s233_491 (d : Nat) (h : AH) (x0 x1 x2 x3 : Option Value) (s0 : Int32) (s1 : Nat) (s2 : Value) : E d 233 491 [x0, x1, x2, x3] [.int s0, .ref s1, s2] h = if inb s0 (alen h s1 0) = true ∨ inb s0 (alen h s1 8) = true then E d 233 492 [x0, x1, x2, x3] [.int (hI h s1 s0.toNatClampNeg), s2] h else none := E_gd rfl
set_option maxRecDepth 60000 in
theorem s233_492 (d : Nat) (h : AH) (x1 x2 x3 : Option Value) (s0 : Value) (s1 : Value) (v : Nat) : E d 233 492 [some (.ref v), x1, x2, x3] [s0, s1] h = E d 233 493 [some (.ref v), x1, x2, x3] [.ref v, s0, s1] h := E_nx rfl
set_option maxRecDepth 60000 in
theorem s233_493 (d : Nat) (h : AH) (x0 x1 x2 : Option Value) (s0 : Value) (s1 : Value) (s2 : Value) (v : Int32) : E d 233 493 [x0, x1, x2, some (.int v)] [s0, s1, s2] h = E d 233 494 [x0, x1, x2, some (.int v)] [.int v, s0, s1, s2] h := E_nx rfl
set_option maxRecDepth 60000 in
theorem s233_494 (d : Nat) (h : AH) (x0 x1 x2 x3 : Option Value) (s0 : Value) (s1 : Value) (s2 : Value) (s3 : Value) : E d 233 494 [x0, x1, x2, x3] [s0, s1, s2, s3] h = E d 233 495 [x0, x1, x2, x3] [.int 2, s0, s1, s2, s3] h := E_nx rfl
set_option maxRecDepth 60000 in
theorem s233_495 (d : Nat) (h : AH) (x0 x1 x2 x3 : Option Value) (s0 : Int32) (s1 : Int32) (s2 : Value) (s3 : Value) (s4 : Value) : E d 233 495 [x0, x1, x2, x3] [.int s0, .int s1, s2, s3, s4] h = E d 233 496 [x0, x1, x2, x3] [.int (s1 + s0), s2, s3, s4] h := E_nx rfl
set_option maxRecDepth 60000 in
theorem s233_496 (d : Nat) (h : AH) (x0 x1 x2 x3 : Option Value) (s0 : Int32) (s1 : Nat) (s2 : Value) (s3 : Value) : E d 233 496 [x0, x1, x2, x3] [.int s0, .ref s1, s2, s3] h = if inb s0 (alen h s1 0) = true ∨ inb s0 (alen h s1 8) = true then E d 233 497 [x0, x1, x2, x3] [.int (hI h s1 s0.toNatClampNeg), s2, s3] h else none := E_gd rfl
set_option maxRecDepth 60000 in
theorem s233_497 (d : Nat) (h : AH) (x0 x1 x2 x3 : Option Value) (s0 : Int32) (s1 : Int32) (s2 : Nat) : E (d + 1) 233 497 [x0, x1, x2, x3] [.int s0, .int s1, .ref s2] h = if hS h s2 = some (104, 0) then (E d 99 0 [some (.ref s2), some (.int s1), some (.int s0)] [] h).bind fun r => E (d + 1) 233 498 [x0, x1, x2, x3] (r.1.toList ++ []) r.2 else none := E_callg rfl
set_option maxRecDepth 60000 in
theorem s233_498 (d : Nat) (h : AH) (x0 x1 x3 : Option Value) (s0 : Value) (v : Nat) : E d 233 498 [x0, x1, some (.ref v), x3] [s0] h = E d 233 499 [x0, x1, some (.ref v), x3] [.ref v, s0] h := E_nx rfl
set_option maxRecDepth 60000 in
theorem s233_499 (d : Nat) (h : AH) (x1 x2 x3 : Option Value) (s0 : Value) (s1 : Value) (v : Nat) : E d 233 499 [some (.ref v), x1, x2, x3] [s0, s1] h = E d 233 500 [some (.ref v), x1, x2, x3] [.ref v, s0, s1] h := E_nx rfl
set_option maxRecDepth 60000 in
theorem s233_500 (d : Nat) (h : AH) (x0 x1 x2 : Option Value) (s0 : Value) (s1 : Value) (s2 : Value) (v : Int32) : E d 233 500 [x0, x1, x2, some (.int v)] [s0, s1, s2] h = E d 233 501 [x0, x1, x2, some (.int v)] [.int v, s0, s1, s2] h := E_nx rfl
set_option maxRecDepth 60000 in
theorem s233_501 (d : Nat) (h : AH) (x0 x1 x2 x3 : Option Value) (s0 : Value) (s1 : Value) (s2 : Value) (s3 : Value) : E d 233 501 [x0, x1, x2, x3] [s0, s1, s2, s3] h = E d 233 502 [x0, x1, x2, x3] [.int 1, s0, s1, s2, s3] h := E_nx rfl
set_option maxRecDepth 60000 in
theorem s233_502 (d : Nat) (h : AH) (x0 x1 x2 x3 : Option Value) (s0 : Int32) (s1 : Int32) (s2 : Value) (s3 : Value) (s4 : Value) : E d 233 502 [x0, x1, x2, x3] [.int s0, .int s1, s2, s3, s4] h = E d 233 503 [x0, x1, x2, x3] [.int (s1 + s0), s2, s3, s4] h := E_nx rfl
set_option maxRecDepth 60000 in
theorem s233_503 (d : Nat) (h : AH) (x0 x1 x2 x3 : Option Value) (s0 : Int32) (s1 : Nat) (s2 : Value) (s3 : Value) : E d 233 503 [x0, x1, x2, x3] [.int s0, .ref s1, s2, s3] h = if inb s0 (alen h s1 0) = true ∨ inb s0 (alen h s1 8) = true then E d 233 504 [x0, x1, x2, x3] [.int (hI h s1 s0.toNatClampNeg), s2, s3] h else none := E_gd rfl
set_option maxRecDepth 60000 in
theorem s233_504 (d : Nat) (h : AH) (x1 x2 x3 : Option Value) (s0 : Value) (s1 : Value) (s2 : Value) (v : Nat) : E d 233 504 [some (.ref v), x1, x2, x3] [s0, s1, s2] h = E d 233 505 [some (.ref v), x1, x2, x3] [.ref v, s0, s1, s2] h := E_nx rfl
set_option maxRecDepth 60000 in
theorem s233_505 (d : Nat) (h : AH) (x0 x1 x2 : Option Value) (s0 : Value) (s1 : Value) (s2 : Value) (s3 : Value) (v : Int32) : E d 233 505 [x0, x1, x2, some (.int v)] [s0, s1, s2, s3] h = E d 233 506 [x0, x1, x2, some (.int v)] [.int v, s0, s1, s2, s3] h := E_nx rfl
set_option maxRecDepth 60000 in
theorem s233_506 (d : Nat) (h : AH) (x0 x1 x2 x3 : Option Value) (s0 : Value) (s1 : Value) (s2 : Value) (s3 : Value) (s4 : Value) : E d 233 506 [x0, x1, x2, x3] [s0, s1, s2, s3, s4] h = E d 233 507 [x0, x1, x2, x3] [.int 2, s0, s1, s2, s3, s4] h := E_nx rfl
set_option maxRecDepth 60000 in
theorem s233_507 (d : Nat) (h : AH) (x0 x1 x2 x3 : Option Value) (s0 : Int32) (s1 : Int32) (s2 : Value) (s3 : Value) (s4 : Value) (s5 : Value) : E d 233 507 [x0, x1, x2, x3] [.int s0, .int s1, s2, s3, s4, s5] h = E d 233 508 [x0, x1, x2, x3] [.int (s1 + s0), s2, s3, s4, s5] h := E_nx rfl
set_option maxRecDepth 60000 in
theorem s233_508 (d : Nat) (h : AH) (x0 x1 x2 x3 : Option Value) (s0 : Int32) (s1 : Nat) (s2 : Value) (s3 : Value) (s4 : Value) : E d 233 508 [x0, x1, x2, x3] [.int s0, .ref s1, s2, s3, s4] h = if inb s0 (alen h s1 0) = true ∨ inb s0 (alen h s1 8) = true then E d 233 509 [x0, x1, x2, x3] [.int (hI h s1 s0.toNatClampNeg), s2, s3, s4] h else none := E_gd rfl
set_option maxRecDepth 60000 in
theorem s233_509 (d : Nat) (h : AH) (x0 x1 x2 x3 : Option Value) (s0 : Int32) (s1 : Int32) (s2 : Nat) (s3 : Value) : E (d + 1) 233 509 [x0, x1, x2, x3] [.int s0, .int s1, .ref s2, s3] h = if hS h s2 = some (105, 0) then (E d 178 0 [some (.ref s2), some (.int s1), some (.int s0)] [] h).bind fun r => E (d + 1) 233 510 [x0, x1, x2, x3] (r.1.toList ++ [s3]) r.2 else none := E_callg rfl
set_option maxRecDepth 60000 in
theorem s233_510 (d : Nat) (h : AH) (x0 x1 x2 x3 : Option Value) (s0 : Int32) (s1 : Int32) : E d 233 510 [x0, x1, x2, x3] [.int s0, .int s1] h = if s1 = s0 then E d 233 1068 [x0, x1, x2, x3] [] h else E d 233 511 [x0, x1, x2, x3] [] h := E_ifc rfl
set_option maxRecDepth 60000 in
theorem s233_511 (d : Nat) (h : AH) (x0 x1 x2 x3 : Option Value)  : E d 233 511 [x0, x1, x2, x3] [] h = E d 233 512 [x0, x1, x2, x3] [.int 0] h := E_nx rfl
set_option maxRecDepth 60000 in
theorem s233_512 (d : Nat) (h : AH) (x0 x1 x2 x3 : Option Value) (s0 : Int32) : E d 233 512 [x0, x1, x2, x3] [.int s0] h = if s0 = 0 ∨ s0 = 1 then some (some (.int s0), h) else none := E_retg rfl
set_option maxRecDepth 60000 in
theorem s233_513 (d : Nat) (h : AH) (x0 x2 x3 : Option Value) (v : Nat) : E d 233 513 [x0, some (.ref v), x2, x3] [] h = E d 233 514 [x0, some (.ref v), x2, x3] [.ref v] h := E_nx rfl
set_option maxRecDepth 60000 in
theorem s233_514 (d : Nat) (h : AH) (x1 x2 x3 : Option Value) (s0 : Value) (v : Nat) : E d 233 514 [some (.ref v), x1, x2, x3] [s0] h = E d 233 515 [some (.ref v), x1, x2, x3] [.ref v, s0] h := E_nx rfl
set_option maxRecDepth 60000 in
theorem s233_515 (d : Nat) (h : AH) (x0 x1 x2 : Option Value) (s0 : Value) (s1 : Value) (v : Int32) : E d 233 515 [x0, x1, x2, some (.int v)] [s0, s1] h = E d 233 516 [x0, x1, x2, some (.int v)] [.int v, s0, s1] h := E_nx rfl
set_option maxRecDepth 60000 in
theorem s233_516 (d : Nat) (h : AH) (x0 x1 x2 x3 : Option Value) (s0 : Value) (s1 : Value) (s2 : Value) : E d 233 516 [x0, x1, x2, x3] [s0, s1, s2] h = E d 233 517 [x0, x1, x2, x3] [.int 1, s0, s1, s2] h := E_nx rfl
set_option maxRecDepth 60000 in
theorem s233_517 (d : Nat) (h : AH) (x0 x1 x2 x3 : Option Value) (s0 : Int32) (s1 : Int32) (s2 : Value) (s3 : Value) : E d 233 517 [x0, x1, x2, x3] [.int s0, .int s1, s2, s3] h = E d 233 518 [x0, x1, x2, x3] [.int (s1 + s0), s2, s3] h := E_nx rfl
set_option maxRecDepth 60000 in
theorem s233_518 (d : Nat) (h : AH) (x0 x1 x2 x3 : Option Value) (s0 : Int32) (s1 : Nat) (s2 : Value) : E d 233 518 [x0, x1, x2, x3] [.int s0, .ref s1, s2] h = if inb s0 (alen h s1 0) = true ∨ inb s0 (alen h s1 8) = true then E d 233 519 [x0, x1, x2, x3] [.int (hI h s1 s0.toNatClampNeg), s2] h else none := E_gd rfl
set_option maxRecDepth 60000 in
theorem s233_519 (d : Nat) (h : AH) (x1 x2 x3 : Option Value) (s0 : Value) (s1 : Value) (v : Nat) : E d 233 519 [some (.ref v), x1, x2, x3] [s0, s1] h = E d 233 520 [some (.ref v), x1, x2, x3] [.ref v, s0, s1] h := E_nx rfl
set_option maxRecDepth 60000 in
theorem s233_520 (d : Nat) (h : AH) (x0 x1 x2 : Option Value) (s0 : Value) (s1 : Value) (s2 : Value) (v : Int32) : E d 233 520 [x0, x1, x2, some (.int v)] [s0, s1, s2] h = E d 233 521 [x0, x1, x2, some (.int v)] [.int v, s0, s1, s2] h := E_nx rfl
set_option maxRecDepth 60000 in
theorem s233_521 (d : Nat) (h : AH) (x0 x1 x2 x3 : Option Value) (s0 : Value) (s1 : Value) (s2 : Value) (s3 : Value) : E d 233 521 [x0, x1, x2, x3] [s0, s1, s2, s3] h = E d 233 522 [x0, x1, x2, x3] [.int 2, s0, s1, s2, s3] h := E_nx rfl
set_option maxRecDepth 60000 in
theorem s233_522 (d : Nat) (h : AH) (x0 x1 x2 x3 : Option Value) (s0 : Int32) (s1 : Int32) (s2 : Value) (s3 : Value) (s4 : Value) : E d 233 522 [x0, x1, x2, x3] [.int s0, .int s1, s2, s3, s4] h = E d 233 523 [x0, x1, x2, x3] [.int (s1 + s0), s2, s3, s4] h := E_nx rfl
set_option maxRecDepth 60000 in
theorem s233_523 (d : Nat) (h : AH) (x0 x1 x2 x3 : Option Value) (s0 : Int32) (s1 : Nat) (s2 : Value) (s3 : Value) : E d 233 523 [x0, x1, x2, x3] [.int s0, .ref s1, s2, s3] h = if inb s0 (alen h s1 0) = true ∨ inb s0 (alen h s1 8) = true then E d 233 524 [x0, x1, x2, x3] [.int (hI h s1 s0.toNatClampNeg), s2, s3] h else none := E_gd rfl
set_option maxRecDepth 60000 in
theorem s233_524 (d : Nat) (h : AH) (x0 x1 x2 x3 : Option Value) (s0 : Int32) (s1 : Int32) (s2 : Nat) : E (d + 1) 233 524 [x0, x1, x2, x3] [.int s0, .int s1, .ref s2] h = if hS h s2 = some (104, 0) then (E d 100 0 [some (.ref s2), some (.int s1), some (.int s0)] [] h).bind fun r => E (d + 1) 233 525 [x0, x1, x2, x3] (r.1.toList ++ []) r.2 else none := E_callg rfl
set_option maxRecDepth 60000 in
theorem s233_525 (d : Nat) (h : AH) (x0 x1 x3 : Option Value) (s0 : Value) (v : Nat) : E d 233 525 [x0, x1, some (.ref v), x3] [s0] h = E d 233 526 [x0, x1, some (.ref v), x3] [.ref v, s0] h := E_nx rfl
set_option maxRecDepth 60000 in
theorem s233_526 (d : Nat) (h : AH) (x1 x2 x3 : Option Value) (s0 : Value) (s1 : Value) (v : Nat) : E d 233 526 [some (.ref v), x1, x2, x3] [s0, s1] h = E d 233 527 [some (.ref v), x1, x2, x3] [.ref v, s0, s1] h := E_nx rfl
set_option maxRecDepth 60000 in
theorem s233_527 (d : Nat) (h : AH) (x0 x1 x2 : Option Value) (s0 : Value) (s1 : Value) (s2 : Value) (v : Int32) : E d 233 527 [x0, x1, x2, some (.int v)] [s0, s1, s2] h = E d 233 528 [x0, x1, x2, some (.int v)] [.int v, s0, s1, s2] h := E_nx rfl
set_option maxRecDepth 60000 in
theorem s233_528 (d : Nat) (h : AH) (x0 x1 x2 x3 : Option Value) (s0 : Value) (s1 : Value) (s2 : Value) (s3 : Value) : E d 233 528 [x0, x1, x2, x3] [s0, s1, s2, s3] h = E d 233 529 [x0, x1, x2, x3] [.int 1, s0, s1, s2, s3] h := E_nx rfl
set_option maxRecDepth 60000 in
theorem s233_529 (d : Nat) (h : AH) (x0 x1 x2 x3 : Option Value) (s0 : Int32) (s1 : Int32) (s2 : Value) (s3 : Value) (s4 : Value) : E d 233 529 [x0, x1, x2, x3] [.int s0, .int s1, s2, s3, s4] h = E d 233 530 [x0, x1, x2, x3] [.int (s1 + s0), s2, s3, s4] h := E_nx rfl
set_option maxRecDepth 60000 in
theorem s233_530 (d : Nat) (h : AH) (x0 x1 x2 x3 : Option Value) (s0 : Int32) (s1 : Nat) (s2 : Value) (s3 : Value) : E d 233 530 [x0, x1, x2, x3] [.int s0, .ref s1, s2, s3] h = if inb s0 (alen h s1 0) = true ∨ inb s0 (alen h s1 8) = true then E d 233 531 [x0, x1, x2, x3] [.int (hI h s1 s0.toNatClampNeg), s2, s3] h else none := E_gd rfl
set_option maxRecDepth 60000 in
theorem s233_531 (d : Nat) (h : AH) (x1 x2 x3 : Option Value) (s0 : Value) (s1 : Value) (s2 : Value) (v : Nat) : E d 233 531 [some (.ref v), x1, x2, x3] [s0, s1, s2] h = E d 233 532 [some (.ref v), x1, x2, x3] [.ref v, s0, s1, s2] h := E_nx rfl
set_option maxRecDepth 60000 in
theorem s233_532 (d : Nat) (h : AH) (x0 x1 x2 : Option Value) (s0 : Value) (s1 : Value) (s2 : Value) (s3 : Value) (v : Int32) : E d 233 532 [x0, x1, x2, some (.int v)] [s0, s1, s2, s3] h = E d 233 533 [x0, x1, x2, some (.int v)] [.int v, s0, s1, s2, s3] h := E_nx rfl
set_option maxRecDepth 60000 in
theorem s233_533 (d : Nat) (h : AH) (x0 x1 x2 x3 : Option Value) (s0 : Value) (s1 : Value) (s2 : Value) (s3 : Value) (s4 : Value) : E d 233 533 [x0, x1, x2, x3] [s0, s1, s2, s3, s4] h = E d 233 534 [x0, x1, x2, x3] [.int 2, s0, s1, s2, s3, s4] h := E_nx rfl
set_option maxRecDepth 60000 in
theorem s233_534 (d : Nat) (h : AH) (x0 x1 x2 x3 : Option Value) (s0 : Int32) (s1 : Int32) (s2 : Value) (s3 : Value) (s4 : Value) (s5 : Value) : E d 233 534 [x0, x1, x2, x3] [.int s0, .int s1, s2, s3, s4, s5] h = E d 233 535 [x0, x1, x2, x3] [.int (s1 + s0), s2, s3, s4, s5] h := E_nx rfl
set_option maxRecDepth 60000 in
theorem s233_535 (d : Nat) (h : AH) (x0 x1 x2 x3 : Option Value) (s0 : Int32) (s1 : Nat) (s2 : Value) (s3 : Value) (s4 : Value) : E d 233 535 [x0, x1, x2, x3] [.int s0, .ref s1, s2, s3, s4] h = if inb s0 (alen h s1 0) = true ∨ inb s0 (alen h s1 8) = true then E d 233 536 [x0, x1, x2, x3] [.int (hI h s1 s0.toNatClampNeg), s2, s3, s4] h else none := E_gd rfl
set_option maxRecDepth 60000 in
theorem s233_536 (d : Nat) (h : AH) (x0 x1 x2 x3 : Option Value) (s0 : Int32) (s1 : Int32) (s2 : Nat) (s3 : Value) : E (d + 1) 233 536 [x0, x1, x2, x3] [.int s0, .int s1, .ref s2, s3] h = if hS h s2 = some (105, 0) then (E d 179 0 [some (.ref s2), some (.int s1), some (.int s0)] [] h).bind fun r => E (d + 1) 233 537 [x0, x1, x2, x3] (r.1.toList ++ [s3]) r.2 else none := E_callg rfl
set_option maxRecDepth 60000 in
theorem s233_537 (d : Nat) (h : AH) (x0 x1 x2 x3 : Option Value) (s0 : Int32) (s1 : Int32) : E d 233 537 [x0, x1, x2, x3] [.int s0, .int s1] h = if s1 = s0 then E d 233 1068 [x0, x1, x2, x3] [] h else E d 233 538 [x0, x1, x2, x3] [] h := E_ifc rfl
set_option maxRecDepth 60000 in
theorem s233_538 (d : Nat) (h : AH) (x0 x1 x2 x3 : Option Value)  : E d 233 538 [x0, x1, x2, x3] [] h = E d 233 539 [x0, x1, x2, x3] [.int 0] h := E_nx rfl
set_option maxRecDepth 60000 in
theorem s233_539 (d : Nat) (h : AH) (x0 x1 x2 x3 : Option Value) (s0 : Int32) : E d 233 539 [x0, x1, x2, x3] [.int s0] h = if s0 = 0 ∨ s0 = 1 then some (some (.int s0), h) else none := E_retg rfl
set_option maxRecDepth 60000 in
theorem s233_540 (d : Nat) (h : AH) (x0 x2 x3 : Option Value) (v : Nat) : E d 233 540 [x0, some (.ref v), x2, x3] [] h = E d 233 541 [x0, some (.ref v), x2, x3] [.ref v] h := E_nx rfl
set_option maxRecDepth 60000 in
theorem s233_541 (d : Nat) (h : AH) (x1 x2 x3 : Option Value) (s0 : Value) (v : Nat) : E d 233 541 [some (.ref v), x1, x2, x3] [s0] h = E d 233 542 [some (.ref v), x1, x2, x3] [.ref v, s0] h := E_nx rfl
set_option maxRecDepth 60000 in
theorem s233_542 (d : Nat) (h : AH) (x0 x1 x2 : Option Value) (s0 : Value) (s1 : Value) (v : Int32) : E d 233 542 [x0, x1, x2, some (.int v)] [s0, s1] h = E d 233 543 [x0, x1, x2, some (.int v)] [.int v, s0, s1] h := E_nx rfl
set_option maxRecDepth 60000 in
theorem s233_543 (d : Nat) (h : AH) (x0 x1 x2 x3 : Option Value) (s0 : Value) (s1 : Value) (s2 : Value) : E d 233 543 [x0, x1, x2, x3] [s0, s1, s2] h = E d 233 544 [x0, x1, x2, x3] [.int 1, s0, s1, s2] h := E_nx rfl
set_option maxRecDepth 60000 in
theorem s233_544 (d : Nat) (h : AH) (x0 x1 x2 x3 : Option Value) (s0 : Int32) (s1 : Int32) (s2 : Value) (s3 : Value) : E d 233 544 [x0, x1, x2, x3] [.int s0, .int s1, s2, s3] h = E d 233 545 [x0, x1, x2, x3] [.int (s1 + s0), s2, s3] h := E_nx rfl
set_option maxRecDepth 60000 in
theorem s233_545 (d : Nat) (h : AH) (x0 x1 x2 x3 : Option Value) (s0 : Int32) (s1 : Nat) (s2 : Value) : E d 233 545 [x0, x1, x2, x3] [.int s0, .ref s1, s2] h = if inb s0 (alen h s1 0) = true ∨ inb s0 (alen h s1 8) = true then E d 233 546 [x0, x1, x2, x3] [.int (hI h s1 s0.toNatClampNeg), s2] h else none := E_gd rfl
set_option maxRecDepth 60000 in
theorem s233_546 (d : Nat) (h : AH) (x0 x1 x2 x3 : Option Value) (s0 : Int32) (s1 : Nat) : E (d + 1) 233 546 [x0, x1, x2, x3] [.int s0, .ref s1] h = if hS h s1 = some (104, 0) then (E d 101 0 [some (.ref s1), some (.int s0), none, none] [] h).bind fun r => E (d + 1) 233 547 [x0, x1, x2, x3] (r.1.toList ++ []) r.2 else none := E_callg rfl
set_option maxRecDepth 60000 in
theorem s233_547 (d : Nat) (h : AH) (x0 x1 x3 : Option Value) (s0 : Value) (v : Nat) : E d 233 547 [x0, x1, some (.ref v), x3] [s0] h = E d 233 548 [x0, x1, some (.ref v), x3] [.ref v, s0] h := E_nx rfl
set_option maxRecDepth 60000 in
theorem s233_548 (d : Nat) (h : AH) (x1 x2 x3 : Option Value) (s0 : Value) (s1 : Value) (v : Nat) : E d 233 548 [some (.ref v), x1, x2, x3] [s0, s1] h = E d 233 549 [some (.ref v), x1, x2, x3] [.ref v, s0, s1] h := E_nx rfl
set_option maxRecDepth 60000 in
theorem s233_549 (d : Nat) (h : AH) (x0 x1 x2 : Option Value) (s0 : Value) (s1 : Value) (s2 : Value) (v : Int32) : E d 233 549 [x0, x1, x2, some (.int v)] [s0, s1, s2] h = E d 233 550 [x0, x1, x2, some (.int v)] [.int v, s0, s1, s2] h := E_nx rfl
set_option maxRecDepth 60000 in
theorem s233_550 (d : Nat) (h : AH) (x0 x1 x2 x3 : Option Value) (s0 : Value) (s1 : Value) (s2 : Value) (s3 : Value) : E d 233 550 [x0, x1, x2, x3] [s0, s1, s2, s3] h = E d 233 551 [x0, x1, x2, x3] [.int 1, s0, s1, s2, s3] h := E_nx rfl
set_option maxRecDepth 60000 in
theorem s233_551 (d : Nat) (h : AH) (x0 x1 x2 x3 : Option Value) (s0 : Int32) (s1 : Int32) (s2 : Value) (s3 : Value) (s4 : Value) : E d 233 551 [x0, x1, x2, x3] [.int s0, .int s1, s2, s3, s4] h = E d 233 552 [x0, x1, x2, x3] [.int (s1 + s0), s2, s3, s4] h := E_nx rfl
set_option maxRecDepth 60000 in
theorem s233_552 (d : Nat) (h : AH) (x0 x1 x2 x3 : Option Value) (s0 : Int32) (s1 : Nat) (s2 : Value) (s3 : Value) : E d 233 552 [x0, x1, x2, x3] [.int s0, .ref s1, s2, s3] h = if inb s0 (alen h s1 0) = true ∨ inb s0 (alen h s1 8) = true then E d 233 553 [x0, x1, x2, x3] [.int (hI h s1 s0.toNatClampNeg), s2, s3] h else none := E_gd rfl
set_option maxRecDepth 60000 in
theorem s233_553 (d : Nat) (h : AH) (x0 x1 x2 x3 : Option Value) (s0 : Int32) (s1 : Nat) (s2 : Value) : E (d + 1) 233 553 [x0, x1, x2, x3] [.int s0, .ref s1, s2] h = if hS h s1 = some (105, 0) then (E d 185 0 [some (.ref s1), some (.int s0), none, none] [] h).bind fun r => E (d + 1) 233 554 [x0, x1, x2, x3] (r.1.toList ++ [s2]) r.2 else none := E_callg rfl
set_option maxRecDepth 60000 in
theorem s233_554 (d : Nat) (h : AH) (x0 x1 x2 x3 : Option Value) (s0 : Int32) (s1 : Int32) : E d 233 554 [x0, x1, x2, x3] [.int s0, .int s1] h = if s1 = s0 then E d 233 1068 [x0, x1, x2, x3] [] h else E d 233 555 [x0, x1, x2, x3] [] h := E_ifc rfl
set_option maxRecDepth 60000 in
theorem s233_555 (d : Nat) (h : AH) (x0 x1 x2 x3 : Option Value)  : E d 233 555 [x0, x1, x2, x3] [] h = E d 233 556 [x0, x1, x2, x3] [.int 0] h := E_nx rfl
set_option maxRecDepth 60000 in
theorem s233_556 (d : Nat) (h : AH) (x0 x1 x2 x3 : Option Value) (s0 : Int32) : E d 233 556 [x0, x1, x2, x3] [.int s0] h = if s0 = 0 ∨ s0 = 1 then some (some (.int s0), h) else none := E_retg rfl
set_option maxRecDepth 60000 in
theorem s233_557 (d : Nat) (h : AH) (x0 x2 x3 : Option Value) (v : Nat) : E d 233 557 [x0, some (.ref v), x2, x3] [] h = E d 233 558 [x0, some (.ref v), x2, x3] [.ref v] h := E_nx rfl
set_option maxRecDepth 60000 in
theorem s233_558 (d : Nat) (h : AH) (x0 x1 x2 x3 : Option Value) (s0 : Nat) : E (d + 1) 233 558 [x0, x1, x2, x3] [.ref s0] h = if hS h s0 = some (104, 0) then (E d 102 0 [some (.ref s0), none, none] [] h).bind fun r => E (d + 1) 233 559 [x0, x1, x2, x3] (r.1.toList ++ []) r.2 else none := E_callg rfl
set_option maxRecDepth 60000 in
theorem s233_559 (d : Nat) (h : AH) (x0 x1 x3 : Option Value) (s0 : Value) (v : Nat) : E d 233 559 [x0, x1, some (.ref v), x3] [s0] h = E d 233 560 [x0, x1, some (.ref v), x3] [.ref v, s0] h := E_nx rfl
set_option maxRecDepth 60000 in
theorem s233_560 (d : Nat) (h : AH) (x0 x1 x2 x3 : Option Value) (s0 : Nat) (s1 : Value) : E (d + 1) 233 560 [x0, x1, x2, x3] [.ref s0, s1] h = if hS h s0 = some (105, 0) then (E d 186 0 [some (.ref s0), none, none] [] h).bind fun r => E (d + 1) 233 561 [x0, x1, x2, x3] (r.1.toList ++ [s1]) r.2 else none := E_callg rfl
set_option maxRecDepth 60000 in
theorem s233_561 (d : Nat) (h : AH) (x0 x1 x2 x3 : Option Value) (s0 : Int32) (s1 : Int32) : E d 233 561 [x0, x1, x2, x3] [.int s0, .int s1] h = if s1 = s0 then E d 233 1068 [x0, x1, x2, x3] [] h else E d 233 562 [x0, x1, x2, x3] [] h := E_ifc rfl
set_option maxRecDepth 60000 in
theorem s233_562 (d : Nat) (h : AH) (x0 x1 x2 x3 : Option Value)  : E d 233 562 [x0, x1, x2, x3] [] h = E d 233 563 [x0, x1, x2, x3] [.int 0] h := E_nx rfl
set_option maxRecDepth 60000 in
theorem s233_563 (d : Nat) (h : AH) (x0 x1 x2 x3 : Option Value) (s0 : Int32) : E d 233 563 [x0, x1, x2, x3] [.int s0] h = if s0 = 0 ∨ s0 = 1 then some (some (.int s0), h) else none := E_retg rfl
set_option maxRecDepth 60000 in
theorem s233_564 (d : Nat) (h : AH) (x0 x2 x3 : Option Value) (v : Nat) : E d 233 564 [x0, some (.ref v), x2, x3] [] h = E d 233 565 [x0, some (.ref v), x2, x3] [.ref v] h := E_nx rfl
set_option maxRecDepth 60000 in
theorem s233_565 (d : Nat) (h : AH) (x1 x2 x3 : Option Value) (s0 : Value) (v : Nat) : E d 233 565 [some (.ref v), x1, x2, x3] [s0] h = E d 233 566 [some (.ref v), x1, x2, x3] [.ref v, s0] h := E_nx rfl
set_option maxRecDepth 60000 in
theorem s233_566 (d : Nat) (h : AH) (x0 x1 x2 : Option Value) (s0 : Value) (s1 : Value) (v : Int32) : E d 233 566 [x0, x1, x2, some (.int v)] [s0, s1] h = E d 233 567 [x0, x1, x2, some (.int v)] [.int v, s0, s1] h := E_nx rfl
set_option maxRecDepth 60000 in
theorem s233_567 (d : Nat) (h : AH) (x0 x1 x2 x3 : Option Value) (s0 : Value) (s1 : Value) (s2 : Value) : E d 233 567 [x0, x1, x2, x3] [s0, s1, s2] h = E d 233 568 [x0, x1, x2, x3] [.int 1, s0, s1, s2] h := E_nx rfl
set_option maxRecDepth 60000 in
theorem s233_568 (d : Nat) (h : AH) (x0 x1 x2 x3 : Option Value) (s0 : Int32) (s1 : Int32) (s2 : Value) (s3 : Value) : E d 233 568 [x0, x1, x2, x3] [.int s0, .int s1, s2, s3] h = E d 233 569 [x0, x1, x2, x3] [.int (s1 + s0), s2, s3] h := E_nx rfl
set_option maxRecDepth 60000 in
theorem s233_569 (d : Nat) (h : AH) (x0 x1 x2 x3 : Option Value) (s0 : Int32) (s1 : Nat) (s2 : Value) : E d 233 569 [x0, x1, x2, x3] [.int s0, .ref s1, s2] h = if inb s0 (alen h s1 0) = true ∨ inb s0 (alen h s1 8) = true then E d 233 570 [x0, x1, x2, x3] [.int (hI h s1 s0.toNatClampNeg), s2] h else none := E_gd rfl
set_option maxRecDepth 60000 in
theorem s233_570 (d : Nat) (h : AH) (x0 x1 x2 x3 : Option Value) (s0 : Int32) (s1 : Nat) : E (d + 1) 233 570 [x0, x1, x2, x3] [.int s0, .ref s1] h = if hS h s1 = some (104, 0) then (E d 103 0 [some (.ref s1), some (.int s0)] [] h).bind fun r => E (d + 1) 233 571 [x0, x1, x2, x3] (r.1.toList ++ []) r.2 else none := E_callg rfl
set_option maxRecDepth 60000 in
theorem s233_571 (d : Nat) (h : AH) (x0 x1 x3 : Option Value) (s0 : Value) (v : Nat) : E d 233 571 [x0, x1, some (.ref v), x3] [s0] h = E d 233 572 [x0, x1, some (.ref v), x3] [.ref v, s0] h := E_nx rfl
set_option maxRecDepth 60000 in
theorem s233_572 (d : Nat) (h : AH) (x1 x2 x3 : Option Value) (s0 : Value) (s1 : Value) (v : Nat) : E d 233 572 [some (.ref v), x1, x2, x3] [s0, s1] h = E d 233 573 [some (.ref v), x1, x2, x3] [.ref v, s0, s1] h := E_nx rfl
set_option maxRecDepth 60000 in
theorem s233_573 (d : Nat) (h : AH) (x0 x1 x2 : Option Value) (s0 : Value) (s1 : Value) (s2 : Value) (v : Int32) : E d 233 573 [x0, x1, x2, some (.int v)] [s0, s1, s2] h = E d 233 574 [x0, x1, x2, some (.int v)] [.int v, s0, s1, s2] h := E_nx rfl
set_option maxRecDepth 60000 in
theorem s233_574 (d : Nat) (h : AH) (x0 x1 x2 x3 : Option Value) (s0 : Value) (s1 : Value) (s2 : Value) (s3 : Value) : E d 233 574 [x0, x1, x2, x3] [s0, s1, s2, s3] h = E d 233 575 [x0, x1, x2, x3] [.int 1, s0, s1, s2, s3] h := E_nx rfl
set_option maxRecDepth 60000 in
theorem s233_575 (d : Nat) (h : AH) (x0 x1 x2 x3 : Option Value) (s0 : Int32) (s1 : Int32) (s2 : Value) (s3 : Value) (s4 : Value) : E d 233 575 [x0, x1, x2, x3] [.int s0, .int s1, s2, s3, s4] h = E d 233 576 [x0, x1, x2, x3] [.int (s1 + s0), s2, s3, s4] h := E_nx rfl
set_option maxRecDepth 60000 in
theorem s233_576 (d : Nat) (h : AH) (x0 x1 x2 x3 : Option Value) (s0 : Int32) (s1 : Nat) (s2 : Value) (s3 : Value) : E d 233 576 [x0, x1, x2, x3] [.int s0, .ref s1, s2, s3] h = if inb s0 (alen h s1 0) = true ∨ inb s0 (alen h s1 8) = true then E d 233 577 [x0, x1, x2, x3] [.int (hI h s1 s0.toNatClampNeg), s2, s3] h else none := E_gd rfl
set_option maxRecDepth 60000 in
theorem s233_577 (d : Nat) (h : AH) (x0 x1 x2 x3 : Option Value) (s0 : Int32) (s1 : Nat) (s2 : Value) : E (d + 1) 233 577 [x0, x1, x2, x3] [.int s0, .ref s1, s2] h = if hS h s1 = some (105, 0) then (E d 187 0 [some (.ref s1), some (.int s0)] [] h).bind fun r => E (d + 1) 233 578 [x0, x1, x2, x3] (r.1.toList ++ [s2]) r.2 else none := E_callg rfl
set_option maxRecDepth 60000 in
theorem s233_578 (d : Nat) (h : AH) (x0 x1 x2 x3 : Option Value) (s0 : Int32) (s1 : Int32) : E d 233 578 [x0, x1, x2, x3] [.int s0, .int s1] h = if s1 = s0 then E d 233 1068 [x0, x1, x2, x3] [] h else E d 233 579 [x0, x1, x2, x3] [] h := E_ifc rfl
set_option maxRecDepth 60000 in
theorem s233_579 (d : Nat) (h : AH) (x0 x1 x2 x3 : Option Value)  : E d 233 579 [x0, x1, x2, x3] [] h = E d 233 580 [x0, x1, x2, x3] [.int 0] h := E_nx rfl
set_option maxRecDepth 60000 in
theorem s233_580 (d : Nat) (h : AH) (x0 x1 x2 x3 : Option Value) (s0 : Int32) : E d 233 580 [x0, x1, x2, x3] [.int s0] h = if s0 = 0 ∨ s0 = 1 then some (some (.int s0), h) else none := E_retg rfl
set_option maxRecDepth 60000 in
theorem s233_581 (d : Nat) (h : AH) (x0 x2 x3 : Option Value) (v : Nat) : E d 233 581 [x0, some (.ref v), x2, x3] [] h = E d 233 582 [x0, some (.ref v), x2, x3] [.ref v] h := E_nx rfl
set_option maxRecDepth 60000 in
theorem s233_582 (d : Nat) (h : AH) (x1 x2 x3 : Option Value) (s0 : Value) (v : Nat) : E d 233 582 [some (.ref v), x1, x2, x3] [s0] h = E d 233 583 [some (.ref v), x1, x2, x3] [.ref v, s0] h := E_nx rfl
set_option maxRecDepth 60000 in
theorem s233_583 (d : Nat) (h : AH) (x0 x1 x2 : Option Value) (s0 : Value) (s1 : Value) (v : Int32) : E d 233 583 [x0, x1, x2, some (.int v)] [s0, s1] h = E d 233 584 [x0, x1, x2, some (.int v)] [.int v, s0, s1] h := E_nx rfl
set_option maxRecDepth 60000 in
theorem s233_584 (d : Nat) (h : AH) (x0 x1 x2 x3 : Option Value) (s0 : Value) (s1 : Value) (s2 : Value) : E d 233 584 [x0, x1, x2, x3] [s0, s1, s2] h = E d 233 585 [x0, x1, x2, x3] [.int 1, s0, s1, s2] h := E_nx rfl
set_option maxRecDepth 60000 in
theorem s233_585 (d : Nat) (h : AH) (x0 x1 x2 x3 : Option Value) (s0 : Int32) (s1 : Int32) (s2 : Value) (s3 : Value) : E d 233 585 [x0, x1, x2, x3] [.int s0, .int s1, s2, s3] h = E d 233 586 [x0, x1, x2, x3] [.int (s1 + s0), s2, s3] h := E_nx rfl
set_option maxRecDepth 60000 in
theorem s233_586 (d : Nat) (h : AH) (x0 x1 x2 x3 : Option Value) (s0 : Int32) (s1 : Nat) (s2 : Value) : E d 233 586 [x0, x1, x2, x3] [.int s0, .ref s1, s2] h = if inb s0 (alen h s1 0) = true ∨ inb s0 (alen h s1 8) = true then E d 233 587 [x0, x1, x2, x3] [.int (hI h s1 s0.toNatClampNeg), s2] h else none := E_gd rfl
set_option maxRecDepth 60000 in
theorem s233_587 (d : Nat) (h : AH) (x1 x2 x3 : Option Value) (s0 : Value) (s1 : Value) (v : Nat) : E d 233 587 [some (.ref v), x1, x2, x3] [s0, s1] h = E d 233 588 [some (.ref v), x1, x2, x3] [.ref v, s0, s1] h := E_nx rfl
set_option maxRecDepth 60000 in
theorem s233_588 (d : Nat) (h : AH) (x0 x1 x2 : Option Value) (s0 : Value) (s1 : Value) (s2 : Value) (v : Int32) : E d 233 588 [x0, x1, x2, some (.int v)] [s0, s1, s2] h = E d 233 589 [x0, x1, x2, some (.int v)] [.int v, s0, s1, s2] h := E_nx rfl
set_option maxRecDepth 60000 in
theorem s233_589 (d : Nat) (h : AH) (x0 x1 x2 x3 : Option Value) (s0 : Value) (s1 : Value) (s2 : Value) (s3 : Value) : E d 233 589 [x0, x1, x2, x3] [s0, s1, s2, s3] h = E d 233 590 [x0, x1, x2, x3] [.int 2, s0, s1, s2, s3] h := E_nx rfl
set_option maxRecDepth 60000 in
theorem s233_590 (d : Nat) (h : AH) (x0 x1 x2 x3 : Option Value) (s0 : Int32) (s1 : Int32) (s2 : Value) (s3 : Value) (s4 : Value) : E d 233 590 [x0, x1, x2, x3] [.int s0, .int s1, s2, s3, s4] h = E d 233 591 [x0, x1, x2, x3] [.int (s1 + s0), s2, s3, s4] h := E_nx rfl
set_option maxRecDepth 60000 in
theorem s233_591 (d : Nat) (h : AH) (x0 x1 x2 x3 : Option Value) (s0 : Int32) (s1 : Nat) (s2 : Value) (s3 : Value) : E d 233 591 [x0, x1, x2, x3] [.int s0, .ref s1, s2, s3] h = if inb s0 (alen h s1 0) = true ∨ inb s0 (alen h s1 8) = true then E d 233 592 [x0, x1, x2, x3] [.int (hI h s1 s0.toNatClampNeg), s2, s3] h else none := E_gd rfl
set_option maxRecDepth 60000 in
theorem s233_592 (d : Nat) (h : AH) (x0 x1 x2 x3 : Option Value) (s0 : Int32) (s1 : Int32) (s2 : Nat) : E (d + 1) 233 592 [x0, x1, x2, x3] [.int s0, .int s1, .ref s2] h = if hS h s2 = some (104, 0) then (E d 104 0 [some (.ref s2), some (.int s1), some (.int s0), none] [] h).bind fun r => E (d + 1) 233 593 [x0, x1, x2, x3] (r.1.toList ++ []) r.2 else none := E_callg rfl
set_option maxRecDepth 60000 in
theorem s233_593 (d : Nat) (h : AH) (x0 x1 x3 : Option Value) (s0 : Value) (v : Nat) : E d 233 593 [x0, x1, some (.ref v), x3] [s0] h = E d 233 594 [x0, x1, some (.ref v), x3] [.ref v, s0] h := E_nx rfl
set_option maxRecDepth 60000 in
theorem s233_594 (d : Nat) (h : AH) (x1 x2 x3 : Option Value) (s0 : Value) (s1 : Value) (v : Nat) : E d 233 594 [some (.ref v), x1, x2, x3] [s0, s1] h = E d 233 595 [some (.ref v), x1, x2, x3] [.ref v, s0, s1] h := E_nx rfl
set_option maxRecDepth 60000 in
theorem s233_595 (d : Nat) (h : AH) (x0 x1 x2 : Option Value) (s0 : Value) (s1 : Value) (s2 : Value) (v : Int32) : E d 233 595 [x0, x1, x2, some (.int v)] [s0, s1, s2] h = E d 233 596 [x0, x1, x2, some (.int v)] [.int v, s0, s1, s2] h := E_nx rfl
set_option maxRecDepth 60000 in
theorem s233_596 (d : Nat) (h : AH) (x0 x1 x2 x3 : Option Value) (s0 : Value) (s1 : Value) (s2 : Value) (s3 : Value) : E d 233 596 [x0, x1, x2, x3] [s0, s1, s2, s3] h = E d 233 597 [x0, x1, x2, x3] [.int 1, s0, s1, s2, s3] h := E_nx rfl
set_option maxRecDepth 60000 in
theorem s233_597 (d : Nat) (h : AH) (x0 x1 x2 x3 : Option Value) (s0 : Int32) (s1 : Int32) (s2 : Value) (s3 : Value) (s4 : Value) : E d 233 597 [x0, x1, x2, x3] [.int s0, .int s1, s2, s3, s4] h = E d 233 598 [x0, x1, x2, x3] [.int (s1 + s0), s2, s3, s4] h := E_nx rfl
set_option maxRecDepth 60000 in
theorem s233_598 (d : Nat) (h : AH) (x0 x1 x2 x3 : Option Value) (s0 : Int32) (s1 : Nat) (s2 : Value) (s3 : Value) : E d 233 598 [x0, x1, x2, x3] [.int s0, .ref s1, s2, s3] h = if inb s0 (alen h s1 0) = true ∨ inb s0 (alen h s1 8) = true then E d 233 599 [x0, x1, x2, x3] [.int (hI h s1 s0.toNatClampNeg), s2, s3] h else none := E_gd rfl
set_option maxRecDepth 60000 in
theorem s233_599 (d : Nat) (h : AH) (x1 x2 x3 : Option Value) (s0 : Value) (s1 : Value) (s2 : Value) (v : Nat) : E d 233 599 [some (.ref v), x1, x2, x3] [s0, s1, s2] h = E d 233 600 [some (.ref v), x1, x2, x3] [.ref v, s0, s1, s2] h := E_nx rfl
set_option maxRecDepth 60000 in
theorem s233_600 (d : Nat) (h : AH) (x0 x1 x2 : Option Value) (s0 : Value) (s1 : Value) (s2 : Value) (s3 : Value) (v : Int32) : E d 233 600 [x0, x1, x2, some (.int v)] [s0, s1, s2, s3] h = E d 233 601 [x0, x1, x2, some (.int v)] [.int v, s0, s1, s2, s3] h := E_nx rfl
set_option maxRecDepth 60000 in
theorem s233_601 (d : Nat) (h : AH) (x0 x1 x2 x3 : Option Value) (s0 : Value) (s1 : Value) (s2 : Value) (s3 : Value) (s4 : Value) : E d 233 601 [x0, x1, x2, x3] [s0, s1, s2, s3, s4] h = E d 233 602 [x0, x1, x2, x3] [.int 2, s0, s1, s2, s3, s4] h := E_nx rfl
set_option maxRecDepth 60000 in
theorem s233_602 (d : Nat) (h : AH) (x0 x1 x2 x3 : Option Value) (s0 : Int32) (s1 : Int32) (s2 : Value) (s3 : Value) (s4 : Value) (s5 : Value) : E d 233 602 [x0, x1, x2, x3] [.int s0, .int s1, s2, s3, s4, s5] h = E d 233 603 [x0, x1, x2, x3] [.int (s1 + s0), s2, s3, s4, s5] h := E_nx rfl
set_option maxRecDepth 60000 in
theorem s233_603 (d : Nat) (h : AH) (x0 x1 x2 x3 : Option Value) (s0 : Int32) (s1 : Nat) (s2 : Value) (s3 : Value) (s4 : Value) : E d 233 603 [x0, x1, x2, x3] [.int s0, .ref s1, s2, s3, s4] h = if inb s0 (alen h s1 0) = true ∨ inb s0 (alen h s1 8) = true then E d 233 604 [x0, x1, x2, x3] [.int (hI h s1 s0.toNatClampNeg), s2, s3, s4] h else none := E_gd rfl
set_option maxRecDepth 60000 in
theorem s233_604 (d : Nat) (h : AH) (x0 x1 x2 x3 : Option Value) (s0 : Int32) (s1 : Int32) (s2 : Nat) (s3 : Value) : E (d + 1) 233 604 [x0, x1, x2, x3] [.int s0, .int s1, .ref s2, s3] h = if hS h s2 = some (105, 0) then (E d 190 0 [some (.ref s2), some (.int s1), some (.int s0), none] [] h).bind fun r => E (d + 1) 233 605 [x0, x1, x2, x3] (r.1.toList ++ [s3]) r.2 else none := E_callg rfl
set_option maxRecDepth 60000 in
theorem s233_605 (d : Nat) (h : AH) (x0 x1 x2 x3 : Option Value) (s0 : Int32) (s1 : Int32) : E d 233 605 [x0, x1, x2, x3] [.int s0, .int s1] h = if s1 = s0 then E d 233 1068 [x0, x1, x2, x3] [] h else E d 233 606 [x0, x1, x2, x3] [] h := E_ifc rfl
set_option maxRecDepth 60000 in
theorem s233_606 (d : Nat) (h : AH) (x0 x1 x2 x3 : Option Value)  : E d 233 606 [x0, x1, x2, x3] [] h = E d 233 607 [x0, x1, x2, x3] [.int 0] h := E_nx rfl
set_option maxRecDepth 60000 in
theorem s233_607 (d : Nat) (h : AH) (x0 x1 x2 x3 : Option Value) (s0 : Int32) : E d 233 607 [x0, x1, x2, x3] [.int s0] h = if s0 = 0 ∨ s0 = 1 then some (some (.int s0), h) else none := E_retg rfl
set_option maxRecDepth 60000 in
theorem s233_608 (d : Nat) (h : AH) (x0 x2 x3 : Option Value) (v : Nat) : E d 233 608 [x0, some (.ref v), x2, x3] [] h = E d 233 609 [x0, some (.ref v), x2, x3] [.ref v] h := E_nx rfl
set_option maxRecDepth 60000 in
theorem s233_609 (d : Nat) (h : AH) (x1 x2 x3 : Option Value) (s0 : Value) (v : Nat) : E d 233 609 [some (.ref v), x1, x2, x3] [s0] h = E d 233 610 [some (.ref v), x1, x2, x3] [.ref v, s0] h := E_nx rfl
set_option maxRecDepth 60000 in
theorem s233_610 (d : Nat) (h : AH) (x0 x1 x2 : Option Value) (s0 : Value) (s1 : Value) (v : Int32) : E d 233 610 [x0, x1, x2, some (.int v)] [s0, s1] h = E d 233 611 [x0, x1, x2, some (.int v)] [.int v, s0, s1] h := E_nx rfl
set_option maxRecDepth 60000 in
theorem s233_611 (d : Nat) (h : AH) (x0 x1 x2 x3 : Option Value) (s0 : Value) (s1 : Value) (s2 : Value) : E d 233 611 [x0, x1, x2, x3] [s0, s1, s2] h = E d 233 612 [x0, x1, x2, x3] [.int 1, s0, s1, s2] h := E_nx rfl
set_option maxRecDepth 60000 in
theorem s233_612 (d : Nat) (h : AH) (x0 x1 x2 x3 : Option Value) (s0 : Int32) (s1 : Int32) (s2 : Value) (s3 : Value) : E d 233 612 [x0, x1, x2, x3] [.int s0, .int s1, s2, s3] h = E d 233 613 [x0, x1, x2, x3] [.int (s1 + s0), s2, s3] h := E_nx rfl
set_option maxRecDepth 60000 in
theorem s233_613 (d : Nat) (h : AH) (x0 x1 x2 x3 : Option Value) (s0 : Int32) (s1 : Nat) (s2 : Value) : E d 233 613 [x0, x1, x2, x3] [.int s0, .ref s1, s2] h = if inb s0 (alen h s1 0) = true ∨ inb s0 (alen h s1 8) = true then E d 233 614 [x0, x1, x2, x3] [.int (hI h s1 s0.toNatClampNeg), s2] h else none := E_gd rfl
set_option maxRecDepth 60000 in
theorem s233_614 (d : Nat) (h : AH) (x1 x2 x3 : Option Value) (s0 : Value) (s1 : Value) (v : Nat) : E d 233 614 [some (.ref v), x1, x2, x3] [s0, s1] h = E d 233 615 [some (.ref v), x1, x2, x3] [.ref v, s0, s1] h := E_nx rfl
set_option maxRecDepth 60000 in
theorem s233_615 (d : Nat) (h : AH) (x0 x1 x2 : Option Value) (s0 : Value) (s1 : Value) (s2 : Value) (v : Int32) : E d 233 615 [x0, x1, x2, some (.int v)] [s0, s1, s2] h = E d 233 616 [x0, x1, x2, some (.int v)] [.int v, s0, s1, s2] h := E_nx rfl
set_option maxRecDepth 60000 in
theorem s233_616 (d : Nat) (h : AH) (x0 x1 x2 x3 : Option Value) (s0 : Value) (s1 : Value) (s2 : Value) (s3 : Value) : E d 233 616 [x0, x1, x2, x3] [s0, s1, s2, s3] h = E d 233 617 [x0, x1, x2, x3] [.int 2, s0, s1, s2, s3] h := E_nx rfl
set_option maxRecDepth 60000 in
theorem s233_617 (d : Nat) (h : AH) (x0 x1 x2 x3 : Option Value) (s0 : Int32) (s1 : Int32) (s2 : Value) (s3 : Value) (s4 : Value) : E d 233 617 [x0, x1, x2, x3] [.int s0, .int s1, s2, s3, s4] h = E d 233 618 [x0, x1, x2, x3] [.int (s1 + s0), s2, s3, s4] h := E_nx rfl
set_option maxRecDepth 60000 in
theorem s233_618 (d : Nat) (h : AH) (x0 x1 x2 x3 : Option Value) (s0 : Int32) (s1 : Nat) (s2 : Value) (s3 : Value) : E d 233 618 [x0, x1, x2, x3] [.int s0, .ref s1, s2, s3] h = if inb s0 (alen h s1 0) = true ∨ inb s0 (alen h s1 8) = true then E d 233 619 [x0, x1, x2, x3] [.int (hI h s1 s0.toNatClampNeg), s2, s3] h else none := E_gd rfl
set_option maxRecDepth 60000 in
theorem s233_619 (d : Nat) (h : AH) (x0 x1 x2 x3 : Option Value) (s0 : Int32) (s1 : Int32) (s2 : Nat) : E (d + 1) 233 619 [x0, x1, x2, x3] [.int s0, .int s1, .ref s2] h = if hS h s2 = some (104, 0) then (E d 105 0 [some (.ref s2), some (.int s1), some (.int s0), none, none] [] h).bind fun r => E (d + 1) 233 620 [x0, x1, x2, x3] (r.1.toList ++ []) r.2 else none := E_callg rfl
set_option maxRecDepth 60000 in
theorem s233_620 (d : Nat) (h : AH) (x0 x1 x3 : Option Value) (s0 : Value) (v : Nat) : E d 233 620 [x0, x1, some (.ref v), x3] [s0] h = E d 233 621 [x0, x1, some (.ref v), x3] [.ref v, s0] h := E_nx rfl
set_option maxRecDepth 60000 in
theorem s233_621 (d : Nat) (h : AH) (x1 x2 x3 : Option Value) (s0 : Value) (s1 : Value) (v : Nat) : E d 233 621 [some (.ref v), x1, x2, x3] [s0, s1] h = E d 233 622 [some (.ref v), x1, x2, x3] [.ref v, s0, s1] h := E_nx rfl
set_option maxRecDepth 60000 in
theorem s233_622 (d : Nat) (h : AH) (x0 x1 x2 : Option Value) (s0 : Value) (s1 : Value) (s2 : Value) (v : Int32) : E d 233 622 [x0, x1, x2, some (.int v)] [s0, s1, s2] h = E d 233 623 [x0, x1, x2, some (.int v)] [.int v, s0, s1, s2] h := E_nx rfl
set_option maxRecDepth 60000 in
theorem s233_623 (d : Nat) (h : AH) (x0 x1 x2 x3 : Option Value) (s0 : Value) (s1 : Value) (s2 : Value) (s3 : Value) : E d 233 623 [x0, x1, x2, x3] [s0, s1, s2, s3] h = E d 233 624 [x0, x1, x2, x3] [.int 1, s0, s1, s2, s3] h := E_nx rfl
set_option maxRecDepth 60000 in
theorem s233_624 (d : Nat) (h : AH) (x0 x1 x2 x3 : Option Value) (s0 : Int32) (s1 : Int32) (s2 : Value) (s3 : Value) (s4 : Value) : E d 233 624 [x0, x1, x2, x3] [.int s0, .int s1, s2, s3, s4] h = E d 233 625 [x0, x1, x2, x3] [.int (s1 + s0), s2, s3, s4] h := E_nx rfl
set_option maxRecDepth 60000 in
theorem s233_625 (d : Nat) (h : AH) (x0 x1 x2 x3 : Option Value) (s0 : Int32) (s1 : Nat) (s2 : Value) (s3 : Value) : E d 233 625 [x0, x1, x2, x3] [.int s0, .ref s1, s2, s3] h = if inb s0 (alen h s1 0) = true ∨ inb s0 (alen h s1 8) = true then E d 233 626 [x0, x1, x2, x3] [.int (hI h s1 s0.toNatClampNeg), s2, s3] h else none := E_gd rfl
set_option maxRecDepth 60000 in
theorem s233_626 (d : Nat) (h : AH) (x1 x2 x3 : Option Value) (s0 : Value) (s1 : Value) (s2 : Value) (v : Nat) : E d 233 626 [some (.ref v), x1, x2, x3] [s0, s1, s2] h = E d 233 627 [some (.ref v), x1, x2, x3] [.ref v, s0, s1, s2] h := E_nx rfl
set_option maxRecDepth 60000 in
theorem s233_627 (d : Nat) (h : AH) (x0 x1 x2 : Option Value) (s0 : Value) (s1 : Value) (s2 : Value) (s3 : Value) (v : Int32) : E d 233 627 [x0, x1, x2, some (.int v)] [s0, s1, s2, s3] h = E d 233 628 [x0, x1, x2, some (.int v)] [.int v, s0, s1, s2, s3] h := E_nx rfl
set_option maxRecDepth 60000 in
theorem s233_628 (d : Nat) (h : AH) (x0 x1 x2 x3 : Option Value) (s0 : Value) (s1 : Value) (s2 : Value) (s3 : Value) (s4 : Value) : E d 233 628 [x0, x1, x2, x3] [s0, s1, s2, s3, s4] h = E d 233 629 [x0, x1, x2, x3] [.int 2, s0, s1, s2, s3, s4] h := E_nx rfl
set_option maxRecDepth 60000 in
theorem s233_629 (d : Nat) (h : AH) (x0 x1 x2 x3 : Option Value) (s0 : Int32) (s1 : Int32) (s2 : Value) (s3 : Value) (s4 : Value) (s5 : Value) : E d 233 629 [x0, x1, x2, x3] [.int s0, .int s1, s2, s3, s4, s5] h = E d 233 630 [x0, x1, x2, x3] [.int (s1 + s0), s2, s3, s4, s5] h := E_nx rfl
set_option maxRecDepth 60000 in
theorem s233_630 (d : Nat) (h : AH) (x0 x1 x2 x3 : Option Value) (s0 : Int32) (s1 : Nat) (s2 : Value) (s3 : Value) (s4 : Value) : E d 233 630 [x0, x1, x2, x3] [.int s0, .ref s1, s2, s3, s4] h = if inb s0 (alen h s1 0) = true ∨ inb s0 (alen h s1 8) = true then E d 233 631 [x0, x1, x2, x3] [.int (hI h s1 s0.toNatClampNeg), s2, s3, s4] h else none := E_gd rfl
set_option maxRecDepth 60000 in
theorem s233_631 (d : Nat) (h : AH) (x0 x1 x2 x3 : Option Value) (s0 : Int32) (s1 : Int32) (s2 : Nat) (s3 : Value) : E (d + 1) 233 631 [x0, x1, x2, x3] [.int s0, .int s1, .ref s2, s3] h = if hS h s2 = some (105, 0) then (E d 192 0 [some (.ref s2), some (.int s1), some (.int s0), none, none] [] h).bind fun r => E (d + 1) 233 632 [x0, x1, x2, x3] (r.1.toList ++ [s3]) r.2 else none := E_callg rfl
set_option maxRecDepth 60000 in
theorem s233_632 (d : Nat) (h : AH) (x0 x1 x2 x3 : Option Value) (s0 : Int32) (s1 : Int32) : E d 233 632 [x0, x1, x2, x3] [.int s0, .int s1] h = if s1 = s0 then E d 233 1068 [x0, x1, x2, x3] [] h else E d 233 633 [x0, x1, x2, x3] [] h := E_ifc rfl
set_option maxRecDepth 60000 in
theorem s233_633 (d : Nat) (h : AH) (x0 x1 x2 x3 : Option Value)  : E d 233 633 [x0, x1, x2, x3] [] h = E d 233 634 [x0, x1, x2, x3] [.int 0] h := E_nx rfl
set_option maxRecDepth 60000 in
theorem s233_634 (d : Nat) (h : AH) (x0 x1 x2 x3 : Option Value) (s0 : Int32) : E d 233 634 [x0, x1, x2, x3] [.int s0] h = if s0 = 0 ∨ s0 = 1 then some (some (.int s0), h) else none := E_retg rfl
set_option maxRecDepth 60000 in
theorem s233_635 (d : Nat) (h : AH) (x0 x2 x3 : Option Value) (v : Nat) : E d 233 635 [x0, some (.ref v), x2, x3] [] h = E d 233 636 [x0, some (.ref v), x2, x3] [.ref v] h := E_nx rfl
set_option maxRecDepth 60000 in
theorem s233_636 (d : Nat) (h : AH) (x1 x2 x3 : Option Value) (s0 : Value) (v : Nat) : E d 233 636 [some (.ref v), x1, x2, x3] [s0] h = E d 233 637 [some (.ref v), x1, x2, x3] [.ref v, s0] h := E_nx rfl
set_option maxRecDepth 60000 in
theorem s233_637 (d : Nat) (h : AH) (x0 x1 x2 : Option Value) (s0 : Value) (s1 : Value) (v : Int32) : E d 233 637 [x0, x1, x2, some (.int v)] [s0, s1] h = E d 233 638 [x0, x1, x2, some (.int v)] [.int v, s0, s1] h := E_nx rfl
set_option maxRecDepth 60000 in
theorem s233_638 (d : Nat) (h : AH) (x0 x1 x2 x3 : Option Value) (s0 : Value) (s1 : Value) (s2 : Value) : E d 233 638 [x0, x1, x2, x3] [s0, s1, s2] h = E d 233 639 [x0, x1, x2, x3] [.int 1, s0, s1, s2] h := E_nx rfl
set_option maxRecDepth 60000 in
theorem s233_639 (d : Nat) (h : AH) (x0 x1 x2 x3 : Option Value) (s0 : Int32) (s1 : Int32) (s2 : Value) (s3 : Value) : E d 233 639 [x0, x1, x2, x3] [.int s0, .int s1, s2, s3] h = E d 233 640 [x0, x1, x2, x3] [.int (s1 + s0), s2, s3] h := E_nx rfl
set_option maxRecDepth 60000 in
theorem s233_640 (d : Nat) (h : AH) (x0 x1 x2 x3 : Option Value) (s0 : Int32) (s1 : Nat) (s2 : Value) : E d 233 640 [x0, x1, x2, x3] [.int s0, .ref s1, s2] h = if inb s0 (alen h s1 0) = true ∨ inb s0 (alen h s1 8) = true then E d 233 641 [x0, x1, x2, x3] [.int (hI h s1 s0.toNatClampNeg), s2] h else none := E_gd rfl
set_option maxRecDepth 60000 in
theorem s233_641 (d : Nat) (h : AH) (x1 x2 x3 : Option Value) (s0 : Value) (s1 : Value) (v : Nat) : E d 233 641 [some (.ref v), x1, x2, x3] [s0, s1] h = E d 233 642 [some (.ref v), x1, x2, x3] [.ref v, s0, s1] h := E_nx rfl
set_option maxRecDepth 60000 in
theorem s233_642 (d : Nat) (h : AH) (x0 x1 x2 : Option Value) (s0 : Value) (s1 : Value) (s2 : Value) (v : Int32) : E d 233 642 [x0, x1, x2, some (.int v)] [s0, s1, s2] h = E d 233 643 [x0, x1, x2, some (.int v)] [.int v, s0, s1, s2] h := E_nx rfl
set_option maxRecDepth 60000 in
theorem s233_643 (d : Nat) (h : AH) (x0 x1 x2 x3 : Option Value) (s0 : Value) (s1 : Value) (s2 : Value) (s3 : Value) : E d 233 643 [x0, x1, x2, x3] [s0, s1, s2, s3] h = E d 233 644 [x0, x1, x2, x3] [.int 2, s0, s1, s2, s3] h := E_nx rfl
set_option maxRecDepth 60000 in
theorem s233_644 (d : Nat) (h : AH) (x0 x1 x2 x3 : Option Value) (s0 : Int32) (s1 : Int32) (s2 : Value) (s3 : Value) (s4 : Value) : E d 233 644 [x0, x1, x2, x3] [.int s0, .int s1, s2, s3, s4] h = E d 233 645 [x0, x1, x2, x3] [.int (s1 + s0), s2, s3, s4] h := E_nx rfl
set_option maxRecDepth 60000 in
theorem s233_645 (d : Nat) (h : AH) (x0 x1 x2 x3 : Option Value) (s0 : Int32) (s1 : Nat) (s2 : Value) (s3 : Value) : E d 233 645 [x0, x1, x2, x3] [.int s0, .ref s1, s2, s3] h = if inb s0 (alen h s1 0) = true ∨ inb s0 (alen h s1 8) = true then E d 233 646 [x0, x1, x2, x3] [.int (hI h s1 s0.toNatClampNeg), s2, s3] h else none := E_gd rfl
set_option maxRecDepth 60000 in
theorem s233_646 (d : Nat) (h : AH) (x1 x2 x3 : Option Value) (s0 : Value) (s1 : Value) (s2 : Value) (v : Nat) : E d 233 646 [some (.ref v), x1, x2, x3] [s0, s1, s2] h = E d 233 647 [some (.ref v), x1, x2, x3] [.ref v, s0, s1, s2] h := E_nx rfl
set_option maxRecDepth 60000 in
theorem s233_647 (d : Nat) (h : AH) (x0 x1 x2 : Option Value) (s0 : Value) (s1 : Value) (s2 : Value) (s3 : Value) (v : Int32) : E d 233 647 [x0, x1, x2, some (.int v)] [s0, s1, s2, s3] h = E d 233 648 [x0, x1, x2, some (.int v)] [.int v, s0, s1, s2, s3] h := E_nx rfl
set_option maxRecDepth 60000 in
theorem s233_648 (d : Nat) (h : AH) (x0 x1 x2 x3 : Option Value) (s0 : Value) (s1 : Value) (s2 : Value) (s3 : Value) (s4 : Value) : E d 233 648 [x0, x1, x2, x3] [s0, s1, s2, s3, s4] h = E d 233 649 [x0, x1, x2, x3] [.int 3, s0, s1, s2, s3, s4] h := E_nx rfl
set_option maxRecDepth 60000 in
theorem s233_649 (d : Nat) (h : AH) (x0 x1 x2 x3 : Option Value) (s0 : Int32) (s1 : Int32) (s2 : Value) (s3 : Value) (s4 : Value) (s5 : Value) : E d 233 649 [x0, x1, x2, x3] [.int s0, .int s1, s2, s3, s4, s5] h = E d 233 650 [x0, x1, x2, x3] [.int (s1 + s0), s2, s3, s4, s5] h := E_nx rfl
set_option maxRecDepth 60000 in
theorem s233_650 (d : Nat) (h : AH) (x0 x1 x2 x3 : Option Value) (s0 : Int32) (s1 : Nat) (s2 : Value) (s3 : Value) (s4 : Value) : E d 233 650 [x0, x1, x2, x3] [.int s0, .ref s1, s2, s3, s4] h = if inb s0 (alen h s1 0) = true ∨ inb s0 (alen h s1 8) = true then E d 233 651 [x0, x1, x2, x3] [.int (hI h s1 s0.toNatClampNeg), s2, s3, s4] h else none := E_gd rfl
set_option maxRecDepth 60000 in
theorem s233_651 (d : Nat) (h : AH) (x0 x1 x2 x3 : Option Value) (s0 : Int32) (s1 : Int32) (s2 : Int32) (s3 : Nat) : E (d + 1) 233 651 [x0, x1, x2, x3] [.int s0, .int s1, .int s2, .ref s3] h = if hS h s3 = some (104, 0) then (E d 106 0 [some (.ref s3), some (.int s2), some (.int s1), some (.int s0), none] [] h).bind fun r => E (d + 1) 233 652 [x0, x1, x2, x3] (r.1.toList ++ []) r.2 else none := E_callg rfl
set_option maxRecDepth 60000 in
theorem s233_652 (d : Nat) (h : AH) (x0 x1 x3 : Option Value) (s0 : Value) (v : Nat) : E d 233 652 [x0, x1, some (.ref v), x3] [s0] h = E d 233 653 [x0, x1, some (.ref v), x3] [.ref v, s0] h := E_nx rfl
set_option maxRecDepth 60000 in
theorem s233_653 (d : Nat) (h : AH) (x1 x2 x3 : Option Value) (s0 : Value) (s1 : Value) (v : Nat) : E d 233 653 [some (.ref v), x1, x2, x3] [s0, s1] h = E d 233 654 [some (.ref v), x1, x2, x3] [.ref v, s0, s1] h := E_nx rfl
set_option maxRecDepth 60000 in
theorem s233_654 (d : Nat) (h : AH) (x0 x1 x2 : Option Value) (s0 : Value) (s1 : Value) (s2 : Value) (v : Int32) : E d 233 654 [x0, x1, x2, some (.int v)] [s0, s1, s2] h = E d 233 655 [x0, x1, x2, some (.int v)] [.int v, s0, s1, s2] h := E_nx rfl
set_option maxRecDepth 60000 in
theorem s233_655 (d : Nat) (h : AH) (x0 x1 x2 x3 : Option Value) (s0 : Value) (s1 : Value) (s2 : Value) (s3 : Value) : E d 233 655 [x0, x1, x2, x3] [s0, s1, s2, s3] h = E d 233 656 [x0, x1, x2, x3] [.int 1, s0, s1, s2, s3] h := E_nx rfl
set_option maxRecDepth 60000 in
theorem s233_656 (d : Nat) (h : AH) (x0 x1 x2 x3 : Option Value) (s0 : Int32) (s1 : Int32) (s2 : Value) (s3 : Value) (s4 : Value) : E d 233 656 [x0, x1, x2, x3] [.int s0, .int s1, s2, s3, s4] h = E d 233 657 [x0, x1, x2, x3] [.int (s1 + s0), s2, s3, s4] h := E_nx rfl
set_option maxRecDepth 60000 in
theorem s233_657 (d : Nat) (h : AH) (x0 x1 x2 x3 : Option Value) (s0 : Int32) (s1 : Nat) (s2 : Value) (s3 : Value) : E d 233 657 [x0, x1, x2, x3] [.int s0, .ref s1, s2, s3] h = if inb s0 (alen h s1 0) = true ∨ inb s0 (alen h s1 8) = true then E d 233 658 [x0, x1, x2, x3] [.int (hI h s1 s0.toNatClampNeg), s2, s3] h else none := E_gd rfl
set_option maxRecDepth 60000 in
theorem s233_658 (d : Nat) (h : AH) (x1 x2 x3 : Option Value) (s0 : Value) (s1 : Value) (s2 : Value) (v : Nat) : E d 233 658 [some (.ref v), x1, x2, x3] [s0, s1, s2] h = E d 233 659 [some (.ref v), x1, x2, x3] [.ref v, s0, s1, s2] h := E_nx rfl
set_option maxRecDepth 60000 in
theorem s233_659 (d : Nat) (h : AH) (x0 x1 x2 : Option Value) (s0 : Value) (s1 : Value) (s2 : Value) (s3 : Value) (v : Int32) : E d 233 659 [x0, x1, x2, some (.int v)] [s0, s1, s2, s3] h = E d 233 660 [x0, x1, x2, some (.int v)] [.int v, s0, s1, s2, s3] h := E_nx rfl
set_option maxRecDepth 60000 in
theorem s233_660 (d : Nat) (h : AH) (x0 x1 x2 x3 : Option Value) (s0 : Value) (s1 : Value) (s2 : Value) (s3 : Value) (s4 : Value) : E d 233 660 [x0, x1, x2, x3] [s0, s1, s2, s3, s4] h = E d 233 661 [x0, x1, x2, x3] [.int 2, s0, s1, s2, s3, s4] h := E_nx rfl
set_option maxRecDepth 60000 in
theorem s233_661 (d : Nat) (h : AH) (x0 x1 x2 x3 : Option Value) (s0 : Int32) (s1 : Int32) (s2 : Value) (s3 : Value) (s4 : Value) (s5 : Value) : E d 233 661 [x0, x1, x2, x3] [.int s0, .int s1, s2, s3, s4, s5] h = E d 233 662 [x0, x1, x2, x3] [.int (s1 + s0), s2, s3, s4, s5] h := E_nx rfl
set_option maxRecDepth 60000 in
theorem s233_662 (d : Nat) (h : AH) (x0 x1 x2 x3 : Option Value) (s0 : Int32) (s1 : Nat) (s2 : Value) (s3 : Value) (s4 : Value) : E d 233 662 [x0, x1, x2, x3] [.int s0, .ref s1, s2, s3, s4] h = if inb s0 (alen h s1 0) = true ∨ inb s0 (alen h s1 8) = true then E d 233 663 [x0, x1, x2, x3] [.int (hI h s1 s0.toNatClampNeg), s2, s3, s4] h else none := E_gd rfl
set_option maxRecDepth 60000 in
theorem s233_663 (d : Nat) (h : AH) (x1 x2 x3 : Option Value) (s0 : Value) (s1 : Value) (s2 : Value) (s3 : Value) (v : Nat) : E d 233 663 [some (.ref v), x1, x2, x3] [s0, s1, s2, s3] h = E d 233 664 [some (.ref v), x1, x2, x3] [.ref v, s0, s1, s2, s3] h := E_nx rfl
set_option maxRecDepth 60000 in
theorem s233_664 (d : Nat) (h : AH) (x0 x1 x2 : Option Value) (s0 : Value) (s1 : Value) (s2 : Value) (s3 : Value) (s4 : Value) (v : Int32) : E d 233 664 [x0, x1, x2, some (.int v)] [s0, s1, s2, s3, s4] h = E d 233 665 [x0, x1, x2, some (.int v)] [.int v, s0, s1, s2, s3, s4] h := E_nx rfl
set_option maxRecDepth 60000 in
theorem s233_665 (d : Nat) (h : AH) (x0 x1 x2 x3 : Option Value) (s0 : Value) (s1 : Value) (s2 : Value) (s3 : Value) (s4 : Value) (s5 : Value) : E d 233 665 [x0, x1, x2, x3] [s0, s1, s2, s3, s4, s5] h = E d 233 666 [x0, x1, x2, x3] [.int 3, s0, s1, s2, s3, s4, s5] h := E_nx rfl
set_option maxRecDepth 60000 in
theorem s233_666 (d : Nat) (h : AH) (x0 x1 x2 x3 : Option Value) (s0 : Int32) (s1 : Int32) (s2 : Value) (s3 : Value) (s4 : Value) (s5 : Value) (s6 : Value) : E d 233 666 [x0, x1, x2, x3] [.int s0, .int s1, s2, s3, s4, s5, s6] h = E d 233 667 [x0, x1, x2, x3] [.int (s1 + s0), s2, s3, s4, s5, s6] h := E_nx rfl
set_option maxRecDepth 60000 in
theorem s233_667 (d : Nat) (h : AH) (x0 x1 x2 x3 : Option Value) (s0 : Int32) (s1 : Nat) (s2 : Value) (s3 : Value) (s4 : Value) (s5 : Value) : E d 233 667 [x0, x1, x2, x3] [.int s0, .ref s1, s2, s3, s4, s5] h = if inb s0 (alen h s1 0) = true ∨ inb s0 (alen h s1 8) = true then E d 233 668 [x0, x1, x2, x3] [.int (hI h s1 s0.toNatClampNeg), s2, s3, s4, s5] h else none := E_gd rfl
set_option maxRecDepth 60000 in
theorem s233_668 (d : Nat) (h : AH) (x0 x1 x2 x3 : Option Value) (s0 : Int32) (s1 : Int32) (s2 : Int32) (s3 : Nat) (s4 : Value) : E (d + 1) 233 668 [x0, x1, x2, x3] [.int s0, .int s1, .int s2, .ref s3, s4] h = if hS h s3 = some (105, 0) then (E d 193 0 [some (.ref s3), some (.int s2), some (.int s1), some (.int s0), none, none] [] h).bind fun r => E (d + 1) 233 669 [x0, x1, x2, x3] (r.1.toList ++ [s4]) r.2 else none := E_callg rfl
set_option maxRecDepth 60000 in
theorem s233_669 (d : Nat) (h : AH) (x0 x1 x2 x3 : Option Value) (s0 : Int32) (s1 : Int32) : E d 233 669 [x0, x1, x2, x3] [.int s0, .int s1] h = if s1 = s0 then E d 233 1068 [x0, x1, x2, x3] [] h else E d 233 670 [x0, x1, x2, x3] [] h := E_ifc rfl
set_option maxRecDepth 60000 in
theorem s233_670 (d : Nat) (h : AH) (x0 x1 x2 x3 : Option Value)  : E d 233 670 [x0, x1, x2, x3] [] h = E d 233 671 [x0, x1, x2, x3] [.int 0] h := E_nx rfl
set_option maxRecDepth 60000 in
theorem s233_671 (d : Nat) (h : AH) (x0 x1 x2 x3 : Option Value) (s0 : Int32) : E d 233 671 [x0, x1, x2, x3] [.int s0] h = if s0 = 0 ∨ s0 = 1 then some (some (.int s0), h) else none := E_retg rfl
set_option maxRecDepth 60000 in
theorem s233_672 (d : Nat) (h : AH) (x0 x2 x3 : Option Value) (v : Nat) : E d 233 672 [x0, some (.ref v), x2, x3] [] h = E d 233 673 [x0, some (.ref v), x2, x3] [.ref v] h := E_nx rfl
set_option maxRecDepth 60000 in
theorem s233_673 (d : Nat) (h : AH) (x1 x2 x3 : Option Value) (s0 : Value) (v : Nat) : E d 233 673 [some (.ref v), x1, x2, x3] [s0] h = E d 233 674 [some (.ref v), x1, x2, x3] [.ref v, s0] h := E_nx rfl
set_option maxRecDepth 60000 in
theorem s233_674 (d : Nat) (h : AH) (x0 x1 x2 : Option Value) (s0 : Value) (s1 : Value) (v : Int32) : E d 233 674 [x0, x1, x2, some (.int v)] [s0, s1] h = E d 233 675 [x0, x1, x2, some (.int v)] [.int v, s0, s1] h := E_nx rfl
set_option maxRecDepth 60000 in
theorem s233_675 (d : Nat) (h : AH) (x0 x1 x2 x3 : Option Value) (s0 : Value) (s1 : Value) (s2 : Value) : E d 233 675 [x0, x1, x2, x3] [s0, s1, s2] h = E d 233 676 [x0, x1, x2, x3] [.int 1, s0, s1, s2] h := E_nx rfl
set_option maxRecDepth 60000 in
theorem s233_676 (d : Nat) (h : AH) (x0 x1 x2 x3 : Option Value) (s0 : Int32) (s1 : Int32) (s2 : Value) (s3 : Value) : E d 233 676 [x0, x1, x2, x3] [.int s0, .int s1, s2, s3] h = E d 233 677 [x0, x1, x2, x3] [.int (s1 + s0), s2, s3] h := E_nx rfl
set_option maxRecDepth 60000 in
theorem s233_677 (d : Nat) (h : AH) (x0 x1 x2 x3 : Option Value) (s0 : Int32) (s1 : Nat) (s2 : Value) : E d 233 677 [x0, x1, x2, x3] [.int s0, .ref s1, s2] h = if inb s0 (alen h s1 0) = true ∨ inb s0 (alen h s1 8) = true then E d 233 678 [x0, x1, x2, x3] [.int (hI h s1 s0.toNatClampNeg), s2] h else none := E_gd rfl
set_option maxRecDepth 60000 in
theorem s233_678 (d : Nat) (h : AH) (x1 x2 x3 : Option Value) (s0 : Value) (s1 : Value) (v : Nat) : E d 233 678 [some (.ref v), x1, x2, x3] [s0, s1] h = E d 233 679 [some (.ref v), x1, x2, x3] [.ref v, s0, s1] h := E_nx rfl
set_option maxRecDepth 60000 in
theorem s233_679 (d : Nat) (h : AH) (x0 x1 x2 : Option Value) (s0 : Value) (s1 : Value) (s2 : Value) (v : Int32) : E d 233 679 [x0, x1, x2, some (.int v)] [s0, s1, s2] h = E d 233 680 [x0, x1, x2, some (.int v)] [.int v, s0, s1, s2] h := E_nx rfl
set_option maxRecDepth 60000 in
theorem s233_680 (d : Nat) (h : AH) (x0 x1 x2 x3 : Option Value) (s0 : Value) (s1 : Value) (s2 : Value) (s3 : Value) : E d 233 680 [x0, x1, x2, x3] [s0, s1, s2, s3] h = E d 233 681 [x0, x1, x2, x3] [.int 2, s0, s1, s2, s3] h := E_nx rfl
set_option maxRecDepth 60000 in
theorem s233_681 (d : Nat) (h : AH) (x0 x1 x2 x3 : Option Value) (s0 : Int32) (s1 : Int32) (s2 : Value) (s3 : Value) (s4 : Value) : E d 233 681 [x0, x1, x2, x3] [.int s0, .int s1, s2, s3, s4] h = E d 233 682 [x0, x1, x2, x3] [.int (s1 + s0), s2, s3, s4] h := E_nx rfl
set_option maxRecDepth 60000 in
theorem s233_682 (d : Nat) (h : AH) (x0 x1 x2 x3 : Option Value) (s0 : Int32) (s1 : Nat) (s2 : Value) (s3 : Value) : E d 233 682 [x0, x1, x2, x3] [.int s0, .ref s1, s2, s3] h = if inb s0 (alen h s1 0) = true ∨ inb s0 (alen h s1 8) = true then E d 233 683 [x0, x1, x2, x3] [.int (hI h s1 s0.toNatClampNeg), s2, s3] h else none := E_gd rfl
set_option maxRecDepth 60000 in
theorem s233_683 (d : Nat) (h : AH) (x0 x1 x2 x3 : Option Value) (s0 : Int32) (s1 : Int32) (s2 : Nat) : E (d + 1) 233 683 [x0, x1, x2, x3] [.int s0, .int s1, .ref s2] h = if hS h s2 = some (104, 0) then (E d 107 0 [some (.ref s2), some (.int s1), some (.int s0), none, none, none] [] h).bind fun r => E (d + 1) 233 684 [x0, x1, x2, x3] (r.1.toList ++ []) r.2 else none := E_callg rfl
set_option maxRecDepth 60000 in
theorem s233_684 (d : Nat) (h : AH) (x0 x1 x3 : Option Value) (s0 : Value) (v : Nat) : E d 233 684 [x0, x1, some (.ref v), x3] [s0] h = E d 233 685 [x0, x1, some (.ref v), x3] [.ref v, s0] h := E_nx rfl
set_option maxRecDepth 60000 in
theorem s233_685 (d : Nat) (h : AH) (x1 x2 x3 : Option Value) (s0 : Value) (s1 : Value) (v : Nat) : E d 233 685 [some (.ref v), x1, x2, x3] [s0, s1] h = E d 233 686 [some (.ref v), x1, x2, x3] [.ref v, s0, s1] h := E_nx rfl
set_option maxRecDepth 60000 in
theorem s233_686 (d : Nat) (h : AH) (x0 x1 x2 : Option Value) (s0 : Value) (s1 : Value) (s2 : Value) (v : Int32) : E d 233 686 [x0, x1, x2, some (.int v)] [s0, s1, s2] h = E d 233 687 [x0, x1, x2, some (.int v)] [.int v, s0, s1, s2] h := E_nx rfl
set_option maxRecDepth 60000 in
theorem s233_687 (d : Nat) (h : AH) (x0 x1 x2 x3 : Option Value) (s0 : Value) (s1 : Value) (s2 : Value) (s3 : Value) : E d 233 687 [x0, x1, x2, x3] [s0, s1, s2, s3] h = E d 233 688 [x0, x1, x2, x3] [.int 1, s0, s1, s2, s3] h := E_nx rfl
set_option maxRecDepth 60000 in
theorem s233_688 (d : Nat) (h : AH) (x0 x1 x2 x3 : Option Value) (s0 : Int32) (s1 : Int32) (s2 : Value) (s3 : Value) (s4 : Value) : E d 233 688 [x0, x1, x2, x3] [.int s0, .int s1, s2, s3, s4] h = E d 233 689 [x0, x1, x2, x3] [.int (s1 + s0), s2, s3, s4] h := E_nx rfl
set_option maxRecDepth 60000 in
theorem s233_689 (d : Nat) (h : AH) (x0 x1 x2 x3 : Option Value) (s0 : Int32) (s1 : Nat) (s2 : Value) (s3 : Value) : E d 233 689 [x0, x1, x2, x3] [.int s0, .ref s1, s2, s3] h = if inb s0 (alen h s1 0) = true ∨ inb s0 (alen h s1 8) = true then E d 233 690 [x0, x1, x2, x3] [.int (hI h s1 s0.toNatClampNeg), s2, s3] h else none := E_gd rfl
set_option maxRecDepth 60000 in
theorem s233_690 (d : Nat) (h : AH) (x1 x2 x3 : Option Value) (s0 : Value) (s1 : Value) (s2 : Value) (v : Nat) : E d 233 690 [some (.ref v), x1, x2, x3] [s0, s1, s2] h = E d 233 691 [some (.ref v), x1, x2, x3] [.ref v, s0, s1, s2] h := E_nx rfl
set_option maxRecDepth 60000 in
theorem s233_691 (d : Nat) (h : AH) (x0 x1 x2 : Option Value) (s0 : Value) (s1 : Value) (s2 : Value) (s3 : Value) (v : Int32) : E d 233 691 [x0, x1, x2, some (.int v)] [s0, s1, s2, s3] h = E d 233 692 [x0, x1, x2, some (.int v)] [.int v, s0, s1, s2, s3] h := E_nx rfl
set_option maxRecDepth 60000 in
theorem s233_692 (d : Nat) (h : AH) (x0 x1 x2 x3 : Option Value) (s0 : Value) (s1 : Value) (s2 : Value) (s3 : Value) (s4 : Value) : E d 233 692 [x0, x1, x2, x3] [s0, s1, s2, s3, s4] h = E d 233 693 [x0, x1, x2, x3] [.int 2, s0, s1, s2, s3, s4] h := E_nx rfl
set_option maxRecDepth 60000 in
theorem s233_693 (d : Nat) (h : AH) (x0 x1 x2 x3 : Option Value) (s0 : Int32) (s1 : Int32) (s2 : Value) (s3 : Value) (s4 : Value) (s5 : Value) : E d 233 693 [x0, x1, x2, x3] [.int s0, .int s1, s2, s3, s4, s5] h = E d 233 694 [x0, x1, x2, x3] [.int (s1 + s0), s2, s3, s4, s5] h := E_nx rfl
set_option maxRecDepth 60000 in
theorem s233_694 (d : Nat) (h : AH) (x0 x1 x2 x3 : Option Value) (s0 : Int32) (s1 : Nat) (s2 : Value) (s3 : Value) (s4 : Value) : E d 233 694 [x0, x1, x2, x3] [.int s0, .ref s1, s2, s3, s4] h = if inb s0 (alen h s1 0) = true ∨ inb s0 (alen h s1 8) = true then E d 233 695 [x0, x1, x2, x3] [.int (hI h s1 s0.toNatClampNeg), s2, s3, s4] h else none := E_gd rfl
set_option maxRecDepth 60000 in
theorem s233_695 (d : Nat) (h : AH) (x0 x1 x2 x3 : Option Value) (s0 : Int32) (s1 : Int32) (s2 : Nat) (s3 : Value) : E (d + 1) 233 695 [x0, x1, x2, x3] [.int s0, .int s1, .ref s2, s3] h = if hS h s2 = some (105, 0) then (E d 194 0 [some (.ref s2), some (.int s1), some (.int s0), none, none, none, none] [] h).bind fun r => E (d + 1) 233 696 [x0, x1, x2, x3] (r.1.toList ++ [s3]) r.2 else none := E_callg rfl
set_option maxRecDepth 60000 in
theorem s233_696 (d : Nat) (h : AH) (x0 x1 x2 x3 : Option Value) (s0 : Int32) (s1 : Int32) : E d 233 696 [x0, x1, x2, x3] [.int s0, .int s1] h = if s1 = s0 then E d 233 1068 [x0, x1, x2, x3] [] h else E d 233 697 [x0, x1, x2, x3] [] h := E_ifc rfl
set_option maxRecDepth 60000 in
theorem s233_697 (d : Nat) (h : AH) (x0 x1 x2 x3 : Option Value)  : E d 233 697 [x0, x1, x2, x3] [] h = E d 233 698 [x0, x1, x2, x3] [.int 0] h := E_nx rfl
set_option maxRecDepth 60000 in
theorem s233_698 (d : Nat) (h : AH) (x0 x1 x2 x3 : Option Value) (s0 : Int32) : E d 233 698 [x0, x1, x2, x3] [.int s0] h = if s0 = 0 ∨ s0 = 1 then some (some (.int s0), h) else none := E_retg rfl
set_option maxRecDepth 60000 in
theorem s233_699 (d : Nat) (h : AH) (x0 x2 x3 : Option Value) (v : Nat) : E d 233 699 [x0, some (.ref v), x2, x3] [] h = E d 233 700 [x0, some (.ref v), x2, x3] [.ref v] h := E_nx rfl
set_option maxRecDepth 60000 in
theorem s233_700 (d : Nat) (h : AH) (x1 x2 x3 : Option Value) (s0 : Value) (v : Nat) : E d 233 700 [some (.ref v), x1, x2, x3] [s0] h = E d 233 701 [some (.ref v), x1, x2, x3] [.ref v, s0] h := E_nx rfl
set_option maxRecDepth 60000 in
theorem s233_701 (d : Nat) (h : AH) (x0 x1 x2 : Option Value) (s0 : Value) (s1 : Value) (v : Int32) : E d 233 701 [x0, x1, x2, some (.int v)] [s0, s1] h = E d 233 702 [x0, x1, x2, some (.int v)] [.int v, s0, s1] h := E_nx rfl
set_option maxRecDepth 60000 in
theorem s233_702 (d : Nat) (h : AH) (x0 x1 x2 x3 : Option Value) (s0 : Value) (s1 : Value) (s2 : Value) : E d 233 702 [x0, x1, x2, x3] [s0, s1, s2] h = E d 233 703 [x0, x1, x2, x3] [.int 1, s0, s1, s2] h := E_nx rfl
set_option maxRecDepth 60000 in
theorem s233_703 (d : Nat) (h : AH) (x0 x1 x2 x3 : Option Value) (s0 : Int32) (s1 : Int32) (s2 : Value) (s3 : Value) : E d 233 703 [x0, x1, x2, x3] [.int s0, .int s1, s2, s3] h = E d 233 704 [x0, x1, x2, x3] [.int (s1 + s0), s2, s3] h := E_nx rfl
set_option maxRecDepth 60000 in
theorem s233_704 (d : Nat) (h : AH) (x0 x1 x2 x3 : Option Value) (s0 : Int32) (s1 : Nat) (s2 : Value) : E d 233 704 [x0, x1, x2, x3] [.int s0, .ref s1, s2] h = if inb s0 (alen h s1 0) = true ∨ inb s0 (alen h s1 8) = true then E d 233 705 [x0, x1, x2, x3] [.int (hI h s1 s0.toNatClampNeg), s2] h else none := E_gd rfl
set_option maxRecDepth 60000 in
theorem s233_705 (d : Nat) (h : AH) (x0 x1 x2 x3 : Option Value) (s0 : Int32) (s1 : Nat) : E (d + 1) 233 705 [x0, x1, x2, x3] [.int s0, .ref s1] h = if hS h s1 = some (104, 0) then (E d 110 0 [some (.ref s1), some (.int s0)] [] h).bind fun r => E (d + 1) 233 706 [x0, x1, x2, x3] (r.1.toList ++ []) r.2 else none := E_callg rfl
set_option maxRecDepth 60000 in
theorem s233_706 (d : Nat) (h : AH) (x0 x1 x3 : Option Value) (s0 : Value) (v : Nat) : E d 233 706 [x0, x1, some (.ref v), x3] [s0] h = E d 233 707 [x0, x1, some (.ref v), x3] [.ref v, s0] h := E_nx rfl
set_option maxRecDepth 60000 in
theorem s233_707 (d : Nat) (h : AH) (x1 x2 x3 : Option Value) (s0 : Value) (s1 : Value) (v : Nat) : E d 233 707 [some (.ref v), x1, x2, x3] [s0, s1] h = E d 233 708 [some (.ref v), x1, x2, x3] [.ref v, s0, s1] h := E_nx rfl
set_option maxRecDepth 60000 in
theorem s233_708 (d : Nat) (h : AH) (x0 x1 x2 : Option Value) (s0 : Value) (s1 : Value) (s2 : Value) (v : Int32) : E d 233 708 [x0, x1, x2, some (.int v)] [s0, s1, s2] h = E d 233 709 [x0, x1, x2, some (.int v)] [.int v, s0, s1, s2] h := E_nx rfl
set_option maxRecDepth 60000 in
theorem s233_709 (d : Nat) (h : AH) (x0 x1 x2 x3 : Option Value) (s0 : Value) (s1 : Value) (s2 : Value) (s3 : Value) : E d 233 709 [x0, x1, x2, x3] [s0, s1, s2, s3] h = E d 233 710 [x0, x1, x2, x3] [.int 1, s0, s1, s2, s3] h := E_nx rfl
set_option maxRecDepth 60000 in
theorem s233_710 (d : Nat) (h : AH) (x0 x1 x2 x3 : Option Value) (s0 : Int32) (s1 : Int32) (s2 : Value) (s3 : Value) (s4 : Value) : E d 233 710 [x0, x1, x2, x3] [.int s0, .int s1, s2, s3, s4] h = E d 233 711 [x0, x1, x2, x3] [.int (s1 + s0), s2, s3, s4] h := E_nx rfl
set_option maxRecDepth 60000 in
theorem s233_711 (d : Nat) (h : AH) (x0 x1 x2 x3 : Option Value) (s0 : Int32) (s1 : Nat) (s2 : Value) (s3 : Value) : E d 233 711 [x0, x1, x2, x3] [.int s0, .ref s1, s2, s3] h = if inb s0 (alen h s1 0) = true ∨ inb s0 (alen h s1 8) = true then E d 233 712 [x0, x1, x2, x3] [.int (hI h s1 s0.toNatClampNeg), s2, s3] h else none := E_gd rfl
set_option maxRecDepth 60000 in
theorem s233_712 (d : Nat) (h : AH) (x0 x1 x2 x3 : Option Value) (s0 : Int32) (s1 : Nat) (s2 : Value) : E (d + 1) 233 712 [x0, x1, x2, x3] [.int s0, .ref s1, s2] h = if hS h s1 = some (105, 0) then (E d 203 0 [some (.ref s1), some (.int s0), none] [] h).bind fun r => E (d + 1) 233 713 [x0, x1, x2, x3] (r.1.toList ++ [s2]) r.2 else none := E_callg rfl
set_option maxRecDepth 60000 in
theorem s233_713 (d : Nat) (h : AH) (x0 x1 x2 x3 : Option Value) (s0 : Int32) (s1 : Int32) : E d 233 713 [x0, x1, x2, x3] [.int s0, .int s1] h = if s1 = s0 then E d 233 1068 [x0, x1, x2, x3] [] h else E d 233 714 [x0, x1, x2, x3] [] h := E_ifc rfl
set_option maxRecDepth 60000 in
theorem s233_714 (d : Nat) (h : AH) (x0 x1 x2 x3 : Option Value)  : E d 233 714 [x0, x1, x2, x3] [] h = E d 233 715 [x0, x1, x2, x3] [.int 0] h := E_nx rfl
set_option maxRecDepth 60000 in
theorem s233_715 (d : Nat) (h : AH) (x0 x1 x2 x3 : Option Value) (s0 : Int32) : E d 233 715 [x0, x1, x2, x3] [.int s0] h = if s0 = 0 ∨ s0 = 1 then some (some (.int s0), h) else none := E_retg rfl
set_option maxRecDepth 60000 in
theorem s233_716 (d : Nat) (h : AH) (x0 x2 x3 : Option Value) (v : Nat) : E d 233 716 [x0, some (.ref v), x2, x3] [] h = E d 233 717 [x0, some (.ref v), x2, x3] [.ref v] h := E_nx rfl
set_option maxRecDepth 60000 in
theorem s233_717 (d : Nat) (h : AH) (x1 x2 x3 : Option Value) (s0 : Value) (v : Nat) : E d 233 717 [some (.ref v), x1, x2, x3] [s0] h = E d 233 718 [some (.ref v), x1, x2, x3] [.ref v, s0] h := E_nx rfl
set_option maxRecDepth 60000 in
theorem s233_718 (d : Nat) (h : AH) (x0 x1 x2 : Option Value) (s0 : Value) (s1 : Value) (v : Int32) : E d 233 718 [x0, x1, x2, some (.int v)] [s0, s1] h = E d 233 719 [x0, x1, x2, some (.int v)] [.int v, s0, s1] h := E_nx rfl
set_option maxRecDepth 60000 in
theorem s233_719 (d : Nat) (h : AH) (x0 x1 x2 x3 : Option Value) (s0 : Value) (s1 : Value) (s2 : Value) : E d 233 719 [x0, x1, x2, x3] [s0, s1, s2] h = E d 233 720 [x0, x1, x2, x3] [.int 1, s0, s1, s2] h := E_nx rfl
set_option maxRecDepth 60000 in
theorem s233_720 (d : Nat) (h : AH) (x0 x1 x2 x3 : Option Value) (s0 : Int32) (s1 : Int32) (s2 : Value) (s3 : Value) : E d 233 720 [x0, x1, x2, x3] [.int s0, .int s1, s2, s3] h = E d 233 721 [x0, x1, x2, x3] [.int (s1 + s0), s2, s3] h := E_nx rfl
set_option maxRecDepth 60000 in
theorem s233_721 (d : Nat) (h : AH) (x0 x1 x2 x3 : Option Value) (s0 : Int32) (s1 : Nat) (s2 : Value) : E d 233 721 [x0, x1, x2, x3] [.int s0, .ref s1, s2] h = if inb s0 (alen h s1 0) = true ∨ inb s0 (alen h s1 8) = true then E d 233 722 [x0, x1, x2, x3] [.int (hI h s1 s0.toNatClampNeg), s2] h else none := E_gd rfl
set_option maxRecDepth 60000 in
theorem s233_722 (d : Nat) (h : AH) (x0 x1 x2 x3 : Option Value) (s0 : Int32) (s1 : Nat) : E (d + 1) 233 722 [x0, x1, x2, x3] [.int s0, .ref s1] h = if hS h s1 = some (104, 0) then (E d 111 0 [some (.ref s1), some (.int s0)] [] h).bind fun r => E (d + 1) 233 723 [x0, x1, x2, x3] (r.1.toList ++ []) r.2 else none := E_callg rfl
set_option maxRecDepth 60000 in
theorem s233_723 (d : Nat) (h : AH) (x0 x1 x3 : Option Value) (s0 : Value) (v : Nat) : E d 233 723 [x0, x1, some (.ref v), x3] [s0] h = E d 233 724 [x0, x1, some (.ref v), x3] [.ref v, s0] h := E_nx rfl
set_option maxRecDepth 60000 in
theorem s233_724 (d : Nat) (h : AH) (x1 x2 x3 : Option Value) (s0 : Value) (s1 : Value) (v : Nat) : E d 233 724 [some (.ref v), x1, x2, x3] [s0, s1] h = E d 233 725 [some (.ref v), x1, x2, x3] [.ref v, s0, s1] h := E_nx rfl
set_option maxRecDepth 60000 in
theorem s233_725 (d : Nat) (h : AH) (x0 x1 x2 : Option Value) (s0 : Value) (s1 : Value) (s2 : Value) (v : Int32) : E d 233 725 [x0, x1, x2, some (.int v)] [s0, s1, s2] h = E d 233 726 [x0, x1, x2, some (.int v)] [.int v, s0, s1, s2] h := E_nx rfl
set_option maxRecDepth 60000 in
theorem s233_726 (d : Nat) (h : AH) (x0 x1 x2 x3 : Option Value) (s0 : Value) (s1 : Value) (s2 : Value) (s3 : Value) : E d 233 726 [x0, x1, x2, x3] [s0, s1, s2, s3] h = E d 233 727 [x0, x1, x2, x3] [.int 1, s0, s1, s2, s3] h := E_nx rfl
set_option maxRecDepth 60000 in
theorem s233_727 (d : Nat) (h : AH) (x0 x1 x2 x3 : Option Value) (s0 : Int32) (s1 : Int32) (s2 : Value) (s3 : Value) (s4 : Value) : E d 233 727 [x0, x1, x2, x3] [.int s0, .int s1, s2, s3, s4] h = E d 233 728 [x0, x1, x2, x3] [.int (s1 + s0), s2, s3, s4] h := E_nx rfl
set_option maxRecDepth 60000 in
theorem s233_728 (d : Nat) (h : AH) (x0 x1 x2 x3 : Option Value) (s0 : Int32) (s1 : Nat) (s2 : Value) (s3 : Value) : E d 233 728 [x0, x1, x2, x3] [.int s0, .ref s1, s2, s3] h = if inb s0 (alen h s1 0) = true ∨ inb s0 (alen h s1 8) = true then E d 233 729 [x0, x1, x2, x3] [.int (hI h s1 s0.toNatClampNeg), s2, s3] h else none := E_gd rfl
set_option maxRecDepth 60000 in
theorem s233_729 (d : Nat) (h : AH) (x0 x1 x2 x3 : Option Value) (s0 : Int32) (s1 : Nat) (s2 : Value) : E (d + 1) 233 729 [x0, x1, x2, x3] [.int s0, .ref s1, s2] h = if hS h s1 = some (105, 0) then (E d 204 0 [some (.ref s1), some (.int s0), none, none, none, none, none] [] h).bind fun r => E (d + 1) 233 730 [x0, x1, x2, x3] (r.1.toList ++ [s2]) r.2 else none := E_callg rfl
set_option maxRecDepth 60000 in
theorem s233_730 (d : Nat) (h : AH) (x0 x1 x2 x3 : Option Value) (s0 : Int32) (s1 : Int32) : E d 233 730 [x0, x1, x2, x3] [.int s0, .int s1] h = if s1 = s0 then E d 233 1068 [x0, x1, x2, x3] [] h else E d 233 731 [x0, x1, x2, x3] [] h := E_ifc rfl
set_option maxRecDepth 60000 in
theorem s233_731 (d : Nat) (h : AH) (x0 x1 x2 x3 : Option Value)  : E d 233 731 [x0, x1, x2, x3] [] h = E d 233 732 [x0, x1, x2, x3] [.int 0] h := E_nx rfl
set_option maxRecDepth 60000 in
theorem s233_732 (d : Nat) (h : AH) (x0 x1 x2 x3 : Option Value) (s0 : Int32) : E d 233 732 [x0, x1, x2, x3] [.int s0] h = if s0 = 0 ∨ s0 = 1 then some (some (.int s0), h) else none := E_retg rfl
set_option maxRecDepth 60000 in
theorem s233_733 (d : Nat) (h : AH) (x0 x2 x3 : Option Value) (v : Nat) : E d 233 733 [x0, some (.ref v), x2, x3] [] h = E d 233 734 [x0, some (.ref v), x2, x3] [.ref v] h := E_nx rfl
set_option maxRecDepth 60000 in
theorem s233_734 (d : Nat) (h : AH) (x0 x1 x2 x3 : Option Value) (s0 : Nat) : E (d + 1) 233 734 [x0, x1, x2, x3] [.ref s0] h = if hS h s0 = some (104, 0) then (E d 112 0 [some (.ref s0), none, none, none, none] [] h).bind fun r => E (d + 1) 233 735 [x0, x1, x2, x3] (r.1.toList ++ []) r.2 else none := E_callg rfl
set_option maxRecDepth 60000 in
theorem s233_735 (d : Nat) (h : AH) (x0 x1 x3 : Option Value) (s0 : Value) (v : Nat) : E d 233 735 [x0, x1, some (.ref v), x3] [s0] h = E d 233 736 [x0, x1, some (.ref v), x3] [.ref v, s0] h := E_nx rfl
set_option maxRecDepth 60000 in
theorem s233_736 (d : Nat) (h : AH) (x0 x1 x2 x3 : Option Value) (s0 : Nat) (s1 : Value) : E (d + 1) 233 736 [x0, x1, x2, x3] [.ref s0, s1] h = if hS h s0 = some (105, 0) then (E d 206 0 [some (.ref s0), none, none, none, none, none] [] h).bind fun r => E (d + 1) 233 737 [x0, x1, x2, x3] (r.1.toList ++ [s1]) r.2 else none := E_callg rfl
set_option maxRecDepth 60000 in
theorem s233_737 (d : Nat) (h : AH) (x0 x1 x2 x3 : Option Value) (s0 : Int32) (s1 : Int32) : E d 233 737 [x0, x1, x2, x3] [.int s0, .int s1] h = if s1 = s0 then E d 233 1068 [x0, x1, x2, x3] [] h else E d 233 738 [x0, x1, x2, x3] [] h := E_ifc rfl
set_option maxRecDepth 60000 in
theorem s233_738 (d : Nat) (h : AH) (x0 x1 x2 x3 : Option Value)  : E d 233 738 [x0, x1, x2, x3] [] h = E d 233 739 [x0, x1, x2, x3] [.int 0] h := E_nx rfl
set_option maxRecDepth 60000 in
theorem s233_739 (d : Nat) (h : AH) (x0 x1 x2 x3 : Option Value) (s0 : Int32) : E d 233 739 [x0, x1, x2, x3] [.int s0] h = if s0 = 0 ∨ s0 = 1 then some (some (.int s0), h) else none := E_retg rfl
set_option maxRecDepth 60000 in
theorem s233_740 (d : Nat) (h : AH) (x0 x2 x3 : Option Value) (v : Nat) : E d 233 740 [x0, some (.ref v), x2, x3] [] h = E d 233 741 [x0, some (.ref v), x2, x3] [.ref v] h := E_nx rfl
set_option maxRecDepth 60000 in
theorem s233_741 (d : Nat) (h : AH) (x1 x2 x3 : Option Value) (s0 : Value) (v : Nat) : E d 233 741 [some (.ref v), x1, x2, x3] [s0] h = E d 233 742 [some (.ref v), x1, x2, x3] [.ref v, s0] h := E_nx rfl
set_option maxRecDepth 60000 in
theorem s233_742 (d : Nat) (h : AH) (x0 x1 x2 : Option Value) (s0 : Value) (s1 : Value) (v : Int32) : E d 233 742 [x0, x1, x2, some (.int v)] [s0, s1] h = E d 233 743 [x0, x1, x2, some (.int v)] [.int v, s0, s1] h := E_nx rfl
set_option maxRecDepth 60000 in
theorem s233_743 (d : Nat) (h : AH) (x0 x1 x2 x3 : Option Value) (s0 : Value) (s1 : Value) (s2 : Value) : E d 233 743 [x0, x1, x2, x3] [s0, s1, s2] h = E d 233 744 [x0, x1, x2, x3] [.int 1, s0, s1, s2] h := E_nx rfl
set_option maxRecDepth 60000 in
theorem s233_744 (d : Nat) (h : AH) (x0 x1 x2 x3 : Option Value) (s0 : Int32) (s1 : Int32) (s2 : Value) (s3 : Value) : E d 233 744 [x0, x1, x2, x3] [.int s0, .int s1, s2, s3] h = E d 233 745 [x0, x1, x2, x3] [.int (s1 + s0), s2, s3] h := E_nx rfl
set_option maxRecDepth 60000 in
theorem s233_745 (d : Nat) (h : AH) (x0 x1 x2 x3 : Option Value) (s0 : Int32) (s1 : Nat) (s2 : Value) : E d 233 745 [x0, x1, x2, x3] [.int s0, .ref s1, s2] h = if inb s0 (alen h s1 0) = true ∨ inb s0 (alen h s1 8) = true then E d 233 746 [x0, x1, x2, x3] [.int (hI h s1 s0.toNatClampNeg), s2] h else none := E_gd rfl
set_option maxRecDepth 60000 in
theorem s233_746 (d : Nat) (h : AH) (x1 x2 x3 : Option Value) (s0 : Value) (s1 : Value) (v : Nat) : E d 233 746 [some (.ref v), x1, x2, x3] [s0, s1] h = E d 233 747 [some (.ref v), x1, x2, x3] [.ref v, s0, s1] h := E_nx rfl
set_option maxRecDepth 60000 in
theorem s233_747 (d : Nat) (h : AH) (x0 x1 x2 : Option Value) (s0 : Value) (s1 : Value) (s2 : Value) (v : Int32) : E d 233 747 [x0, x1, x2, some (.int v)] [s0, s1, s2] h = E d 233 748 [x0, x1, x2, some (.int v)] [.int v, s0, s1, s2] h := E_nx rfl
set_option maxRecDepth 60000 in
theorem s233_748 (d : Nat) (h : AH) (x0 x1 x2 x3 : Option Value) (s0 : Value) (s1 : Value) (s2 : Value) (s3 : Value) : E d 233 748 [x0, x1, x2, x3] [s0, s1, s2, s3] h = E d 233 749 [x0, x1, x2, x3] [.int 2, s0, s1, s2, s3] h := E_nx rfl
set_option maxRecDepth 60000 in
theorem s233_749 (d : Nat) (h : AH) (x0 x1 x2 x3 : Option Value) (s0 : Int32) (s1 : Int32) (s2 : Value) (s3 : Value) (s4 : Value) : E d 233 749 [x0, x1, x2, x3] [.int s0, .int s1, s2, s3, s4] h = E d 233 750 [x0, x1, x2, x3] [.int (s1 + s0), s2, s3, s4] h := E_nx rfl
set_option maxRecDepth 60000 in
theorem s233_750 (d : Nat) (h : AH) (x0 x1 x2 x3 : Option Value) (s0 : Int32) (s1 : Nat) (s2 : Value) (s3 : Value) : E d 233 750 [x0, x1, x2, x3] [.int s0, .ref s1, s2, s3] h = if inb s0 (alen h s1 0) = true ∨ inb s0 (alen h s1 8) = true then E d 233 751 [x0, x1, x2, x3] [.int (hI h s1 s0.toNatClampNeg), s2, s3] h else none := E_gd rfl
set_option maxRecDepth 60000 in
theorem s233_751 (d : Nat) (h : AH) (x0 x1 x2 x3 : Option Value) (s0 : Int32) (s1 : Int32) (s2 : Nat) : E (d + 1) 233 751 [x0, x1, x2, x3] [.int s0, .int s1, .ref s2] h = if hS h s2 = some (104, 0) then (E d 113 0 [some (.ref s2), some (.int s1), some (.int s0), none] [] h).bind fun r => E (d + 1) 233 752 [x0, x1, x2, x3] (r.1.toList ++ []) r.2 else none := E_callg rfl
set_option maxRecDepth 60000 in
theorem s233_752 (d : Nat) (h : AH) (x0 x1 x3 : Option Value) (s0 : Value) (v : Nat) : E d 233 752 [x0, x1, some (.ref v), x3] [s0] h = E d 233 753 [x0, x1, some (.ref v), x3] [.ref v, s0] h := E_nx rfl
set_option maxRecDepth 60000 in
theorem s233_753 (d : Nat) (h : AH) (x1 x2 x3 : Option Value) (s0 : Value) (s1 : Value) (v : Nat) : E d 233 753 [some (.ref v), x1, x2, x3] [s0, s1] h = E d 233 754 [some (.ref v), x1, x2, x3] [.ref v, s0, s1] h := E_nx rfl
set_option maxRecDepth 60000 in
theorem s233_754 (d : Nat) (h : AH) (x0 x1 x2 : Option Value) (s0 : Value) (s1 : Value) (s2 : Value) (v : Int32) : E d 233 754 [x0, x1, x2, some (.int v)] [s0, s1, s2] h = E d 233 755 [x0, x1, x2, some (.int v)] [.int v, s0, s1, s2] h := E_nx rfl
set_option maxRecDepth 60000 in
theorem s233_755 (d : Nat) (h : AH) (x0 x1 x2 x3 : Option Value) (s0 : Value) (s1 : Value) (s2 : Value) (s3 : Value) : E d 233 755 [x0, x1, x2, x3] [s0, s1, s2, s3] h = E d 233 756 [x0, x1, x2, x3] [.int 1, s0, s1, s2, s3] h := E_nx rfl
set_option maxRecDepth 60000 in
theorem s233_756 (d : Nat) (h : AH) (x0 x1 x2 x3 : Option Value) (s0 : Int32) (s1 : Int32) (s2 : Value) (s3 : Value) (s4 : Value) : E d 233 756 [x0, x1, x2, x3] [.int s0, .int s1, s2, s3, s4] h = E d 233 757 [x0, x1, x2, x3] [.int (s1 + s0), s2, s3, s4] h := E_nx rfl
set_option maxRecDepth 60000 in
theorem s233_757 (d : Nat) (h : AH) (x0 x1 x2 x3 : Option Value) (s0 : Int32) (s1 : Nat) (s2 : Value) (s3 : Value) : E d 233 757 [x0, x1, x2, x3] [.int s0, .ref s1, s2, s3] h = if inb s0 (alen h s1 0) = true ∨ inb s0 (alen h s1 8) = true then E d 233 758 [x0, x1, x2, x3] [.int (hI h s1 s0.toNatClampNeg), s2, s3] h else none := E_gd rfl
set_option maxRecDepth 60000 in
theorem s233_758 (d : Nat) (h : AH) (x1 x2 x3 : Option Value) (s0 : Value) (s1 : Value) (s2 : Value) (v : Nat) : E d 233 758 [some (.ref v), x1, x2, x3] [s0, s1, s2] h = E d 233 759 [some (.ref v), x1, x2, x3] [.ref v, s0, s1, s2] h := E_nx rfl
set_option maxRecDepth 60000 in
theorem s233_759 (d : Nat) (h : AH) (x0 x1 x2 : Option Value) (s0 : Value) (s1 : Value) (s2 : Value) (s3 : Value) (v : Int32) : E d 233 759 [x0, x1, x2, some (.int v)] [s0, s1, s2, s3] h = E d 233 760 [x0, x1, x2, some (.int v)] [.int v, s0, s1, s2, s3] h := E_nx rfl
set_option maxRecDepth 60000 in
theorem s233_760 (d : Nat) (h : AH) (x0 x1 x2 x3 : Option Value) (s0 : Value) (s1 : Value) (s2 : Value) (s3 : Value) (s4 : Value) : E d 233 760 [x0, x1, x2, x3] [s0, s1, s2, s3, s4] h = E d 233 761 [x0, x1, x2, x3] [.int 2, s0, s1, s2, s3, s4] h := E_nx rfl
set_option maxRecDepth 60000 in
theorem s233_761 (d : Nat) (h : AH) (x0 x1 x2 x3 : Option Value) (s0 : Int32) (s1 : Int32) (s2 : Value) (s3 : Value) (s4 : Value) (s5 : Value) : E d 233 761 [x0, x1, x2, x3] [.int s0, .int s1, s2, s3, s4, s5] h = E d 233 762 [x0, x1, x2, x3] [.int (s1 + s0), s2, s3, s4, s5] h := E_nx rfl
set_option maxRecDepth 60000 in
theorem s233_762 (d : Nat) (h : AH) (x0 x1 x2 x3 : Option Value) (s0 : Int32) (s1 : Nat) (s2 : Value) (s3 : Value) (s4 : Value) : E d 233 762 [x0, x1, x2, x3] [.int s0, .ref s1, s2, s3, s4] h = if inb s0 (alen h s1 0) = true ∨ inb s0 (alen h s1 8) = true then E d 233 763 [x0, x1, x2, x3] [.int (hI h s1 s0.toNatClampNeg), s2, s3, s4] h else none := E_gd rfl
set_option maxRecDepth 60000 in
theorem s233_763 (d : Nat) (h : AH) (x0 x1 x2 x3 : Option Value) (s0 : Int32) (s1 : Int32) (s2 : Nat) (s3 : Value) : E (d + 1) 233 763 [x0, x1, x2, x3] [.int s0, .int s1, .ref s2, s3] h = if hS h s2 = some (105, 0) then (E d 207 0 [some (.ref s2), some (.int s1), some (.int s0), none, none] [] h).bind fun r => E (d + 1) 233 764 [x0, x1, x2, x3] (r.1.toList ++ [s3]) r.2 else none := E_callg rfl
set_option maxRecDepth 60000 in
theorem s233_764 (d : Nat) (h : AH) (x0 x1 x2 x3 : Option Value) (s0 : Int32) (s1 : Int32) : E d 233 764 [x0, x1, x2, x3] [.int s0, .int s1] h = if s1 = s0 then E d 233 1068 [x0, x1, x2, x3] [] h else E d 233 765 [x0, x1, x2, x3] [] h := E_ifc rfl
set_option maxRecDepth 60000 in
theorem s233_765 (d : Nat) (h : AH) (x0 x1 x2 x3 : Option Value)  : E d 233 765 [x0, x1, x2, x3] [] h = E d 233 766 [x0, x1, x2, x3] [.int 0] h := E_nx rfl
set_option maxRecDepth 60000 in
theorem s233_766 (d : Nat) (h : AH) (x0 x1 x2 x3 : Option Value) (s0 : Int32) : E d 233 766 [x0, x1, x2, x3] [.int s0] h = if s0 = 0 ∨ s0 = 1 then some (some (.int s0), h) else none := E_retg rfl
set_option maxRecDepth 60000 in
theorem s233_767 (d : Nat) (h : AH) (x0 x2 x3 : Option Value) (v : Nat) : E d 233 767 [x0, some (.ref v), x2, x3] [] h = E d 233 768 [x0, some (.ref v), x2, x3] [.ref v] h := E_nx rfl
set_option maxRecDepth 60000 in
theorem s233_768 (d : Nat) (h : AH) (x1 x2 x3 : Option Value) (s0 : Value) (v : Nat) : E d 233 768 [some (.ref v), x1, x2, x3] [s0] h = E d 233 769 [some (.ref v), x1, x2, x3] [.ref v, s0] h := E_nx rfl
set_option maxRecDepth 60000 in
theorem s233_769 (d : Nat) (h : AH) (x0 x1 x2 : Option Value) (s0 : Value) (s1 : Value) (v : Int32) : E d 233 769 [x0, x1, x2, some (.int v)] [s0, s1] h = E d 233 770 [x0, x1, x2, some (.int v)] [.int v, s0, s1] h := E_nx rfl
set_option maxRecDepth 60000 in
theorem s233_770 (d : Nat) (h : AH) (x0 x1 x2 x3 : Option Value) (s0 : Value) (s1 : Value) (s2 : Value) : E d 233 770 [x0, x1, x2, x3] [s0, s1, s2] h = E d 233 771 [x0, x1, x2, x3] [.int 1, s0, s1, s2] h := E_nx rfl
set_option maxRecDepth 60000 in
theorem s233_771 (d : Nat) (h : AH) (x0 x1 x2 x3 : Option Value) (s0 : Int32) (s1 : Int32) (s2 : Value) (s3 : Value) : E d 233 771 [x0, x1, x2, x3] [.int s0, .int s1, s2, s3] h = E d 233 772 [x0, x1, x2, x3] [.int (s1 + s0), s2, s3] h := E_nx rfl
set_option maxRecDepth 60000 in
theorem s233_772 (d : Nat) (h : AH) (x0 x1 x2 x3 : Option Value) (s0 : Int32) (s1 : Nat) (s2 : Value) : E d 233 772 [x0, x1, x2, x3] [.int s0, .ref s1, s2] h = if inb s0 (alen h s1 0) = true ∨ inb s0 (alen h s1 8) = true then E d 233 773 [x0, x1, x2, x3] [.int (hI h s1 s0.toNatClampNeg), s2] h else none := E_gd rfl
set_option maxRecDepth 60000 in
theorem s233_773 (d : Nat) (h : AH) (x1 x2 x3 : Option Value) (s0 : Value) (s1 : Value) (v : Nat) : E d 233 773 [some (.ref v), x1, x2, x3] [s0, s1] h = E d 233 774 [some (.ref v), x1, x2, x3] [.ref v, s0, s1] h := E_nx rfl
set_option maxRecDepth 60000 in
theorem s233_774 (d : Nat) (h : AH) (x0 x1 x2 : Option Value) (s0 : Value) (s1 : Value) (s2 : Value) (v : Int32) : E d 233 774 [x0, x1, x2, some (.int v)] [s0, s1, s2] h = E d 233 775 [x0, x1, x2, some (.int v)] [.int v, s0, s1, s2] h := E_nx rfl
set_option maxRecDepth 60000 in
theorem s233_775 (d : Nat) (h : AH) (x0 x1 x2 x3 : Option Value) (s0 : Value) (s1 : Value) (s2 : Value) (s3 : Value) : E d 233 775 [x0, x1, x2, x3] [s0, s1, s2, s3] h = E d 233 776 [x0, x1, x2, x3] [.int 2, s0, s1, s2, s3] h := E_nx rfl
set_option maxRecDepth 60000 in
theorem s233_776 (d : Nat) (h : AH) (x0 x1 x2 x3 : Option Value) (s0 : Int32) (s1 : Int32) (s2 : Value) (s3 : Value) (s4 : Value) : E d 233 776 [x0, x1, x2, x3] [.int s0, .int s1, s2, s3, s4] h = E d 233 777 [x0, x1, x2, x3] [.int (s1 + s0), s2, s3, s4] h := E_nx rfl
set_option maxRecDepth 60000 in
theorem s233_777 (d : Nat) (h : AH) (x0 x1 x2 x3 : Option Value) (s0 : Int32) (s1 : Nat) (s2 : Value) (s3 : Value) : E d 233 777 [x0, x1, x2, x3] [.int s0, .ref s1, s2, s3] h = if inb s0 (alen h s1 0) = true ∨ inb s0 (alen h s1 8) = true then E d 233 778 [x0, x1, x2, x3] [.int (hI h s1 s0.toNatClampNeg), s2, s3] h else none := E_gd rfl
set_option maxRecDepth 60000 in
theorem s233_778 (d : Nat) (h : AH) (x0 x1 x2 x3 : Option Value) (s0 : Int32) (s1 : Int32) (s2 : Nat) : E (d + 1) 233 778 [x0, x1, x2, x3] [.int s0, .int s1, .ref s2] h = if hS h s2 = some (104, 0) then (E d 114 0 [some (.ref s2), some (.int s1), some (.int s0)] [] h).bind fun r => E (d + 1) 233 779 [x0, x1, x2, x3] (r.1.toList ++ []) r.2 else none := E_callg rfl
set_option maxRecDepth 60000 in
theorem s233_779 (d : Nat) (h : AH) (x0 x1 x3 : Option Value) (s0 : Value) (v : Nat) : E d 233 779 [x0, x1, some (.ref v), x3] [s0] h = E d 233 780 [x0, x1, some (.ref v), x3] [.ref v, s0] h := E_nx rfl
set_option maxRecDepth 60000 in
theorem s233_780 (d : Nat) (h : AH) (x1 x2 x3 : Option Value) (s0 : Value) (s1 : Value) (v : Nat) : E d 233 780 [some (.ref v), x1, x2, x3] [s0, s1] h = E d 233 781 [some (.ref v), x1, x2, x3] [.ref v, s0, s1] h := E_nx rfl
set_option maxRecDepth 60000 in
theorem s233_781 (d : Nat) (h : AH) (x0 x1 x2 : Option Value) (s0 : Value) (s1 : Value) (s2 : Value) (v : Int32) : E d 233 781 [x0, x1, x2, some (.int v)] [s0, s1, s2] h = E d 233 782 [x0, x1, x2, some (.int v)] [.int v, s0, s1, s2] h := E_nx rfl
set_option maxRecDepth 60000 in
theorem s233_782 (d : Nat) (h : AH) (x0 x1 x2 x3 : Option Value) (s0 : Value) (s1 : Value) (s2 : Value) (s3 : Value) : E d 233 782 [x0, x1, x2, x3] [s0, s1, s2, s3] h = E d 233 783 [x0, x1, x2, x3] [.int 1, s0, s1, s2, s3] h := E_nx rfl
set_option maxRecDepth 60000 in
theorem s233_783 (d : Nat) (h : AH) (x0 x1 x2 x3 : Option Value) (s0 : Int32) (s1 : Int32) (s2 : Value) (s3 : Value) (s4 : Value) : E d 233 783 [x0, x1, x2, x3] [.int s0, .int s1, s2, s3, s4] h = E d 233 784 [x0, x1, x2, x3] [.int (s1 + s0), s2, s3, s4] h := E_nx rfl
set_option maxRecDepth 60000 in
theorem s233_784 (d : Nat) (h : AH) (x0 x1 x2 x3 : Option Value) (s0 : Int32) (s1 : Nat) (s2 : Value) (s3 : Value) : E d 233 784 [x0, x1, x2, x3] [.int s0, .ref s1, s2, s3] h = if inb s0 (alen h s1 0) = true ∨ inb s0 (alen h s1 8) = true then E d 233 785 [x0, x1, x2, x3] [.int (hI h s1 s0.toNatClampNeg), s2, s3] h else none := E_gd rfl
set_option maxRecDepth 60000 in
theorem s233_785 (d : Nat) (h : AH) (x1 x2 x3 : Option Value) (s0 : Value) (s1 : Value) (s2 : Value) (v : Nat) : E d 233 785 [some (.ref v), x1, x2, x3] [s0, s1, s2] h = E d 233 786 [some (.ref v), x1, x2, x3] [.ref v, s0, s1, s2] h := E_nx rfl
set_option maxRecDepth 60000 in
theorem s233_786 (d : Nat) (h : AH) (x0 x1 x2 : Option Value) (s0 : Value) (s1 : Value) (s2 : Value) (s3 : Value) (v : Int32) : E d 233 786 [x0, x1, x2, some (.int v)] [s0, s1, s2, s3] h = E d 233 787 [x0, x1, x2, some (.int v)] [.int v, s0, s1, s2, s3] h := E_nx rfl
set_option maxRecDepth 60000 in
theorem s233_787 (d : Nat) (h : AH) (x0 x1 x2 x3 : Option Value) (s0 : Value) (s1 : Value) (s2 : Value) (s3 : Value) (s4 : Value) : E d 233 787 [x0, x1, x2, x3] [s0, s1, s2, s3, s4] h = E d 233 788 [x0, x1, x2, x3] [.int 2, s0, s1, s2, s3, s4] h := E_nx rfl
set_option maxRecDepth 60000 in
theorem s233_788 (d : Nat) (h : AH) (x0 x1 x2 x3 : Option Value) (s0 : Int32) (s1 : Int32) (s2 : Value) (s3 : Value) (s4 : Value) (s5 : Value) : E d 233 788 [x0, x1, x2, x3] [.int s0, .int s1, s2, s3, s4, s5] h = E d 233 789 [x0, x1, x2, x3] [.int (s1 + s0), s2, s3, s4, s5] h := E_nx rfl
set_option maxRecDepth 60000 in
theorem s233_789 (d : Nat) (h : AH) (x0 x1 x2 x3 : Option Value) (s0 : Int32) (s1 : Nat) (s2 : Value) (s3 : Value) (s4 : Value) : E d 233 789 [x0, x1, x2, x3] [.int s0, .ref s1, s2, s3, s4] h = if inb s0 (alen h s1 0) = true ∨ inb s0 (alen h s1 8) = true then E d 233 790 [x0, x1, x2, x3] [.int (hI h s1 s0.toNatClampNeg), s2, s3, s4] h else none := E_gd rfl
set_option maxRecDepth 60000 in
theorem s233_790 (d : Nat) (h : AH) (x0 x1 x2 x3 : Option Value) (s0 : Int32) (s1 : Int32) (s2 : Nat) (s3 : Value) : E (d + 1) 233 790 [x0, x1, x2, x3] [.int s0, .int s1, .ref s2, s3] h = if hS h s2 = some (105, 0) then (E d 208 0 [some (.ref s2), some (.int s1), some (.int s0), none, none, none, none, none, none, none] [] h).bind fun r => E (d + 1) 233 791 [x0, x1, x2, x3] (r.1.toList ++ [s3]) r.2 else none := E_callg rfl
set_option maxRecDepth 60000 in
theorem s233_791 (d : Nat) (h : AH) (x0 x1 x2 x3 : Option Value) (s0 : Int32) (s1 : Int32) : E d 233 791 [x0, x1, x2, x3] [.int s0, .int s1] h = if s1 = s0 then E d 233 1068 [x0, x1, x2, x3] [] h else E d 233 792 [x0, x1, x2, x3] [] h := E_ifc rfl
set_option maxRecDepth 60000 in
theorem s233_792 (d : Nat) (h : AH) (x0 x1 x2 x3 : Option Value)  : E d 233 792 [x0, x1, x2, x3] [] h = E d 233 793 [x0, x1, x2, x3] [.int 0] h := E_nx rfl
set_option maxRecDepth 60000 in
theorem s233_793 (d : Nat) (h : AH) (x0 x1 x2 x3 : Option Value) (s0 : Int32) : E d 233 793 [x0, x1, x2, x3] [.int s0] h = if s0 = 0 ∨ s0 = 1 then some (some (.int s0), h) else none := E_retg rfl
set_option maxRecDepth 60000 in
theorem s233_794 (d : Nat) (h : AH) (x0 x2 x3 : Option Value) (v : Nat) : E d 233 794 [x0, some (.ref v), x2, x3] [] h = E d 233 795 [x0, some (.ref v), x2, x3] [.ref v] h := E_nx rfl
set_option maxRecDepth 60000 in
theorem s233_795 (d : Nat) (h : AH) (x1 x2 x3 : Option Value) (s0 : Value) (v : Nat) : E d 233 795 [some (.ref v), x1, x2, x3] [s0] h = E d 233 796 [some (.ref v), x1, x2, x3] [.ref v, s0] h := E_nx rfl
set_option maxRecDepth 60000 in
theorem s233_796 (d : Nat) (h : AH) (x0 x1 x2 : Option Value) (s0 : Value) (s1 : Value) (v : Int32) : E d 233 796 [x0, x1, x2, some (.int v)] [s0, s1] h = E d 233 797 [x0, x1, x2, some (.int v)] [.int v, s0, s1] h := E_nx rfl
set_option maxRecDepth 60000 in
theorem s233_797 (d : Nat) (h : AH) (x0 x1 x2 x3 : Option Value) (s0 : Value) (s1 : Value) (s2 : Value) : E d 233 797 [x0, x1, x2, x3] [s0, s1, s2] h = E d 233 798 [x0, x1, x2, x3] [.int 1, s0, s1, s2] h := E_nx rfl
set_option maxRecDepth 60000 in
theorem s233_798 (d : Nat) (h : AH) (x0 x1 x2 x3 : Option Value) (s0 : Int32) (s1 : Int32) (s2 : Value) (s3 : Value) : E d 233 798 [x0, x1, x2, x3] [.int s0, .int s1, s2, s3] h = E d 233 799 [x0, x1, x2, x3] [.int (s1 + s0), s2, s3] h := E_nx rfl
set_option maxRecDepth 60000 in
theorem s233_799 (d : Nat) (h : AH) (x0 x1 x2 x3 : Option Value) (s0 : Int32) (s1 : Nat) (s2 : Value) : E d 233 799 [x0, x1, x2, x3] [.int s0, .ref s1, s2] h = if inb s0 (alen h s1 0) = true ∨ inb s0 (alen h s1 8) = true then E d 233 800 [x0, x1, x2, x3] [.int (hI h s1 s0.toNatClampNeg), s2] h else none := E_gd rfl
set_option maxRecDepth 60000 in
theorem s233_800 (d : Nat) (h : AH) (x0 x1 x2 x3 : Option Value) (s0 : Int32) (s1 : Nat) : E (d + 1) 233 800 [x0, x1, x2, x3] [.int s0, .ref s1] h = if hS h s1 = some (104, 0) then (E d 115 0 [some (.ref s1), some (.int s0), none, none, none] [] h).bind fun r => E (d + 1) 233 801 [x0, x1, x2, x3] (r.1.toList ++ []) r.2 else none := E_callg rfl
set_option maxRecDepth 60000 in
theorem s233_801 (d : Nat) (h : AH) (x0 x1 x3 : Option Value) (s0 : Value) (v : Nat) : E d 233 801 [x0, x1, some (.ref v), x3] [s0] h = E d 233 802 [x0, x1, some (.ref v), x3] [.ref v, s0] h := E_nx rfl
set_option maxRecDepth 60000 in
theorem s233_802 (d : Nat) (h : AH) (x1 x2 x3 : Option Value) (s0 : Value) (s1 : Value) (v : Nat) : E d 233 802 [some (.ref v), x1, x2, x3] [s0, s1] h = E d 233 803 [some (.ref v), x1, x2, x3] [.ref v, s0, s1] h := E_nx rfl
set_option maxRecDepth 60000 in
theorem s233_803 (d : Nat) (h : AH) (x0 x1 x2 : Option Value) (s0 : Value) (s1 : Value) (s2 : Value) (v : Int32) : E d 233 803 [x0, x1, x2, some (.int v)] [s0, s1, s2] h = E d 233 804 [x0, x1, x2, some (.int v)] [.int v, s0, s1, s2] h := E_nx rfl
set_option maxRecDepth 60000 in
theorem s233_804 (d : Nat) (h : AH) (x0 x1 x2 x3 : Option Value) (s0 : Value) (s1 : Value) (s2 : Value) (s3 : Value) : E d 233 804 [x0, x1, x2, x3] [s0, s1, s2, s3] h = E d 233 805 [x0, x1, x2, x3] [.int 1, s0, s1, s2, s3] h := E_nx rfl
set_option maxRecDepth 60000 in
theorem s233_805 (d : Nat) (h : AH) (x0 x1 x2 x3 : Option Value) (s0 : Int32) (s1 : Int32) (s2 : Value) (s3 : Value) (s4 : Value) : E d 233 805 [x0, x1, x2, x3] [.int s0, .int s1, s2, s3, s4] h = E d 233 806 [x0, x1, x2, x3] [.int (s1 + s0), s2, s3, s4] h := E_nx rfl
set_option maxRecDepth 60000 in
theorem s233_806 (d : Nat) (h : AH) (x0 x1 x2 x3 : Option Value) (s0 : Int32) (s1 : Nat) (s2 : Value) (s3 : Value) : E d 233 806 [x0, x1, x2, x3] [.int s0, .ref s1, s2, s3] h = if inb s0 (alen h s1 0) = true ∨ inb s0 (alen h s1 8) = true then E d 233 807 [x0, x1, x2, x3] [.int (hI h s1 s0.toNatClampNeg), s2, s3] h else none := E_gd rfl
set_option maxRecDepth 60000 in
theorem s233_807 (d : Nat) (h : AH) (x0 x1 x2 x3 : Option Value) (s0 : Int32) (s1 : Nat) (s2 : Value) : E (d + 1) 233 807 [x0, x1, x2, x3] [.int s0, .ref s1, s2] h = if hS h s1 = some (105, 0) then (E d 211 0 [some (.ref s1), some (.int s0), none, none] [] h).bind fun r => E (d + 1) 233 808 [x0, x1, x2, x3] (r.1.toList ++ [s2]) r.2 else none := E_callg rfl
set_option maxRecDepth 60000 in
theorem s233_808 (d : Nat) (h : AH) (x0 x1 x2 x3 : Option Value) (s0 : Int32) (s1 : Int32) : E d 233 808 [x0, x1, x2, x3] [.int s0, .int s1] h = if s1 = s0 then E d 233 1068 [x0, x1, x2, x3] [] h else E d 233 809 [x0, x1, x2, x3] [] h := E_ifc rfl
set_option maxRecDepth 60000 in
theorem s233_809 (d : Nat) (h : AH) (x0 x1 x2 x3 : Option Value)  : E d 233 809 [x0, x1, x2, x3] [] h = E d 233 810 [x0, x1, x2, x3] [.int 0] h := E_nx rfl
set_option maxRecDepth 60000 in
theorem s233_810 (d : Nat) (h : AH) (x0 x1 x2 x3 : Option Value) (s0 : Int32) : E d 233 810 [x0, x1, x2, x3] [.int s0] h = if s0 = 0 ∨ s0 = 1 then some (some (.int s0), h) else none := E_retg rfl
set_option maxRecDepth 60000 in
theorem s233_811 (d : Nat) (h : AH) (x0 x2 x3 : Option Value) (v : Nat) : E d 233 811 [x0, some (.ref v), x2, x3] [] h = E d 233 812 [x0, some (.ref v), x2, x3] [.ref v] h := E_nx rfl
set_option maxRecDepth 60000 in
theorem s233_812 (d : Nat) (h : AH) (x1 x2 x3 : Option Value) (s0 : Value) (v : Nat) : E d 233 812 [some (.ref v), x1, x2, x3] [s0] h = E d 233 813 [some (.ref v), x1, x2, x3] [.ref v, s0] h := E_nx rfl
set_option maxRecDepth 60000 in
theorem s233_813 (d : Nat) (h : AH) (x0 x1 x2 : Option Value) (s0 : Value) (s1 : Value) (v : Int32) : E d 233 813 [x0, x1, x2, some (.int v)] [s0, s1] h = E d 233 814 [x0, x1, x2, some (.int v)] [.int v, s0, s1] h := E_nx rfl
set_option maxRecDepth 60000 in
theorem s233_814 (d : Nat) (h : AH) (x0 x1 x2 x3 : Option Value) (s0 : Value) (s1 : Value) (s2 : Value) : E d 233 814 [x0, x1, x2, x3] [s0, s1, s2] h = E d 233 815 [x0, x1, x2, x3] [.int 1, s0, s1, s2] h := E_nx rfl
set_option maxRecDepth 60000 in
theorem s233_815 (d : Nat) (h : AH) (x0 x1 x2 x3 : Option Value) (s0 : Int32) (s1 : Int32) (s2 : Value) (s3 : Value) : E d 233 815 [x0, x1, x2, x3] [.int s0, .int s1, s2, s3] h = E d 233 816 [x0, x1, x2, x3] [.int (s1 + s0), s2, s3] h := E_nx rfl
set_option maxRecDepth 60000 in
theorem s233_816 (d : Nat) (h : AH) (x0 x1 x2 x3 : Option Value) (s0 : Int32) (s1 : Nat) (s2 : Value) : E d 233 816 [x0, x1, x2, x3] [.int s0, .ref s1, s2] h = if inb s0 (alen h s1 0) = true ∨ inb s0 (alen h s1 8) = true then E d 233 817 [x0, x1, x2, x3] [.int (hI h s1 s0.toNatClampNeg), s2] h else none := E_gd rfl
set_option maxRecDepth 60000 in
theorem s233_817 (d : Nat) (h : AH) (x0 x1 x2 x3 : Option Value) (s0 : Int32) (s1 : Nat) : E (d + 1) 233 817 [x0, x1, x2, x3] [.int s0, .ref s1] h = if hS h s1 = some (104, 0) then (E d 116 0 [some (.ref s1), some (.int s0)] [] h).bind fun r => E (d + 1) 233 818 [x0, x1, x2, x3] (r.1.toList ++ []) r.2 else none := E_callg rfl
set_option maxRecDepth 60000 in
theorem s233_818 (d : Nat) (h : AH) (x0 x1 x3 : Option Value) (s0 : Value) (v : Nat) : E d 233 818 [x0, x1, some (.ref v), x3] [s0] h = E d 233 819 [x0, x1, some (.ref v), x3] [.ref v, s0] h := E_nx rfl
set_option maxRecDepth 60000 in
theorem s233_819 (d : Nat) (h : AH) (x1 x2 x3 : Option Value) (s0 : Value) (s1 : Value) (v : Nat) : E d 233 819 [some (.ref v), x1, x2, x3] [s0, s1] h = E d 233 820 [some (.ref v), x1, x2, x3] [.ref v, s0, s1] h := E_nx rfl
set_option maxRecDepth 60000 in
theorem s233_820 (d : Nat) (h : AH) (x0 x1 x2 : Option Value) (s0 : Value) (s1 : Value) (s2 : Value) (v : Int32) : E d 233 820 [x0, x1, x2, some (.int v)] [s0, s1, s2] h = E d 233 821 [x0, x1, x2, some (.int v)] [.int v, s0, s1, s2] h := E_nx rfl
set_option maxRecDepth 60000 in
theorem s233_821 (d : Nat) (h : AH) (x0 x1 x2 x3 : Option Value) (s0 : Value) (s1 : Value) (s2 : Value) (s3 : Value) : E d 233 821 [x0, x1, x2, x3] [s0, s1, s2, s3] h = E d 233 822 [x0, x1, x2, x3] [.int 1, s0, s1, s2, s3] h := E_nx rfl
set_option maxRecDepth 60000 in
theorem s233_822 (d : Nat) (h : AH) (x0 x1 x2 x3 : Option Value) (s0 : Int32) (s1 : Int32) (s2 : Value) (s3 : Value) (s4 : Value) : E d 233 822 [x0, x1, x2, x3] [.int s0, .int s1, s2, s3, s4] h = E d 233 823 [x0, x1, x2, x3] [.int (s1 + s0), s2, s3, s4] h := E_nx rfl
set_option maxRecDepth 60000 in
theorem s233_823 (d : Nat) (h : AH) (x0 x1 x2 x3 : Option Value) (s0 : Int32) (s1 : Nat) (s2 : Value) (s3 : Value) : E d 233 823 [x0, x1, x2, x3] [.int s0, .ref s1, s2, s3] h = if inb s0 (alen h s1 0) = true ∨ inb s0 (alen h s1 8) = true then E d 233 824 [x0, x1, x2, x3] [.int (hI h s1 s0.toNatClampNeg), s2, s3] h else none := E_gd rfl
set_option maxRecDepth 60000 in
theorem s233_824 (d : Nat) (h : AH) (x0 x1 x2 x3 : Option Value) (s0 : Int32) (s1 : Nat) (s2 : Value) : E (d + 1) 233 824 [x0, x1, x2, x3] [.int s0, .ref s1, s2] h = if hS h s1 = some (105, 0) then (E d 214 0 [some (.ref s1), some (.int s0), none, none] [] h).bind fun r => E (d + 1) 233 825 [x0, x1, x2, x3] (r.1.toList ++ [s2]) r.2 else none := E_callg rfl
set_option maxRecDepth 60000 in
theorem s233_825 (d : Nat) (h : AH) (x0 x1 x2 x3 : Option Value) (s0 : Int32) (s1 : Int32) : E d 233 825 [x0, x1, x2, x3] [.int s0, .int s1] h = if s1 = s0 then E d 233 1068 [x0, x1, x2, x3] [] h else E d 233 826 [x0, x1, x2, x3] [] h := E_ifc rfl
set_option maxRecDepth 60000 in
theorem s233_826 (d : Nat) (h : AH) (x0 x1 x2 x3 : Option Value)  : E d 233 826 [x0, x1, x2, x3] [] h = E d 233 827 [x0, x1, x2, x3] [.int 0] h := E_nx rfl
set_option maxRecDepth 60000 in
theorem s233_827 (d : Nat) (h : AH) (x0 x1 x2 x3 : Option Value) (s0 : Int32) : E d 233 827 [x0, x1, x2, x3] [.int s0] h = if s0 = 0 ∨ s0 = 1 then some (some (.int s0), h) else none := E_retg rfl
set_option maxRecDepth 60000 in
theorem s233_828 (d : Nat) (h : AH) (x0 x2 x3 : Option Value) (v : Nat) : E d 233 828 [x0, some (.ref v), x2, x3] [] h = E d 233 829 [x0, some (.ref v), x2, x3] [.ref v] h := E_nx rfl
set_option maxRecDepth 60000 in
theorem s233_829 (d : Nat) (h : AH) (x1 x2 x3 : Option Value) (s0 : Value) (v : Nat) : E d 233 829 [some (.ref v), x1, x2, x3] [s0] h = E d 233 830 [some (.ref v), x1, x2, x3] [.ref v, s0] h := E_nx rfl
set_option maxRecDepth 60000 in
theorem s233_830 (d : Nat) (h : AH) (x0 x1 x2 : Option Value) (s0 : Value) (s1 : Value) (v : Int32) : E d 233 830 [x0, x1, x2, some (.int v)] [s0, s1] h = E d 233 831 [x0, x1, x2, some (.int v)] [.int v, s0, s1] h := E_nx rfl
set_option maxRecDepth 60000 in
theorem s233_831 (d : Nat) (h : AH) (x0 x1 x2 x3 : Option Value) (s0 : Value) (s1 : Value) (s2 : Value) : E d 233 831 [x0, x1, x2, x3] [s0, s1, s2] h = E d 233 832 [x0, x1, x2, x3] [.int 1, s0, s1, s2] h := E_nx rfl
set_option maxRecDepth 60000 in
theorem s233_832 (d : Nat) (h : AH) (x0 x1 x2 x3 : Option Value) (s0 : Int32) (s1 : Int32) (s2 : Value) (s3 : Value) : E d 233 832 [x0, x1, x2, x3] [.int s0, .int s1, s2, s3] h = E d 233 833 [x0, x1, x2, x3] [.int (s1 + s0), s2, s3] h := E_nx rfl
set_option maxRecDepth 60000 in
theorem s233_833 (d : Nat) (h : AH) (x0 x1 x2 x3 : Option Value) (s0 : Int32) (s1 : Nat) (s2 : Value) : E d 233 833 [x0, x1, x2, x3] [.int s0, .ref s1, s2] h = if inb s0 (alen h s1 0) = true ∨ inb s0 (alen h s1 8) = true then E d 233 834 [x0, x1, x2, x3] [.int (hI h s1 s0.toNatClampNeg), s2] h else none := E_gd rfl
set_option maxRecDepth 60000 in
theorem s233_834 (d : Nat) (h : AH) (x1 x2 x3 : Option Value) (s0 : Value) (s1 : Value) (v : Nat) : E d 233 834 [some (.ref v), x1, x2, x3] [s0, s1] h = E d 233 835 [some (.ref v), x1, x2, x3] [.ref v, s0, s1] h := E_nx rfl
set_option maxRecDepth 60000 in
theorem s233_835 (d : Nat) (h : AH) (x0 x1 x2 : Option Value) (s0 : Value) (s1 : Value) (s2 : Value) (v : Int32) : E d 233 835 [x0, x1, x2, some (.int v)] [s0, s1, s2] h = E d 233 836 [x0, x1, x2, some (.int v)] [.int v, s0, s1, s2] h := E_nx rfl
set_option maxRecDepth 60000 in
theorem s233_836 (d : Nat) (h : AH) (x0 x1 x2 x3 : Option Value) (s0 : Value) (s1 : Value) (s2 : Value) (s3 : Value) : E d 233 836 [x0, x1, x2, x3] [s0, s1, s2, s3] h = E d 233 837 [x0, x1, x2, x3] [.int 2, s0, s1, s2, s3] h := E_nx rfl
set_option maxRecDepth 60000 in
theorem s233_837 (d : Nat) (h : AH) (x0 x1 x2 x3 : Option Value) (s0 : Int32) (s1 : Int32) (s2 : Value) (s3 : Value) (s4 : Value) : E d 233 837 [x0, x1, x2, x3] [.int s0, .int s1, s2, s3, s4] h = E d 233 838 [x0, x1, x2, x3] [.int (s1 + s0), s2, s3, s4] h := E_nx rfl
set_option maxRecDepth 60000 in
theorem s233_838 (d : Nat) (h : AH) (x0 x1 x2 x3 : Option Value) (s0 : Int32) (s1 : Nat) (s2 : Value) (s3 : Value) : E d 233 838 [x0, x1, x2, x3] [.int s0, .ref s1, s2, s3] h = if inb s0 (alen h s1 0) = true ∨ inb s0 (alen h s1 8) = true then E d 233 839 [x0, x1, x2, x3] [.int (hI h s1 s0.toNatClampNeg), s2, s3] h else none := E_gd rfl
set_option maxRecDepth 60000 in
theorem s233_839 (d : Nat) (h : AH) (x0 x1 x2 x3 : Option Value) (s0 : Int32) (s1 : Int32) (s2 : Nat) : E (d + 1) 233 839 [x0, x1, x2, x3] [.int s0, .int s1, .ref s2] h = if hS h s2 = some (104, 0) then (E d 117 0 [some (.ref s2), some (.int s1), some (.int s0)] [] h).bind fun r => E (d + 1) 233 840 [x0, x1, x2, x3] (r.1.toList ++ []) r.2 else none := E_callg rfl
set_option maxRecDepth 60000 in
theorem s233_840 (d : Nat) (h : AH) (x0 x1 x3 : Option Value) (s0 : Value) (v : Nat) : E d 233 840 [x0, x1, some (.ref v), x3] [s0] h = E d 233 841 [x0, x1, some (.ref v), x3] [.ref v, s0] h := E_nx rfl
set_option maxRecDepth 60000 in
theorem s233_841 (d : Nat) (h : AH) (x1 x2 x3 : Option Value) (s0 : Value) (s1 : Value) (v : Nat) : E d 233 841 [some (.ref v), x1, x2, x3] [s0, s1] h = E d 233 842 [some (.ref v), x1, x2, x3] [.ref v, s0, s1] h := E_nx rfl
set_option maxRecDepth 60000 in
theorem s233_842 (d : Nat) (h : AH) (x0 x1 x2 : Option Value) (s0 : Value) (s1 : Value) (s2 : Value) (v : Int32) : E d 233 842 [x0, x1, x2, some (.int v)] [s0, s1, s2] h = E d 233 843 [x0, x1, x2, some (.int v)] [.int v, s0, s1, s2] h := E_nx rfl
set_option maxRecDepth 60000 in
theorem s233_843 (d : Nat) (h : AH) (x0 x1 x2 x3 : Option Value) (s0 : Value) (s1 : Value) (s2 : Value) (s3 : Value) : E d 233 843 [x0, x1, x2, x3] [s0, s1, s2, s3] h = E d 233 844 [x0, x1, x2, x3] [.int 1, s0, s1, s2, s3] h := E_nx rfl
set_option maxRecDepth 60000 in
theorem s233_844 (d : Nat) (h : AH) (x0 x1 x2 x3 : Option Value) (s0 : Int32) (s1 : Int32) (s2 : Value) (s3 : Value) (s4 : Value) : E d 233 844 [x0, x1, x2, x3] [.int s0, .int s1, s2, s3, s4] h = E d 233 845 [x0, x1, x2, x3] [.int (s1 + s0), s2, s3, s4] h := E_nx rfl
set_option maxRecDepth 60000 in
theorem s233_845 (d : Nat) (h : AH) (x0 x1 x2 x3 : Option Value) (s0 : Int32) (s1 : Nat) (s2 : Value) (s3 : Value) : E d 233 845 [x0, x1, x2, x3] [.int s0, .ref s1, s2, s3] h = if inb s0 (alen h s1 0) = true ∨ inb s0 (alen h s1 8) = true then E d 233 846 [x0, x1, x2, x3] [.int (hI h s1 s0.toNatClampNeg), s2, s3] h else none := E_gd rfl
set_option maxRecDepth 60000 in
theorem s233_846 (d : Nat) (h : AH) (x1 x2 x3 : Option Value) (s0 : Value) (s1 : Value) (s2 : Value) (v : Nat) : E d 233 846 [some (.ref v), x1, x2, x3] [s0, s1, s2] h = E d 233 847 [some (.ref v), x1, x2, x3] [.ref v, s0, s1, s2] h := E_nx rfl
set_option maxRecDepth 60000 in
theorem s233_847 (d : Nat) (h : AH) (x0 x1 x2 : Option Value) (s0 : Value) (s1 : Value) (s2 : Value) (s3 : Value) (v : Int32) : E d 233 847 [x0, x1, x2, some (.int v)] [s0, s1, s2, s3] h = E d 233 848 [x0, x1, x2, some (.int v)] [.int v, s0, s1, s2, s3] h := E_nx rfl
set_option maxRecDepth 60000 in
theorem s233_848 (d : Nat) (h : AH) (x0 x1 x2 x3 : Option Value) (s0 : Value) (s1 : Value) (s2 : Value) (s3 : Value) (s4 : Value) : E d 233 848 [x0, x1, x2, x3] [s0, s1, s2, s3, s4] h = E d 233 849 [x0, x1, x2, x3] [.int 2, s0, s1, s2, s3, s4] h := E_nx rfl
set_option maxRecDepth 60000 in
theorem s233_849 (d : Nat) (h : AH) (x0 x1 x2 x3 : Option Value) (s0 : Int32) (s1 : Int32) (s2 : Value) (s3 : Value) (s4 : Value) (s5 : Value) : E d 233 849 [x0, x1, x2, x3] [.int s0, .int s1, s2, s3, s4, s5] h = E d 233 850 [x0, x1, x2, x3] [.int (s1 + s0), s2, s3, s4, s5] h := E_nx rfl
set_option maxRecDepth 60000 in
theorem s233_850 (d : Nat) (h : AH) (x0 x1 x2 x3 : Option Value) (s0 : Int32) (s1 : Nat) (s2 : Value) (s3 : Value) (s4 : Value) : E d 233 850 [x0, x1, x2, x3] [.int s0, .ref s1, s2, s3, s4] h = if inb s0 (alen h s1 0) = true ∨ inb s0 (alen h s1 8) = true then E d 233 851 [x0, x1, x2, x3] [.int (hI h s1 s0.toNatClampNeg), s2, s3, s4] h else none := E_gd rfl
set_option maxRecDepth 60000 in
theorem s233_851 (d : Nat) (h : AH) (x0 x1 x2 x3 : Option Value) (s0 : Int32) (s1 : Int32) (s2 : Nat) (s3 : Value) : E (d + 1) 233 851 [x0, x1, x2, x3] [.int s0, .int s1, .ref s2, s3] h = if hS h s2 = some (105, 0) then (E d 215 0 [some (.ref s2), some (.int s1), some (.int s0), none] [] h).bind fun r => E (d + 1) 233 852 [x0, x1, x2, x3] (r.1.toList ++ [s3]) r.2 else none := E_callg rfl
set_option maxRecDepth 60000 in
theorem s233_852 (d : Nat) (h : AH) (x0 x1 x2 x3 : Option Value) (s0 : Int32) (s1 : Int32) : E d 233 852 [x0, x1, x2, x3] [.int s0, .int s1] h = if s1 = s0 then E d 233 1068 [x0, x1, x2, x3] [] h else E d 233 853 [x0, x1, x2, x3] [] h := E_ifc rfl
set_option maxRecDepth 60000 in
theorem s233_853 (d : Nat) (h : AH) (x0 x1 x2 x3 : Option Value)  : E d 233 853 [x0, x1, x2, x3] [] h = E d 233 854 [x0, x1, x2, x3] [.int 0] h := E_nx rfl
set_option maxRecDepth 60000 in
theorem s233_854 (d : Nat) (h : AH) (x0 x1 x2 x3 : Option Value) (s0 : Int32) : E d 233 854 [x0, x1, x2, x3] [.int s0] h = if s0 = 0 ∨ s0 = 1 then some (some (.int s0), h) else none := E_retg rfl
set_option maxRecDepth 60000 in
theorem s233_855 (d : Nat) (h : AH) (x0 x2 x3 : Option Value) (v : Nat) : E d 233 855 [x0, some (.ref v), x2, x3] [] h = E d 233 856 [x0, some (.ref v), x2, x3] [.ref v] h := E_nx rfl
set_option maxRecDepth 60000 in
theorem s233_856 (d : Nat) (h : AH) (x1 x2 x3 : Option Value) (s0 : Value) (v : Nat) : E d 233 856 [some (.ref v), x1, x2, x3] [s0] h = E d 233 857 [some (.ref v), x1, x2, x3] [.ref v, s0] h := E_nx rfl
set_option maxRecDepth 60000 in
theorem s233_857 (d : Nat) (h : AH) (x0 x1 x2 : Option Value) (s0 : Value) (s1 : Value) (v : Int32) : E d 233 857 [x0, x1, x2, some (.int v)] [s0, s1] h = E d 233 858 [x0, x1, x2, some (.int v)] [.int v, s0, s1] h := E_nx rfl
set_option maxRecDepth 60000 in
theorem s233_858 (d : Nat) (h : AH) (x0 x1 x2 x3 : Option Value) (s0 : Value) (s1 : Value) (s2 : Value) : E d 233 858 [x0, x1, x2, x3] [s0, s1, s2] h = E d 233 859 [x0, x1, x2, x3] [.int 1, s0, s1, s2] h := E_nx rfl
set_option maxRecDepth 60000 in
theorem s233_859 (d : Nat) (h : AH) (x0 x1 x2 x3 : Option Value) (s0 : Int32) (s1 : Int32) (s2 : Value) (s3 : Value) : E d 233 859 [x0, x1, x2, x3] [.int s0, .int s1, s2, s3] h = E d 233 860 [x0, x1, x2, x3] [.int (s1 + s0), s2, s3] h := E_nx rfl
set_option maxRecDepth 60000 in
theorem s233_860 (d : Nat) (h : AH) (x0 x1 x2 x3 : Option Value) (s0 : Int32) (s1 : Nat) (s2 : Value) : E d 233 860 [x0, x1, x2, x3] [.int s0, .ref s1, s2] h = if inb s0 (alen h s1 0) = true ∨ inb s0 (alen h s1 8) = true then E d 233 861 [x0, x1, x2, x3] [.int (hI h s1 s0.toNatClampNeg), s2] h else none := E_gd rfl
set_option maxRecDepth 60000 in
theorem s233_861 (d : Nat) (h : AH) (x1 x2 x3 : Option Value) (s0 : Value) (s1 : Value) (v : Nat) : E d 233 861 [some (.ref v), x1, x2, x3] [s0, s1] h = E d 233 862 [some (.ref v), x1, x2, x3] [.ref v, s0, s1] h := E_nx rfl
set_option maxRecDepth 60000 in
theorem s233_862 (d : Nat) (h : AH) (x0 x1 x2 : Option Value) (s0 : Value) (s1 : Value) (s2 : Value) (v : Int32) : E d 233 862 [x0, x1, x2, some (.int v)] [s0, s1, s2] h = E d 233 863 [x0, x1, x2, some (.int v)] [.int v, s0, s1, s2] h := E_nx rfl
set_option maxRecDepth 60000 in
theorem s233_863 (d : Nat) (h : AH) (x0 x1 x2 x3 : Option Value) (s0 : Value) (s1 : Value) (s2 : Value) (s3 : Value) : E d 233 863 [x0, x1, x2, x3] [s0, s1, s2, s3] h = E d 233 864 [x0, x1, x2, x3] [.int 2, s0, s1, s2, s3] h := E_nx rfl
set_option maxRecDepth 60000 in
theorem s233_864 (d : Nat) (h : AH) (x0 x1 x2 x3 : Option Value) (s0 : Int32) (s1 : Int32) (s2 : Value) (s3 : Value) (s4 : Value) : E d 233 864 [x0, x1, x2, x3] [.int s0, .int s1, s2, s3, s4] h = E d 233 865 [x0, x1, x2, x3] [.int (s1 + s0), s2, s3, s4] h := E_nx rfl
set_option maxRecDepth 60000 in
theorem s233_865 (d : Nat) (h : AH) (x0 x1 x2 x3 : Option Value) (s0 : Int32) (s1 : Nat) (s2 : Value) (s3 : Value) : E d 233 865 [x0, x1, x2, x3] [.int s0, .ref s1, s2, s3] h = if inb s0 (alen h s1 0) = true ∨ inb s0 (alen h s1 8) = true then E d 233 866 [x0, x1, x2, x3] [.int (hI h s1 s0.toNatClampNeg), s2, s3] h else none := E_gd rfl
set_option maxRecDepth 60000 in
theorem s233_866 (d : Nat) (h : AH) (x1 x2 x3 : Option Value) (s0 : Value) (s1 : Value) (s2 : Value) (v : Nat) : E d 233 866 [some (.ref v), x1, x2, x3] [s0, s1, s2] h = E d 233 867 [some (.ref v), x1, x2, x3] [.ref v, s0, s1, s2] h := E_nx rfl
set_option maxRecDepth 60000 in
theorem s233_867 (d : Nat) (h : AH) (x0 x1 x2 : Option Value) (s0 : Value) (s1 : Value) (s2 : Value) (s3 : Value) (v : Int32) : E d 233 867 [x0, x1, x2, some (.int v)] [s0, s1, s2, s3] h = E d 233 868 [x0, x1, x2, some (.int v)] [.int v, s0, s1, s2, s3] h := E_nx rfl
set_option maxRecDepth 60000 in
theorem s233_868 (d : Nat) (h : AH) (x0 x1 x2 x3 : Option Value) (s0 : Value) (s1 : Value) (s2 : Value) (s3 : Value) (s4 : Value) : E d 233 868 [x0, x1, x2, x3] [s0, s1, s2, s3, s4] h = E d 233 869 [x0, x1, x2, x3] [.int 3, s0, s1, s2, s3, s4] h := E_nx rfl
set_option maxRecDepth 60000 in
theorem s233_869 (d : Nat) (h : AH) (x0 x1 x2 x3 : Option Value) (s0 : Int32) (s1 : Int32) (s2 : Value) (s3 : Value) (s4 : Value) (s5 : Value) : E d 233 869 [x0, x1, x2, x3] [.int s0, .int s1, s2, s3, s4, s5] h = E d 233 870 [x0, x1, x2, x3] [.int (s1 + s0), s2, s3, s4, s5] h := E_nx rfl
set_option maxRecDepth 60000 in
theorem s233_870 (d : Nat) (h : AH) (x0 x1 x2 x3 : Option Value) (s0 : Int32) (s1 : Nat) (s2 : Value) (s3 : Value) (s4 : Value) : E d 233 870 [x0, x1, x2, x3] [.int s0, .ref s1, s2, s3, s4] h = if inb s0 (alen h s1 0) = true ∨ inb s0 (alen h s1 8) = true then E d 233 871 [x0, x1, x2, x3] [.int (hI h s1 s0.toNatClampNeg), s2, s3, s4] h else none := E_gd rfl
set_option maxRecDepth 60000 in
theorem s233_871 (d : Nat) (h : AH) (x1 x2 x3 : Option Value) (s0 : Value) (s1 : Value) (s2 : Value) (s3 : Value) (v : Nat) : E d 233 871 [some (.ref v), x1, x2, x3] [s0, s1, s2, s3] h = E d 233 872 [some (.ref v), x1, x2, x3] [.ref v, s0, s1, s2, s3] h := E_nx rfl
set_option maxRecDepth 60000 in
theorem s233_872 (d : Nat) (h : AH) (x0 x1 x2 : Option Value) (s0 : Value) (s1 : Value) (s2 : Value) (s3 : Value) (s4 : Value) (v : Int32) : E d 233 872 [x0, x1, x2, some (.int v)] [s0, s1, s2, s3, s4] h = E d 233 873 [x0, x1, x2, some (.int v)] [.int v, s0, s1, s2, s3, s4] h := E_nx rfl
set_option maxRecDepth 60000 in
theorem s233_873 (d : Nat) (h : AH) (x0 x1 x2 x3 : Option Value) (s0 : Value) (s1 : Value) (s2 : Value) (s3 : Value) (s4 : Value) (s5 : Value) : E d 233 873 [x0, x1, x2, x3] [s0, s1, s2, s3, s4, s5] h = E d 233 874 [x0, x1, x2, x3] [.int 4, s0, s1, s2, s3, s4, s5] h := E_nx rfl
set_option maxRecDepth 60000 in
theorem s233_874 (d : Nat) (h : AH) (x0 x1 x2 x3 : Option Value) (s0 : Int32) (s1 : Int32) (s2 : Value) (s3 : Value) (s4 : Value) (s5 : Value) (s6 : Value) : E d 233 874 [x0, x1, x2, x3] [.int s0, .int s1, s2, s3, s4, s5, s6] h = E d 233 875 [x0, x1, x2, x3] [.int (s1 + s0), s2, s3, s4, s5, s6] h := E_nx rfl
set_option maxRecDepth 60000 in
theorem s233_875 (d : Nat) (h : AH) (x0 x1 x2 x3 : Option Value) (s0 : Int32) (s1 : Nat) (s2 : Value) (s3 : Value) (s4 : Value) (s5 : Value) : E d 233 875 [x0, x1, x2, x3] [.int s0, .ref s1, s2, s3, s4, s5] h = if inb s0 (alen h s1 0) = true ∨ inb s0 (alen h s1 8) = true then E d 233 876 [x0, x1, x2, x3] [.int (hI h s1 s0.toNatClampNeg), s2, s3, s4, s5] h else none := E_gd rfl
set_option maxRecDepth 60000 in
theorem s233_876 (d : Nat) (h : AH) (x0 x1 x2 x3 : Option Value) (s0 : Int32) (s1 : Int32) (s2 : Int32) (s3 : Int32) (s4 : Nat) : E (d + 1) 233 876 [x0, x1, x2, x3] [.int s0, .int s1, .int s2, .int s3, .ref s4] h = if hS h s4 = some (104, 0) then (E d 118 0 [some (.ref s4), some (.int s3), some (.int s2), some (.int s1), some (.int s0), none, none, none, none, none] [] h).bind fun r => E (d + 1) 233 877 [x0, x1, x2, x3] (r.1.toList ++ []) r.2 else none := E_callg rfl
set_option maxRecDepth 60000 in
theorem s233_877 (d : Nat) (h : AH) (x0 x1 x3 : Option Value) (s0 : Value) (v : Nat) : E d 233 877 [x0, x1, some (.ref v), x3] [s0] h = E d 233 878 [x0, x1, some (.ref v), x3] [.ref v, s0] h := E_nx rfl
set_option maxRecDepth 60000 in
theorem s233_878 (d : Nat) (h : AH) (x1 x2 x3 : Option Value) (s0 : Value) (s1 : Value) (v : Nat) : E d 233 878 [some (.ref v), x1, x2, x3] [s0, s1] h = E d 233 879 [some (.ref v), x1, x2, x3] [.ref v, s0, s1] h := E_nx rfl
set_option maxRecDepth 60000 in
theorem s233_879 (d : Nat) (h : AH) (x0 x1 x2 : Option Value) (s0 : Value) (s1 : Value) (s2 : Value) (v : Int32) : E d 233 879 [x0, x1, x2, some (.int v)] [s0, s1, s2] h = E d 233 880 [x0, x1, x2, some (.int v)] [.int v, s0, s1, s2] h := E_nx rfl
set_option maxRecDepth 60000 in
theorem s233_880 (d : Nat) (h : AH) (x0 x1 x2 x3 : Option Value) (s0 : Value) (s1 : Value) (s2 : Value) (s3 : Value) : E d 233 880 [x0, x1, x2, x3] [s0, s1, s2, s3] h = E d 233 881 [x0, x1, x2, x3] [.int 1, s0, s1, s2, s3] h := E_nx rfl
set_option maxRecDepth 60000 in
theorem s233_881 (d : Nat) (h : AH) (x0 x1 x2 x3 : Option Value) (s0 : Int32) (s1 : Int32) (s2 : Value) (s3 : Value) (s4 : Value) : E d 233 881 [x0, x1, x2, x3] [.int s0, .int s1, s2, s3, s4] h = E d 233 882 [x0, x1, x2, x3] [.int (s1 + s0), s2, s3, s4] h := E_nx rfl
set_option maxRecDepth 60000 in
theorem s233_882 (d : Nat) (h : AH) (x0 x1 x2 x3 : Option Value) (s0 : Int32) (s1 : Nat) (s2 : Value) (s3 : Value) : E d 233 882 [x0, x1, x2, x3] [.int s0, .ref s1, s2, s3] h = if inb s0 (alen h s1 0) = true ∨ inb s0 (alen h s1 8) = true then E d 233 883 [x0, x1, x2, x3] [.int (hI h s1 s0.toNatClampNeg), s2, s3] h else none := E_gd rfl
set_option maxRecDepth 60000 in
theorem s233_883 (d : Nat) (h : AH) (x1 x2 x3 : Option Value) (s0 : Value) (s1 : Value) (s2 : Value) (v : Nat) : E d 233 883 [some (.ref v), x1, x2, x3] [s0, s1, s2] h = E d 233 884 [some (.ref v), x1, x2, x3] [.ref v, s0, s1, s2] h := E_nx rfl
set_option maxRecDepth 60000 in
theorem s233_884 (d : Nat) (h : AH) (x0 x1 x2 : Option Value) (s0 : Value) (s1 : Value) (s2 : Value) (s3 : Value) (v : Int32) : E d 233 884 [x0, x1, x2, some (.int v)] [s0, s1, s2, s3] h = E d 233 885 [x0, x1, x2, some (.int v)] [.int v, s0, s1, s2, s3] h := E_nx rfl
set_option maxRecDepth 60000 in
theorem s233_885 (d : Nat) (h : AH) (x0 x1 x2 x3 : Option Value) (s0 : Value) (s1 : Value) (s2 : Value) (s3 : Value) (s4 : Value) : E d 233 885 [x0, x1, x2, x3] [s0, s1, s2, s3, s4] h = E d 233 886 [x0, x1, x2, x3] [.int 2, s0, s1, s2, s3, s4] h := E_nx rfl
set_option maxRecDepth 60000 in
theorem s233_886 (d : Nat) (h : AH) (x0 x1 x2 x3 : Option Value) (s0 : Int32) (s1 : Int32) (s2 : Value) (s3 : Value) (s4 : Value) (s5 : Value) : E d 233 886 [x0, x1, x2, x3] [.int s0, .int s1, s2, s3, s4, s5] h = E d 233 887 [x0, x1, x2, x3] [.int (s1 + s0), s2, s3, s4, s5] h := E_nx rfl
set_option maxRecDepth 60000 in
theorem s233_887 (d : Nat) (h : AH) (x0 x1 x2 x3 : Option Value) (s0 : Int32) (s1 : Nat) (s2 : Value) (s3 : Value) (s4 : Value) : E d 233 887 [x0, x1, x2, x3] [.int s0, .ref s1, s2, s3, s4] h = if inb s0 (alen h s1 0) = true ∨ inb s0 (alen h s1 8) = true then E d 233 888 [x0, x1, x2, x3] [.int (hI h s1 s0.toNatClampNeg), s2, s3, s4] h else none := E_gd rfl
set_option maxRecDepth 60000 in
theorem s233_888 (d : Nat) (h : AH) (x1 x2 x3 : Option Value) (s0 : Value) (s1 : Value) (s2 : Value) (s3 : Value) (v : Nat) : E d 233 888 [some (.ref v), x1, x2, x3] [s0, s1, s2, s3] h = E d 233 889 [some (.ref v), x1, x2, x3] [.ref v, s0, s1, s2, s3] h := E_nx rfl
set_option maxRecDepth 60000 in
theorem s233_889 (d : Nat) (h : AH) (x0 x1 x2 : Option Value) (s0 : Value) (s1 : Value) (s2 : Value) (s3 : Value) (s4 : Value) (v : Int32) : E d 233 889 [x0, x1, x2, some (.int v)] [s0, s1, s2, s3, s4] h = E d 233 890 [x0, x1, x2, some (.int v)] [.int v, s0, s1, s2, s3, s4] h := E_nx rfl
set_option maxRecDepth 60000 in
theorem s233_890 (d : Nat) (h : AH) (x0 x1 x2 x3 : Option Value) (s0 : Value) (s1 : Value) (s2 : Value) (s3 : Value) (s4 : Value) (s5 : Value) : E d 233 890 [x0, x1, x2, x3] [s0, s1, s2, s3, s4, s5] h = E d 233 891 [x0, x1, x2, x3] [.int 3, s0, s1, s2, s3, s4, s5] h := E_nx rfl
set_option maxRecDepth 60000 in
theorem s233_891 (d : Nat) (h : AH) (x0 x1 x2 x3 : Option Value) (s0 : Int32) (s1 : Int32) (s2 : Value) (s3 : Value) (s4 : Value) (s5 : Value) (s6 : Value) : E d 233 891 [x0, x1, x2, x3] [.int s0, .int s1, s2, s3, s4, s5, s6] h = E d 233 892 [x0, x1, x2, x3] [.int (s1 + s0), s2, s3, s4, s5, s6] h := E_nx rfl
set_option maxRecDepth 60000 in
theorem s233_892 (d : Nat) (h : AH) (x0 x1 x2 x3 : Option Value) (s0 : Int32) (s1 : Nat) (s2 : Value) (s3 : Value) (s4 : Value) (s5 : Value) : E d 233 892 [x0, x1, x2, x3] [.int s0, .ref s1, s2, s3, s4, s5] h = if inb s0 (alen h s1 0) = true ∨ inb s0 (alen h s1 8) = true then E d 233 893 [x0, x1, x2, x3] [.int (hI h s1 s0.toNatClampNeg), s2, s3, s4, s5] h else none := E_gd rfl
set_option maxRecDepth 60000 in
theorem s233_893 (d : Nat) (h : AH) (x1 x2 x3 : Option Value) (s0 : Value) (s1 : Value) (s2 : Value) (s3 : Value) (s4 : Value) (v : Nat) : E d 233 893 [some (.ref v), x1, x2, x3] [s0, s1, s2, s3, s4] h = E d 233 894 [some (.ref v), x1, x2, x3] [.ref v, s0, s1, s2, s3, s4] h := E_nx rfl
set_option maxRecDepth 60000 in
theorem s233_894 (d : Nat) (h : AH) (x0 x1 x2 : Option Value) (s0 : Value) (s1 : Value) (s2 : Value) (s3 : Value) (s4 : Value) (s5 : Value) (v : Int32) : E d 233 894 [x0, x1, x2, some (.int v)] [s0, s1, s2, s3, s4, s5] h = E d 233 895 [x0, x1, x2, some (.int v)] [.int v, s0, s1, s2, s3, s4, s5] h := E_nx rfl
set_option maxRecDepth 60000 in
theorem s233_895 (d : Nat) (h : AH) (x0 x1 x2 x3 : Option Value) (s0 : Value) (s1 : Value) (s2 : Value) (s3 : Value) (s4 : Value) (s5 : Value) (s6 : Value) : E d 233 895 [x0, x1, x2, x3] [s0, s1, s2, s3, s4, s5, s6] h = E d 233 896 [x0, x1, x2, x3] [.int 4, s0, s1, s2, s3, s4, s5, s6] h := E_nx rfl
set_option maxRecDepth 60000 in
theorem s233_896 (d : Nat) (h : AH) (x0 x1 x2 x3 : Option Value) (s0 : Int32) (s1 : Int32) (s2 : Value) (s3 : Value) (s4 : Value) (s5 : Value) (s6 : Value) (s7 : Value) : E d 233 896 [x0, x1, x2, x3] [.int s0, .int s1, s2, s3, s4, s5, s6, s7] h = E d 233 897 [x0, x1, x2, x3] [.int (s1 + s0), s2, s3, s4, s5, s6, s7] h := E_nx rfl
set_option maxRecDepth 60000 in
theorem s233_897 (d : Nat) (h : AH) (x0 x1 x2 x3 : Option Value) (s0 : Int32) (s1 : Nat) (s2 : Value) (s3 : Value) (s4 : Value) (s5 : Value) (s6 : Value) : E d 233 897 [x0, x1, x2, x3] [.int s0, .ref s1, s2, s3, s4, s5, s6] h = if inb s0 (alen h s1 0) = true ∨ inb s0 (alen h s1 8) = true then E d 233 898 [x0, x1, x2, x3] [.int (hI h s1 s0.toNatClampNeg), s2, s3, s4, s5, s6] h else none := E_gd rfl
set_option maxRecDepth 60000 in
theorem s233_898 (d : Nat) (h : AH) (x0 x1 x2 x3 : Option Value) (s0 : Int32) (s1 : Int32) (s2 : Int32) (s3 : Int32) (s4 : Nat) (s5 : Value) : E (d + 1) 233 898 [x0, x1, x2, x3] [.int s0, .int s1, .int s2, .int s3, .ref s4, s5] h = if hS h s4 = some (105, 0) then (E d 217 0 [some (.ref s4), some (.int s3), some (.int s2), some (.int s1), some (.int s0), none, none, none, none] [] h).bind fun r => E (d + 1) 233 899 [x0, x1, x2, x3] (r.1.toList ++ [s5]) r.2 else none := E_callg rfl
set_option maxRecDepth 60000 in
theorem s233_899 (d : Nat) (h : AH) (x0 x1 x2 x3 : Option Value) (s0 : Int32) (s1 : Int32) : E d 233 899 [x0, x1, x2, x3] [.int s0, .int s1] h = if s1 = s0 then E d 233 1068 [x0, x1, x2, x3] [] h else E d 233 900 [x0, x1, x2, x3] [] h := E_ifc rfl
set_option maxRecDepth 60000 in
theorem s233_900 (d : Nat) (h : AH) (x0 x1 x2 x3 : Option Value)  : E d 233 900 [x0, x1, x2, x3] [] h = E d 233 901 [x0, x1, x2, x3] [.int 0] h := E_nx rfl
set_option maxRecDepth 60000 in
theorem s233_901 (d : Nat) (h : AH) (x0 x1 x2 x3 : Option Value) (s0 : Int32) : E d 233 901 [x0, x1, x2, x3] [.int s0] h = if s0 = 0 ∨ s0 = 1 then some (some (.int s0), h) else none := E_retg rfl
set_option maxRecDepth 60000 in
theorem s233_902 (d : Nat) (h : AH) (x0 x2 x3 : Option Value) (v : Nat) : E d 233 902 [x0, some (.ref v), x2, x3] [] h = E d 233 903 [x0, some (.ref v), x2, x3] [.ref v] h := E_nx rfl
set_option maxRecDepth 60000 in
theorem s233_903 (d : Nat) (h : AH) (x1 x2 x3 : Option Value) (s0 : Value) (v : Nat) : E d 233 903 [some (.ref v), x1, x2, x3] [s0] h = E d 233 904 [some (.ref v), x1, x2, x3] [.ref v, s0] h := E_nx rfl
set_option maxRecDepth 60000 in
theorem s233_904 (d : Nat) (h : AH) (x0 x1 x2 : Option Value) (s0 : Value) (s1 : Value) (v : Int32) : E d 233 904 [x0, x1, x2, some (.int v)] [s0, s1] h = E d 233 905 [x0, x1, x2, some (.int v)] [.int v, s0, s1] h := E_nx rfl
set_option maxRecDepth 60000 in
theorem s233_905 (d : Nat) (h : AH) (x0 x1 x2 x3 : Option Value) (s0 : Value) (s1 : Value) (s2 : Value) : E d 233 905 [x0, x1, x2, x3] [s0, s1, s2] h = E d 233 906 [x0, x1, x2, x3] [.int 1, s0, s1, s2] h := E_nx rfl
set_option maxRecDepth 60000 in
theorem s233_906 (d : Nat) (h : AH) (x0 x1 x2 x3 : Option Value) (s0 : Int32) (s1 : Int32) (s2 : Value) (s3 : Value) : E d 233 906 [x0, x1, x2, x3] [.int s0, .int s1, s2, s3] h = E d 233 907 [x0, x1, x2, x3] [.int (s1 + s0), s2, s3] h := E_nx rfl
set_option maxRecDepth 60000 in
theorem s233_907 (d : Nat) (h : AH) (x0 x1 x2 x3 : Option Value) (s0 : Int32) (s1 : Nat) (s2 : Value) : E d 233 907 [x0, x1, x2, x3] [.int s0, .ref s1, s2] h = if inb s0 (alen h s1 0) = true ∨ inb s0 (alen h s1 8) = true then E d 233 908 [x0, x1, x2, x3] [.int (hI h s1 s0.toNatClampNeg), s2] h else none := E_gd rfl
set_option maxRecDepth 60000 in
theorem s233_908 (d : Nat) (h : AH) (x1 x2 x3 : Option Value) (s0 : Value) (s1 : Value) (v : Nat) : E d 233 908 [some (.ref v), x1, x2, x3] [s0, s1] h = E d 233 909 [some (.ref v), x1, x2, x3] [.ref v, s0, s1] h := E_nx rfl
set_option maxRecDepth 60000 in
theorem s233_909 (d : Nat) (h : AH) (x0 x1 x2 : Option Value) (s0 : Value) (s1 : Value) (s2 : Value) (v : Int32) : E d 233 909 [x0, x1, x2, some (.int v)] [s0, s1, s2] h = E d 233 910 [x0, x1, x2, some (.int v)] [.int v, s0, s1, s2] h := E_nx rfl
set_option maxRecDepth 60000 in
theorem s233_910 (d : Nat) (h : AH) (x0 x1 x2 x3 : Option Value) (s0 : Value) (s1 : Value) (s2 : Value) (s3 : Value) : E d 233 910 [x0, x1, x2, x3] [s0, s1, s2, s3] h = E d 233 911 [x0, x1, x2, x3] [.int 2, s0, s1, s2, s3] h := E_nx rfl
set_option maxRecDepth 60000 in
theorem s233_911 (d : Nat) (h : AH) (x0 x1 x2 x3 : Option Value) (s0 : Int32) (s1 : Int32) (s2 : Value) (s3 : Value) (s4 : Value) : E d 233 911 [x0, x1, x2, x3] [.int s0, .int s1, s2, s3, s4] h = E d 233 912 [x0, x1, x2, x3] [.int (s1 + s0), s2, s3, s4] h := E_nx rfl
set_option maxRecDepth 60000 in
theorem s233_912 (d : Nat) (h : AH) (x0 x1 x2 x3 : Option Value) (s0 : Int32) (s1 : Nat) (s2 : Value) (s3 : Value) : E d 233 912 [x0, x1, x2, x3] [.int s0, .ref s1, s2, s3] h = if inb s0 (alen h s1 0) = true ∨ inb s0 (alen h s1 8) = true then E d 233 913 [x0, x1, x2, x3] [.int (hI h s1 s0.toNatClampNeg), s2, s3] h else none := E_gd rfl
set_option maxRecDepth 60000 in
theorem s233_913 (d : Nat) (h : AH) (x1 x2 x3 : Option Value) (s0 : Value) (s1 : Value) (s2 : Value) (v : Nat) : E d 233 913 [some (.ref v), x1, x2, x3] [s0, s1, s2] h = E d 233 914 [some (.ref v), x1, x2, x3] [.ref v, s0, s1, s2] h := E_nx rfl
set_option maxRecDepth 60000 in
theorem s233_914 (d : Nat) (h : AH) (x0 x1 x2 : Option Value) (s0 : Value) (s1 : Value) (s2 : Value) (s3 : Value) (v : Int32) : E d 233 914 [x0, x1, x2, some (.int v)] [s0, s1, s2, s3] h = E d 233 915 [x0, x1, x2, some (.int v)] [.int v, s0, s1, s2, s3] h := E_nx rfl
set_option maxRecDepth 60000 in
theorem s233_915 (d : Nat) (h : AH) (x0 x1 x2 x3 : Option Value) (s0 : Value) (s1 : Value) (s2 : Value) (s3 : Value) (s4 : Value) : E d 233 915 [x0, x1, x2, x3] [s0, s1, s2, s3, s4] h = E d 233 916 [x0, x1, x2, x3] [.int 3, s0, s1, s2, s3, s4] h := E_nx rfl
set_option maxRecDepth 60000 in
theorem s233_916 (d : Nat) (h : AH) (x0 x1 x2 x3 : Option Value) (s0 : Int32) (s1 : Int32) (s2 : Value) (s3 : Value) (s4 : Value) (s5 : Value) : E d 233 916 [x0, x1, x2, x3] [.int s0, .int s1, s2, s3, s4, s5] h = E d 233 917 [x0, x1, x2, x3] [.int (s1 + s0), s2, s3, s4, s5] h := E_nx rfl
set_option maxRecDepth 60000 in
theorem s233_917 (d : Nat) (h : AH) (x0 x1 x2 x3 : Option Value) (s0 : Int32) (s1 : Nat) (s2 : Value) (s3 : Value) (s4 : Value) : E d 233 917 [x0, x1, x2, x3] [.int s0, .ref s1, s2, s3, s4] h = if inb s0 (alen h s1 0) = true ∨ inb s0 (alen h s1 8) = true then E d 233 918 [x0, x1, x2, x3] [.int (hI h s1 s0.toNatClampNeg), s2, s3, s4] h else none := E_gd rfl
set_option maxRecDepth 60000 in
theorem s233_918 (d : Nat) (h : AH) (x1 x2 x3 : Option Value) (s0 : Value) (s1 : Value) (s2 : Value) (s3 : Value) (v : Nat) : E d 233 918 [some (.ref v), x1, x2, x3] [s0, s1, s2, s3] h = E d 233 919 [some (.ref v), x1, x2, x3] [.ref v, s0, s1, s2, s3] h := E_nx rfl
set_option maxRecDepth 60000 in
theorem s233_919 (d : Nat) (h : AH) (x0 x1 x2 : Option Value) (s0 : Value) (s1 : Value) (s2 : Value) (s3 : Value) (s4 : Value) (v : Int32) : E d 233 919 [x0, x1, x2, some (.int v)] [s0, s1, s2, s3, s4] h = E d 233 920 [x0, x1, x2, some (.int v)] [.int v, s0, s1, s2, s3, s4] h := E_nx rfl
set_option maxRecDepth 60000 in
theorem s233_920 (d : Nat) (h : AH) (x0 x1 x2 x3 : Option Value) (s0 : Value) (s1 : Value) (s2 : Value) (s3 : Value) (s4 : Value) (s5 : Value) : E d 233 920 [x0, x1, x2, x3] [s0, s1, s2, s3, s4, s5] h = E d 233 921 [x0, x1, x2, x3] [.int 4, s0, s1, s2, s3, s4, s5] h := E_nx rfl
set_option maxRecDepth 60000 in
theorem s233_921 (d : Nat) (h : AH) (x0 x1 x2 x3 : Option Value) (s0 : Int32) (s1 : Int32) (s2 : Value) (s3 : Value) (s4 : Value) (s5 : Value) (s6 : Value) : E d 233 921 [x0, x1, x2, x3] [.int s0, .int s1, s2, s3, s4, s5, s6] h = E d 233 922 [x0, x1, x2, x3] [.int (s1 + s0), s2, s3, s4, s5, s6] h := E_nx rfl
set_option maxRecDepth 60000 in
theorem s233_922 (d : Nat) (h : AH) (x0 x1 x2 x3 : Option Value) (s0 : Int32) (s1 : Nat) (s2 : Value) (s3 : Value) (s4 : Value) (s5 : Value) : E d 233 922 [x0, x1, x2, x3] [.int s0, .ref s1, s2, s3, s4, s5] h = if inb s0 (alen h s1 0) = true ∨ inb s0 (alen h s1 8) = true then E d 233 923 [x0, x1, x2, x3] [.int (hI h s1 s0.toNatClampNeg), s2, s3, s4, s5] h else none := E_gd rfl
set_option maxRecDepth 60000 in
theorem s233_923 (d : Nat) (h : AH) (x0 x1 x2 x3 : Option Value) (s0 : Int32) (s1 : Int32) (s2 : Int32) (s3 : Int32) (s4 : Nat) : E (d + 1) 233 923 [x0, x1, x2, x3] [.int s0, .int s1, .int s2, .int s3, .ref s4] h = if hS h s4 = some (104, 0) then (E d 119 0 [some (.ref s4), some (.int s3), some (.int s2), some (.int s1), some (.int s0), none, none, none, none, none, none] [] h).bind fun r => E (d + 1) 233 924 [x0, x1, x2, x3] (r.1.toList ++ []) r.2 else none := E_callg rfl
set_option maxRecDepth 60000 in
theorem s233_924 (d : Nat) (h : AH) (x0 x1 x3 : Option Value) (s0 : Value) (v : Nat) : E d 233 924 [x0, x1, some (.ref v), x3] [s0] h = E d 233 925 [x0, x1, some (.ref v), x3] [.ref v, s0] h := E_nx rfl
set_option maxRecDepth 60000 in
theorem s233_925 (d : Nat) (h : AH) (x1 x2 x3 : Option Value) (s0 : Value) (s1 : Value) (v : Nat) : E d 233 925 [some (.ref v), x1, x2, x3] [s0, s1] h = E d 233 926 [some (.ref v), x1, x2, x3] [.ref v, s0, s1] h := E_nx rfl
set_option maxRecDepth 60000 in
theorem s233_926 (d : Nat) (h : AH) (x0 x1 x2 : Option Value) (s0 : Value) (s1 : Value) (s2 : Value) (v : Int32) : E d 233 926 [x0, x1, x2, some (.int v)] [s0, s1, s2] h = E d 233 927 [x0, x1, x2, some (.int v)] [.int v, s0, s1, s2] h := E_nx rfl
set_option maxRecDepth 60000 in
theorem s233_927 (d : Nat) (h : AH) (x0 x1 x2 x3 : Option Value) (s0 : Value) (s1 : Value) (s2 : Value) (s3 : Value) : E d 233 927 [x0, x1, x2, x3] [s0, s1, s2, s3] h = E d 233 928 [x0, x1, x2, x3] [.int 1, s0, s1, s2, s3] h := E_nx rfl
set_option maxRecDepth 60000 in
theorem s233_928 (d : Nat) (h : AH) (x0 x1 x2 x3 : Option Value) (s0 : Int32) (s1 : Int32) (s2 : Value) (s3 : Value) (s4 : Value) : E d 233 928 [x0, x1, x2, x3] [.int s0, .int s1, s2, s3, s4] h = E d 233 929 [x0, x1, x2, x3] [.int (s1 + s0), s2, s3, s4] h := E_nx rfl
set_option maxRecDepth 60000 in
theorem s233_929 (d : Nat) (h : AH) (x0 x1 x2 x3 : Option Value) (s0 : Int32) (s1 : Nat) (s2 : Value) (s3 : Value) : E d 233 929 [x0, x1, x2, x3] [.int s0, .ref s1, s2, s3] h = if inb s0 (alen h s1 0) = true ∨ inb s0 (alen h s1 8) = true then E d 233 930 [x0, x1, x2, x3] [.int (hI h s1 s0.toNatClampNeg), s2, s3] h else none := E_gd rfl
set_option maxRecDepth 60000 in
theorem s233_930 (d : Nat) (h : AH) (x1 x2 x3 : Option Value) (s0 : Value) (s1 : Value) (s2 : Value) (v : Nat) : E d 233 930 [some (.ref v), x1, x2, x3] [s0, s1, s2] h = E d 233 931 [some (.ref v), x1, x2, x3] [.ref v, s0, s1, s2] h := E_nx rfl
set_option maxRecDepth 60000 in
theorem s233_931 (d : Nat) (h : AH) (x0 x1 x2 : Option Value) (s0 : Value) (s1 : Value) (s2 : Value) (s3 : Value) (v : Int32) : E d 233 931 [x0, x1, x2, some (.int v)] [s0, s1, s2, s3] h = E d 233 932 [x0, x1, x2, some (.int v)] [.int v, s0, s1, s2, s3] h := E_nx rfl
set_option maxRecDepth 60000 in
theorem s233_932 (d : Nat) (h : AH) (x0 x1 x2 x3 : Option Value) (s0 : Value) (s1 : Value) (s2 : Value) (s3 : Value) (s4 : Value) : E d 233 932 [x0, x1, x2, x3] [s0, s1, s2, s3, s4] h = E d 233 933 [x0, x1, x2, x3] [.int 2, s0, s1, s2, s3, s4] h := E_nx rfl
set_option maxRecDepth 60000 in
theorem s233_933 (d : Nat) (h : AH) (x0 x1 x2 x3 : Option Value) (s0 : Int32) (s1 : Int32) (s2 : Value) (s3 : Value) (s4 : Value) (s5 : Value) : E d 233 933 [x0, x1, x2, x3] [.int s0, .int s1, s2, s3, s4, s5] h = E d 233 934 [x0, x1, x2, x3] [.int (s1 + s0), s2, s3, s4, s5] h := E_nx rfl
set_option maxRecDepth 60000 in
theorem s233_934 (d : Nat) (h : AH) (x0 x1 x2 x3 : Option Value) (s0 : Int32) (s1 : Nat) (s2 : Value) (s3 : Value) (s4 : Value) : E d 233 934 [x0, x1, x2, x3] [.int s0, .ref s1, s2, s3, s4] h = if inb s0 (alen h s1 0) = true ∨ inb s0 (alen h s1 8) = true then E d 233 935 [x0, x1, x2, x3] [.int (hI h s1 s0.toNatClampNeg), s2, s3, s4] h else none := E_gd rfl
set_option maxRecDepth 60000 in
theorem s233_935 (d : Nat) (h : AH) (x1 x2 x3 : Option Value) (s0 : Value) (s1 : Value) (s2 : Value) (s3 : Value) (v : Nat) : E d 233 935 [some (.ref v), x1, x2, x3] [s0, s1, s2, s3] h = E d 233 936 [some (.ref v), x1, x2, x3] [.ref v, s0, s1, s2, s3] h := E_nx rfl
set_option maxRecDepth 60000 in
theorem s233_936 (d : Nat) (h : AH) (x0 x1 x2 : Option Value) (s0 : Value) (s1 : Value) (s2 : Value) (s3 : Value) (s4 : Value) (v : Int32) : E d 233 936 [x0, x1, x2, some (.int v)] [s0, s1, s2, s3, s4] h = E d 233 937 [x0, x1, x2, some (.int v)] [.int v, s0, s1, s2, s3, s4] h := E_nx rfl
set_option maxRecDepth 60000 in
theorem s233_937 (d : Nat) (h : AH) (x0 x1 x2 x3 : Option Value) (s0 : Value) (s1 : Value) (s2 : Value) (s3 : Value) (s4 : Value) (s5 : Value) : E d 233 937 [x0, x1, x2, x3] [s0, s1, s2, s3, s4, s5] h = E d 233 938 [x0, x1, x2, x3] [.int 3, s0, s1, s2, s3, s4, s5] h := E_nx rfl
set_option maxRecDepth 60000 in
theorem s233_938 (d : Nat) (h : AH) (x0 x1 x2 x3 : Option Value) (s0 : Int32) (s1 : Int32) (s2 : Value) (s3 : Value) (s4 : Value) (s5 : Value) (s6 : Value) : E d 233 938 [x0, x1, x2, x3] [.int s0, .int s1, s2, s3, s4, s5, s6] h = E d 233 939 [x0, x1, x2, x3] [.int (s1 + s0), s2, s3, s4, s5, s6] h := E_nx rfl
set_option maxRecDepth 60000 in
theorem s233_939 (d : Nat) (h : AH) (x0 x1 x2 x3 : Option Value) (s0 : Int32) (s1 : Nat) (s2 : Value) (s3 : Value) (s4 : Value) (s5 : Value) : E d 233 939 [x0, x1, x2, x3] [.int s0, .ref s1, s2, s3, s4, s5] h = if inb s0 (alen h s1 0) = true ∨ inb s0 (alen h s1 8) = true then E d 233 940 [x0, x1, x2, x3] [.int (hI h s1 s0.toNatClampNeg), s2, s3, s4, s5] h else none := E_gd rfl
set_option maxRecDepth 60000 in
theorem s233_940 (d : Nat) (h : AH) (x1 x2 x3 : Option Value) (s0 : Value) (s1 : Value) (s2 : Value) (s3 : Value) (s4 : Value) (v : Nat) : E d 233 940 [some (.ref v), x1, x2, x3] [s0, s1, s2, s3, s4] h = E d 233 941 [some (.ref v), x1, x2, x3] [.ref v, s0, s1, s2, s3, s4] h := E_nx rfl
set_option maxRecDepth 60000 in
theorem s233_941 (d : Nat) (h : AH) (x0 x1 x2 : Option Value) (s0 : Value) (s1 : Value) (s2 : Value) (s3 : Value) (s4 : Value) (s5 : Value) (v : Int32) : E d 233 941 [x0, x1, x2, some (.int v)] [s0, s1, s2, s3, s4, s5] h = E d 233 942 [x0, x1, x2, some (.int v)] [.int v, s0, s1, s2, s3, s4, s5] h := E_nx rfl
set_option maxRecDepth 60000 in
theorem s233_942 (d : Nat) (h : AH) (x0 x1 x2 x3 : Option Value) (s0 : Value) (s1 : Value) (s2 : Value) (s3 : Value) (s4 : Value) (s5 : Value) (s6 : Value) : E d 233 942 [x0, x1, x2, x3] [s0, s1, s2, s3, s4, s5, s6] h = E d 233 943 [x0, x1, x2, x3] [.int 4, s0, s1, s2, s3, s4, s5, s6] h := E_nx rfl
set_option maxRecDepth 60000 in
theorem s233_943 (d : Nat) (h : AH) (x0 x1 x2 x3 : Option Value) (s0 : Int32) (s1 : Int32) (s2 : Value) (s3 : Value) (s4 : Value) (s5 : Value) (s6 : Value) (s7 : Value) : E d 233 943 [x0, x1, x2, x3] [.int s0, .int s1, s2, s3, s4, s5, s6, s7] h = E d 233 944 [x0, x1, x2, x3] [.int (s1 + s0), s2, s3, s4, s5, s6, s7] h := E_nx rfl
set_option maxRecDepth 60000 in
theorem s233_944 (d : Nat) (h : AH) (x0 x1 x2 x3 : Option Value) (s0 : Int32) (s1 : Nat) (s2 : Value) (s3 : Value) (s4 : Value) (s5 : Value) (s6 : Value) : E d 233 944 [x0, x1, x2, x3] [.int s0, .ref s1, s2, s3, s4, s5, s6] h = if inb s0 (alen h s1 0) = true ∨ inb s0 (alen h s1 8) = true then E d 233 945 [x0, x1, x2, x3] [.int (hI h s1 s0.toNatClampNeg), s2, s3, s4, s5, s6] h else none := E_gd rfl
set_option maxRecDepth 60000 in
theorem s233_945 (d : Nat) (h : AH) (x0 x1 x2 x3 : Option Value) (s0 : Int32) (s1 : Int32) (s2 : Int32) (s3 : Int32) (s4 : Nat) (s5 : Value) : E (d + 1) 233 945 [x0, x1, x2, x3] [.int s0, .int s1, .int s2, .int s3, .ref s4, s5] h = if hS h s4 = some (105, 0) then (E d 218 0 [some (.ref s4), some (.int s3), some (.int s2), some (.int s1), some (.int s0), none, none, none, none, none, none, none, none] [] h).bind fun r => E (d + 1) 233 946 [x0, x1, x2, x3] (r.1.toList ++ [s5]) r.2 else none := E_callg rfl
set_option maxRecDepth 60000 in
theorem s233_946 (d : Nat) (h : AH) (x0 x1 x2 x3 : Option Value) (s0 : Int32) (s1 : Int32) : E d 233 946 [x0, x1, x2, x3] [.int s0, .int s1] h = if s1 = s0 then E d 233 1068 [x0, x1, x2, x3] [] h else E d 233 947 [x0, x1, x2, x3] [] h := E_ifc rfl
set_option maxRecDepth 60000 in
theorem s233_947 (d : Nat) (h : AH) (x0 x1 x2 x3 : Option Value)  : E d 233 947 [x0, x1, x2, x3] [] h = E d 233 948 [x0, x1, x2, x3] [.int 0] h := E_nx rfl
set_option maxRecDepth 60000 in
theorem s233_948 (d : Nat) (h : AH) (x0 x1 x2 x3 : Option Value) (s0 : Int32) : E d 233 948 [x0, x1, x2, x3] [.int s0] h = if s0 = 0 ∨ s0 = 1 then some (some (.int s0), h) else none := E_retg rfl
set_option maxRecDepth 60000 in
theorem s233_949 (d : Nat) (h : AH) (x0 x2 x3 : Option Value) (v : Nat) : E d 233 949 [x0, some (.ref v), x2, x3] [] h = E d 233 950 [x0, some (.ref v), x2, x3] [.ref v] h := E_nx rfl
set_option maxRecDepth 60000 in
theorem s233_950 (d : Nat) (h : AH) (x1 x2 x3 : Option Value) (s0 : Value) (v : Nat) : E d 233 950 [some (.ref v), x1, x2, x3] [s0] h = E d 233 951 [some (.ref v), x1, x2, x3] [.ref v, s0] h := E_nx rfl
set_option maxRecDepth 60000 in
theorem s233_951 (d : Nat) (h : AH) (x0 x1 x2 : Option Value) (s0 : Value) (s1 : Value) (v : Int32) : E d 233 951 [x0, x1, x2, some (.int v)] [s0, s1] h = E d 233 952 [x0, x1, x2, some (.int v)] [.int v, s0, s1] h := E_nx rfl
set_option maxRecDepth 60000 in
theorem s233_952 (d : Nat) (h : AH) (x0 x1 x2 x3 : Option Value) (s0 : Value) (s1 : Value) (s2 : Value) : E d 233 952 [x0, x1, x2, x3] [s0, s1, s2] h = E d 233 953 [x0, x1, x2, x3] [.int 1, s0, s1, s2] h := E_nx rfl
set_option maxRecDepth 60000 in
theorem s233_953 (d : Nat) (h : AH) (x0 x1 x2 x3 : Option Value) (s0 : Int32) (s1 : Int32) (s2 : Value) (s3 : Value) : E d 233 953 [x0, x1, x2, x3] [.int s0, .int s1, s2, s3] h = E d 233 954 [x0, x1, x2, x3] [.int (s1 + s0), s2, s3] h := E_nx rfl
set_option maxRecDepth 60000 in
theorem s233_954 (d : Nat) (h : AH) (x0 x1 x2 x3 : Option Value) (s0 : Int32) (s1 : Nat) (s2 : Value) : E d 233 954 [x0, x1, x2, x3] [.int s0, .ref s1, s2] h = if inb s0 (alen h s1 0) = true ∨ inb s0 (alen h s1 8) = true then E d 233 955 [x0, x1, x2, x3] [.int (hI h s1 s0.toNatClampNeg), s2] h else none := E_gd rfl
set_option maxRecDepth 60000 in
theorem s233_955 (d : Nat) (h : AH) (x1 x2 x3 : Option Value) (s0 : Value) (s1 : Value) (v : Nat) : E d 233 955 [some (.ref v), x1, x2, x3] [s0, s1] h = E d 233 956 [some (.ref v), x1, x2, x3] [.ref v, s0, s1] h := E_nx rfl
set_option maxRecDepth 60000 in
theorem s233_956 (d : Nat) (h : AH) (x0 x1 x2 : Option Value) (s0 : Value) (s1 : Value) (s2 : Value) (v : Int32) : E d 233 956 [x0, x1, x2, some (.int v)] [s0, s1, s2] h = E d 233 957 [x0, x1, x2, some (.int v)] [.int v, s0, s1, s2] h := E_nx rfl
set_option maxRecDepth 60000 in
theorem s233_957 (d : Nat) (h : AH) (x0 x1 x2 x3 : Option Value) (s0 : Value) (s1 : Value) (s2 : Value) (s3 : Value) : E d 233 957 [x0, x1, x2, x3] [s0, s1, s2, s3] h = E d 233 958 [x0, x1, x2, x3] [.int 2, s0, s1, s2, s3] h := E_nx rfl
set_option maxRecDepth 60000 in
theorem s233_958 (d : Nat) (h : AH) (x0 x1 x2 x3 : Option Value) (s0 : Int32) (s1 : Int32) (s2 : Value) (s3 : Value) (s4 : Value) : E d 233 958 [x0, x1, x2, x3] [.int s0, .int s1, s2, s3, s4] h = E d 233 959 [x0, x1, x2, x3] [.int (s1 + s0), s2, s3, s4] h := E_nx rfl
set_option maxRecDepth 60000 in
theorem s233_959 (d : Nat) (h : AH) (x0 x1 x2 x3 : Option Value) (s0 : Int32) (s1 : Nat) (s2 : Value) (s3 : Value) : E d 233 959 [x0, x1, x2, x3] [.int s0, .ref s1, s2, s3] h = if inb s0 (alen h s1 0) = true ∨ inb s0 (alen h s1 8) = true then E d 233 960 [x0, x1, x2, x3] [.int (hI h s1 s0.toNatClampNeg), s2, s3] h else none := E_gd rfl
set_option maxRecDepth 60000 in
theorem s233_960 (d : Nat) (h : AH) (x1 x2 x3 : Option Value) (s0 : Value) (s1 : Value) (s2 : Value) (v : Nat) : E d 233 960 [some (.ref v), x1, x2, x3] [s0, s1, s2] h = E d 233 961 [some (.ref v), x1, x2, x3] [.ref v, s0, s1, s2] h := E_nx rfl
set_option maxRecDepth 60000 in
theorem s233_961 (d : Nat) (h : AH) (x0 x1 x2 : Option Value) (s0 : Value) (s1 : Value) (s2 : Value) (s3 : Value) (v : Int32) : E d 233 961 [x0, x1, x2, some (.int v)] [s0, s1, s2, s3] h = E d 233 962 [x0, x1, x2, some (.int v)] [.int v, s0, s1, s2, s3] h := E_nx rfl
set_option maxRecDepth 60000 in
theorem s233_962 (d : Nat) (h : AH) (x0 x1 x2 x3 : Option Value) (s0 : Value) (s1 : Value) (s2 : Value) (s3 : Value) (s4 : Value) : E d 233 962 [x0, x1, x2, x3] [s0, s1, s2, s3, s4] h = E d 233 963 [x0, x1, x2, x3] [.int 3, s0, s1, s2, s3, s4] h := E_nx rfl
set_option maxRecDepth 60000 in
theorem s233_963 (d : Nat) (h : AH) (x0 x1 x2 x3 : Option Value) (s0 : Int32) (s1 : Int32) (s2 : Value) (s3 : Value) (s4 : Value) (s5 : Value) : E d 233 963 [x0, x1, x2, x3] [.int s0, .int s1, s2, s3, s4, s5] h = E d 233 964 [x0, x1, x2, x3] [.int (s1 + s0), s2, s3, s4, s5] h := E_nx rfl
set_option maxRecDepth 60000 in
theorem s233_964 (d : Nat) (h : AH) (x0 x1 x2 x3 : Option Value) (s0 : Int32) (s1 : Nat) (s2 : Value) (s3 : Value) (s4 : Value) : E d 233 964 [x0, x1, x2, x3] [.int s0, .ref s1, s2, s3, s4] h = if inb s0 (alen h s1 0) = true ∨ inb s0 (alen h s1 8) = true then E d 233 965 [x0, x1, x2, x3] [.int (hI h s1 s0.toNatClampNeg), s2, s3, s4] h else none := E_gd rfl
set_option maxRecDepth 60000 in
theorem s233_965 (d : Nat) (h : AH) (x1 x2 x3 : Option Value) (s0 : Value) (s1 : Value) (s2 : Value) (s3 : Value) (v : Nat) : E d 233 965 [some (.ref v), x1, x2, x3] [s0, s1, s2, s3] h = E d 233 966 [some (.ref v), x1, x2, x3] [.ref v, s0, s1, s2, s3] h := E_nx rfl
set_option maxRecDepth 60000 in
theorem s233_966 (d : Nat) (h : AH) (x0 x1 x2 : Option Value) (s0 : Value) (s1 : Value) (s2 : Value) (s3 : Value) (s4 : Value) (v : Int32) : E d 233 966 [x0, x1, x2, some (.int v)] [s0, s1, s2, s3, s4] h = E d 233 967 [x0, x1, x2, some (.int v)] [.int v, s0, s1, s2, s3, s4] h := E_nx rfl
set_option maxRecDepth 60000 in
theorem s233_967 (d : Nat) (h : AH) (x0 x1 x2 x3 : Option Value) (s0 : Value) (s1 : Value) (s2 : Value) (s3 : Value) (s4 : Value) (s5 : Value) : E d 233 967 [x0, x1, x2, x3] [s0, s1, s2, s3, s4, s5] h = E d 233 968 [x0, x1, x2, x3] [.int 4, s0, s1, s2, s3, s4, s5] h := E_nx rfl
set_option maxRecDepth 60000 in
theorem s233_968 (d : Nat) (h : AH) (x0 x1 x2 x3 : Option Value) (s0 : Int32) (s1 : Int32) (s2 : Value) (s3 : Value) (s4 : Value) (s5 : Value) (s6 : Value) : E d 233 968 [x0, x1, x2, x3] [.int s0, .int s1, s2, s3, s4, s5, s6] h = E d 233 969 [x0, x1, x2, x3] [.int (s1 + s0), s2, s3, s4, s5, s6] h := E_nx rfl
set_option maxRecDepth 60000 in
theorem s233_969 (d : Nat) (h : AH) (x0 x1 x2 x3 : Option Value) (s0 : Int32) (s1 : Nat) (s2 : Value) (s3 : Value) (s4 : Value) (s5 : Value) : E d 233 969 [x0, x1, x2, x3] [.int s0, .ref s1, s2, s3, s4, s5] h = if inb s0 (alen h s1 0) = true ∨ inb s0 (alen h s1 8) = true then E d 233 970 [x0, x1, x2, x3] [.int (hI h s1 s0.toNatClampNeg), s2, s3, s4, s5] h else none := E_gd rfl
set_option maxRecDepth 60000 in
theorem s233_970 (d : Nat) (h : AH) (x0 x1 x2 x3 : Option Value) (s0 : Int32) (s1 : Int32) (s2 : Int32) (s3 : Int32) (s4 : Nat) : E (d + 1) 233 970 [x0, x1, x2, x3] [.int s0, .int s1, .int s2, .int s3, .ref s4] h = if hS h s4 = some (104, 0) then (E d 121 0 [some (.ref s4), some (.int s3), some (.int s2), some (.int s1), some (.int s0), none, none, none] [] h).bind fun r => E (d + 1) 233 971 [x0, x1, x2, x3] (r.1.toList ++ []) r.2 else none := E_callg rfl
set_option maxRecDepth 60000 in
theorem s233_971 (d : Nat) (h : AH) (x0 x1 x3 : Option Value) (s0 : Value) (v : Nat) : E d 233 971 [x0, x1, some (.ref v), x3] [s0] h = E d 233 972 [x0, x1, some (.ref v), x3] [.ref v, s0] h := E_nx rfl
set_option maxRecDepth 60000 in
theorem s233_972 (d : Nat) (h : AH) (x1 x2 x3 : Option Value) (s0 : Value) (s1 : Value) (v : Nat) : E d 233 972 [some (.ref v), x1, x2, x3] [s0, s1] h = E d 233 973 [some (.ref v), x1, x2, x3] [.ref v, s0, s1] h := E_nx rfl
set_option maxRecDepth 60000 in
theorem s233_973 (d : Nat) (h : AH) (x0 x1 x2 : Option Value) (s0 : Value) (s1 : Value) (s2 : Value) (v : Int32) : E d 233 973 [x0, x1, x2, some (.int v)] [s0, s1, s2] h = E d 233 974 [x0, x1, x2, some (.int v)] [.int v, s0, s1, s2] h := E_nx rfl
set_option maxRecDepth 60000 in
theorem s233_974 (d : Nat) (h : AH) (x0 x1 x2 x3 : Option Value) (s0 : Value) (s1 : Value) (s2 : Value) (s3 : Value) : E d 233 974 [x0, x1, x2, x3] [s0, s1, s2, s3] h = E d 233 975 [x0, x1, x2, x3] [.int 1, s0, s1, s2, s3] h := E_nx rfl
set_option maxRecDepth 60000 in
theorem s233_975 (d : Nat) (h : AH) (x0 x1 x2 x3 : Option Value) (s0 : Int32) (s1 : Int32) (s2 : Value) (s3 : Value) (s4 : Value) : E d 233 975 [x0, x1, x2, x3] [.int s0, .int s1, s2, s3, s4] h = E d 233 976 [x0, x1, x2, x3] [.int (s1 + s0), s2, s3, s4] h := E_nx rfl
set_option maxRecDepth 60000 in
theorem s233_976 (d : Nat) (h : AH) (x0 x1 x2 x3 : Option Value) (s0 : Int32) (s1 : Nat) (s2 : Value) (s3 : Value) : E d 233 976 [x0, x1, x2, x3] [.int s0, .ref s1, s2, s3] h = if inb s0 (alen h s1 0) = true ∨ inb s0 (alen h s1 8) = true then E d 233 977 [x0, x1, x2, x3] [.int (hI h s1 s0.toNatClampNeg), s2, s3] h else none := E_gd rfl
set_option maxRecDepth 60000 in
theorem s233_977 (d : Nat) (h : AH) (x1 x2 x3 : Option Value) (s0 : Value) (s1 : Value) (s2 : Value) (v : Nat) : E d 233 977 [some (.ref v), x1, x2, x3] [s0, s1, s2] h = E d 233 978 [some (.ref v), x1, x2, x3] [.ref v, s0, s1, s2] h := E_nx rfl
set_option maxRecDepth 60000 in
theorem s233_978 (d : Nat) (h : AH) (x0 x1 x2 : Option Value) (s0 : Value) (s1 : Value) (s2 : Value) (s3 : Value) (v : Int32) : E d 233 978 [x0, x1, x2, some (.int v)] [s0, s1, s2, s3] h = E d 233 979 [x0, x1, x2, some (.int v)] [.int v, s0, s1, s2, s3] h := E_nx rfl
set_option maxRecDepth 60000 in
theorem s233_979 (d : Nat) (h : AH) (x0 x1 x2 x3 : Option Value) (s0 : Value) (s1 : Value) (s2 : Value) (s3 : Value) (s4 : Value) : E d 233 979 [x0, x1, x2, x3] [s0, s1, s2, s3, s4] h = E d 233 980 [x0, x1, x2, x3] [.int 2, s0, s1, s2, s3, s4] h := E_nx rfl
set_option maxRecDepth 60000 in
theorem s233_980 (d : Nat) (h : AH) (x0 x1 x2 x3 : Option Value) (s0 : Int32) (s1 : Int32) (s2 : Value) (s3 : Value) (s4 : Value) (s5 : Value) : E d 233 980 [x0, x1, x2, x3] [.int s0, .int s1, s2, s3, s4, s5] h = E d 233 981 [x0, x1, x2, x3] [.int (s1 + s0), s2, s3, s4, s5] h := E_nx rfl
set_option maxRecDepth 60000 in
theorem s233_981 (d : Nat) (h : AH) (x0 x1 x2 x3 : Option Value) (s0 : Int32) (s1 : Nat) (s2 : Value) (s3 : Value) (s4 : Value) : E d 233 981 [x0, x1, x2, x3] [.int s0, .ref s1, s2, s3, s4] h = if inb s0 (alen h s1 0) = true ∨ inb s0 (alen h s1 8) = true then E d 233 982 [x0, x1, x2, x3] [.int (hI h s1 s0.toNatClampNeg), s2, s3, s4] h else none := E_gd rfl
set_option maxRecDepth 60000 in
theorem s233_982 (d : Nat) (h : AH) (x1 x2 x3 : Option Value) (s0 : Value) (s1 : Value) (s2 : Value) (s3 : Value) (v : Nat) : E d 233 982 [some (.ref v), x1, x2, x3] [s0, s1, s2, s3] h = E d 233 983 [some (.ref v), x1, x2, x3] [.ref v, s0, s1, s2, s3] h := E_nx rfl
set_option maxRecDepth 60000 in
theorem s233_983 (d : Nat) (h : AH) (x0 x1 x2 : Option Value) (s0 : Value) (s1 : Value) (s2 : Value) (s3 : Value) (s4 : Value) (v : Int32) : E d 233 983 [x0, x1, x2, some (.int v)] [s0, s1, s2, s3, s4] h = E d 233 984 [x0, x1, x2, some (.int v)] [.int v, s0, s1, s2, s3, s4] h := E_nx rfl
set_option maxRecDepth 60000 in
theorem s233_984 (d : Nat) (h : AH) (x0 x1 x2 x3 : Option Value) (s0 : Value) (s1 : Value) (s2 : Value) (s3 : Value) (s4 : Value) (s5 : Value) : E d 233 984 [x0, x1, x2, x3] [s0, s1, s2, s3, s4, s5] h = E d 233 985 [x0, x1, x2, x3] [.int 3, s0, s1, s2, s3, s4, s5] h := E_nx rfl
set_option maxRecDepth 60000 in
theorem s233_985 (d : Nat) (h : AH) (x0 x1 x2 x3 : Option Value) (s0 : Int32) (s1 : Int32) (s2 : Value) (s3 : Value) (s4 : Value) (s5 : Value) (s6 : Value) : E d 233 985 [x0, x1, x2, x3] [.int s0, .int s1, s2, s3, s4, s5, s6] h = E d 233 986 [x0, x1, x2, x3] [.int (s1 + s0), s2, s3, s4, s5, s6] h := E_nx rfl
set_option maxRecDepth 60000 in
theorem s233_986 (d : Nat) (h : AH) (x0 x1 x2 x3 : Option Value) (s0 : Int32) (s1 : Nat) (s2 : Value) (s3 : Value) (s4 : Value) (s5 : Value) : E d 233 986 [x0, x1, x2, x3] [.int s0, .ref s1, s2, s3, s4, s5] h = if inb s0 (alen h s1 0) = true ∨ inb s0 (alen h s1 8) = true then E d 233 987 [x0, x1, x2, x3] [.int (hI h s1 s0.toNatClampNeg), s2, s3, s4, s5] h else none := E_gd rfl
set_option maxRecDepth 60000 in
theorem s233_987 (d : Nat) (h : AH) (x1 x2 x3 : Option Value) (s0 : Value) (s1 : Value) (s2 : Value) (s3 : Value) (s4 : Value) (v : Nat) : E d 233 987 [some (.ref v), x1, x2, x3] [s0, s1, s2, s3, s4] h = E d 233 988 [some (.ref v), x1, x2, x3] [.ref v, s0, s1, s2, s3, s4] h := E_nx rfl
set_option maxRecDepth 60000 in
theorem s233_988 (d : Nat) (h : AH) (x0 x1 x2 : Option Value) (s0 : Value) (s1 : Value) (s2 : Value) (s3 : Value) (s4 : Value) (s5 : Value) (v : Int32) : E d 233 988 [x0, x1, x2, some (.int v)] [s0, s1, s2, s3, s4, s5] h = E d 233 989 [x0, x1, x2, some (.int v)] [.int v, s0, s1, s2, s3, s4, s5] h := E_nx rfl
set_option maxRecDepth 60000 in
theorem s233_989 (d : Nat) (h : AH) (x0 x1 x2 x3 : Option Value) (s0 : Value) (s1 : Value) (s2 : Value) (s3 : Value) (s4 : Value) (s5 : Value) (s6 : Value) : E d 233 989 [x0, x1, x2, x3] [s0, s1, s2, s3, s4, s5, s6] h = E d 233 990 [x0, x1, x2, x3] [.int 4, s0, s1, s2, s3, s4, s5, s6] h := E_nx rfl
set_option maxRecDepth 60000 in
theorem s233_990 (d : Nat) (h : AH) (x0 x1 x2 x3 : Option Value) (s0 : Int32) (s1 : Int32) (s2 : Value) (s3 : Value) (s4 : Value) (s5 : Value) (s6 : Value) (s7 : Value) : E d 233 990 [x0, x1, x2, x3] [.int s0, .int s1, s2, s3, s4, s5, s6, s7] h = E d 233 991 [x0, x1, x2, x3] [.int (s1 + s0), s2, s3, s4, s5, s6, s7] h := E_nx rfl
set_option maxRecDepth 60000 in
theorem s233_991 (d : Nat) (h : AH) (x0 x1 x2 x3 : Option Value) (s0 : Int32) (s1 : Nat) (s2 : Value) (s3 : Value) (s4 : Value) (s5 : Value) (s6 : Value) : E d 233 991 [x0, x1, x2, x3] [.int s0, .ref s1, s2, s3, s4, s5, s6] h = if inb s0 (alen h s1 0) = true ∨ inb s0 (alen h s1 8) = true then E d 233 992 [x0, x1, x2, x3] [.int (hI h s1 s0.toNatClampNeg), s2, s3, s4, s5, s6] h else none := E_gd rfl
set_option maxRecDepth 60000 in
theorem s233_992 (d : Nat) (h : AH) (x0 x1 x2 x3 : Option Value) (s0 : Int32) (s1 : Int32) (s2 : Int32) (s3 : Int32) (s4 : Nat) (s5 : Value) : E (d + 1) 233 992 [x0, x1, x2, x3] [.int s0, .int s1, .int s2, .int s3, .ref s4, s5] h = if hS h s4 = some (105, 0) then (E d 220 0 [some (.ref s4), some (.int s3), some (.int s2), some (.int s1), some (.int s0), none, none, none] [] h).bind fun r => E (d + 1) 233 993 [x0, x1, x2, x3] (r.1.toList ++ [s5]) r.2 else none := E_callg rfl
set_option maxRecDepth 60000 in
theorem s233_993 (d : Nat) (h : AH) (x0 x1 x2 x3 : Option Value) (s0 : Int32) (s1 : Int32) : E d 233 993 [x0, x1, x2, x3] [.int s0, .int s1] h = if s1 = s0 then E d 233 1068 [x0, x1, x2, x3] [] h else E d 233 994 [x0, x1, x2, x3] [] h := E_ifc rfl
set_option maxRecDepth 60000 in
theorem s233_994 (d : Nat) (h : AH) (x0 x1 x2 x3 : Option Value)  : E d 233 994 [x0, x1, x2, x3] [] h = E d 233 995 [x0, x1, x2, x3] [.int 0] h := E_nx rfl
set_option maxRecDepth 60000 in
theorem s233_995 (d : Nat) (h : AH) (x0 x1 x2 x3 : Option Value) (s0 : Int32) : E d 233 995 [x0, x1, x2, x3] [.int s0] h = if s0 = 0 ∨ s0 = 1 then some (some (.int s0), h) else none := E_retg rfl
set_option maxRecDepth 60000 in
theorem s233_996 (d : Nat) (h : AH) (x0 x2 x3 : Option Value) (v : Nat) : E d 233 996 [x0, some (.ref v), x2, x3] [] h = E d 233 997 [x0, some (.ref v), x2, x3] [.ref v] h := E_nx rfl
set_option maxRecDepth 60000 in
theorem s233_997 (d : Nat) (h : AH) (x1 x2 x3 : Option Value) (s0 : Value) (v : Nat) : E d 233 997 [some (.ref v), x1, x2, x3] [s0] h = E d 233 998 [some (.ref v), x1, x2, x3] [.ref v, s0] h := E_nx rfl
set_option maxRecDepth 60000 in
theorem s233_998 (d : Nat) (h : AH) (x0 x1 x2 : Option Value) (s0 : Value) (s1 : Value) (v : Int32) : E d 233 998 [x0, x1, x2, some (.int v)] [s0, s1] h = E d 233 999 [x0, x1, x2, some (.int v)] [.int v, s0, s1] h := E_nx rfl
set_option maxRecDepth 60000 in
theorem s233_999 (d : Nat) (h : AH) (x0 x1 x2 x3 : Option Value) (s0 : Value) (s1 : Value) (s2 : Value) : E d 233 999 [x0, x1, x2, x3] [s0, s1, s2] h = E d 233 1000 [x0, x1, x2, x3] [.int 1, s0, s1, s2] h := E_nx rfl
set_option maxRecDepth 60000 in
theorem s233_1000 (d : Nat) (h : AH) (x0 x1 x2 x3 : Option Value) (s0 : Int32) (s1 : Int32) (s2 : Value) (s3 : Value) : E d 233 1000 [x0, x1, x2, x3] [.int s0, .int s1, s2, s3] h = E d 233 1001 [x0, x1, x2, x3] [.int (s1 + s0), s2, s3] h := E_nx rfl
set_option maxRecDepth 60000 in
theorem s233_1001 (d : Nat) (h : AH) (x0 x1 x2 x3 : Option Value) (s0 : Int32) (s1 : Nat) (s2 : Value) : E d 233 1001 [x0, x1, x2, x3] [.int s0, .ref s1, s2] h = if inb s0 (alen h s1 0) = true ∨ inb s0 (alen h s1 8) = true then E d 233 1002 [x0, x1, x2, x3] [.int (hI h s1 s0.toNatClampNeg), s2] h else none := E_gd rfl
set_option maxRecDepth 60000 in
theorem s233_1002 (d : Nat) (h : AH) (x0 x1 x2 x3 : Option Value) (s0 : Int32) (s1 : Nat) : E (d + 1) 233 1002 [x0, x1, x2, x3] [.int s0, .ref s1] h = if hS h s1 = some (104, 0) then (E d 124 0 [some (.ref s1), some (.int s0), none, none, none] [] h).bind fun r => E (d + 1) 233 1003 [x0, x1, x2, x3] (r.1.toList ++ []) r.2 else none := E_callg rfl
set_option maxRecDepth 60000 in
theorem s233_1003 (d : Nat) (h : AH) (x0 x1 x3 : Option Value) (s0 : Value) (v : Nat) : E d 233 1003 [x0, x1, some (.ref v), x3] [s0] h = E d 233 1004 [x0, x1, some (.ref v), x3] [.ref v, s0] h := E_nx rfl
set_option maxRecDepth 60000 in
theorem s233_1004 (d : Nat) (h : AH) (x1 x2 x3 : Option Value) (s0 : Value) (s1 : Value) (v : Nat) : E d 233 1004 [some (.ref v), x1, x2, x3] [s0, s1] h = E d 233 1005 [some (.ref v), x1, x2, x3] [.ref v, s0, s1] h := E_nx rfl
set_option maxRecDepth 60000 in
theorem s233_1005 (d : Nat) (h : AH) (x0 x1 x2 : Option Value) (s0 : Value) (s1 : Value) (s2 : Value) (v : Int32) : E d 233 1005 [x0, x1, x2, some (.int v)] [s0, s1, s2] h = E d 233 1006 [x0, x1, x2, some (.int v)] [.int v, s0, s1, s2] h := E_nx rfl
set_option maxRecDepth 60000 in
theorem s233_1006 (d : Nat) (h : AH) (x0 x1 x2 x3 : Option Value) (s0 : Value) (s1 : Value) (s2 : Value) (s3 : Value) : E d 233 1006 [x0, x1, x2, x3] [s0, s1, s2, s3] h = E d 233 1007 [x0, x1, x2, x3] [.int 1, s0, s1, s2, s3] h := E_nx rfl
set_option maxRecDepth 60000 in
theorem s233_1007 (d : Nat) (h : AH) (x0 x1 x2 x3 : Option Value) (s0 : Int32) (s1 : Int32) (s2 : Value) (s3 : Value) (s4 : Value) : E d 233 1007 [x0, x1, x2, x3] [.int s0, .int s1, s2, s3, s4] h = E d 233 1008 [x0, x1, x2, x3] [.int (s1 + s0), s2, s3, s4] h := E_nx rfl
set_option maxRecDepth 60000 in
theorem s233_1008 (d : Nat) (h : AH) (x0 x1 x2 x3 : Option Value) (s0 : Int32) (s1 : Nat) (s2 : Value) (s3 : Value) : E d 233 1008 [x0, x1, x2, x3] [.int s0, .ref s1, s2, s3] h = if inb s0 (alen h s1 0) = true ∨ inb s0 (alen h s1 8) = true then E d 233 1009 [x0, x1, x2, x3] [.int (hI h s1 s0.toNatClampNeg), s2, s3] h else none := E_gd rfl
set_option maxRecDepth 60000 in
theorem s233_1009 (d : Nat) (h : AH) (x0 x1 x2 x3 : Option Value) (s0 : Int32) (s1 : Nat) (s2 : Value) : E (d + 1) 233 1009 [x0, x1, x2, x3] [.int s0, .ref s1, s2] h = if hS h s1 = some (105, 0) then (E d 222 0 [some (.ref s1), some (.int s0), none, none, none, none, none] [] h).bind fun r => E (d + 1) 233 1010 [x0, x1, x2, x3] (r.1.toList ++ [s2]) r.2 else none := E_callg rfl
set_option maxRecDepth 60000 in
theorem s233_1010 (d : Nat) (h : AH) (x0 x1 x2 x3 : Option Value) (s0 : Int32) (s1 : Int32) : E d 233 1010 [x0, x1, x2, x3] [.int s0, .int s1] h = if s1 = s0 then E d 233 1068 [x0, x1, x2, x3] [] h else E d 233 1011 [x0, x1, x2, x3] [] h := E_ifc rfl
set_option maxRecDepth 60000 in
theorem s233_1011 (d : Nat) (h : AH) (x0 x1 x2 x3 : Option Value)  : E d 233 1011 [x0, x1, x2, x3] [] h = E d 233 1012 [x0, x1, x2, x3] [.int 0] h := E_nx rfl
set_option maxRecDepth 60000 in
theorem s233_1012 (d : Nat) (h : AH) (x0 x1 x2 x3 : Option Value) (s0 : Int32) : E d 233 1012 [x0, x1, x2, x3] [.int s0] h = if s0 = 0 ∨ s0 = 1 then some (some (.int s0), h) else none := E_retg rfl
set_option maxRecDepth 60000 in
theorem s233_1013 (d : Nat) (h : AH) (x0 x2 x3 : Option Value) (v : Nat) : E d 233 1013 [x0, some (.ref v), x2, x3] [] h = E d 233 1014 [x0, some (.ref v), x2, x3] [.ref v] h := E_nx rfl
set_option maxRecDepth 60000 in
theorem s233_1014 (d : Nat) (h : AH) (x0 x1 x2 x3 : Option Value) (s0 : Nat) : E (d + 1) 233 1014 [x0, x1, x2, x3] [.ref s0] h = if hS h s0 = some (104, 0) then (E d 125 0 [some (.ref s0), none, none] [] h).bind fun r => E (d + 1) 233 1015 [x0, x1, x2, x3] (r.1.toList ++ []) r.2 else none := E_callg rfl
set_option maxRecDepth 60000 in
theorem s233_1015 (d : Nat) (h : AH) (x0 x1 x3 : Option Value) (s0 : Value) (v : Nat) : E d 233 1015 [x0, x1, some (.ref v), x3] [s0] h = E d 233 1016 [x0, x1, some (.ref v), x3] [.ref v, s0] h := E_nx rfl
set_option maxRecDepth 60000 in
theorem s233_1016 (d : Nat) (h : AH) (x0 x1 x2 x3 : Option Value) (s0 : Nat) (s1 : Value) : E (d + 1) 233 1016 [x0, x1, x2, x3] [.ref s0, s1] h = if hS h s0 = some (105, 0) then (E d 223 0 [some (.ref s0), none, none] [] h).bind fun r => E (d + 1) 233 1017 [x0, x1, x2, x3] (r.1.toList ++ [s1]) r.2 else none := E_callg rfl
set_option maxRecDepth 60000 in
theorem s233_1017 (d : Nat) (h : AH) (x0 x1 x2 x3 : Option Value) (s0 : Int32) (s1 : Int32) : E d 233 1017 [x0, x1, x2, x3] [.int s0, .int s1] h = if s1 = s0 then E d 233 1068 [x0, x1, x2, x3] [] h else E d 233 1018 [x0, x1, x2, x3] [] h := E_ifc rfl
set_option maxRecDepth 60000 in
theorem s233_1018 (d : Nat) (h : AH) (x0 x1 x2 x3 : Option Value)  : E d 233 1018 [x0, x1, x2, x3] [] h = E d 233 1019 [x0, x1, x2, x3] [.int 0] h := E_nx rfl
set_option maxRecDepth 60000 in
theorem s233_1019 (d : Nat) (h : AH) (x0 x1 x2 x3 : Option Value) (s0 : Int32) : E d 233 1019 [x0, x1, x2, x3] [.int s0] h = if s0 = 0 ∨ s0 = 1 then some (some (.int s0), h) else none := E_retg rfl
set_option maxRecDepth 60000 in
theorem s233_1020 (d : Nat) (h : AH) (x0 x2 x3 : Option Value) (v : Nat) : E d 233 1020 [x0, some (.ref v), x2, x3] [] h = E d 233 1021 [x0, some (.ref v), x2, x3] [.ref v] h := E_nx rfl
set_option maxRecDepth 60000 in
theorem s233_1021 (d : Nat) (h : AH) (x1 x2 x3 : Option Value) (s0 : Value) (v : Nat) : E d 233 1021 [some (.ref v), x1, x2, x3] [s0] h = E d 233 1022 [some (.ref v), x1, x2, x3] [.ref v, s0] h := E_nx rfl
set_option maxRecDepth 60000 in
theorem s233_1022 (d : Nat) (h : AH) (x0 x1 x2 : Option Value) (s0 : Value) (s1 : Value) (v : Int32) : E d 233 1022 [x0, x1, x2, some (.int v)] [s0, s1] h = E d 233 1023 [x0, x1, x2, some (.int v)] [.int v, s0, s1] h := E_nx rfl
set_option maxRecDepth 60000 in
theorem s233_1023 (d : Nat) (h : AH) (x0 x1 x2 x3 : Option Value) (s0 : Value) (s1 : Value) (s2 : Value) : E d 233 1023 [x0, x1, x2, x3] [s0, s1, s2] h = E d 233 1024 [x0, x1, x2, x3] [.int 1, s0, s1, s2] h := E_nx rfl
set_option maxRecDepth 60000 in
theorem s233_1024 (d : Nat) (h : AH) (x0 x1 x2 x3 : Option Value) (s0 : Int32) (s1 : Int32) (s2 : Value) (s3 : Value) : E d 233 1024 [x0, x1, x2, x3] [.int s0, .int s1, s2, s3] h = E d 233 1025 [x0, x1, x2, x3] [.int (s1 + s0), s2, s3] h := E_nx rfl
set_option maxRecDepth 60000 in
theorem s233_1025 (d : Nat) (h : AH) (x0 x1 x2 x3 : Option Value) (s0 : Int32) (s1 : Nat) (s2 : Value) : E d 233 1025 [x0, x1, x2, x3] [.int s0, .ref s1, s2] h = if inb s0 (alen h s1 0) = true ∨ inb s0 (alen h s1 8) = true then E d 233 1026 [x0, x1, x2, x3] [.int (hI h s1 s0.toNatClampNeg), s2] h else none := E_gd rfl
set_option maxRecDepth 60000 in
theorem s233_1026 (d : Nat) (h : AH) (x0 x1 x2 x3 : Option Value) (s0 : Int32) (s1 : Nat) : E (d + 1) 233 1026 [x0, x1, x2, x3] [.int s0, .ref s1] h = if hS h s1 = some (104, 0) then (E d 126 0 [some (.ref s1), some (.int s0), none] [] h).bind fun r => E (d + 1) 233 1027 [x0, x1, x2, x3] (r.1.toList ++ []) r.2 else none := E_callg rfl
set_option maxRecDepth 60000 in
theorem s233_1027 (d : Nat) (h : AH) (x0 x1 x3 : Option Value) (s0 : Value) (v : Nat) : E d 233 1027 [x0, x1, some (.ref v), x3] [s0] h = E d 233 1028 [x0, x1, some (.ref v), x3] [.ref v, s0] h := E_nx rfl
set_option maxRecDepth 60000 in
theorem s233_1028 (d : Nat) (h : AH) (x1 x2 x3 : Option Value) (s0 : Value) (s1 : Value) (v : Nat) : E d 233 1028 [some (.ref v), x1, x2, x3] [s0, s1] h = E d 233 1029 [some (.ref v), x1, x2, x3] [.ref v, s0, s1] h := E_nx rfl
set_option maxRecDepth 60000 in
theorem s233_1029 (d : Nat) (h : AH) (x0 x1 x2 : Option Value) (s0 : Value) (s1 : Value) (s2 : Value) (v : Int32) : E d 233 1029 [x0, x1, x2, some (.int v)] [s0, s1, s2] h = E d 233 1030 [x0, x1, x2, some (.int v)] [.int v, s0, s1, s2] h := E_nx rfl
set_option maxRecDepth 60000 in
theorem s233_1030 (d : Nat) (h : AH) (x0 x1 x2 x3 : Option Value) (s0 : Value) (s1 : Value) (s2 : Value) (s3 : Value) : E d 233 1030 [x0, x1, x2, x3] [s0, s1, s2, s3] h = E d 233 1031 [x0, x1, x2, x3] [.int 1, s0, s1, s2, s3] h := E_nx rfl
set_option maxRecDepth 60000 in
theorem s233_1031 (d : Nat) (h : AH) (x0 x1 x2 x3 : Option Value) (s0 : Int32) (s1 : Int32) (s2 : Value) (s3 : Value) (s4 : Value) : E d 233 1031 [x0, x1, x2, x3] [.int s0, .int s1, s2, s3, s4] h = E d 233 1032 [x0, x1, x2, x3] [.int (s1 + s0), s2, s3, s4] h := E_nx rfl
set_option maxRecDepth 60000 in
theorem s233_1032 (d : Nat) (h : AH) (x0 x1 x2 x3 : Option Value) (s0 : Int32) (s1 : Nat) (s2 : Value) (s3 : Value) : E d 233 1032 [x0, x1, x2, x3] [.int s0, .ref s1, s2, s3] h = if inb s0 (alen h s1 0) = true ∨ inb s0 (alen h s1 8) = true then E d 233 1033 [x0, x1, x2, x3] [.int (hI h s1 s0.toNatClampNeg), s2, s3] h else none := E_gd rfl
set_option maxRecDepth 60000 in
theorem s233_1033 (d : Nat) (h : AH) (x0 x1 x2 x3 : Option Value) (s0 : Int32) (s1 : Nat) (s2 : Value) : E (d + 1) 233 1033 [x0, x1, x2, x3] [.int s0, .ref s1, s2] h = if hS h s1 = some (105, 0) then (E d 224 0 [some (.ref s1), some (.int s0), none] [] h).bind fun r => E (d + 1) 233 1034 [x0, x1, x2, x3] (r.1.toList ++ [s2]) r.2 else none := E_callg rfl
set_option maxRecDepth 60000 in
theorem s233_1034 (d : Nat) (h : AH) (x0 x1 x2 x3 : Option Value) (s0 : Int32) (s1 : Int32) : E d 233 1034 [x0, x1, x2, x3] [.int s0, .int s1] h = if s1 = s0 then E d 233 1068 [x0, x1, x2, x3] [] h else E d 233 1035 [x0, x1, x2, x3] [] h := E_ifc rfl
set_option maxRecDepth 60000 in
theorem s233_1035 (d : Nat) (h : AH) (x0 x1 x2 x3 : Option Value)  : E d 233 1035 [x0, x1, x2, x3] [] h = E d 233 1036 [x0, x1, x2, x3] [.int 0] h := E_nx rfl
set_option maxRecDepth 60000 in
theorem s233_1036 (d : Nat) (h : AH) (x0 x1 x2 x3 : Option Value) (s0 : Int32) : E d 233 1036 [x0, x1, x2, x3] [.int s0] h = if s0 = 0 ∨ s0 = 1 then some (some (.int s0), h) else none := E_retg rfl
set_option maxRecDepth 60000 in
theorem s233_1037 (d : Nat) (h : AH) (x0 x2 x3 : Option Value) (v : Nat) : E d 233 1037 [x0, some (.ref v), x2, x3] [] h = E d 233 1038 [x0, some (.ref v), x2, x3] [.ref v] h := E_nx rfl
set_option maxRecDepth 60000 in
theorem s233_1038 (d : Nat) (h : AH) (x0 x1 x2 x3 : Option Value) (s0 : Nat) : E (d + 1) 233 1038 [x0, x1, x2, x3] [.ref s0] h = if hS h s0 = some (104, 0) then (E d 127 0 [some (.ref s0)] [] h).bind fun r => E (d + 1) 233 1039 [x0, x1, x2, x3] (r.1.toList ++ []) r.2 else none := E_callg rfl
set_option maxRecDepth 60000 in
theorem s233_1039 (d : Nat) (h : AH) (x0 x1 x3 : Option Value) (s0 : Value) (v : Nat) : E d 233 1039 [x0, x1, some (.ref v), x3] [s0] h = E d 233 1040 [x0, x1, some (.ref v), x3] [.ref v, s0] h := E_nx rfl
set_option maxRecDepth 60000 in
theorem s233_1040 (d : Nat) (h : AH) (x0 x1 x2 x3 : Option Value) (s0 : Nat) (s1 : Value) : E (d + 1) 233 1040 [x0, x1, x2, x3] [.ref s0, s1] h = if hS h s0 = some (105, 0) then (E d 228 0 [some (.ref s0)] [] h).bind fun r => E (d + 1) 233 1041 [x0, x1, x2, x3] (r.1.toList ++ [s1]) r.2 else none := E_callg rfl
set_option maxRecDepth 60000 in
theorem s233_1041 (d : Nat) (h : AH) (x0 x1 x2 x3 : Option Value) (s0 : Int32) (s1 : Int32) : E d 233 1041 [x0, x1, x2, x3] [.int s0, .int s1] h = if s1 = s0 then E d 233 1068 [x0, x1, x2, x3] [] h else E d 233 1042 [x0, x1, x2, x3] [] h := E_ifc rfl
set_option maxRecDepth 60000 in
theorem s233_1042 (d : Nat) (h : AH) (x0 x1 x2 x3 : Option Value)  : E d 233 1042 [x0, x1, x2, x3] [] h = E d 233 1043 [x0, x1, x2, x3] [.int 0] h := E_nx rfl
set_option maxRecDepth 60000 in
theorem s233_1043 (d : Nat) (h : AH) (x0 x1 x2 x3 : Option Value) (s0 : Int32) : E d 233 1043 [x0, x1, x2, x3] [.int s0] h = if s0 = 0 ∨ s0 = 1 then some (some (.int s0), h) else none := E_retg rfl
set_option maxRecDepth 60000 in
theorem s233_1044 (d : Nat) (h : AH) (x0 x2 x3 : Option Value) (v : Nat) : E d 233 1044 [x0, some (.ref v), x2, x3] [] h = E d 233 1045 [x0, some (.ref v), x2, x3] [.ref v] h := E_nx rfl
set_option maxRecDepth 60000 in
theorem s233_1045 (d : Nat) (h : AH) (x0 x1 x2 x3 : Option Value) (s0 : Nat) : E (d + 1) 233 1045 [x0, x1, x2, x3] [.ref s0] h = if hS h s0 = some (104, 0) then (E d 128 0 [some (.ref s0), none] [] h).bind fun r => E (d + 1) 233 1046 [x0, x1, x2, x3] (r.1.toList ++ []) r.2 else none := E_callg rfl
set_option maxRecDepth 60000 in
theorem s233_1046 (d : Nat) (h : AH) (x0 x1 x3 : Option Value) (s0 : Value) (v : Nat) : E d 233 1046 [x0, x1, some (.ref v), x3] [s0] h = E d 233 1047 [x0, x1, some (.ref v), x3] [.ref v, s0] h := E_nx rfl
set_option maxRecDepth 60000 in
theorem s233_1047 (d : Nat) (h : AH) (x0 x1 x2 x3 : Option Value) (s0 : Nat) (s1 : Value) : E (d + 1) 233 1047 [x0, x1, x2, x3] [.ref s0, s1] h = if hS h s0 = some (105, 0) then (E d 229 0 [some (.ref s0), none] [] h).bind fun r => E (d + 1) 233 1048 [x0, x1, x2, x3] (r.1.toList ++ [s1]) r.2 else none := E_callg rfl
set_option maxRecDepth 60000 in
theorem s233_1048 (d : Nat) (h : AH) (x0 x1 x2 x3 : Option Value) (s0 : Int32) (s1 : Int32) : E d 233 1048 [x0, x1, x2, x3] [.int s0, .int s1] h = if s1 = s0 then E d 233 1068 [x0, x1, x2, x3] [] h else E d 233 1049 [x0, x1, x2, x3] [] h := E_ifc rfl
set_option maxRecDepth 60000 in
theorem s233_1049 (d : Nat) (h : AH) (x0 x1 x2 x3 : Option Value)  : E d 233 1049 [x0, x1, x2, x3] [] h = E d 233 1050 [x0, x1, x2, x3] [.int 0] h := E_nx rfl
set_option maxRecDepth 60000 in
theorem s233_1050 (d : Nat) (h : AH) (x0 x1 x2 x3 : Option Value) (s0 : Int32) : E d 233 1050 [x0, x1, x2, x3] [.int s0] h = if s0 = 0 ∨ s0 = 1 then some (some (.int s0), h) else none := E_retg rfl
set_option maxRecDepth 60000 in
theorem s233_1051 (d : Nat) (h : AH) (x0 x2 x3 : Option Value) (v : Nat) : E d 233 1051 [x0, some (.ref v), x2, x3] [] h = E d 233 1052 [x0, some (.ref v), x2, x3] [.ref v] h := E_nx rfl
set_option maxRecDepth 60000 in
theorem s233_1052 (d : Nat) (h : AH) (x1 x2 x3 : Option Value) (s0 : Value) (v : Nat) : E d 233 1052 [some (.ref v), x1, x2, x3] [s0] h = E d 233 1053 [some (.ref v), x1, x2, x3] [.ref v, s0] h := E_nx rfl
set_option maxRecDepth 60000 in
theorem s233_1053 (d : Nat) (h : AH) (x0 x1 x2 : Option Value) (s0 : Value) (s1 : Value) (v : Int32) : E d 233 1053 [x0, x1, x2, some (.int v)] [s0, s1] h = E d 233 1054 [x0, x1, x2, some (.int v)] [.int v, s0, s1] h := E_nx rfl
set_option maxRecDepth 60000 in
theorem s233_1054 (d : Nat) (h : AH) (x0 x1 x2 x3 : Option Value) (s0 : Value) (s1 : Value) (s2 : Value) : E d 233 1054 [x0, x1, x2, x3] [s0, s1, s2] h = E d 233 1055 [x0, x1, x2, x3] [.int 1, s0, s1, s2] h := E_nx rfl
set_option maxRecDepth 60000 in
theorem s233_1055 (d : Nat) (h : AH) (x0 x1 x2 x3 : Option Value) (s0 : Int32) (s1 : Int32) (s2 : Value) (s3 : Value) : E d 233 1055 [x0, x1, x2, x3] [.int s0, .int s1, s2, s3] h = E d 233 1056 [x0, x1, x2, x3] [.int (s1 + s0), s2, s3] h := E_nx rfl
set_option maxRecDepth 60000 in
theorem s233_1056 (d : Nat) (h : AH) (x0 x1 x2 x3 : Option Value) (s0 : Int32) (s1 : Nat) (s2 : Value) : E d 233 1056 [x0, x1, x2, x3] [.int s0, .ref s1, s2] h = if inb s0 (alen h s1 0) = true ∨ inb s0 (alen h s1 8) = true then E d 233 1057 [x0, x1, x2, x3] [.int (hI h s1 s0.toNatClampNeg), s2] h else none := E_gd rfl
set_option maxRecDepth 60000 in
theorem s233_1057 (d : Nat) (h : AH) (x0 x1 x2 x3 : Option Value) (s0 : Int32) (s1 : Nat) : E (d + 1) 233 1057 [x0, x1, x2, x3] [.int s0, .ref s1] h = if hS h s1 = some (104, 0) then (E d 129 0 [some (.ref s1), some (.int s0)] [] h).bind fun r => E (d + 1) 233 1058 [x0, x1, x2, x3] (r.1.toList ++ []) r.2 else none := E_callg rfl
set_option maxRecDepth 60000 in
theorem s233_1058 (d : Nat) (h : AH) (x0 x1 x3 : Option Value) (s0 : Value) (v : Nat) : E d 233 1058 [x0, x1, some (.ref v), x3] [s0] h = E d 233 1059 [x0, x1, some (.ref v), x3] [.ref v, s0] h := E_nx rfl
set_option maxRecDepth 60000 in
theorem s233_1059 (d : Nat) (h : AH) (x1 x2 x3 : Option Value) (s0 : Value) (s1 : Value) (v : Nat) : E d 233 1059 [some (.ref v), x1, x2, x3] [s0, s1] h = E d 233 1060 [some (.ref v), x1, x2, x3] [.ref v, s0, s1] h := E_nx rfl
set_option maxRecDepth 60000 in
theorem s233_1060 (d : Nat) (h : AH) (x0 x1 x2 : Option Value) (s0 : Value) (s1 : Value) (s2 : Value) (v : Int32) : E d 233 1060 [x0, x1, x2, some (.int v)] [s0, s1, s2] h = E d 233 1061 [x0, x1, x2, some (.int v)] [.int v, s0, s1, s2] h := E_nx rfl
set_option maxRecDepth 60000 in
theorem s233_1061 (d : Nat) (h : AH) (x0 x1 x2 x3 : Option Value) (s0 : Value) (s1 : Value) (s2 : Value) (s3 : Value) : E d 233 1061 [x0, x1, x2, x3] [s0, s1, s2, s3] h = E d 233 1062 [x0, x1, x2, x3] [.int 1, s0, s1, s2, s3] h := E_nx rfl
set_option maxRecDepth 60000 in
theorem s233_1062 (d : Nat) (h : AH) (x0 x1 x2 x3 : Option Value) (s0 : Int32) (s1 : Int32) (s2 : Value) (s3 : Value) (s4 : Value) : E d 233 1062 [x0, x1, x2, x3] [.int s0, .int s1, s2, s3, s4] h = E d 233 1063 [x0, x1, x2, x3] [.int (s1 + s0), s2, s3, s4] h := E_nx rfl
set_option maxRecDepth 60000 in
theorem s233_1063 (d : Nat) (h : AH) (x0 x1 x2 x3 : Option Value) (s0 : Int32) (s1 : Nat) (s2 : Value) (s3 : Value) : E d 233 1063 [x0, x1, x2, x3] [.int s0, .ref s1, s2, s3] h = if inb s0 (alen h s1 0) = true ∨ inb s0 (alen h s1 8) = true then E d 233 1064 [x0, x1, x2, x3] [.int (hI h s1 s0.toNatClampNeg), s2, s3] h else none := E_gd rfl
set_option maxRecDepth 60000 in
theorem s233_1064 (d : Nat) (h : AH) (x0 x1 x2 x3 : Option Value) (s0 : Int32) (s1 : Nat) (s2 : Value) : E (d + 1) 233 1064 [x0, x1, x2, x3] [.int s0, .ref s1, s2] h = if hS h s1 = some (105, 0) then (E d 230 0 [some (.ref s1), some (.int s0), none, none] [] h).bind fun r => E (d + 1) 233 1065 [x0, x1, x2, x3] (r.1.toList ++ [s2]) r.2 else none := E_callg rfl
set_option maxRecDepth 60000 in
theorem s233_1065 (d : Nat) (h : AH) (x0 x1 x2 x3 : Option Value) (s0 : Int32) (s1 : Int32) : E d 233 1065 [x0, x1, x2, x3] [.int s0, .int s1] h = if s1 = s0 then E d 233 1068 [x0, x1, x2, x3] [] h else E d 233 1066 [x0, x1, x2, x3] [] h := E_ifc rfl
set_option maxRecDepth 60000 in
theorem s233_1066 (d : Nat) (h : AH) (x0 x1 x2 x3 : Option Value)  : E d 233 1066 [x0, x1, x2, x3] [] h = E d 233 1067 [x0, x1, x2, x3] [.int 0] h := E_nx rfl
set_option maxRecDepth 60000 in
theorem s233_1067 (d : Nat) (h : AH) (x0 x1 x2 x3 : Option Value) (s0 : Int32) : E d 233 1067 [x0, x1, x2, x3] [.int s0] h = if s0 = 0 ∨ s0 = 1 then some (some (.int s0), h) else none := E_retg rfl
set_option maxRecDepth 60000 in
theorem s233_1068 (d : Nat) (h : AH) (x0 x1 x2 : Option Value) (v : Int32) : E d 233 1068 [x0, x1, x2, some (.int v)] [] h = E d 233 1069 [x0, x1, x2, some (.int (v + 6))] [] h := E_nx rfl
set_option maxRecDepth 60000 in
theorem s233_1069 (d : Nat) (h : AH) (x0 x1 x2 x3 : Option Value)  : E d 233 1069 [x0, x1, x2, x3] [] h = E d 233 10 [x0, x1, x2, x3] [] h := E_nx rfl
set_option maxRecDepth 60000 in
theorem s233_1070 (d : Nat) (h : AH) (x0 x1 x2 x3 : Option Value)  : E d 233 1070 [x0, x1, x2, x3] [] h = E d 233 1071 [x0, x1, x2, x3] [.int 1] h := E_nx rfl
set_option maxRecDepth 60000 in
theorem s233_1071 (d : Nat) (h : AH) (x0 x1 x2 x3 : Option Value) (s0 : Int32) : E d 233 1071 [x0, x1, x2, x3] [.int s0] h = if s0 = 0 ∨ s0 = 1 then some (some (.int s0), h) else none := E_retg rfl
