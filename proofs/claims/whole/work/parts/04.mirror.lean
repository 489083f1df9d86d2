abbrev S_Tree : Type := (Nat → Int32) × (Nat → Int32) × (Nat → Int32) × Int32
abbrev S_Checks : Type := (Nat → Int32) × (Nat → Int32) × (Nat → Int32) × Int32
abbrev S_Uses : Type := (Nat → Int32) × (Nat → Int32) × Int32
abbrev S_OpenModes : Type := (Nat → Int32)
abbrev S_Running : Type := (Nat → Int32) × (Nat → Int32) × Int32
abbrev S_Latest : Type := Int32 × Int32 × Int32 × Int32
abbrev S_Rows : Type := S_Tree × S_Checks × S_Uses × S_OpenModes × S_Running × S_Latest × Int32 × Int32 × Int32
abbrev w_Tree (kI kZ : ClassId) (a0 a1 a2 a3 : Nat) (S : S_Tree) : va_W := [(a0, .inr (0, [.ref a1, .ref a2, .ref a3, .int S.2.2.2])), (a1, .inl (kI, 61, .inl S.1)), (a2, .inl (kI, 61, .inl S.2.1)), (a3, .inl (kI, 4, .inl S.2.2.1))]
abbrev w_Checks (kI kZ : ClassId) (a0 a1 a2 a3 : Nat) (S : S_Checks) : va_W := [(a0, .inr (1, [.ref a1, .ref a2, .ref a3, .int S.2.2.2])), (a1, .inl (kI, 100, .inl S.1)), (a2, .inl (kI, 100, .inl S.2.1)), (a3, .inl (kZ, 100, .inl S.2.2.1))]
abbrev w_Uses (kI kZ : ClassId) (a0 a1 a2 : Nat) (S : S_Uses) : va_W := [(a0, .inr (2, [.ref a1, .ref a2, .int S.2.2])), (a1, .inl (kI, 30, .inl S.1)), (a2, .inl (kI, 30, .inl S.2.1))]
abbrev w_OpenModes (kI kZ : ClassId) (a0 a1 : Nat) (S : S_OpenModes) : va_W := [(a0, .inr (3, [.ref a1])), (a1, .inl (kI, 20, .inl S))]
abbrev w_Running (kI kZ : ClassId) (a0 a1 a2 : Nat) (S : S_Running) : va_W := [(a0, .inr (4, [.ref a1, .ref a2, .int S.2.2])), (a1, .inl (kI, 10, .inl S.1)), (a2, .inl (kI, 10, .inl S.2.1))]
abbrev w_Latest (kI kZ : ClassId) (a0 : Nat) (S : S_Latest) : va_W := [(a0, .inr (5, [.int S.1, .int S.2.1, .int S.2.2.1, .int S.2.2.2]))]
abbrev w_Rows (kI kZ : ClassId) (ad : Nat → Nat) (S : S_Rows) : va_W := [((ad 0), .inr (6, [.ref (ad 1), .ref (ad 5), .ref (ad 9), .ref (ad 12), .ref (ad 14), .ref (ad 17), .int S.2.2.2.2.2.2.1, .int S.2.2.2.2.2.2.2.1, .int S.2.2.2.2.2.2.2.2])), ((ad 1), .inr (0, [.ref (ad 2), .ref (ad 3), .ref (ad 4), .int S.1.2.2.2])), ((ad 2), .inl (kI, 61, .inl S.1.1)), ((ad 3), .inl (kI, 61, .inl S.1.2.1)), ((ad 4), .inl (kI, 4, .inl S.1.2.2.1)), ((ad 5), .inr (1, [.ref (ad 6), .ref (ad 7), .ref (ad 8), .int S.2.1.2.2.2])), ((ad 6), .inl (kI, 100, .inl S.2.1.1)), ((ad 7), .inl (kI, 100, .inl S.2.1.2.1)), ((ad 8), .inl (kZ, 100, .inl S.2.1.2.2.1)), ((ad 9), .inr (2, [.ref (ad 10), .ref (ad 11), .int S.2.2.1.2.2])), ((ad 10), .inl (kI, 30, .inl S.2.2.1.1)), ((ad 11), .inl (kI, 30, .inl S.2.2.1.2.1)), ((ad 12), .inr (3, [.ref (ad 13)])), ((ad 13), .inl (kI, 20, .inl S.2.2.2.1)), ((ad 14), .inr (4, [.ref (ad 15), .ref (ad 16), .int S.2.2.2.2.1.2.2])), ((ad 15), .inl (kI, 10, .inl S.2.2.2.2.1.1)), ((ad 16), .inl (kI, 10, .inl S.2.2.2.2.1.2.1)), ((ad 17), .inr (5, [.int S.2.2.2.2.2.1.1, .int S.2.2.2.2.2.1.2.1, .int S.2.2.2.2.2.1.2.2.1, .int S.2.2.2.2.2.1.2.2.2]))]
def f_Rows_isBelow (x0 x1 : Int32) : Int32 := (if x0 < 0 then 0 else (if x1 ≤ x0 then 0 else 1))
def f_Tree_init : S_Tree := ((fun _ => 0), (fun _ => 0), (fun _ => 0), 0)
def f_Tree_size (S : S_Tree) : Int32 := S.2.2.2
def f_Tree_has (S : S_Tree) (x1 : Int32) : Int32 := (if x1 < 1 then 0 else (if S.2.2.2 < x1 then 0 else (if 61 ≤ x1 then 0 else 1)))
def f_Tree_latestOf (S : S_Tree) (x1 : Int32) : Int32 := (if x1 < 1 then 0 else (if 4 ≤ x1 then 0 else (S.2.2.1 x1.toNatClampNeg)))
def f_Tree_add (S : S_Tree) (x1 x2 : Int32) : Int32 × S_Tree := (if 61 ≤ (S.2.2.2 + 1) then (-1, S) else (if x1 < 1 then (-1, S) else (if x1 < 4 then ((S.2.2.2 + 1), ((upd S.1 (S.2.2.2 + 1).toNatClampNeg x2), (upd S.2.1 (S.2.2.2 + 1).toNatClampNeg (f_Tree_latestOf ((upd S.1 (S.2.2.2 + 1).toNatClampNeg x2), S.2) (x1 - 1))), (upd S.2.2.1 x1.toNatClampNeg (S.2.2.2 + 1)), (S.2.2.2 + 1))) else (-1, S))))
def f_Tree_above (S : S_Tree) (x1 : Int32) : Int32 := (if (f_Tree_has S x1) = 0 then 0 else (if 61 ≤ x1 then 0 else (S.2.1 x1.toNatClampNeg)))
def f_Tree_isFatal (S : S_Tree) (x1 : Int32) : Int32 := (if (f_Tree_has S x1) = 0 then 0 else (if 50 ≤ (S.1 x1.toNatClampNeg) then 0 else 1))
def f_Tree_isSameOrAbove_L5 (S : S_Tree) (x1 x2 : Int32) : Nat → Int32 → Int32 → Int32
  | 0, x3, x4 => 0
  | k + 1, x3, x4 => (if 3 ≤ x4 then 0 else (if (f_Tree_has S x3) = 0 then 0 else (if x3 = x1 then 1 else (f_Tree_isSameOrAbove_L5 S x1 x2 k (f_Tree_above S x3) (x4 + 1)))))
def f_Tree_isSameOrAbove (S : S_Tree) (x1 x2 : Int32) : Int32 := (f_Tree_isSameOrAbove_L5 S x1 x2 4 x2 0)
def f_Checks_init : S_Checks := ((fun _ => 0), (fun _ => 0), (fun _ => 0), 0)
def f_Checks_size (S : S_Checks) : Int32 := S.2.2.2
def f_Checks_isRow (S : S_Checks) (x1 : Int32) : Int32 := (if x1 < 0 then 0 else (if 100 ≤ x1 then 0 else 1))
def f_Checks_add (S : S_Checks) (x1 x2 x3 : Int32) : Int32 × S_Checks := (if (f_Checks_isRow S S.2.2.2) = 0 then (-1, S) else ((S.2.2.2 + 1), ((upd S.1 S.2.2.2.toNatClampNeg x1), (upd S.2.1 S.2.2.2.toNatClampNeg x2), (upd S.2.2.1 S.2.2.2.toNatClampNeg (vp_nar .boolean x3)), (S.2.2.2 + 1))))
def f_Checks_areOn_L9 (S : S_Checks) (S2 : S_Tree) (x2 x3 : Int32) : Nat → Int32 → Int32 → Int32 → Int32
  | 0, x4, x5, x6 => 0
  | k + 1, x4, x5, x6 => (if S.2.2.2 ≤ x6 then x4 else (if (f_Checks_isRow S x6) = 0 then x4 else (if (S.2.1 x6.toNatClampNeg) < x5 then (f_Checks_areOn_L9 S S2 x2 x3 k x4 x5 (x6 + 1)) else (if x3 < (S.2.1 x6.toNatClampNeg) then (f_Checks_areOn_L9 S S2 x2 x3 k x4 x5 (x6 + 1)) else (if (f_Tree_isSameOrAbove S2 (S.1 x6.toNatClampNeg) x2) = 0 then (f_Checks_areOn_L9 S S2 x2 x3 k x4 x5 (x6 + 1)) else (f_Checks_areOn_L9 S S2 x2 x3 k (S.2.2.1 x6.toNatClampNeg) (S.2.1 x6.toNatClampNeg) (x6 + 1)))))))
def f_Checks_areOn (S : S_Checks) (S2 : S_Tree) (x2 x3 : Int32) : Int32 := (f_Checks_areOn_L9 S S2 x2 x3 101 0 0 0)
def f_Uses_init : S_Uses := ((fun _ => 0), (fun _ => 0), 0)
def f_Uses_size (S : S_Uses) : Int32 := S.2.2
def f_Uses_isRow (S : S_Uses) (x1 : Int32) : Int32 := (if x1 < 0 then 0 else (if 30 ≤ x1 then 0 else 1))
def f_Uses_add (S : S_Uses) (x1 x2 : Int32) : Int32 × S_Uses := (if (f_Uses_isRow S S.2.2) = 0 then (-1, S) else ((S.2.2 + 1), ((upd S.1 S.2.2.toNatClampNeg x1), (upd S.2.1 S.2.2.toNatClampNeg x2), (S.2.2 + 1))))
def f_Uses_firstFor_L2 (S : S_Uses) (x1 x2 : Int32) : Nat → Int32 → Int32
  | 0, x3 => 0
  | k + 1, x3 => (if S.2.2 ≤ x3 then 0 else (if (f_Uses_isRow S x3) = 0 then 0 else (if (S.1 x3.toNatClampNeg) = x1 then (if (S.2.1 x3.toNatClampNeg) = x2 then (x3 + 1) else (f_Uses_firstFor_L2 S x1 x2 k (x3 + 1))) else (f_Uses_firstFor_L2 S x1 x2 k (x3 + 1)))))
def f_Uses_firstFor (S : S_Uses) (x1 x2 : Int32) : Int32 := (f_Uses_firstFor_L2 S x1 x2 31 0)
def f_OpenModes_init_L14 : Nat → Int32 → (Nat → Int32) → (Nat → Int32)
  | 0, x1, F => F
  | k + 1, x1, F => (if 20 ≤ x1 then F else (f_OpenModes_init_L14 k (x1 + 1) (upd F x1.toNatClampNeg (-1))))
def f_OpenModes_init_F : Nat → Int32 := f_OpenModes_init_L14 21 0 (fun _ => 0)
def f_OpenModes_init : S_OpenModes := f_OpenModes_init_F
def f_OpenModes_of (S : S_OpenModes) (x1 : Int32) : Int32 := (if (f_Rows_isBelow x1 20) = 0 then -1 else (S x1.toNatClampNeg))
def f_OpenModes_put (S : S_OpenModes) (x1 x2 : Int32) : S_OpenModes := (if (f_Rows_isBelow x1 20) = 0 then S else (upd S x1.toNatClampNeg x2))
def f_Running_init : S_Running := ((fun _ => 0), (fun _ => 0), 0)
def f_Running_size (S : S_Running) : Int32 := S.2.2
def f_Running_isRow (S : S_Running) (x1 : Int32) : Int32 := (if x1 < 0 then 0 else (if 10 ≤ x1 then 0 else 1))
def f_Running_start (S : S_Running) (x1 x2 : Int32) : Int32 × S_Running := (if (f_Running_isRow S S.2.2) = 0 then (0, S) else (1, ((upd S.1 S.2.2.toNatClampNeg x1), (upd S.2.1 S.2.2.toNatClampNeg x2), (S.2.2 + 1))))
def f_Running_useAt (S : S_Running) (x1 : Int32) : Int32 := (if (f_Rows_isBelow x1 S.2.2) = 0 then 0 else (if (f_Running_isRow S ((S.2.2 - 1) - x1)) = 0 then 0 else (S.1 ((S.2.2 - 1) - x1).toNatClampNeg)))
def f_Running_endLatest (S : S_Running) : Int32 × S_Running := (if (f_Running_isRow S (S.2.2 - 1)) = 0 then (0, S) else ((S.2.1 (S.2.2 - 1).toNatClampNeg), (S.1, S.2.1, (S.2.2 - 1))))
def f_Running_holds_L2 (S : S_Running) (x1 : Int32) : Nat → Int32 → Int32
  | 0, x2 => 0
  | k + 1, x2 => (if S.2.2 ≤ x2 then 0 else (if (f_Running_isRow S x2) = 0 then 0 else (if (S.1 x2.toNatClampNeg) = x1 then 1 else (f_Running_holds_L2 S x1 k (x2 + 1)))))
def f_Running_holds (S : S_Running) (x1 : Int32) : Int32 := (f_Running_holds_L2 S x1 11 0)
def f_Latest_init : S_Latest := (0, 0, 0, -1)
def f_Latest_put (S : S_Latest) (x1 x2 x3 : Int32) : S_Latest := (x1, x2, x3, -1)
def f_Latest_passTo (S : S_Latest) (x1 : Int32) : Int32 × S_Latest := (if S.1 ≤ 0 then (0, S) else (if S.2.2.2 = -1 then (S.1, (S.1, S.2.1, S.2.2.1, x1)) else (0, S)))
def f_Latest_tell (S : S_Latest) (x1 : Int32) : Int32 := (if S.1 = 0 then -1 else (if x1 = 0 then S.1 else (if x1 = 1 then S.2.1 else (if x1 = 2 then S.2.2.1 else (if x1 = 3 then S.2.2.2 else -1)))))
def f_Rows_init : S_Rows := (f_Tree_init, f_Checks_init, f_Uses_init, f_OpenModes_init, f_Running_init, f_Latest_init, 0, 0, 0)
def f_Rows_takerOfException_L4 (S : S_Rows) (x1 : Int32) : Nat → Int32 → Int32 → Int32
  | 0, x2, x3 => 0
  | k + 1, x2, x3 => (if 3 ≤ x3 then 0 else (if (f_Tree_has S.1 x2) = 0 then 0 else (if (f_Uses_firstFor S.2.2.1 0 x2) = 0 then (f_Rows_takerOfException_L4 S x1 k (f_Tree_above S.1 x2) (x3 + 1)) else (f_Uses_firstFor S.2.2.1 0 x2))))
def f_Rows_takerOfException (S : S_Rows) (x1 : Int32) : Int32 := (f_Rows_takerOfException_L4 S x1 4 x1 0)
def f_Rows_takerOfFile (S : S_Rows) (x1 : Int32) : Int32 := (if (f_Uses_firstFor S.2.2.1 1 x1) = 0 then (f_Uses_firstFor S.2.2.1 2 (f_OpenModes_of S.2.2.2.1 x1)) else (f_Uses_firstFor S.2.2.1 1 x1))
def f_Rows_come (S : S_Rows) (x1 x2 x3 x4 : Int32) : Int32 × S_Rows := (if x3 = 0 then (if x4 = 0 then (0, (S.1, S.2.1, S.2.2.1, S.2.2.2.1, S.2.2.2.2.1, (f_Latest_put S.2.2.2.2.2.1 x1 x2 x3), (S.2.2.2.2.2.2.1 + 1), (S.2.2.2.2.2.2.2.1 + 1), S.2.2.2.2.2.2.2.2)) else (0, (S.1, S.2.1, S.2.2.1, S.2.2.2.1, S.2.2.2.2.1, (f_Latest_put S.2.2.2.2.2.1 x1 x2 x3), (S.2.2.2.2.2.2.1 + 1), (S.2.2.2.2.2.2.2.1 + 1), 1))) else (if (f_Running_holds S.2.2.2.2.1 x3) = 0 then (if (f_Running_start S.2.2.2.2.1 x3 x2).1 = 0 then (0, (S.1, S.2.1, S.2.2.1, S.2.2.2.1, (f_Running_start S.2.2.2.2.1 x3 x2).2, (f_Latest_put S.2.2.2.2.2.1 x1 x2 x3), (S.2.2.2.2.2.2.1 + 1), S.2.2.2.2.2.2.2.1, 1)) else (x3, (S.1, S.2.1, S.2.2.1, S.2.2.2.1, (f_Running_start S.2.2.2.2.1 x3 x2).2, (f_Latest_put S.2.2.2.2.2.1 x1 x2 x3), (S.2.2.2.2.2.2.1 + 1), S.2.2.2.2.2.2.2))) else (0, (S.1, S.2.1, S.2.2.1, S.2.2.2.1, S.2.2.2.2.1, (f_Latest_put S.2.2.2.2.2.1 x1 x2 x3), (S.2.2.2.2.2.2.1 + 1), S.2.2.2.2.2.2.2.1, 1))))
def f_Rows_exception (S : S_Rows) (x1 x2 : Int32) : Int32 × S_Rows := (if x1 < 1 then (-4, S) else (if 3 < x1 then (-4, S) else (if (f_Rows_isBelow x2 100) = 0 then (-4, S) else (if x1 ≤ 1 then ((f_Tree_add S.1 x1 x2).1, ((f_Tree_add S.1 x1 x2).2, S.2)) else (if (f_Tree_latestOf S.1 (x1 - 1)) = 0 then (-2, S) else ((f_Tree_add S.1 x1 x2).1, ((f_Tree_add S.1 x1 x2).2, S.2)))))))
def f_Rows_use (S : S_Rows) (x1 x2 : Int32) : Int32 × S_Rows := (if x1 = 0 then (if (f_Tree_has S.1 x2) = 0 then (-2, S) else ((f_Uses_add S.2.2.1 x1 x2).1, (S.1, S.2.1, (f_Uses_add S.2.2.1 x1 x2).2, S.2.2.2))) else (if x1 = 1 then (if (f_Rows_isBelow x2 20) = 0 then (-4, S) else ((f_Uses_add S.2.2.1 x1 x2).1, (S.1, S.2.1, (f_Uses_add S.2.2.1 x1 x2).2, S.2.2.2))) else (if x1 = 2 then (if (f_Rows_isBelow x2 4) = 0 then (-4, S) else ((f_Uses_add S.2.2.1 x1 x2).1, (S.1, S.2.1, (f_Uses_add S.2.2.1 x1 x2).2, S.2.2.2))) else (-4, S))))
def f_Rows_check (S : S_Rows) (x1 x2 x3 : Int32) : Int32 × S_Rows := (if (f_Tree_has S.1 x1) = 0 then (-2, S) else (if (f_Rows_isBelow x2 10000) = 0 then (-4, S) else ((f_Checks_add S.2.1 x1 x2 x3).1, (S.1, (f_Checks_add S.2.1 x1 x2 x3).2, S.2.2))))
def f_Rows_raise (S : S_Rows) (x1 x2 : Int32) : Int32 × S_Rows := (if (f_Tree_has S.1 x1) = 0 then (-2, S) else (if (f_Rows_isBelow x2 10000) = 0 then (-4, S) else (if S.2.2.2.2.2.2.2.2 = 0 then (if (f_Checks_areOn S.2.1 S.1 x1 x2) = 0 then (-1, S) else ((f_Rows_come S x1 x2 (f_Rows_takerOfException S x1) (f_Tree_isFatal S.1 x1)).1, (f_Rows_come S x1 x2 (f_Rows_takerOfException S x1) (f_Tree_isFatal S.1 x1)).2)) else (-1, S))))
def f_Rows_taken (S : S_Rows) (x1 : Int32) : Int32 := (f_Running_useAt S.2.2.2.2.1 x1)
def f_Rows_resume (S : S_Rows) (x1 x2 : Int32) : Int32 × S_Rows := (if (f_Rows_isBelow x2 10000) = 0 then (-4, S) else (if S.2.2.2.2.2.2.2.2 = 0 then (if (f_Running_size S.2.2.2.2.1) = 0 then (0, S) else (if (f_Running_useAt S.2.2.2.2.1 0) = x1 then (if x2 = 0 then (((f_Running_endLatest S.2.2.2.2.1).1 + 1), (S.1, S.2.1, S.2.2.1, S.2.2.2.1, (f_Running_endLatest S.2.2.2.2.1).2, S.2.2.2.2.2)) else (x2, (S.1, S.2.1, S.2.2.1, S.2.2.2.1, (f_Running_endLatest S.2.2.2.2.1).2, S.2.2.2.2.2))) else (0, S))) else (-5, S)))
def f_Rows_nested (S : S_Rows) (x1 : Int32) : Int32 := (if (f_Tree_has S.1 x1) = 0 then -2 else (if (f_Running_holds S.2.2.2.2.1 (f_Rows_takerOfException S x1)) = 0 then 0 else 1))
def f_Rows_propagate (S : S_Rows) (x1 : Int32) : Int32 × S_Rows := (if (f_Rows_isBelow x1 100) = 0 then (-4, S) else ((f_Latest_passTo S.2.2.2.2.2.1 x1).1, (S.1, S.2.1, S.2.2.1, S.2.2.2.1, S.2.2.2.2.1, (f_Latest_passTo S.2.2.2.2.2.1 x1).2, S.2.2.2.2.2.2)))
def f_Rows_last (S : S_Rows) (x1 : Int32) : Int32 := (f_Latest_tell S.2.2.2.2.2.1 x1)
def f_Rows_status (S : S_Rows) (x1 x2 : Int32) : Int32 × S_Rows := (if (f_Rows_isBelow x1 20) = 0 then (-2, S) else (if (f_Rows_isBelow x2 100) = 0 then (-4, S) else (if S.2.2.2.2.2.2.2.2 = 0 then (if 10 ≤ x2 then ((f_Rows_come S (-x2) 0 (f_Rows_takerOfFile S x1) 0).1, (f_Rows_come S (-x2) 0 (f_Rows_takerOfFile S x1) 0).2) else (-1, S)) else (-1, S))))
def f_Rows_mode (S : S_Rows) (x1 x2 : Int32) : Int32 × S_Rows := (if (f_Rows_isBelow x1 20) = 0 then (-2, S) else (if x2 = -1 then (1, (S.1, S.2.1, S.2.2.1, (f_OpenModes_put S.2.2.2.1 x1 x2), S.2.2.2.2)) else (if (f_Rows_isBelow x2 4) = 0 then (-4, S) else (1, (S.1, S.2.1, S.2.2.1, (f_OpenModes_put S.2.2.2.1 x1 x2), S.2.2.2.2)))))
def f_Rows_ends (S : S_Rows) : Int32 := S.2.2.2.2.2.2.2.2
def f_Rows_count (S : S_Rows) (x1 : Int32) : Int32 := (if x1 = 0 then (f_Tree_size S.1) else (if x1 = 1 then (f_Checks_size S.2.1) else (if x1 = 2 then (f_Uses_size S.2.2.1) else (if x1 = 3 then (f_Running_size S.2.2.2.2.1) else (if x1 = 4 then S.2.2.2.2.2.2.1 else (if x1 = 5 then S.2.2.2.2.2.2.2.1 else -1))))))
theorem in_has {S : S_Tree} {x : Int32} (h : ¬ f_Tree_has S x = 0) : vp_in x 61 := by
  unfold f_Tree_has at h
  by_cases h1 : x < 1
  · rw [if_pos h1] at h; exact absurd rfl h
  rw [if_neg h1] at h
  by_cases h2 : S.2.2.2 < x
  · rw [if_pos h2] at h; exact absurd rfl h
  rw [if_neg h2] at h
  by_cases h3 : 61 ≤ x
  · rw [if_pos h3] at h; exact absurd rfl h
  exact in_of1 rfl h1 h3
theorem in_rowC {S : S_Checks} {x : Int32} (h : ¬ f_Checks_isRow S x = 0) : vp_in x 100 := by
  unfold f_Checks_isRow at h
  by_cases h1 : x < 0
  · rw [if_pos h1] at h; exact absurd rfl h
  rw [if_neg h1] at h
  by_cases h3 : 100 ≤ x
  · rw [if_pos h3] at h; exact absurd rfl h
  exact in_of rfl h1 h3
theorem in_rowU {S : S_Uses} {x : Int32} (h : ¬ f_Uses_isRow S x = 0) : vp_in x 30 := by
  unfold f_Uses_isRow at h
  by_cases h1 : x < 0
  · rw [if_pos h1] at h; exact absurd rfl h
  rw [if_neg h1] at h
  by_cases h3 : 30 ≤ x
  · rw [if_pos h3] at h; exact absurd rfl h
  exact in_of rfl h1 h3
theorem in_rowR {S : S_Running} {x : Int32} (h : ¬ f_Running_isRow S x = 0) : vp_in x 10 := by
  unfold f_Running_isRow at h
  by_cases h1 : x < 0
  · rw [if_pos h1] at h; exact absurd rfl h
  rw [if_neg h1] at h
  by_cases h3 : 10 ≤ x
  · rw [if_pos h3] at h; exact absurd rfl h
  exact in_of rfl h1 h3
theorem in_below20 {x : Int32} (h : ¬ f_Rows_isBelow x 20 = 0) : vp_in x 20 := by
  unfold f_Rows_isBelow at h
  by_cases h1 : x < 0
  · rw [if_pos h1] at h; exact absurd rfl h
  rw [if_neg h1] at h
  by_cases h3 : 20 ≤ x
  · rw [if_pos h3] at h; exact absurd rfl h
  exact in_of rfl h1 h3
theorem lt_rowC {S : S_Checks} {x : Int32} {j : Nat} (hj : x = nI j) (hN : j ≤ 100) (h : ¬ f_Checks_isRow S x = 0) : j < 100 := lt_in hj (by omega) (in_rowC h)
theorem lt_rowU {S : S_Uses} {x : Int32} {j : Nat} (hj : x = nI j) (hN : j ≤ 30) (h : ¬ f_Uses_isRow S x = 0) : j < 30 := lt_in hj (by omega) (in_rowU h)
theorem lt_rowR {S : S_Running} {x : Int32} {j : Nat} (hj : x = nI j) (hN : j ≤ 10) (h : ¬ f_Running_isRow S x = 0) : j < 10 := lt_in hj (by omega) (in_rowR h)
