/-! the worlds in which the methods are walked -/
abbrev mm_pre : Type := va_E × va_E × va_E × va_E × va_E × va_E × va_E × va_E × va_E × va_E
/-- ten cells, and what lies behind them -/
def wP (e : mm_pre) (F : mm_M) : mm_M := e.1 :: e.2.1 :: e.2.2.1 :: e.2.2.2.1 :: e.2.2.2.2.1 :: e.2.2.2.2.2.1 :: e.2.2.2.2.2.2.1 :: e.2.2.2.2.2.2.2.1 :: e.2.2.2.2.2.2.2.2.1 :: e.2.2.2.2.2.2.2.2.2 :: F
/-- the class's cells: RootCompass at 0, its Numbers at 1, its Cut at 2, then its rows -/
def wCp (ov un : Nat → Int32) (nx dp fa : Int32) (cu : mm_cu) (st fi se th db : Nat → Int32) (cn : Int32) : mm_pre :=
  (.inr (2, [.ref 1, .ref 2, .ref 3, .ref 4, .ref 5, .ref 6, .ref 7, .int cn]), .inr (1, [.ref 8, .ref 9, .int 308, .int nx, .int dp, .int fa]),
    .inr (0, [.int cu.1, .int cu.2.1, .int cu.2.2.1, .int cu.2.2.2.1, .int cu.2.2.2.2.1, .int cu.2.2.2.2.2.1, .int cu.2.2.2.2.2.2]),
    .inl (0, 24, .inl st), .inl (0, 24, .inl fi), .inl (0, 24, .inl se), .inl (0, 24, .inl th), .inl (0, 25, .inl db), .inl (0, 1332, .inl ov), .inl (0, 1332, .inl un))
abbrev mm_pst : Type := va_E × va_E × va_E × va_E × va_E × va_E × va_E
/-- seven cells, and what lies behind them -/
def wQ (e : mm_pst) (F : mm_M) : mm_M := e.1 :: e.2.1 :: e.2.2.1 :: e.2.2.2.1 :: e.2.2.2.2.1 :: e.2.2.2.2.2.1 :: e.2.2.2.2.2.2 :: F
/-- the reference's cells, behind ten others: itself at 10, then its rows -/
def wNp (p q op oq : Nat → Int64) (tr dp wi fa ob : Int32) (st of : Nat → Int32) : mm_pst :=
  (.inr (3, [.int tr, .int dp, .int wi, .int fa, .ref 11, .ref 12, .ref 13, .ref 14, .int ob, .ref 15, .ref 16]), .inl (1, 480, .inr (.inl p)), .inl (1, 480, .inr (.inl q)), .inl (1, 292, .inr (.inl op)), .inl (1, 292, .inr (.inl oq)), .inl (0, 24, .inl st), .inl (0, 96, .inl of))
/-- the law's own long[1] -/
def wO (o : Nat → Int64) : mm_M := [.inl (1, 1, .inr (.inl o))]
/-- the class's cells, one by one, and what lies behind them: wP (wCp ..) F -/
def wC (ov un : Nat → Int32) (nx dp fa : Int32) (cu : mm_cu) (st fi se th db : Nat → Int32) (cn : Int32) (F : mm_M) : mm_M :=
  .inr (2, [.ref 1, .ref 2, .ref 3, .ref 4, .ref 5, .ref 6, .ref 7, .int cn]) :: .inr (1, [.ref 8, .ref 9, .int 308, .int nx, .int dp, .int fa]) ::
    .inr (0, [.int cu.1, .int cu.2.1, .int cu.2.2.1, .int cu.2.2.2.1, .int cu.2.2.2.2.1, .int cu.2.2.2.2.2.1, .int cu.2.2.2.2.2.2]) ::
    .inl (0, 24, .inl st) :: .inl (0, 24, .inl fi) :: .inl (0, 24, .inl se) :: .inl (0, 24, .inl th) :: .inl (0, 25, .inl db) :: .inl (0, 1332, .inl ov) :: .inl (0, 1332, .inl un) :: F
theorem wC_eq (ov un : Nat → Int32) (nx dp fa : Int32) (cu : mm_cu) (st fi se th db : Nat → Int32) (cn : Int32) (F : mm_M) : wC ov un nx dp fa cu st fi se th db cn F = wP (wCp ov un nx dp fa cu st fi se th db cn) F := rfl
/-- the reference's cells, one by one: wQ (wNp ..) F -/
def wN (p q op oq : Nat → Int64) (tr dp wi fa ob : Int32) (st of : Nat → Int32) (F : mm_M) : mm_M :=
  .inr (3, [.int tr, .int dp, .int wi, .int fa, .ref 11, .ref 12, .ref 13, .ref 14, .int ob, .ref 15, .ref 16]) :: .inl (1, 480, .inr (.inl p)) :: .inl (1, 480, .inr (.inl q)) :: .inl (1, 292, .inr (.inl op)) :: .inl (1, 292, .inr (.inl oq)) :: .inl (0, 24, .inl st) :: .inl (0, 96, .inl of) :: F
theorem wN_eq (p q op oq : Nat → Int64) (tr dp wi fa ob : Int32) (st of : Nat → Int32) (F : mm_M) : wN p q op oq tr dp wi fa ob st of F = wQ (wNp p q op oq tr dp wi fa ob st of) F := rfl
