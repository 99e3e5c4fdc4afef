/-! ===== the law's configuration at its loop's head ===== -/
def s_c0 (fa : sFa) : sC := (20, a_mL, 23, [some [.inl (.ref 0)], some [.inl (.ref 2)], some [.inl (.ref 155)], some [.inl (.ref 197)], some [.inl (.int 0)], none, none, none], [], [], (196, []), fa, 196, 6613)
def s_opf (n : Int) : sFa := ([([.inr (.inl 0), .inl (.int 63), .inr (.inr (.inl .iand))], n, n)], [])
def s_P : List aM := a_Z.map (fun q => q.1)
/-- the same with bounds of other ints of the script -/
def s_opl (n : Int) (l : List (Nat × Int × Int)) : sFa := (([.inr (.inl 0), .inl (.int 63), .inr (.inr (.inl .iand))], n, n) :: l.map (fun q => ([.inr (.inl q.1)], q.2.1, q.2.2)), [])
