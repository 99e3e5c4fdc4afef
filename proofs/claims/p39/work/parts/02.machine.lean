/-! ===== TABLES, laid by a program of mine (wip/tools/gen.py) out of the claim's Statement ===== -/
def a_T (q : List (String × String × String × Bool)) : u_T := fun k => q.getD k ("", "", "", false)
def a_F0 : List (String × String × String × Bool) := [("OddsInCourt$Fraction", "up", "J", false), ("OddsInCourt$Fraction", "low", "J", false)]
def a_F1 : List (String × String × String × Bool) := [("OddsInCourt$Hearing", "odds", "LOddsInCourt$Fraction;", true), ("OddsInCourt$Hearing", "line", "[I", true), ("OddsInCourt$Hearing", "things", "I", false), ("OddsInCourt$Hearing", "withClaim", "LOddsInCourt$Fraction;", true), ("OddsInCourt$Hearing", "without", "LOddsInCourt$Fraction;", true), ("OddsInCourt$Hearing", "sums", "[I", true), ("OddsInCourt$Hearing", "claimBit", "I", false), ("OddsInCourt$Hearing", "thingBits", "I", false)]
def a_F2 : List (String × String × String × Bool) := [("OddsInCourt$Kept", "there", "Z", false), ("OddsInCourt$Kept", "nodes", "I", false), ("OddsInCourt$Kept", "forced", "I", false), ("OddsInCourt$Kept", "forcedSo", "I", false), ("OddsInCourt$Kept", "seen", "I", false), ("OddsInCourt$Kept", "seenSo", "I", false), ("OddsInCourt$Kept", "things", "I", false), ("OddsInCourt$Kept", "line", "[I", true), ("OddsInCourt$Kept", "table", "[I", true), ("OddsInCourt$Kept", "price", "[I", true)]
def a_F3 : List (String × String × String × Bool) := [("OddsInCourt$Lands", "told", "I", false), ("OddsInCourt$Lands", "people", "[I", true), ("OddsInCourt$Lands", "counted", "[I", true), ("OddsInCourt$Lands", "entries", "[I", true)]
def a_F4 : List (String × String × String × Bool) := [("OddsInCourt$Net", "nodes", "I", false), ("OddsInCourt$Net", "depths", "I", false), ("OddsInCourt$Net", "leaning", "[I", true), ("OddsInCourt$Net", "leanCount", "[I", true), ("OddsInCourt$Net", "leanedOn", "[I", true), ("OddsInCourt$Net", "depth", "[I", true), ("OddsInCourt$Net", "table", "[I", true), ("OddsInCourt$Net", "price", "[I", true), ("OddsInCourt$Net", "forced", "I", false), ("OddsInCourt$Net", "forcedSo", "I", false), ("OddsInCourt$Net", "seen", "I", false), ("OddsInCourt$Net", "seenSo", "I", false), ("OddsInCourt$Net", "things", "I", false), ("OddsInCourt$Net", "line", "[I", true), ("OddsInCourt$Net", "weights", "[I", true), ("OddsInCourt$Net", "fresh", "Z", false)]
def a_F5 : List (String × String × String × Bool) := [("OddsInCourt$Row", "values", "[J", true), ("OddsInCourt$Row", "count", "I", false)]
def a_F6 : List (String × String × String × Bool) := [("OddsInCourt$Saying", "signs", "[C", true), ("OddsInCourt$Saying", "length", "I", false), ("OddsInCourt$Saying", "relation", "C", false), ("OddsInCourt$Saying", "from", "[I", true), ("OddsInCourt$Saying", "ands", "[I", true), ("OddsInCourt$Saying", "ors", "[I", true), ("OddsInCourt$Saying", "up", "[I", true), ("OddsInCourt$Saying", "low", "[I", true)]
def a_F7 : List (String × String × String × Bool) := [("OddsInCourt$Sets", "pile", "[[J", true), ("OddsInCourt$Sets", "factor", "LOddsInCourt$Fraction;", true), ("OddsInCourt$Sets", "top", "I", false), ("OddsInCourt$Sets", "words", "I", false), ("OddsInCourt$Sets", "at", "I", false)]
def a_F8 : List (String × String × String × Bool) := [("OddsInCourt$Shifts", "days", "I", false), ("OddsInCourt$Shifts", "daysOn", "I", false), ("OddsInCourt$Shifts", "deathsOn", "I", false), ("OddsInCourt$Shifts", "deathsOff", "I", false), ("OddsInCourt$Shifts", "lookedOn", "I", false), ("OddsInCourt$Shifts", "lookedOff", "I", false)]
def a_F9 : List (String × String × String × Bool) := [("OddsInCourt$Spans", "told", "I", false), ("OddsInCourt$Spans", "nodes", "[I", true), ("OddsInCourt$Spans", "places", "[I", true), ("OddsInCourt$Spans", "lows", "[I", true), ("OddsInCourt$Spans", "highs", "[I", true), ("OddsInCourt$Spans", "held", "[I", true)]
def a_F10 : List (String × String × String × Bool) := [("OddsInCourt$Text", "signs", "[C", true), ("OddsInCourt$Text", "length", "I", false), ("OddsInCourt$Text", "at", "I", false), ("OddsInCourt$Text", "limit", "I", false), ("OddsInCourt$Text", "letters", "I", false)]
def a_F11 : List (String × String × String × Bool) := [("OddsInCourt", "net", "LOddsInCourt$Net;", true), ("OddsInCourt", "numbers", "LOddsInCourt$Row;", true), ("OddsInCourt", "text", "LOddsInCourt$Text;", true), ("OddsInCourt", "sayings", "[LOddsInCourt$Saying;", true), ("OddsInCourt", "sets", "LOddsInCourt$Sets;", true), ("OddsInCourt", "spans", "LOddsInCourt$Spans;", true), ("OddsInCourt", "hearing", "LOddsInCourt$Hearing;", true), ("OddsInCourt", "lands", "LOddsInCourt$Lands;", true), ("OddsInCourt", "roster", "LOddsInCourt$Shifts;", true), ("OddsInCourt", "kept", "[LOddsInCourt$Kept;", true), ("OddsInCourt", "habits", "[I", true), ("OddsInCourt", "measures", "[I", true), ("OddsInCourt", "bestOrder", "[I", true), ("OddsInCourt", "first", "LOddsInCourt$Fraction;", true), ("OddsInCourt", "second", "LOddsInCourt$Fraction;", true), ("OddsInCourt", "said", "I", false), ("OddsInCourt", "heads", "I", false)]
def a_F12 : List (String × String × String × Bool) := [("OddsInCourtModel", "thrown", "I", false), ("OddsInCourtModel", "rows", "I", false), ("OddsInCourtModel", "row", "[J", true), ("OddsInCourtModel", "upper", "J", false), ("OddsInCourtModel", "lower", "J", false), ("OddsInCourtModel", "isGreat", "Z", false), ("OddsInCourtModel", "wheels", "[J", true), ("OddsInCourtModel", "nodes", "I", false), ("OddsInCourtModel", "leaning", "[I", true), ("OddsInCourtModel", "depth", "[I", true), ("OddsInCourtModel", "table", "[I", true), ("OddsInCourtModel", "forced", "[I", true), ("OddsInCourtModel", "seenAs", "[I", true), ("OddsInCourtModel", "cost", "[I", true), ("OddsInCourtModel", "seenMany", "I", false), ("OddsInCourtModel", "seenOrder", "[I", true), ("OddsInCourtModel", "depths", "J", false), ("OddsInCourtModel", "weights", "[J", true), ("OddsInCourtModel", "onRow", "[Z", true), ("OddsInCourtModel", "sayings", "I", false), ("OddsInCourtModel", "act", "[I", true), ("OddsInCourtModel", "kind", "[I", true), ("OddsInCourtModel", "number", "[J", true), ("OddsInCourtModel", "begin", "[I", true), ("OddsInCourtModel", "finish", "[I", true), ("OddsInCourtModel", "signs", "[I", true), ("OddsInCourtModel", "into", "I", false), ("OddsInCourtModel", "tape", "[I", true), ("OddsInCourtModel", "taped", "I", false), ("OddsInCourtModel", "at", "I", false), ("OddsInCourtModel", "to", "I", false), ("OddsInCourtModel", "open", "I", false), ("OddsInCourtModel", "reading", "I", false), ("OddsInCourtModel", "where", "I", false), ("OddsInCourtModel", "stop", "I", false), ("OddsInCourtModel", "spans", "I", false), ("OddsInCourtModel", "spanNode", "[I", true), ("OddsInCourtModel", "spanAt", "[I", true), ("OddsInCourtModel", "spanLow", "[I", true), ("OddsInCourtModel", "spanHigh", "[I", true), ("OddsInCourtModel", "tableOld", "[I", true), ("OddsInCourtModel", "heads", "I", false), ("OddsInCourtModel", "habits", "[I", true), ("OddsInCourtModel", "habitNumber", "[I", true), ("OddsInCourtModel", "told", "[I", true), ("OddsInCourtModel", "toldMany", "I", false), ("OddsInCourtModel", "oddsUp", "J", false), ("OddsInCourtModel", "oddsLow", "J", false), ("OddsInCourtModel", "heardSo", "I", false), ("OddsInCourtModel", "heardNot", "I", false), ("OddsInCourtModel", "things", "[I", true), ("OddsInCourtModel", "bestOrder", "[I", true), ("OddsInCourtModel", "isFound", "Z", false), ("OddsInCourtModel", "bestSure", "Z", false), ("OddsInCourtModel", "bestUp", "J", false), ("OddsInCourtModel", "bestLow", "J", false), ("OddsInCourtModel", "lands", "I", false), ("OddsInCourtModel", "people", "[I", true), ("OddsInCourtModel", "counted", "[I", true), ("OddsInCourtModel", "days", "I", false), ("OddsInCourtModel", "isOn", "[Z", true), ("OddsInCourtModel", "isDeath", "[Z", true), ("OddsInCourtModel", "isLooked", "[Z", true), ("OddsInCourtModel", "keptNodes", "[I", true), ("OddsInCourtModel", "isKept", "[Z", true), ("OddsInCourtModel", "keptForced", "[I", true), ("OddsInCourtModel", "keptSeen", "[I", true), ("OddsInCourtModel", "keptCost", "[I", true), ("OddsInCourtModel", "keptOrder", "[I", true), ("OddsInCourtModel", "keptMany", "[I", true), ("OddsInCourtModel", "keptTable", "[I", true)]
def vwCl : List vw_C := [("OddsInCourt$Fraction", a_T a_F0, 2), ("OddsInCourt$Hearing", a_T a_F1, 8), ("OddsInCourt$Kept", a_T a_F2, 10), ("OddsInCourt$Lands", a_T a_F3, 4), ("OddsInCourt$Net", a_T a_F4, 16), ("OddsInCourt$Row", a_T a_F5, 2), ("OddsInCourt$Saying", a_T a_F6, 8), ("OddsInCourt$Sets", a_T a_F7, 5), ("OddsInCourt$Shifts", a_T a_F8, 6), ("OddsInCourt$Spans", a_T a_F9, 6), ("OddsInCourt$Text", a_T a_F10, 5), ("OddsInCourt", a_T a_F11, 17), ("OddsInCourtModel", a_T a_F12, 71), ("java/util/NoSuchElementException", a_T [], 0)]
def a_ftyL : List (List FieldType) := [[.long, .long], [.object "OddsInCourt$Fraction", .array .int, .int, .object "OddsInCourt$Fraction", .object "OddsInCourt$Fraction", .array .int, .int, .int], [.boolean, .int, .int, .int, .int, .int, .int, .array .int, .array .int, .array .int], [.int, .array .int, .array .int, .array .int], [.int, .int, .array .int, .array .int, .array .int, .array .int, .array .int, .array .int, .int, .int, .int, .int, .int, .array .int, .array .int, .boolean], [.array .long, .int], [.array .char, .int, .char, .array .int, .array .int, .array .int, .array .int, .array .int], [.array (.array .long), .object "OddsInCourt$Fraction", .int, .int, .int], [.int, .int, .int, .int, .int, .int], [.int, .array .int, .array .int, .array .int, .array .int, .array .int], [.array .char, .int, .int, .int, .int], [.object "OddsInCourt$Net", .object "OddsInCourt$Row", .object "OddsInCourt$Text", .array (.object "OddsInCourt$Saying"), .object "OddsInCourt$Sets", .object "OddsInCourt$Spans", .object "OddsInCourt$Hearing", .object "OddsInCourt$Lands", .object "OddsInCourt$Shifts", .array (.object "OddsInCourt$Kept"), .array .int, .array .int, .array .int, .object "OddsInCourt$Fraction", .object "OddsInCourt$Fraction", .int, .int], [.int, .int, .array .long, .long, .long, .boolean, .array .long, .int, .array .int, .array .int, .array .int, .array .int, .array .int, .array .int, .int, .array .int, .long, .array .long, .array .boolean, .int, .array .int, .array .int, .array .long, .array .int, .array .int, .array .int, .int, .array .int, .int, .int, .int, .int, .int, .int, .int, .int, .array .int, .array .int, .array .int, .array .int, .array .int, .int, .array .int, .array .int, .array .int, .int, .long, .long, .int, .int, .array .int, .array .int, .boolean, .boolean, .long, .long, .int, .array .int, .array .int, .int, .array .boolean, .array .boolean, .array .boolean, .array .int, .array .boolean, .array .int, .array .int, .array .int, .array .int, .array .int, .array .int]]
def a_fty (ci k : Nat) : FieldType := (a_ftyL.getD ci []).getD k .int
def a_nL : List Nat := [2, 8, 10, 4, 16, 2, 8, 5, 6, 6, 5, 17, 71]
def a_n (ci : Nat) : Nat := a_nL.getD ci 0
def a_tys : List FieldType := [.int, .long, .boolean, .char, .object "OddsInCourt$Saying", .object "OddsInCourt$Kept", .array .long]
def a_kind (ci : Nat) : Option Nat := if ci = 6 then some 4 else if ci = 2 then some 5 else none
def a_so : List Int64 := [-6148914691236517206, -3689348814741910324, -1085102592571150096, -71777214294589696, -281470681808896, -4294967296]
def a_soC : String := "OddsInCourt$Sets"
def a_soN : String := "SO"
def a_exc : Nat := 13
def a_host : String := "OddsInCourt"
def a_chunk (c : Nat) : List Cond := match c with
  | 0 => k2_sels lw_privs
  | 1 => tables_1_1
  | 2 => tables_1_2
  | 3 => tables_1_3
  | 4 => tables_1_4
  | 5 => tables_1_5
  | 6 => tables_1_6
  | 7 => tables_1_7
  | 8 => tables_1_8
  | _ => []
theorem a_chunk_in {c : Nat} {w : Cond} (h : w ∈ a_chunk c) : w ∈ lw_tbl := by
  unfold a_chunk at h
  unfold lw_tbl tables_1
  simp only [List.mem_append]
  split at h
  · exact Or.inl h
  · exact Or.inr (Or.inl h)
  · exact Or.inr (Or.inr (Or.inl h))
  · exact Or.inr (Or.inr (Or.inr (Or.inl h)))
  · exact Or.inr (Or.inr (Or.inr (Or.inr (Or.inl h))))
  · exact Or.inr (Or.inr (Or.inr (Or.inr (Or.inr (Or.inl h)))))
  · exact Or.inr (Or.inr (Or.inr (Or.inr (Or.inr (Or.inr (Or.inl h))))))
  · exact Or.inr (Or.inr (Or.inr (Or.inr (Or.inr (Or.inr (Or.inr (Or.inl h)))))))
  · exact Or.inr (Or.inr (Or.inr (Or.inr (Or.inr (Or.inr (Or.inr (Or.inr (id h))))))))
  · cases h
def a_excN : String := "java/util/NoSuchElementException"
def a_excs : List String := ["java/lang/RuntimeException", "java/lang/Exception"]
def a_ic : Nat := 428
def a_strs : List (Nat × String) := [(426, "no such node or number"), (440, "no such number of the row")]
/-- words that hold on, though no list of words may hold them -/
def a_atX : List Cond := (Bundle.ownAtomsX "OddsInCourt" a_ic a_excN 13 prog_22_method_4_code a_excs).filter vx_no
def a_nest : List Cond := .castable a_excN a_excN :: a_atX.filter (fun w => !goodWord w)
def a_over : List String := ["OddsInCourt$Saying", "OddsInCourt$Kept"]
def a_clP : List (List Nat) := [[1220, 1222], [2046, 2048, 2050, 2052, 2054, 2056, 2058, 2060], [2131, 2133, 2135, 2137, 2139, 2141, 2143, 2145, 2147, 2149], [2074, 2076, 2078, 2080], [1077, 1079, 1081, 1083, 1085, 1087, 1089, 1091, 1093, 1095, 1097, 1099, 1101, 1103, 1105, 1107], [1121, 1123], [1177, 1179, 1181, 1183, 1185, 1187, 1189, 1191], [1230, 1232, 1234, 1236, 1238], [2100, 2102, 2104, 2106, 2108, 2110], [2014, 2016, 2018, 2020, 2022, 2024], [1139, 1141, 1143, 1145, 1147], [2171, 2173, 2175, 2177, 2179, 2181, 2183, 2185, 2187, 2189, 2191, 2193, 2195, 2197, 2199, 2201, 2203], [8065, 8067, 8069, 8071, 8073, 8075, 8077, 8079, 8081, 8083, 8085, 8087, 8089, 8091, 8093, 8095, 8097, 8099, 8101, 8103, 8105, 8107, 8109, 8111, 8113, 8115, 8117, 8119, 8121, 8123, 8125, 8127, 8129, 8131, 8133, 8135, 8137, 8139, 8141, 8143, 8145, 8147, 8149, 8151, 8153, 8155, 8157, 8159, 8161, 8163, 8165, 8167, 8169, 8171, 8173, 8175, 8177, 8179, 8181, 8183, 8185, 8187, 8189, 8191, 8193, 8195, 8197, 8199, 8201, 8203, 8205]]
def a_clI : List Nat := [1203, 2028, 2115, 2064, 1030, 1112, 1153, 1195, 2084, 2002, 1128, 1022, 6005]
def a_clJ : List Nat := [1007, 1009, 1012, 1010, 1002, 1003, 1005, 1006, 1011, 1008, 1004, 1001, 1013]
def a_pl : List Nat := [1027, 1028, 4058, 4057, 1016]
/-- tables of handlers -/
def a_hh (y : MethodName) : List (Nat × Nat × Nat × Nat) := if y.cls = "OddsInCourtLaw" then (if y.name = "of" then [(0, 10, 13, 13)] else if y.name = "row" then [(0, 8, 11, 13)] else []) else []
def a_excP : Nat := 1020
def a_plL : Nat := 1126
/-! ===== THE PAPER MACHINE: methods as tables of instructions, run by a pure function ===== -/
/-- an array's elements: ints (also booleans, chars), longs, references -/
abbrev aA : Type := List Int32 ⊕ List Int64 ⊕ List (Option Nat)
/-- a cell: an array (number of its kind, elements) or an object (number of its class, fields) -/
abbrev aE : Type := (Nat × aA) ⊕ (Nat × List Value)
abbrev aH : Type := List aE
abbrev aL : Type := List (Option Value)
/-- what an instruction is linked with: kind, two numbers, a constant -/
abbrev aK : Type := Nat × Nat × Nat × Int
abbrev aI : Type := Instr × Nat × aK
/-- name, bytes, locals, answer's type, parameters, instructions by their places -/
abbrev aM : Type := MethodName × ByteArray × Nat × Option FieldType × Nat × List (Nat × aI)
/-- the law's script: cell 0 -/
abbrev aX : Type := Option (Nat × (Nat → Int32))
def a_ii (f : Int32 → Int32 → Int32) (st : List Value) : Option (List Value) := match st with
  | .int y :: .int x :: r => some (.int (f x y) :: r)
  | _ => none
def a_iin (f : Int32 → Int32 → Int32) (st : List Value) : Option (List Value) := match st with
  | .int y :: .int x :: r => if y = 0 then none else some (.int (f x y) :: r)
  | _ => none
def a_i (f : Int32 → Value) (st : List Value) : Option (List Value) := match st with
  | .int x :: r => some (f x :: r)
  | _ => none
def a_ll (f : Int64 → Int64 → Value) (st : List Value) : Option (List Value) := match st with
  | .long y :: .long x :: r => some (f x y :: r)
  | _ => none
def a_lln (f : Int64 → Int64 → Int64) (st : List Value) : Option (List Value) := match st with
  | .long y :: .long x :: r => if y = 0 then none else some (.long (f x y) :: r)
  | _ => none
def a_l (f : Int64 → Value) (st : List Value) : Option (List Value) := match st with
  | .long x :: r => some (f x :: r)
  | _ => none
def a_li (f : Int64 → Int32 → Int64) (st : List Value) : Option (List Value) := match st with
  | .int y :: .long x :: r => some (.long (f x y) :: r)
  | _ => none
def a_dup (st : List Value) : Option (List Value) := match st with
  | v :: r => if v.category = 1 then some (v :: v :: r) else none
  | _ => none
def a_pop (st : List Value) : Option (List Value) := match st with
  | v :: r => if v.category = 1 then some r else none
  | _ => none
def a_dup2 (st : List Value) : Option (List Value) := match st with
  | v :: w :: r => if v.category = 1 ∧ w.category = 1 then some (v :: w :: v :: w :: r) else none
  | _ => none
/-- instructions on the stack alone -/
def a_stk (i : Instr) (k : aK) (st : List Value) : Option (List Value) := match i with
  | .iconst n => some (.int (Int32.ofInt n) :: st)
  | .bipush n => some (.int (Int8.ofInt n).toInt32 :: st)
  | .sipush n => some (.int (Int16.ofInt n).toInt32 :: st)
  | .lconst n => some (.long (Int64.ofNat (n : Nat)) :: st)
  | .ldc _ => if k.1 = 15 then some (.int (Int32.ofInt k.2.2.2) :: st) else none
  | .ldc_w _ => if k.1 = 15 then some (.int (Int32.ofInt k.2.2.2) :: st) else none
  | .ldc2_w _ => if k.1 = 16 then some (.long (Int64.ofInt k.2.2.2) :: st) else none
  | .iadd => a_ii (fun x y => x + y) st
  | .isub => a_ii (fun x y => x - y) st
  | .imul => a_ii (fun x y => x * y) st
  | .iand => a_ii (fun x y => x &&& y) st
  | .ior => a_ii (fun x y => x ||| y) st
  | .ixor => a_ii (fun x y => x ^^^ y) st
  | .ishl => a_ii (fun x y => x <<< (y &&& 31)) st
  | .ishr => a_ii (fun x y => x >>> (y &&& 31)) st
  | .iushr => a_ii (fun x y => (x.toUInt32 >>> (y.toUInt32 &&& Int32.toUInt32 31)).toInt32) st
  | .idiv => a_iin (fun x y => x / y) st
  | .irem => a_iin (fun x y => x - x / y * y) st
  | .ineg => a_i (fun x => .int (-x)) st
  | .i2l => a_i (fun x => .long x.toInt64) st
  | .i2b => a_i (fun x => .int x.toInt8.toInt32) st
  | .i2s => a_i (fun x => .int x.toInt16.toInt32) st
  | .i2c => a_i (fun x => .int (x.toUInt32 % 65536).toInt32) st
  | .ladd => a_ll (fun x y => .long (x + y)) st
  | .lsub => a_ll (fun x y => .long (x - y)) st
  | .lmul => a_ll (fun x y => .long (x * y)) st
  | .land => a_ll (fun x y => .long (x &&& y)) st
  | .lor => a_ll (fun x y => .long (x ||| y)) st
  | .lxor => a_ll (fun x y => .long (x ^^^ y)) st
  | .lcmp => a_ll (fun x y => .int (lg_cmp x y)) st
  | .ldiv => a_lln (fun x y => x / y) st
  | .lrem => a_lln (fun x y => x - x / y * y) st
  | .lneg => a_l (fun x => .long (-x)) st
  | .l2i => a_l (fun x => .int x.toInt32) st
  | .lushr => a_li (fun x y => (x.toUInt64 >>> (y.toInt64.toUInt64 &&& Int64.toUInt64 63)).toInt64) st
  | .dup => a_dup st
  | .pop => a_pop st
  | .dup2 => a_dup2 st
  | _ => none
/-- a value of one slot is stored -/
def a_pre (ls : aL) (i : Nat) : aL := match i with
  | 0 => ls
  | j + 1 => match ls[j]? with
    | some (some w) => if w.category = 2 then ls.set j none else ls
    | _ => ls
def a_set1 (ls : aL) (i : Nat) (v : Value) : aL := (a_pre ls i).set i (some v)
def a_set2 (ls : aL) (i : Nat) (v : Value) : aL := ((a_pre ls i).set i (some v)).set (i + 1) none
def a_ldi (ls : aL) (i : Nat) (st : List Value) : Option (aL × List Value) := match ls[i]? with
  | some (some (.int x)) => some (ls, .int x :: st)
  | _ => none
def a_ldl (ls : aL) (i : Nat) (st : List Value) : Option (aL × List Value) := match ls[i]? with
  | some (some (.long x)) => some (ls, .long x :: st)
  | _ => none
def a_lda (ls : aL) (i : Nat) (st : List Value) : Option (aL × List Value) := match ls[i]? with
  | some (some (.ref x)) => some (ls, .ref x :: st)
  | _ => none
def a_sti (ls : aL) (i : Nat) (st : List Value) : Option (aL × List Value) := match st with
  | .int x :: r => if i < ls.length then some (a_set1 ls i (.int x), r) else none
  | _ => none
def a_stl (ls : aL) (i : Nat) (st : List Value) : Option (aL × List Value) := match st with
  | .long x :: r => if i + 1 < ls.length then some (a_set2 ls i (.long x), r) else none
  | _ => none
def a_sta (ls : aL) (i : Nat) (st : List Value) : Option (aL × List Value) := match st with
  | .ref x :: r => if i < ls.length then some (a_set1 ls i (.ref x), r) else none
  | _ => none
def a_inc (ls : aL) (i : Nat) (n : Int) (st : List Value) : Option (aL × List Value) := match ls[i]? with
  | some (some (.int x)) => some (a_set1 ls i (.int (x + Int32.ofInt n)), st)
  | _ => none
/-- instructions on locals -/
def a_loc (i : Instr) (ls : aL) (st : List Value) : Option (aL × List Value) := match i with
  | .iload_n n => a_ldi ls (n : Nat) st
  | .iload n => a_ldi ls n st
  | .lload_n n => a_ldl ls (n : Nat) st
  | .lload n => a_ldl ls n st
  | .aload_n n => a_lda ls (n : Nat) st
  | .aload n => a_lda ls n st
  | .istore_n n => a_sti ls (n : Nat) st
  | .istore n => a_sti ls n st
  | .lstore_n n => a_stl ls (n : Nat) st
  | .lstore n => a_stl ls n st
  | .astore_n n => a_sta ls (n : Nat) st
  | .astore n => a_sta ls n st
  | .iinc n c => a_inc ls n c st
  | _ => none
def a_cnd (c : ClassFile.Cond) (x y : Int32) : Bool := match c with
  | .eq => decide (x = y)
  | .ne => !decide (x = y)
  | .lt => decide (x < y)
  | .ge => decide (y ≤ x)
  | .gt => decide (y < x)
  | .le => decide (x ≤ y)
def a_tgt (pc : Nat) (off : Int) : Option Nat := if 0 ≤ (pc : Int) + off then some ((pc : Int) + off).toNat else none
/-- jumps; where an if goes, stands in its link -/
def a_br (i : Instr) (k : aK) (pc : Nat) (st : List Value) : Option (Nat × List Value) := match i with
  | .ifCond c _ => match st with
    | .int x :: r => some (if a_cnd c x 0 then k.2.1 else pc + 3, r)
    | _ => none
  | .if_icmp c _ => match st with
    | .int y :: .int x :: r => some (if a_cnd c x y then k.2.1 else pc + 3, r)
    | _ => none
  | .goto _ => some (k.2.1, st)
  | .tableswitch d lo hi offs => match st with
    | .int x :: r => if x.toInt < lo ∨ hi < x.toInt then (a_tgt pc d).map (fun t => (t, r)) else
      match offs[(x.toInt - lo).toNat]? with
      | some o => (a_tgt pc o).map (fun t => (t, r))
      | none => none
    | _ => none
  | _ => none
/-- what a field of a type takes as it is -/
def a_fit (ty : FieldType) (v : Value) : Bool := match ty, v with
  | .int, .int _ => true
  | .long, .long _ => true
  | .boolean, .int x => decide (narrow .boolean (.int x) = .int x) && fits .boolean (.int x)
  | .char, .int x => decide (narrow .char (.int x) = .int x) && fits .char (.int x)
  | .object _, .ref _ => true
  | .array _, .ref _ => true
  | _, _ => false
/-- an answer of a stretch on the heap: stack, heap, cells made, their slots -/
abbrev aR : Type := List Value × aH × Nat × Nat
/-- the script's cell -/
def a_scr (X : aX) (i : Instr) (st : List Value) : Option (List Value) := match X, i, st with
  | some (L, xs), .iaload, .int j :: .ref 0 :: r => if j < 0 ∨ L ≤ j.toNatClampNeg then none else some (.int (xs j.toNatClampNeg) :: r)
  | some (L, _), .arraylength, .ref 0 :: r => some (.int (Int32.ofNat L) :: r)
  | _, _, _ => none
def a_get (k : aK) (st : List Value) (h : aH) : Option aR := match st with
  | .ref (o + 2) :: r => match h[o]? with
    | some (.inr (ci, fs)) => if ci = k.2.1 then match fs[k.2.2.1]? with
      | some v => some (v :: r, h, 0, 0)
      | none => none
      else none
    | _ => none
  | _ => none
def a_put (k : aK) (st : List Value) (h : aH) : Option aR := match st with
  | v :: .ref (o + 2) :: r => match h[o]? with
    | some (.inr (ci, fs)) => if ci = k.2.1 then (if k.2.2.1 < fs.length then (if a_fit (a_fty k.2.1 k.2.2.1) v then some (r, h.set o (.inr (ci, fs.set k.2.2.1 v)), 0, 0) else none) else none) else none
    | _ => none
  | _ => none
/-- ints (t 0), booleans (2), chars (3) -/
def a_ald (t : Nat) (st : List Value) (h : aH) : Option aR := match st with
  | .int j :: .ref (o + 2) :: r => match h[o]? with
    | some (.inl (t', .inl l)) => if t' = t then (if j < 0 ∨ l.length ≤ j.toNatClampNeg then none else some (.int (l.getD j.toNatClampNeg 0) :: r, h, 0, 0)) else none
    | _ => none
  | _ => none
def a_lald (st : List Value) (h : aH) : Option aR := match st with
  | .int j :: .ref (o + 2) :: r => match h[o]? with
    | some (.inl (t', .inr (.inl l))) => if t' = 1 then (if j < 0 ∨ l.length ≤ j.toNatClampNeg then none else some (.long (l.getD j.toNatClampNeg 0) :: r, h, 0, 0)) else none
    | _ => none
  | .int j :: .ref 1 :: r => if j < 0 ∨ a_so.length ≤ j.toNatClampNeg then none else some (.long (a_so.getD j.toNatClampNeg 0) :: r, h, 0, 0)
  | _ => none
def a_rv (x : Option Nat) : Value := match x with
  | some a => .ref a
  | none => .null
def a_aald (st : List Value) (h : aH) : Option aR := match st with
  | .int j :: .ref (o + 2) :: r => match h[o]? with
    | some (.inl (t', .inr (.inr l))) => if 4 ≤ t' ∧ t' < a_tys.length then (if j < 0 ∨ l.length ≤ j.toNatClampNeg then none else some (a_rv (l.getD j.toNatClampNeg none) :: r, h, 0, 0)) else none
    | _ => none
  | _ => none
def a_nar (t : Nat) (x : Int32) : Int32 := match t with
  | 2 => vp_nar .boolean x
  | 3 => vp_nar .char x
  | _ => x
def a_ast (t : Nat) (st : List Value) (h : aH) : Option aR := match st with
  | .int x :: .int j :: .ref (o + 2) :: r => match h[o]? with
    | some (.inl (t', .inl l)) => if t' = t then (if j < 0 ∨ l.length ≤ j.toNatClampNeg then none else some (r, h.set o (.inl (t', .inl (l.set j.toNatClampNeg (a_nar t x)))), 0, 0)) else none
    | _ => none
  | _ => none
def a_last (st : List Value) (h : aH) : Option aR := match st with
  | .long x :: .int j :: .ref (o + 2) :: r => match h[o]? with
    | some (.inl (t', .inr (.inl l))) => if t' = 1 then (if j < 0 ∨ l.length ≤ j.toNatClampNeg then none else some (r, h.set o (.inl (t', .inr (.inl (l.set j.toNatClampNeg x)))), 0, 0)) else none
    | _ => none
  | _ => none
/-- the number of an object's class is that of its array's kind -/
def a_aast (st : List Value) (h : aH) : Option aR := match st with
  | .ref (w + 2) :: .int j :: .ref (o + 2) :: r => match h[o]?, h[w]? with
    | some (.inl (t', .inr (.inr l))), some (.inr (ci, _)) => if 4 ≤ t' ∧ a_kind ci = some t' then (if j < 0 ∨ l.length ≤ j.toNatClampNeg then none else some (r, h.set o (.inl (t', .inr (.inr (l.set j.toNatClampNeg (some (w + 2)))))), 0, 0)) else none
    | _, _ => none
  | _ => none
def a_len (st : List Value) (h : aH) : Option aR := match st with
  | .ref (o + 2) :: r => match h[o]? with
    | some (.inl (t', .inl l)) => if t' < a_tys.length then some (.int (Int32.ofNat l.length) :: r, h, 0, 0) else none
    | some (.inl (t', .inr (.inl l))) => if t' < a_tys.length then some (.int (Int32.ofNat l.length) :: r, h, 0, 0) else none
    | some (.inl (t', .inr (.inr l))) => if t' < a_tys.length then some (.int (Int32.ofNat l.length) :: r, h, 0, 0) else none
    | _ => none
  | .ref 1 :: r => some (.int (Int32.ofNat a_so.length) :: r, h, 0, 0)
  | _ => none
def a_newa (ty : ArrayType) (st : List Value) (h : aH) : Option aR := match st with
  | .int n :: r => if n < 0 ∨ 65536 < n.toNatClampNeg then none else match ty with
    | .int => some (.ref (h.length + 2) :: r, h ++ [.inl (0, .inl (List.replicate n.toNatClampNeg 0))], 1, n.toNatClampNeg)
    | .long => some (.ref (h.length + 2) :: r, h ++ [.inl (1, .inr (.inl (List.replicate n.toNatClampNeg 0)))], 1, n.toNatClampNeg)
    | .boolean => some (.ref (h.length + 2) :: r, h ++ [.inl (2, .inl (List.replicate n.toNatClampNeg 0))], 1, n.toNatClampNeg)
    | .char => some (.ref (h.length + 2) :: r, h ++ [.inl (3, .inl (List.replicate n.toNatClampNeg 0))], 1, n.toNatClampNeg)
    | _ => none
  | _ => none
def a_newq (k : aK) (st : List Value) (h : aH) : Option aR := match st with
  | .int n :: r => if n < 0 ∨ 65536 < n.toNatClampNeg then none else
    some (.ref (h.length + 2) :: r, h ++ [.inl (k.2.1, .inr (.inr (List.replicate n.toNatClampNeg none)))], 1, n.toNatClampNeg)
  | _ => none
/-- a grid of longs -/
def a_newm (k : aK) (st : List Value) (h : aH) : Option aR := match st with
  | .int n2 :: .int n1 :: r => if n1 = 16 ∧ n2 = 16 then
      some (.ref (h.length + 2) :: r, h ++ .inl (k.2.1, .inr (.inr ((List.range 16).map (fun j => some (h.length + 3 + j))))) :: List.replicate 16 (.inl (1, .inr (.inl (List.replicate 16 0)))), 17, 272) else none
  | _ => none
def a_new (k : aK) (st : List Value) (h : aH) : Option aR :=
  some (.ref (h.length + 2) :: st, h ++ [.inr (k.2.1, (List.range (a_n k.2.1)).map (fun j => defaultValue (a_fty k.2.1 j)))], 1, a_n k.2.1)
def a_cpy (f g : List Int32) (sp dp n : Nat) : List Int32 := (List.range g.length).map (fun j => if dp ≤ j ∧ j < dp + n then f.getD (sp + (j - dp)) 0 else g.getD j 0)
def a_copy (st : List Value) (h : aH) : Option aR := match st with
  | .int n :: .int dp :: .ref (d + 2) :: .int sp :: .ref (o + 2) :: r => match h[o]?, h[d]? with
    | some (.inl (t, .inl f)), some (.inl (t', .inl g)) =>
      if t = t' ∧ (t = 0 ∨ t = 3) then
        (if sp < 0 ∨ dp < 0 ∨ n < 0 ∨ f.length < sp.toNatClampNeg + n.toNatClampNeg ∨ g.length < dp.toNatClampNeg + n.toNatClampNeg then none else
          (if t = 0 ∨ (List.range n.toNatClampNeg).all (fun i => fits .char (.int (f.getD (sp.toNatClampNeg + i) 0))) = true then
            some (r, h.set d (.inl (t', .inl (a_cpy f g sp.toNatClampNeg dp.toNatClampNeg n.toNatClampNeg))), 0, 0) else none)) else none
    | _, _ => none
  | _ => none
/-- words on the stack -/
def a_wd (st : List Value) : Nat := (st.map fun v => v.category).sum
/-- instructions on the heap -/
def a_hp (i : Instr) (k : aK) (st : List Value) (h : aH) : Option aR := match i with
  | .getfield _ => a_get k st h
  | .putfield _ => a_put k st h
  | .iaload => a_ald 0 st h
  | .baload => a_ald 2 st h
  | .caload => a_ald 3 st h
  | .laload => a_lald st h
  | .aaload => a_aald st h
  | .iastore => a_ast 0 st h
  | .bastore => a_ast 2 st h
  | .castore => a_ast 3 st h
  | .lastore => a_last st h
  | .aastore => a_aast st h
  | .arraylength => a_len st h
  | .newarray ty => a_newa ty st h
  | .anewarray _ => if k.1 = 12 then a_newq k st h else none
  | .multianewarray _ _ => if k.1 = 13 then a_newm k st h else none
  | .new _ => if k.1 = 11 then a_new k st h else none
  | .getstatic _ => if k.1 = 14 then some (.ref 1 :: st, h, 0, 0) else none
  | .invokespecial _ => if k.1 = 9 then match st with
    | .ref _ :: r => if a_wd r ≤ 8 then some (r, h, 0, 0) else none
    | _ => none
    else none
  | .invokestatic _ => if k.1 = 10 then (if a_wd (st.drop 5) ≤ 8 then a_copy st h else none) else none
  | _ => none
/-- a stretch of one instruction: where it goes, locals, stack, heap, cells, slots -/
abbrev aS : Type := Nat × aL × List Value × aH × Nat × Nat
def a_op (X : aX) (i : Instr) (len : Nat) (k : aK) (pc : Nat) (ls : aL) (st : List Value) (h : aH) : Option aS :=
  match a_stk i k st with
  | some st' => some (pc + len, ls, st', h, 0, 0)
  | none => match a_loc i ls st with
    | some (ls', st') => some (pc + len, ls', st', h, 0, 0)
    | none => match a_br i k pc st with
      | some (pc', st') => some (pc', ls, st', h, 0, 0)
      | none => match a_hp i k st h with
        | some (st', h', c, s) => some (pc + len, ls, st', h', c, s)
        | none => match a_scr X i st with
          | some st' => some (pc + len, ls, st', h, 0, 0)
          | none => none
/-- a method's end: its answer; .retAddr 0 says that it throws -/
def a_ret (i : Instr) (k : aK) (ret : Option FieldType) (st : List Value) : Option (Option Value) := match i with
  | .ireturn => match ret, st with
    | some .int, [.int x] => some (some (.int x))
    | some .boolean, [.int x] => if narrow .boolean (.int x) = .int x then some (some (.int x)) else none
    | some .char, [.int x] => if narrow .char (.int x) = .int x then some (some (.int x)) else none
    | _, _ => none
  | .lreturn => match ret, st with
    | some .long, [.long x] => some (some (.long x))
    | _, _ => none
  | .return_ => match ret, st with
    | none, [] => some none
    | _, _ => none
  | .new _ => if k.1 = 17 then match st with
    | [] => some (some (.retAddr 0))
    | _ => none
    else none
  | _ => none
def a_entry : List Value → aL
  | [] => []
  | v :: vs => if v.category = 2 then some v :: none :: a_entry vs else some v :: a_entry vs
def a_ent (as : List Value) (n : Nat) : aL := a_entry as ++ List.replicate (n - (a_entry as).length) none
def a_recv (h : aH) (v : Value) (ci : Nat) : Bool := match v with
  | .ref (o + 2) => match h[o]? with
    | some (.inr (c, _)) => decide (c = ci)
    | _ => false
  | _ => false
/-- a call: the method, its arguments, what stays on the stack -/
def a_inv (P : List aM) (i : Instr) (k : aK) (st : List Value) (h : aH) : Option (aM × List Value × List Value) :=
  match P[k.2.1]? with
  | none => none
  | some M => match i with
    | .invokevirtual _ => if k.1 = 4 ∨ k.1 = 18 then match st.drop M.2.2.2.2.1 with
      | v :: r => if a_recv h v k.2.2.1 = true ∧ a_wd r ≤ 8 ∧ (a_entry (v :: (st.take M.2.2.2.2.1).reverse)).length ≤ M.2.2.1 then some (M, v :: (st.take M.2.2.2.2.1).reverse, r) else none
      | _ => none
      else none
    | .invokespecial _ => if k.1 = 6 then match st.drop M.2.2.2.2.1 with
      | .ref o :: r => if a_wd r ≤ 8 ∧ (a_entry (.ref o :: (st.take M.2.2.2.2.1).reverse)).length ≤ M.2.2.1 then some (M, .ref o :: (st.take M.2.2.2.2.1).reverse, r) else none
      | _ => none
      else none
    | .invokestatic _ => if k.1 = 8 ∨ k.1 = 20 then
        (if M.2.2.2.2.1 ≤ st.length ∧ a_wd (st.drop M.2.2.2.2.1) ≤ 8 ∧ (a_entry (st.take M.2.2.2.2.1).reverse).length ≤ M.2.2.1 then some (M, (st.take M.2.2.2.2.1).reverse, st.drop M.2.2.2.2.1) else none)
      else none
    | _ => none
/-- an answer: what it answers, the heap, cells made, their slots -/
abbrev aQ : Type := Option Value × aH × Nat × Nat
def a_more (c s : Nat) (r : Option aQ) : Option aQ := match r with
  | some (v, h, c', s') => some (v, h, c + c', s + s')
  | none => none
/-- THE PAPER MACHINE: fuel, depth of calls, method, place, locals, stack, heap -/
def aexec (P : List aM) (X : aX) : Nat → Nat → aM → Nat → aL → List Value → aH → Option aQ
  | 0, _, _, _, _, _, _ => none
  | f + 1, d, M, pc, ls, st, h => match M.2.2.2.2.2.lookup pc with
    | none => none
    | some (i, len, k) => match a_op X i len k pc ls st h with
      | some (pc', ls', st', h', c, s) => a_more c s (aexec P X f d M pc' ls' st' h')
      | none => match a_ret i k M.2.2.2.1 st with
        | some v => match v with
          | some (.retAddr _) => some (v, h ++ [.inr (a_exc, [])], 1, 6)
          | _ => some (v, h, 0, 0)
        | none => match a_inv P i k st h with
          | none => none
          | some (M', as, rest) => match d with
            | 0 => none
            | d' + 1 => match aexec P X f d' M' 0 (a_ent as M'.2.2.1) [] h with
              | none => none
              | some (v, h1, c, s) => match v with
                | some (.retAddr _) => if k.1 = 18 then some (some (.int 1), h1, c, s) else none
                | _ => a_more c s (aexec P X f d M (pc + len) ls (v.toList ++ rest) h1)
/-! ===== links, held against the tables ===== -/
/-- a method, its sort (0 of an object, 1 static, 2 constructor, 3 static with a table), places of its words -/
abbrev aZ : Type := aM × Nat × List Nat
/-- a word stands at its place (a thousand to a stretch of the tables), and holds on -/
def a_has (j : Nat) (w : Cond) : Bool := decide ((a_chunk (j / 1000))[j % 1000]? = some w) && goodWord w
def a_good : List Cond := lw_tbl.filter goodWord
theorem a_has_in {j : Nat} {w : Cond} (h : a_has j w = true) : w ∈ a_good := by
  simp only [a_has, Bool.and_eq_true, decide_eq_true_eq] at h
  exact List.mem_filter.mpr ⟨a_chunk_in (List.mem_of_getElem? h.1), h.2⟩
def a_isN (w : Cond) : Bool := match w with
  | .fieldLinkNest _ _ _ _ _ _ => true
  | .methodLinkNest _ _ _ _ => true
  | .castable _ _ => true
  | .declares _ => true
  | _ => false
set_option maxRecDepth 20000 in
theorem a_nest_ok : ∀ w ∈ a_nest, a_isN w = true := by decide +kernel
def a_ln (i : Instr) (len : Nat) : Nat := match i with
  | .bipush _ => 2
  | .sipush _ => 3
  | .ldc _ => 2
  | .ldc_w _ => 3
  | .ldc2_w _ => 3
  | .iload _ => 2
  | .lload _ => 2
  | .aload _ => 2
  | .istore _ => 2
  | .lstore _ => 2
  | .astore _ => 2
  | .iinc _ _ => 3
  | .ifCond _ _ => 3
  | .if_icmp _ _ => 3
  | .goto _ => 3
  | .tableswitch _ _ _ _ => len
  | .getfield _ => 3
  | .putfield _ => 3
  | .getstatic _ => 3
  | .invokevirtual _ => 3
  | .invokespecial _ => 3
  | .invokestatic _ => 3
  | .new _ => 3
  | .newarray _ => 2
  | .anewarray _ => 3
  | .multianewarray _ _ => 4
  | _ => 1
def a_lkF (M : aM) (idx : Nat) (k : aK) : Bool := match vwCl[k.2.1]? with
  | some (_, T, N) => decide (k.2.2.1 < N) && a_has k.2.2.2.toNat (.fieldLink M.1.cls idx (T k.2.2.1).1 (T k.2.2.1).2.1 (T k.2.2.1).2.2.1)
  | none => false
/-- 'throw new E("text")': new; dup; ldc_w; invokespecial; athrow -/
def a_thr (M : aM) (pc idx : Nat) (k : aK) : Bool := a_has k.2.2.2.toNat (.classLink M.1.cls idx a_excN) && decide (M.1.cls = "OddsInCourt") && decide (decode M.2.1 (pc + 3) = .ok (.dup, 1)) &&
  (a_strs.any (fun q => decide (decode M.2.1 (pc + 4) = .ok (.ldc_w q.1, 3)))) && decide (decode M.2.1 (pc + 7) = .ok (.invokespecial a_ic, 3)) && decide (decode M.2.1 (pc + 10) = .ok (.athrow, 1))
/-- a handler that drops what it caught and answers 1 -/
def a_cat (M : aM) (pc hp : Nat) : Bool := match a_hh M.1 with
  | [(a, b, h, t)] => decide (a ≤ pc) && decide (pc < b) && decide (h = hp) && decide (t ≠ 0) && decide (M.2.2.2.1 = some .int) && (match decode M.2.1 hp with
    | .ok (.astore n, 2) => decide (n < M.2.2.1) && decide (M.2.2.2.2.2.lookup (hp + 2) = some (.iconst 1, 1, 0, 0, 0, 0)) && decide (M.2.2.2.2.2.lookup (hp + 3) = some (.ireturn, 1, 0, 0, 0, 0))
    | .ok (.astore_n n, 1) => decide ((n : Nat) < M.2.2.1) && decide (M.2.2.2.2.2.lookup (hp + 1) = some (.iconst 1, 1, 0, 0, 0, 0)) && decide (M.2.2.2.2.2.lookup (hp + 2) = some (.ireturn, 1, 0, 0, 0, 0))
    | _ => false)
  | _ => false
/-- an instruction's link is what the tables say -/
def a_lk (Z : List aZ) (M : aM) (pc : Nat) (i : Instr) (k : aK) : Bool := match i with
  | .ldc idx => if k.1 = 15 then a_has k.2.1 (.constant M.1.cls idx (Int32.ofInt k.2.2.2)) else true
  | .ldc_w idx => if k.1 = 15 then a_has k.2.1 (.constant M.1.cls idx (Int32.ofInt k.2.2.2)) else true
  | .ldc2_w idx => if k.1 = 16 then a_has k.2.1 (.constantLong M.1.cls idx (Int64.ofInt k.2.2.2)) else true
  | .ifCond _ off => decide ((pc : Int) + off = (k.2.1 : Int))
  | .if_icmp _ off => decide ((pc : Int) + off = (k.2.1 : Int))
  | .goto off => decide ((pc : Int) + off = (k.2.1 : Int))
  | .getfield idx => decide (k.1 = 1) && a_lkF M idx k
  | .putfield idx => a_lkF M idx k && (match vwCl[k.2.1]? with
    | some (_, T, _) => (decide (k.1 = 1) && !(T k.2.2.1).2.2.2) || (decide (k.1 = 3) && (T k.2.2.1).2.2.2 && decide (M.1.name = "<init>") && decide ((T k.2.2.1).1 = M.1.cls))
    | none => false)
  | .newarray ty => a_has k.2.2.2.toNat (.arrayClass (newarray.typeOf ty))
  | .anewarray idx => if k.1 = 12 then (match a_tys[k.2.1]? with
    | some (.object C) => a_has k.2.2.2.toNat (.classLink M.1.cls idx C) && decide (C ∈ a_over)
    | _ => false) else true
  | .multianewarray idx dims => if k.1 = 13 then a_has k.2.2.2.toNat (.classLink M.1.cls idx "[[J") && decide (k.2.1 = 6) && decide (dims = 2) else true
  | .new idx => if k.1 = 17 then a_thr M pc idx k else if k.1 = 11 then (match vwCl[k.2.1]? with
    | some (C, _, N) => decide (N = a_n k.2.1) && decide (k.2.1 < 13) && a_has k.2.2.2.toNat (.classLink M.1.cls idx C)
    | none => false) else true
  | .getstatic idx => if k.1 = 14 then a_has k.2.2.2.toNat (.fieldLink M.1.cls idx a_soC a_soN "[J") else true
  | .invokespecial idx => if k.1 = 9 then a_has k.2.2.2.toNat (.methodLink M.1.cls idx objectInit) else (match Z[k.2.1]? with
    | some (M', t, _) => decide (t = 2) && a_has k.2.2.2.toNat (.methodLink M.1.cls idx M'.1)
    | none => false)
  | .invokestatic idx => if k.1 = 10 then a_has k.2.2.2.toNat (.methodLink M.1.cls idx arraycopyName) else (match Z[k.2.1]? with
    | some (M', t, _) => decide (t = 1 ∧ k.1 = 8 ∨ t = 3 ∧ k.1 = 20) && a_has k.2.2.2.toNat (.methodLink M.1.cls idx M'.1)
    | none => false)
  | .invokevirtual idx => (match Z[k.2.1]? with
    | some (M', t, _) => decide (t = 0) && a_has (k.2.2.2.toNat % 100000) (.methodLink M.1.cls idx M'.1) && (match vwCl[k.2.2.1]? with
      | some (C, _, _) => decide (C = M'.1.cls)
      | none => false) && (if k.1 = 18 then a_cat M pc (k.2.2.2.toNat / 100000) else true)
    | none => false)
  | _ => true
def a_okb (Z : List aZ) (M : aM) (q : Nat × aI) : Bool := decide (decode M.2.1 q.1 = .ok (q.2.1, q.2.2.1)) && decide (a_ln q.2.1 q.2.2.1 = q.2.2.1) && a_lk Z M q.1 q.2.1 q.2.2.2
/-- a method's own words -/
def a_mb (q : aZ) : Bool := decide (q.1.2.2.1 ≤ 41) && decide (q.1.1.cls ≠ "java/lang/invoke/MethodHandle") && decide (q.1.1.cls ≠ "java/lang/invoke/VarHandle") && decide ((parseMethodDescriptor q.1.1.desc).map (fun d => d.parameters.length) = some q.1.2.2.2.2.1) && plainFor q.1.1 &&
  a_has (q.2.2.getD 0 0) (.initialized q.1.1.cls) && (match q.2.1 with
  | 0 => a_has (q.2.2.getD 1 0) (.code q.1.1 q.1.2.1 q.1.2.2.1 q.1.2.2.2.1) && a_has (q.2.2.getD 2 0) (.instanceMethod q.1.1) && a_has (q.2.2.getD 3 0) (.selects q.1.1.cls q.1.1 q.1.1)
  | 1 => a_has (q.2.2.getD 1 0) (.code q.1.1 q.1.2.1 q.1.2.2.1 q.1.2.2.2.1) && a_has (q.2.2.getD 2 0) (.static q.1.1)
  | 2 => a_has (q.2.2.getD 1 0) (.code q.1.1 q.1.2.1 q.1.2.2.1 q.1.2.2.2.1) && a_has (q.2.2.getD 2 0) (.instanceMethod q.1.1) && decide (q.1.1.name = "<init>") && decide (q.1.2.2.2.1 = none)
  | 3 => a_has (q.2.2.getD 1 0) (.codeWith q.1.1 q.1.2.1 q.1.2.2.1 q.1.2.2.2.1 (a_hh q.1.1)) && a_has (q.2.2.getD 2 0) (.static q.1.1) && (match a_hh q.1.1 with
    | [(_, _, _, t)] => a_has (q.2.2.getD 3 0) (.classLink q.1.1.cls t a_excN)
    | _ => false)
  | _ => false)
/-- a class's own words -/
def a_clb (ci : Nat) : Bool := match vwCl[ci]? with
  | some (C, T, N) => decide (N = a_n ci) && (List.range N).all (fun k => a_has ((a_clP.getD ci []).getD k 0) (u_lay C T k) && decide (parseFieldDescriptor (T k).2.2.1 = some (a_fty ci k)) && (List.range N).all (fun b => decide (k = b) || decide ((T k).2.1 ≠ (T b).2.1))) &&
      (decide (ci = 13) || (a_has (a_clI.getD ci 0) (.instantiable C N) && a_has (a_clJ.getD ci 0) (.initialized C)))
  | none => true
set_option maxRecDepth 20000 in
theorem a_clAll : (List.range 14).all a_clb = true := by decide +kernel
theorem a_cl_ok {ci : Nat} {C : String} {T : u_T} {N : Nat} (h : vwCl[ci]? = some (C, T, N)) : N = a_n ci ∧ (∀ k, k < N → u_lay C T k ∈ a_good ∧ parseFieldDescriptor (T k).2.2.1 = some (a_fty ci k) ∧ ∀ b, b < N → k ≠ b → (T k).2.1 ≠ (T b).2.1) ∧ (ci = 13 ∨ (Cond.instantiable C N ∈ a_good ∧ Cond.initialized C ∈ a_good)) := by
  have hci : ci < 14 := by
    have := (List.getElem?_eq_some_iff.mp h).1
    exact this
  have h1 := List.all_eq_true.mp a_clAll ci (List.mem_range.mpr hci)
  unfold a_clb at h1
  rw [h] at h1
  simp only [Bool.and_eq_true, decide_eq_true_eq, List.all_eq_true, List.mem_range, Bool.or_eq_true] at h1
  obtain ⟨⟨h1, h2⟩, h3⟩ := h1
  refine ⟨h1, fun k hk => ?_, ?_⟩
  · obtain ⟨⟨q1, q2⟩, q3⟩ := h2 k hk
    refine ⟨a_has_in q1, q2, fun b hb hne => ?_⟩
    rcases q3 b hb with q | q
    · exact absurd q hne
    · exact q
  · rcases h3 with q | ⟨q1, q2⟩
    · exact Or.inl q
    · exact Or.inr ⟨a_has_in q1, a_has_in q2⟩
theorem a_inC {ci : Nat} {C : String} {T : u_T} {N : Nat} (h : vwCl[ci]? = some (C, T, N)) : ∀ w ∈ u_ws C T N, w ∈ a_good := by
  intro w hw
  obtain ⟨k, hk, rfl⟩ := List.mem_map.mp hw
  exact ((a_cl_ok h).2.1 k (List.mem_range.mp hk)).1
theorem a_ftyOK {ci : Nat} {C : String} {T : u_T} {N : Nat} (h : vwCl[ci]? = some (C, T, N)) : ∀ k, k < N → parseFieldDescriptor (T k).2.2.1 = some (a_fty ci k) := fun k hk => ((a_cl_ok h).2.1 k hk).2.1
theorem a_nm {ci : Nat} {C : String} {T : u_T} {N : Nat} (h : vwCl[ci]? = some (C, T, N)) : ∀ a, a < N → ∀ b, b < N → a ≠ b → (T a).2.1 ≠ (T b).2.1 := fun a ha b hb hne => ((a_cl_ok h).2.1 a ha).2.2 b hb hne
theorem a_ty0 : a_tys[0]? = some .int := rfl
theorem a_ty1 : a_tys[1]? = some .long := rfl
theorem a_ty2 : a_tys[2]? = some .boolean := rfl
theorem a_ty3 : a_tys[3]? = some .char := rfl
theorem a_ty6 : a_tys[6]? = some (.array .long) := rfl
theorem a_tyR {t : Nat} (h1 : 4 ≤ t) (h2 : t < a_tys.length) : ∃ ty, a_tys[t]? = some ty ∧ ty.isReference = true := by
  have h2' : t < 7 := h2
  rcases (show t = 4 ∨ t = 5 ∨ t = 6 by omega) with rfl | rfl | rfl
  · exact ⟨_, rfl, rfl⟩
  · exact ⟨_, rfl, rfl⟩
  · exact ⟨_, rfl, rfl⟩
theorem a_kindOK {ci t : Nat} (h : a_kind ci = some t) : ∃ C T N, vwCl[ci]? = some (C, T, N) ∧ a_tys[t]? = some (.object C) := by
  unfold a_kind at h
  split at h
  · rename_i e; cases h; subst e; exact ⟨_, _, _, rfl, rfl⟩
  · split at h
    · rename_i e; cases h; subst e; exact ⟨_, _, _, rfl, rfl⟩
    · cases h
theorem a_plOK : (Cond.instanceMethod objectInit ∈ a_good ∧ Cond.code objectInit ⟨#[0xb1]⟩ 1 none ∈ a_good) ∧ (Cond.native arraycopyName ∈ a_good ∧ Cond.static arraycopyName ∈ a_good ∧ Cond.initialized "java/lang/System" ∈ a_good) :=
  ⟨⟨a_has_in (j := a_pl.getD 0 0) (by decide +kernel), a_has_in (j := a_pl.getD 1 0) (by decide +kernel)⟩, a_has_in (j := a_pl.getD 2 0) (by decide +kernel), a_has_in (j := a_pl.getD 3 0) (by decide +kernel), a_has_in (j := a_pl.getD 4 0) (by decide +kernel)⟩
section ALK
variable {Z : List aZ} {M M' : aM} {pc idx : Nat} {k : aK}
theorem a_lkF_s (h : a_lkF M idx k = true) : ∃ C T N, vwCl[k.2.1]? = some (C, T, N) ∧ k.2.2.1 < N ∧ Cond.fieldLink M.1.cls idx (T k.2.2.1).1 (T k.2.2.1).2.1 (T k.2.2.1).2.2.1 ∈ a_good := by
  unfold a_lkF at h
  split at h
  · rename_i C T N hc
    simp only [Bool.and_eq_true, decide_eq_true_eq] at h
    exact ⟨C, T, N, hc, h.1, a_has_in h.2⟩
  · cases h
theorem a_lk_get (h : a_lk Z M pc (.getfield idx) k = true) : ∃ C T N, vwCl[k.2.1]? = some (C, T, N) ∧ k.2.2.1 < N ∧ Cond.fieldLink M.1.cls idx (T k.2.2.1).1 (T k.2.2.1).2.1 (T k.2.2.1).2.2.1 ∈ a_good := by
  simp only [a_lk, Bool.and_eq_true] at h
  exact a_lkF_s h.2
theorem a_lk_put (h : a_lk Z M pc (.putfield idx) k = true) : ∃ C T N, vwCl[k.2.1]? = some (C, T, N) ∧ k.2.2.1 < N ∧ ((Cond.fieldLink M.1.cls idx (T k.2.2.1).1 (T k.2.2.1).2.1 (T k.2.2.1).2.2.1 ∈ a_good ∧ (T k.2.2.1).2.2.2 = false) ∨ (Cond.fieldLink M.1.cls idx (T k.2.2.1).1 (T k.2.2.1).2.1 (T k.2.2.1).2.2.1 ∈ a_good ∧ (T k.2.2.1).2.2.2 = true ∧ M.1.name = "<init>" ∧ (T k.2.2.1).1 = M.1.cls)) := by
  simp only [a_lk, Bool.and_eq_true] at h
  obtain ⟨C, T, N, hc, hn, hl⟩ := a_lkF_s h.1
  refine ⟨C, T, N, hc, hn, ?_⟩
  have h2 := h.2
  rw [hc] at h2
  simp only [Bool.or_eq_true, Bool.and_eq_true, decide_eq_true_eq, Bool.not_eq_true'] at h2
  rcases h2 with q | q
  · exact Or.inl ⟨hl, q.2⟩
  · exact Or.inr ⟨hl, q.1.1.2, q.1.2, q.2⟩
theorem a_lk_newq (hk : k.1 = 12) (h : a_lk Z M pc (.anewarray idx) k = true) : ∃ C, a_tys[k.2.1]? = some (.object C) ∧ Cond.classLink M.1.cls idx C ∈ a_good ∧ C ∈ a_over := by
  simp only [a_lk, hk, if_true] at h
  split at h
  · rename_i C hc
    simp only [Bool.and_eq_true, decide_eq_true_eq] at h
    exact ⟨C, hc, a_has_in h.1, h.2⟩
  · cases h
theorem a_lk_new (hk : k.1 = 11) (h : a_lk Z M pc (.new idx) k = true) : ∃ C T N, vwCl[k.2.1]? = some (C, T, N) ∧ a_n k.2.1 = N ∧ Cond.classLink M.1.cls idx C ∈ a_good ∧ Cond.instantiable C N ∈ a_good ∧ Cond.initialized C ∈ a_good := by
  simp only [a_lk, hk, if_true, show ¬ ((11 : Nat) = 17) by decide, if_false] at h
  split at h
  · rename_i C T N hc
    simp only [Bool.and_eq_true, decide_eq_true_eq] at h
    obtain ⟨g1, g2, g3⟩ := a_cl_ok hc
    rcases g3 with q | q
    · have := h.1.2; omega
    · exact ⟨C, T, N, hc, g1.symm, a_has_in h.2, q.1, q.2⟩
  · cases h
theorem a_lk_sta (hk : k.1 = 14) (h : a_lk Z M pc (.getstatic idx) k = true) : Cond.fieldLink M.1.cls idx a_soC a_soN "[J" ∈ a_good := by
  simp only [a_lk, hk, if_true] at h
  exact a_has_in h
theorem a_lk_obj (hk : k.1 = 9) (h : a_lk Z M pc (.invokespecial idx) k = true) : Cond.methodLink M.1.cls idx objectInit ∈ a_good ∧ Cond.instanceMethod objectInit ∈ a_good ∧ Cond.code objectInit ⟨#[0xb1]⟩ 1 none ∈ a_good := by
  simp only [a_lk, hk, if_true] at h
  exact ⟨a_has_in h, a_plOK.1.1, a_plOK.1.2⟩
theorem a_lk_copy (hk : k.1 = 10) (h : a_lk Z M pc (.invokestatic idx) k = true) : Cond.methodLink M.1.cls idx arraycopyName ∈ a_good ∧ Cond.native arraycopyName ∈ a_good ∧ Cond.static arraycopyName ∈ a_good ∧ Cond.initialized "java/lang/System" ∈ a_good := by
  simp only [a_lk, hk, if_true] at h
  exact ⟨a_has_in h, a_plOK.2.1, a_plOK.2.2.1, a_plOK.2.2.2⟩
/-- a method that a call names -/
def a_ZOK (Z : List aZ) : Prop := ∀ q ∈ Z, a_mb q = true ∧ ∀ e ∈ q.1.2.2.2.2.2, a_okb Z q.1 e = true
theorem a_mb_s {q : aZ} (h : a_mb q = true) : q.1.2.2.1 ≤ 41 ∧ (q.1.1.cls ≠ "java/lang/invoke/MethodHandle" ∧ q.1.1.cls ≠ "java/lang/invoke/VarHandle" ∧ (parseMethodDescriptor q.1.1.desc).map (fun d => d.parameters.length) = some q.1.2.2.2.2.1) ∧ plainFor q.1.1 = true ∧ Cond.initialized q.1.1.cls ∈ a_good ∧
    (q.2.1 = 0 → Cond.code q.1.1 q.1.2.1 q.1.2.2.1 q.1.2.2.2.1 ∈ a_good ∧ Cond.instanceMethod q.1.1 ∈ a_good ∧ Cond.selects q.1.1.cls q.1.1 q.1.1 ∈ a_good) ∧ (q.2.1 = 1 → Cond.code q.1.1 q.1.2.1 q.1.2.2.1 q.1.2.2.2.1 ∈ a_good ∧ Cond.static q.1.1 ∈ a_good) ∧
    (q.2.1 = 2 → Cond.code q.1.1 q.1.2.1 q.1.2.2.1 q.1.2.2.2.1 ∈ a_good ∧ Cond.instanceMethod q.1.1 ∈ a_good ∧ q.1.1.name = "<init>" ∧ q.1.2.2.2.1 = none) ∧ (q.2.1 = 3 → Cond.codeWith q.1.1 q.1.2.1 q.1.2.2.1 q.1.2.2.2.1 (a_hh q.1.1) ∈ a_good ∧ Cond.static q.1.1 ∈ a_good ∧ ∃ a b h t, a_hh q.1.1 = [(a, b, h, t)] ∧ Cond.classLink q.1.1.cls t a_excN ∈ a_good) := by
  unfold a_mb at h
  simp only [Bool.and_eq_true, decide_eq_true_eq] at h
  obtain ⟨⟨⟨⟨⟨⟨h1, h2⟩, h3⟩, h4⟩, h5⟩, h6⟩, h7⟩ := h
  refine ⟨h1, ⟨h2, h3, h4⟩, h5, a_has_in h6, fun e => ?_, fun e => ?_, fun e => ?_, fun e => ?_⟩
  · rw [e] at h7
    simp only [Bool.and_eq_true] at h7
    exact ⟨a_has_in h7.1.1, a_has_in h7.1.2, a_has_in h7.2⟩
  · rw [e] at h7
    simp only [Bool.and_eq_true] at h7
    exact ⟨a_has_in h7.1, a_has_in h7.2⟩
  · rw [e] at h7
    simp only [Bool.and_eq_true, decide_eq_true_eq] at h7
    exact ⟨a_has_in h7.1.1.1, a_has_in h7.1.1.2, h7.1.2, h7.2⟩
  · rw [e] at h7
    simp only [Bool.and_eq_true] at h7
    refine ⟨a_has_in h7.1.1, a_has_in h7.1.2, ?_⟩
    have h8 := h7.2
    split at h8
    · rename_i a b h t e1
      exact ⟨a, b, h, t, e1, a_has_in h8⟩
    · cases h8
theorem a_lk_virt {q : aZ} (hq : Z[k.2.1]? = some q) (h : a_lk Z M pc (.invokevirtual idx) k = true) : q.2.1 = 0 ∧ Cond.methodLink M.1.cls idx q.1.1 ∈ a_good ∧ (∃ T N, vwCl[k.2.2.1]? = some (q.1.1.cls, T, N)) ∧ (k.1 = 18 → a_cat M pc (k.2.2.2.toNat / 100000) = true) := by
  simp only [a_lk] at h
  rw [hq] at h
  simp only [Bool.and_eq_true, decide_eq_true_eq] at h
  refine ⟨h.1.1.1, a_has_in h.1.1.2, ?_, fun e => by have h3 := h.2; rw [if_pos e] at h3; exact h3⟩
  have h2 := h.1.2
  split at h2
  · rename_i C T N hc
    have e := of_decide_eq_true h2
    rw [e] at hc
    exact ⟨T, N, hc⟩
  · cases h2
theorem a_lk_init {q : aZ} (hq : Z[k.2.1]? = some q) (hk : k.1 = 6) (h : a_lk Z M pc (.invokespecial idx) k = true) : q.2.1 = 2 ∧ Cond.methodLink M.1.cls idx q.1.1 ∈ a_good := by
  simp only [a_lk, hk, show ¬ ((6 : Nat) = 9) by decide, if_false] at h
  rw [hq] at h
  simp only [Bool.and_eq_true, decide_eq_true_eq] at h
  exact ⟨h.1, a_has_in h.2⟩
theorem a_lk_stat {q : aZ} (hq : Z[k.2.1]? = some q) (hk : k.1 = 8 ∨ k.1 = 20) (h : a_lk Z M pc (.invokestatic idx) k = true) : (q.2.1 = 1 ∧ k.1 = 8 ∨ q.2.1 = 3 ∧ k.1 = 20) ∧ Cond.methodLink M.1.cls idx q.1.1 ∈ a_good := by
  simp only [a_lk] at h
  rw [if_neg (by rcases hk with e | e <;> rw [e] <;> decide), hq] at h
  simp only [Bool.and_eq_true, decide_eq_true_eq] at h
  exact ⟨h.1, a_has_in h.2⟩
end ALK
