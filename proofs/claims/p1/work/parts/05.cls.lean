-- the classes whose objects the heap holds: fields in the order of their slots
def kT0 : u_T := fun k => match k with
  | 0 => ("WordWright", "languages", "[LWordWright$Language;", true)
  | 1 => ("WordWright", "languageCount", "I", false)
  | 2 => ("WordWright", "machines", "[LWordWright$Machine;", true)
  | 3 => ("WordWright", "machineCount", "I", false)
  | 4 => ("WordWright", "built", "LWordWright$Language;", true)
  | 5 => ("WordWright", "ways", "[I", true)
  | 6 => ("WordWright", "workshop", "LWordWright$Workshop;", true)
  | 7 => ("WordWright", "search", "LWordWright$Search;", true)
  | 8 => ("WordWright", "writings", "LWordWright$Writings;", true)
  | 9 => ("WordWright", "equations", "LWordWright$Equations;", true)
  | 10 => ("WordWright", "solver", "LWordWright$Solver;", true)
  | 11 => ("WordWright", "schemas", "LWordWright$Schemas;", true)
  | _ => ("WordWright", "program", "LWordWright$Program;", true)
def kY0 : Nat → FieldType := fun k => match k with
  | 0 => .array (.object "WordWright$Language")
  | 1 => .int
  | 2 => .array (.object "WordWright$Machine")
  | 3 => .int
  | 4 => .object "WordWright$Language"
  | 5 => .array (.int)
  | 6 => .object "WordWright$Workshop"
  | 7 => .object "WordWright$Search"
  | 8 => .object "WordWright$Writings"
  | 9 => .object "WordWright$Equations"
  | 10 => .object "WordWright$Solver"
  | 11 => .object "WordWright$Schemas"
  | _ => .object "WordWright$Program"
def kT1 : u_T := fun k => match k with
  | 0 => ("WordWright$Draft", "count", "I", false)
  | 1 => ("WordWright$Draft", "keys", "[J", true)
  | 2 => ("WordWright$Draft", "isEnd", "[Z", true)
  | 3 => ("WordWright$Draft", "to", "[I", true)
  | 4 => ("WordWright$Draft", "places", "[I", true)
  | 5 => ("WordWright$Draft", "base", "I", false)
  | 6 => ("WordWright$Draft", "group", "[I", false)
  | 7 => ("WordWright$Draft", "finer", "[I", false)
  | 8 => ("WordWright$Draft", "signs", "[I", true)
  | 9 => ("WordWright$Draft", "samples", "[I", true)
  | 10 => ("WordWright$Draft", "order", "[I", true)
  | _ => ("WordWright$Draft", "numbers", "[I", true)
def kY1 : Nat → FieldType := fun k => match k with
  | 0 => .int
  | 1 => .array (.long)
  | 2 => .array (.boolean)
  | 3 => .array (.int)
  | 4 => .array (.int)
  | 5 => .int
  | 6 => .array (.int)
  | 7 => .array (.int)
  | 8 => .array (.int)
  | 9 => .array (.int)
  | 10 => .array (.int)
  | _ => .array (.int)
def kT2 : u_T := fun k => match k with
  | 0 => ("WordWright$Equations", "language", "[I", true)
  | 1 => ("WordWright$Equations", "most", "[I", true)
  | 2 => ("WordWright$Equations", "count", "I", false)
  | 3 => ("WordWright$Equations", "symbols", "[I", true)
  | 4 => ("WordWright$Equations", "lengths", "[I", true)
  | 5 => ("WordWright$Equations", "isSolved", "Z", false)
  | 6 => ("WordWright$Equations", "found", "I", false)
  | _ => ("WordWright$Equations", "first", "[I", true)
def kY2 : Nat → FieldType := fun k => match k with
  | 0 => .array (.int)
  | 1 => .array (.int)
  | 2 => .int
  | 3 => .array (.int)
  | 4 => .array (.int)
  | 5 => .boolean
  | 6 => .int
  | _ => .array (.int)
def kT3 : u_T := fun k => match k with
  | 0 => ("WordWright$Language", "size", "I", false)
  | 1 => ("WordWright$Language", "ends", "I", false)
  | _ => ("WordWright$Language", "to", "[I", true)
def kY3 : Nat → FieldType := fun k => match k with
  | 0 => .int
  | 1 => .int
  | _ => .array (.int)
def kT4 : u_T := fun k => match k with
  | 0 => ("WordWright$Machine", "arcs", "I", false)
  | 1 => ("WordWright$Machine", "ends", "I", false)
  | 2 => ("WordWright$Machine", "from", "[I", true)
  | 3 => ("WordWright$Machine", "read", "[I", true)
  | 4 => ("WordWright$Machine", "to", "[I", true)
  | _ => ("WordWright$Machine", "wrote", "[I", true)
def kY4 : Nat → FieldType := fun k => match k with
  | 0 => .int
  | 1 => .int
  | 2 => .array (.int)
  | 3 => .array (.int)
  | 4 => .array (.int)
  | _ => .array (.int)
def kT5 : u_T := fun k => match k with
  | 0 => ("WordWright$Program", "count", "I", false)
  | 1 => ("WordWright$Program", "sorts", "[I", true)
  | 2 => ("WordWright$Program", "as", "[I", true)
  | 3 => ("WordWright$Program", "bs", "[I", true)
  | 4 => ("WordWright$Program", "cs", "[I", true)
  | 5 => ("WordWright$Program", "came", "[Z", true)
  | 6 => ("WordWright$Program", "spans", "[LWordWright$Language;", true)
  | 7 => ("WordWright$Program", "rounds", "I", false)
  | 8 => ("WordWright$Program", "isSeen", "Z", false)
  | 9 => ("WordWright$Program", "passed", "[LWordWright$Language;", true)
  | 10 => ("WordWright$Program", "whole", "LWordWright$Language;", true)
  | _ => ("WordWright$Program", "merged", "LWordWright$Language;", true)
def kY5 : Nat → FieldType := fun k => match k with
  | 0 => .int
  | 1 => .array (.int)
  | 2 => .array (.int)
  | 3 => .array (.int)
  | 4 => .array (.int)
  | 5 => .array (.boolean)
  | 6 => .array (.object "WordWright$Language")
  | 7 => .int
  | 8 => .boolean
  | 9 => .array (.object "WordWright$Language")
  | 10 => .object "WordWright$Language"
  | _ => .object "WordWright$Language"
def kT6 : u_T := fun k => match k with
  | 0 => ("WordWright$Schemas", "count", "I", false)
  | 1 => ("WordWright$Schemas", "content", "[I", true)
  | 2 => ("WordWright$Schemas", "nodes", "I", false)
  | 3 => ("WordWright$Schemas", "parents", "[I", true)
  | 4 => ("WordWright$Schemas", "letters", "[I", true)
  | 5 => ("WordWright$Schemas", "weights", "[I", true)
  | 6 => ("WordWright$Schemas", "distances", "[I", true)
  | _ => ("WordWright$Schemas", "copier", "LWordWright$Machine;", true)
def kY6 : Nat → FieldType := fun k => match k with
  | 0 => .int
  | 1 => .array (.int)
  | 2 => .int
  | 3 => .array (.int)
  | 4 => .array (.int)
  | 5 => .array (.int)
  | 6 => .array (.int)
  | _ => .object "WordWright$Machine"
def kT7 : u_T := fun k => match k with
  | 0 => ("WordWright$Search", "copier", "LWordWright$Machine;", true)
  | 1 => ("WordWright$Search", "nothing", "LWordWright$Language;", true)
  | 2 => ("WordWright$Search", "words", "[I", true)
  | 3 => ("WordWright$Search", "queue", "[I", true)
  | 4 => ("WordWright$Search", "queued", "I", false)
  | 5 => ("WordWright$Search", "leads", "[I", true)
  | _ => ("WordWright$Search", "rounds", "[I", true)
def kY7 : Nat → FieldType := fun k => match k with
  | 0 => .object "WordWright$Machine"
  | 1 => .object "WordWright$Language"
  | 2 => .array (.int)
  | 3 => .array (.int)
  | 4 => .int
  | 5 => .array (.int)
  | _ => .array (.int)
def kT8 : u_T := fun k => match k with
  | 0 => ("WordWright$Solver", "found", "I", false)
  | 1 => ("WordWright$Solver", "first", "[I", true)
  | 2 => ("WordWright$Solver", "allowed", "[I", true)
  | 3 => ("WordWright$Solver", "length", "[I", true)
  | 4 => ("WordWright$Solver", "ties", "[I", true)
  | 5 => ("WordWright$Solver", "spelled", "[I", true)
  | 6 => ("WordWright$Solver", "team", "[I", true)
  | 7 => ("WordWright$Solver", "open", "[I", true)
  | 8 => ("WordWright$Solver", "opened", "I", false)
  | 9 => ("WordWright$Solver", "values", "[I", true)
  | _ => ("WordWright$Solver", "guess", "[I", true)
def kY8 : Nat → FieldType := fun k => match k with
  | 0 => .int
  | 1 => .array (.int)
  | 2 => .array (.int)
  | 3 => .array (.int)
  | 4 => .array (.int)
  | 5 => .array (.int)
  | 6 => .array (.int)
  | 7 => .array (.int)
  | 8 => .int
  | 9 => .array (.int)
  | _ => .array (.int)
def kT9 : u_T := fun k => match k with
  | _ => ("WordWright$Workshop", "draft", "LWordWright$Draft;", true)
def kY9 : Nat → FieldType := fun k => match k with
  | _ => .object "WordWright$Draft"
def kT10 : u_T := fun k => match k with
  | _ => ("WordWright$Writings", "states", "[I", true)
def kY10 : Nat → FieldType := fun k => match k with
  | _ => .array (.int)
def kT11 : u_T := fun k => match k with
  | 0 => ("WordWrightModel", "thrown", "I", false)
  | 1 => ("WordWrightModel", "all", "LWordWrightModel$Dfa;", true)
  | 2 => ("WordWrightModel", "languages", "Ljava/util/List;", true)
  | 3 => ("WordWrightModel", "machines", "Ljava/util/List;", true)
  | 4 => ("WordWrightModel", "equations", "LWordWrightModel$Equations;", true)
  | 5 => ("WordWrightModel", "schemas", "Ljava/util/List;", true)
  | 6 => ("WordWrightModel", "letters", "[I", true)
  | 7 => ("WordWrightModel", "parents", "[I", true)
  | 8 => ("WordWrightModel", "nodes", "I", false)
  | _ => ("WordWrightModel", "steps", "Ljava/util/List;", true)
def kY11 : Nat → FieldType := fun k => match k with
  | 0 => .int
  | 1 => .object "WordWrightModel$Dfa"
  | 2 => .object "java/util/List"
  | 3 => .object "java/util/List"
  | 4 => .object "WordWrightModel$Equations"
  | 5 => .object "java/util/List"
  | 6 => .array (.int)
  | 7 => .array (.int)
  | 8 => .int
  | _ => .object "java/util/List"
def kT12 : u_T := fun k => match k with
  | 0 => ("WordWrightModel$1", "val$kind", "I", true)
  | _ => ("WordWrightModel$1", "val$a", "I", true)
def kY12 : Nat → FieldType := fun k => match k with
  | 0 => .int
  | _ => .int
def kT13 : u_T := fun k => match k with
  | 0 => ("WordWrightModel$2", "val$a", "LWordWrightModel$Dfa;", true)
  | 1 => ("WordWrightModel$2", "val$b", "LWordWrightModel$Dfa;", true)
  | _ => ("WordWrightModel$2", "val$kind", "I", true)
def kY13 : Nat → FieldType := fun k => match k with
  | 0 => .object "WordWrightModel$Dfa"
  | 1 => .object "WordWrightModel$Dfa"
  | _ => .int
def kT14 : u_T := fun k => match k with
  | 0 => ("WordWrightModel$3", "val$a", "LWordWrightModel$Dfa;", true)
  | _ => ("WordWrightModel$3", "val$b", "LWordWrightModel$Dfa;", true)
def kY14 : Nat → FieldType := fun k => match k with
  | 0 => .object "WordWrightModel$Dfa"
  | _ => .object "WordWrightModel$Dfa"
def kT15 : u_T := fun k => match k with
  | _ => ("WordWrightModel$4", "val$a", "LWordWrightModel$Dfa;", true)
def kY15 : Nat → FieldType := fun k => match k with
  | _ => .object "WordWrightModel$Dfa"
def kT16 : u_T := fun k => match k with
  | _ => ("WordWrightModel$5", "val$a", "LWordWrightModel$Dfa;", true)
def kY16 : Nat → FieldType := fun k => match k with
  | _ => .object "WordWrightModel$Dfa"
def kT17 : u_T := fun k => match k with
  | 0 => ("WordWrightModel$6", "val$a", "LWordWrightModel$Dfa;", true)
  | _ => ("WordWrightModel$6", "val$live", "[Z", true)
def kY17 : Nat → FieldType := fun k => match k with
  | 0 => .object "WordWrightModel$Dfa"
  | _ => .array (.boolean)
def kT18 : u_T := fun k => match k with
  | 0 => ("WordWrightModel$9", "val$a", "LWordWrightModel$Dfa;", true)
  | _ => ("WordWrightModel$9", "val$b", "LWordWrightModel$Dfa;", true)
def kY18 : Nat → FieldType := fun k => match k with
  | 0 => .object "WordWrightModel$Dfa"
  | _ => .object "WordWrightModel$Dfa"
def kT19 : u_T := fun k => match k with
  | 0 => ("WordWrightModel$Dfa", "n", "I", true)
  | 1 => ("WordWrightModel$Dfa", "next", "[I", true)
  | _ => ("WordWrightModel$Dfa", "ends", "[Z", true)
def kY19 : Nat → FieldType := fun k => match k with
  | 0 => .int
  | 1 => .array (.int)
  | _ => .array (.boolean)
def kT20 : u_T := fun k => match k with
  | 0 => ("WordWrightModel$Equations", "all", "Ljava/util/List;", true)
  | 1 => ("WordWrightModel$Equations", "languages", "[LWordWrightModel$Dfa;", true)
  | 2 => ("WordWrightModel$Equations", "mosts", "[I", true)
  | 3 => ("WordWrightModel$Equations", "domains", "[[I", true)
  | 4 => ("WordWrightModel$Equations", "best", "[I", false)
  | _ => ("WordWrightModel$Equations", "count", "I", false)
def kY20 : Nat → FieldType := fun k => match k with
  | 0 => .object "java/util/List"
  | 1 => .array (.object "WordWrightModel$Dfa")
  | 2 => .array (.int)
  | 3 => .array (.array (.int))
  | 4 => .array (.int)
  | _ => .int
def kT21 : u_T := fun k => match k with
  | 0 => ("WordWrightModel$Machine", "from", "[I", true)
  | 1 => ("WordWrightModel$Machine", "letter", "[I", true)
  | 2 => ("WordWrightModel$Machine", "to", "[I", true)
  | 3 => ("WordWrightModel$Machine", "out", "[I", true)
  | 4 => ("WordWrightModel$Machine", "arcs", "I", false)
  | _ => ("WordWrightModel$Machine", "finals", "I", false)
def kY21 : Nat → FieldType := fun k => match k with
  | 0 => .array (.int)
  | 1 => .array (.int)
  | 2 => .array (.int)
  | 3 => .array (.int)
  | 4 => .int
  | _ => .int
def kT22 : u_T := fun k => match k with
  | 0 => ("WordWrightModel$Spans", "spans", "[[LWordWrightModel$Dfa;", true)
  | 1 => ("WordWrightModel$Spans", "areThere", "[Z", true)
  | 2 => ("WordWrightModel$Spans", "rounds", "I", false)
  | 3 => ("WordWrightModel$Spans", "isMore", "Z", false)
  | _ => ("WordWrightModel$Spans", "this$0", "LWordWrightModel;", true)
def kY22 : Nat → FieldType := fun k => match k with
  | 0 => .array (.array (.object "WordWrightModel$Dfa"))
  | 1 => .array (.boolean)
  | 2 => .int
  | 3 => .boolean
  | _ => .object "WordWrightModel"
def kT23 : u_T := fun k => match k with
  | 0 => ("WordWrightModel$Step", "sort", "I", true)
  | 1 => ("WordWrightModel$Step", "a", "I", true)
  | 2 => ("WordWrightModel$Step", "b", "I", true)
  | _ => ("WordWrightModel$Step", "c", "I", true)
def kY23 : Nat → FieldType := fun k => match k with
  | 0 => .int
  | 1 => .int
  | 2 => .int
  | _ => .int
def kT24 : u_T := fun k => match k with
  | 0 => ("java/util/AbstractList", "modCount", "I", false)
  | 1 => ("java/util/ArrayList", "elementData", "[Ljava/lang/Object;", false)
  | _ => ("java/util/ArrayList", "size", "I", false)
def kY24 : Nat → FieldType := fun k => match k with
  | 0 => .int
  | 1 => .array (.object "java/lang/Object")
  | _ => .int
def rCls : List vw_C := [("WordWright", kT0, 13), ("WordWright$Draft", kT1, 12), ("WordWright$Equations", kT2, 8), ("WordWright$Language", kT3, 3), ("WordWright$Machine", kT4, 6), ("WordWright$Program", kT5, 12), ("WordWright$Schemas", kT6, 8), ("WordWright$Search", kT7, 7), ("WordWright$Solver", kT8, 11), ("WordWright$Workshop", kT9, 1), ("WordWright$Writings", kT10, 1), ("WordWrightModel", kT11, 10), ("WordWrightModel$1", kT12, 2), ("WordWrightModel$2", kT13, 3), ("WordWrightModel$3", kT14, 2), ("WordWrightModel$4", kT15, 1), ("WordWrightModel$5", kT16, 1), ("WordWrightModel$6", kT17, 2), ("WordWrightModel$9", kT18, 2), ("WordWrightModel$Dfa", kT19, 3), ("WordWrightModel$Equations", kT20, 6), ("WordWrightModel$Machine", kT21, 6), ("WordWrightModel$Spans", kT22, 5), ("WordWrightModel$Step", kT23, 4), ("java/util/ArrayList", kT24, 3)]
def rFts : List (Nat → FieldType) := [kY0, kY1, kY2, kY3, kY4, kY5, kY6, kY7, kY8, kY9, kY10, kY11, kY12, kY13, kY14, kY15, kY16, kY17, kY18, kY19, kY20, kY21, kY22, kY23, kY24]
def rFt (ci : Nat) : Nat → FieldType := rFts.getD ci (fun _ => .int)
def rAts : List FieldType := [.int, .boolean, .long, .object "java/lang/Object", .object "WordWrightModel$Dfa", .object "WordWright$Language", .object "WordWright$Machine", .array (.int), .array (.object "WordWrightModel$Dfa")]
def rFact (ci : Nat) (r : vw_C) : Prop := (∀ w ∈ u_ws r.1 r.2.1 r.2.2, w ∈ rTG) ∧ (∀ a, a < r.2.2 → ∀ b, b < r.2.2 → a ≠ b → (r.2.1 a).2.1 ≠ (r.2.1 b).2.1) ∧ (∀ k, k < r.2.2 → parseFieldDescriptor (r.2.1 k).2.2.1 = some (rFt ci k))
theorem rTw (i : Nat) {w : Cond} (h : tables_1[i]? = some w) (hg : goodWord w = true) : w ∈ rTG := List.mem_filter.mpr ⟨List.mem_append_right _ (List.mem_of_getElem? h), hg⟩
theorem rNo : ∀ w ∈ ([] : List Cond), w ∈ rTG := fun _ h => nomatch h
theorem ku0 : ∀ w ∈ u_ws "WordWright" kT0 13, w ∈ rTG := by
  have e : u_ws "WordWright" kT0 13 = [.laysFinal "WordWright" "WordWright" "languages" "[LWordWright$Language;", .lays "WordWright" "WordWright" "languageCount" "I", .laysFinal "WordWright" "WordWright" "machines" "[LWordWright$Machine;", .lays "WordWright" "WordWright" "machineCount" "I", .laysFinal "WordWright" "WordWright" "built" "LWordWright$Language;", .laysFinal "WordWright" "WordWright" "ways" "[I", .laysFinal "WordWright" "WordWright" "workshop" "LWordWright$Workshop;", .laysFinal "WordWright" "WordWright" "search" "LWordWright$Search;", .laysFinal "WordWright" "WordWright" "writings" "LWordWright$Writings;", .laysFinal "WordWright" "WordWright" "equations" "LWordWright$Equations;", .laysFinal "WordWright" "WordWright" "solver" "LWordWright$Solver;", .laysFinal "WordWright" "WordWright" "schemas" "LWordWright$Schemas;", .laysFinal "WordWright" "WordWright" "program" "LWordWright$Program;"] := rfl
  rw [e]
  exact List.forall_mem_cons.mpr ⟨rTw 449 (by decide +kernel) (by decide +kernel), List.forall_mem_cons.mpr ⟨rTw 451 (by decide +kernel) (by decide +kernel), List.forall_mem_cons.mpr ⟨rTw 453 (by decide +kernel) (by decide +kernel), List.forall_mem_cons.mpr ⟨rTw 455 (by decide +kernel) (by decide +kernel), List.forall_mem_cons.mpr ⟨rTw 457 (by decide +kernel) (by decide +kernel), List.forall_mem_cons.mpr ⟨rTw 459 (by decide +kernel) (by decide +kernel), List.forall_mem_cons.mpr ⟨rTw 461 (by decide +kernel) (by decide +kernel), List.forall_mem_cons.mpr ⟨rTw 463 (by decide +kernel) (by decide +kernel), List.forall_mem_cons.mpr ⟨rTw 465 (by decide +kernel) (by decide +kernel), List.forall_mem_cons.mpr ⟨rTw 467 (by decide +kernel) (by decide +kernel), List.forall_mem_cons.mpr ⟨rTw 469 (by decide +kernel) (by decide +kernel), List.forall_mem_cons.mpr ⟨rTw 471 (by decide +kernel) (by decide +kernel), List.forall_mem_cons.mpr ⟨rTw 473 (by decide +kernel) (by decide +kernel), rNo⟩⟩⟩⟩⟩⟩⟩⟩⟩⟩⟩⟩⟩
theorem kf0 : rFact 0 ("WordWright", kT0, 13) := ⟨ku0, by decide +kernel, by decide +kernel⟩
theorem ku1 : ∀ w ∈ u_ws "WordWright$Draft" kT1 12, w ∈ rTG := by
  have e : u_ws "WordWright$Draft" kT1 12 = [.lays "WordWright$Draft" "WordWright$Draft" "count" "I", .laysFinal "WordWright$Draft" "WordWright$Draft" "keys" "[J", .laysFinal "WordWright$Draft" "WordWright$Draft" "isEnd" "[Z", .laysFinal "WordWright$Draft" "WordWright$Draft" "to" "[I", .laysFinal "WordWright$Draft" "WordWright$Draft" "places" "[I", .lays "WordWright$Draft" "WordWright$Draft" "base" "I", .lays "WordWright$Draft" "WordWright$Draft" "group" "[I", .lays "WordWright$Draft" "WordWright$Draft" "finer" "[I", .laysFinal "WordWright$Draft" "WordWright$Draft" "signs" "[I", .laysFinal "WordWright$Draft" "WordWright$Draft" "samples" "[I", .laysFinal "WordWright$Draft" "WordWright$Draft" "order" "[I", .laysFinal "WordWright$Draft" "WordWright$Draft" "numbers" "[I"] := rfl
  rw [e]
  exact List.forall_mem_cons.mpr ⟨rTw 121 (by decide +kernel) (by decide +kernel), List.forall_mem_cons.mpr ⟨rTw 123 (by decide +kernel) (by decide +kernel), List.forall_mem_cons.mpr ⟨rTw 125 (by decide +kernel) (by decide +kernel), List.forall_mem_cons.mpr ⟨rTw 127 (by decide +kernel) (by decide +kernel), List.forall_mem_cons.mpr ⟨rTw 129 (by decide +kernel) (by decide +kernel), List.forall_mem_cons.mpr ⟨rTw 131 (by decide +kernel) (by decide +kernel), List.forall_mem_cons.mpr ⟨rTw 133 (by decide +kernel) (by decide +kernel), List.forall_mem_cons.mpr ⟨rTw 135 (by decide +kernel) (by decide +kernel), List.forall_mem_cons.mpr ⟨rTw 137 (by decide +kernel) (by decide +kernel), List.forall_mem_cons.mpr ⟨rTw 139 (by decide +kernel) (by decide +kernel), List.forall_mem_cons.mpr ⟨rTw 141 (by decide +kernel) (by decide +kernel), List.forall_mem_cons.mpr ⟨rTw 143 (by decide +kernel) (by decide +kernel), rNo⟩⟩⟩⟩⟩⟩⟩⟩⟩⟩⟩⟩
theorem kf1 : rFact 1 ("WordWright$Draft", kT1, 12) := ⟨ku1, by decide +kernel, by decide +kernel⟩
theorem ku2 : ∀ w ∈ u_ws "WordWright$Equations" kT2 8, w ∈ rTG := by
  have e : u_ws "WordWright$Equations" kT2 8 = [.laysFinal "WordWright$Equations" "WordWright$Equations" "language" "[I", .laysFinal "WordWright$Equations" "WordWright$Equations" "most" "[I", .lays "WordWright$Equations" "WordWright$Equations" "count" "I", .laysFinal "WordWright$Equations" "WordWright$Equations" "symbols" "[I", .laysFinal "WordWright$Equations" "WordWright$Equations" "lengths" "[I", .lays "WordWright$Equations" "WordWright$Equations" "isSolved" "Z", .lays "WordWright$Equations" "WordWright$Equations" "found" "I", .laysFinal "WordWright$Equations" "WordWright$Equations" "first" "[I"] := rfl
  rw [e]
  exact List.forall_mem_cons.mpr ⟨rTw 278 (by decide +kernel) (by decide +kernel), List.forall_mem_cons.mpr ⟨rTw 280 (by decide +kernel) (by decide +kernel), List.forall_mem_cons.mpr ⟨rTw 282 (by decide +kernel) (by decide +kernel), List.forall_mem_cons.mpr ⟨rTw 284 (by decide +kernel) (by decide +kernel), List.forall_mem_cons.mpr ⟨rTw 286 (by decide +kernel) (by decide +kernel), List.forall_mem_cons.mpr ⟨rTw 288 (by decide +kernel) (by decide +kernel), List.forall_mem_cons.mpr ⟨rTw 290 (by decide +kernel) (by decide +kernel), List.forall_mem_cons.mpr ⟨rTw 292 (by decide +kernel) (by decide +kernel), rNo⟩⟩⟩⟩⟩⟩⟩⟩
theorem kf2 : rFact 2 ("WordWright$Equations", kT2, 8) := ⟨ku2, by decide +kernel, by decide +kernel⟩
theorem ku3 : ∀ w ∈ u_ws "WordWright$Language" kT3 3, w ∈ rTG := by
  have e : u_ws "WordWright$Language" kT3 3 = [.lays "WordWright$Language" "WordWright$Language" "size" "I", .lays "WordWright$Language" "WordWright$Language" "ends" "I", .laysFinal "WordWright$Language" "WordWright$Language" "to" "[I"] := rfl
  rw [e]
  exact List.forall_mem_cons.mpr ⟨rTw 84 (by decide +kernel) (by decide +kernel), List.forall_mem_cons.mpr ⟨rTw 86 (by decide +kernel) (by decide +kernel), List.forall_mem_cons.mpr ⟨rTw 88 (by decide +kernel) (by decide +kernel), rNo⟩⟩⟩
theorem kf3 : rFact 3 ("WordWright$Language", kT3, 3) := ⟨ku3, by decide +kernel, by decide +kernel⟩
theorem ku4 : ∀ w ∈ u_ws "WordWright$Machine" kT4 6, w ∈ rTG := by
  have e : u_ws "WordWright$Machine" kT4 6 = [.lays "WordWright$Machine" "WordWright$Machine" "arcs" "I", .lays "WordWright$Machine" "WordWright$Machine" "ends" "I", .laysFinal "WordWright$Machine" "WordWright$Machine" "from" "[I", .laysFinal "WordWright$Machine" "WordWright$Machine" "read" "[I", .laysFinal "WordWright$Machine" "WordWright$Machine" "to" "[I", .laysFinal "WordWright$Machine" "WordWright$Machine" "wrote" "[I"] := rfl
  rw [e]
  exact List.forall_mem_cons.mpr ⟨rTw 189 (by decide +kernel) (by decide +kernel), List.forall_mem_cons.mpr ⟨rTw 191 (by decide +kernel) (by decide +kernel), List.forall_mem_cons.mpr ⟨rTw 193 (by decide +kernel) (by decide +kernel), List.forall_mem_cons.mpr ⟨rTw 195 (by decide +kernel) (by decide +kernel), List.forall_mem_cons.mpr ⟨rTw 197 (by decide +kernel) (by decide +kernel), List.forall_mem_cons.mpr ⟨rTw 199 (by decide +kernel) (by decide +kernel), rNo⟩⟩⟩⟩⟩⟩
theorem kf4 : rFact 4 ("WordWright$Machine", kT4, 6) := ⟨ku4, by decide +kernel, by decide +kernel⟩
theorem ku5 : ∀ w ∈ u_ws "WordWright$Program" kT5 12, w ∈ rTG := by
  have e : u_ws "WordWright$Program" kT5 12 = [.lays "WordWright$Program" "WordWright$Program" "count" "I", .laysFinal "WordWright$Program" "WordWright$Program" "sorts" "[I", .laysFinal "WordWright$Program" "WordWright$Program" "as" "[I", .laysFinal "WordWright$Program" "WordWright$Program" "bs" "[I", .laysFinal "WordWright$Program" "WordWright$Program" "cs" "[I", .laysFinal "WordWright$Program" "WordWright$Program" "came" "[Z", .laysFinal "WordWright$Program" "WordWright$Program" "spans" "[LWordWright$Language;", .lays "WordWright$Program" "WordWright$Program" "rounds" "I", .lays "WordWright$Program" "WordWright$Program" "isSeen" "Z", .laysFinal "WordWright$Program" "WordWright$Program" "passed" "[LWordWright$Language;", .laysFinal "WordWright$Program" "WordWright$Program" "whole" "LWordWright$Language;", .laysFinal "WordWright$Program" "WordWright$Program" "merged" "LWordWright$Language;"] := rfl
  rw [e]
  exact List.forall_mem_cons.mpr ⟨rTw 401 (by decide +kernel) (by decide +kernel), List.forall_mem_cons.mpr ⟨rTw 403 (by decide +kernel) (by decide +kernel), List.forall_mem_cons.mpr ⟨rTw 405 (by decide +kernel) (by decide +kernel), List.forall_mem_cons.mpr ⟨rTw 407 (by decide +kernel) (by decide +kernel), List.forall_mem_cons.mpr ⟨rTw 409 (by decide +kernel) (by decide +kernel), List.forall_mem_cons.mpr ⟨rTw 411 (by decide +kernel) (by decide +kernel), List.forall_mem_cons.mpr ⟨rTw 413 (by decide +kernel) (by decide +kernel), List.forall_mem_cons.mpr ⟨rTw 415 (by decide +kernel) (by decide +kernel), List.forall_mem_cons.mpr ⟨rTw 417 (by decide +kernel) (by decide +kernel), List.forall_mem_cons.mpr ⟨rTw 419 (by decide +kernel) (by decide +kernel), List.forall_mem_cons.mpr ⟨rTw 421 (by decide +kernel) (by decide +kernel), List.forall_mem_cons.mpr ⟨rTw 423 (by decide +kernel) (by decide +kernel), rNo⟩⟩⟩⟩⟩⟩⟩⟩⟩⟩⟩⟩
theorem kf5 : rFact 5 ("WordWright$Program", kT5, 12) := ⟨ku5, by decide +kernel, by decide +kernel⟩
theorem ku6 : ∀ w ∈ u_ws "WordWright$Schemas" kT6 8, w ∈ rTG := by
  have e : u_ws "WordWright$Schemas" kT6 8 = [.lays "WordWright$Schemas" "WordWright$Schemas" "count" "I", .laysFinal "WordWright$Schemas" "WordWright$Schemas" "content" "[I", .lays "WordWright$Schemas" "WordWright$Schemas" "nodes" "I", .laysFinal "WordWright$Schemas" "WordWright$Schemas" "parents" "[I", .laysFinal "WordWright$Schemas" "WordWright$Schemas" "letters" "[I", .laysFinal "WordWright$Schemas" "WordWright$Schemas" "weights" "[I", .laysFinal "WordWright$Schemas" "WordWright$Schemas" "distances" "[I", .laysFinal "WordWright$Schemas" "WordWright$Schemas" "copier" "LWordWright$Machine;"] := rfl
  rw [e]
  exact List.forall_mem_cons.mpr ⟨rTw 357 (by decide +kernel) (by decide +kernel), List.forall_mem_cons.mpr ⟨rTw 359 (by decide +kernel) (by decide +kernel), List.forall_mem_cons.mpr ⟨rTw 361 (by decide +kernel) (by decide +kernel), List.forall_mem_cons.mpr ⟨rTw 363 (by decide +kernel) (by decide +kernel), List.forall_mem_cons.mpr ⟨rTw 365 (by decide +kernel) (by decide +kernel), List.forall_mem_cons.mpr ⟨rTw 367 (by decide +kernel) (by decide +kernel), List.forall_mem_cons.mpr ⟨rTw 369 (by decide +kernel) (by decide +kernel), List.forall_mem_cons.mpr ⟨rTw 371 (by decide +kernel) (by decide +kernel), rNo⟩⟩⟩⟩⟩⟩⟩⟩
theorem kf6 : rFact 6 ("WordWright$Schemas", kT6, 8) := ⟨ku6, by decide +kernel, by decide +kernel⟩
theorem ku7 : ∀ w ∈ u_ws "WordWright$Search" kT7 7, w ∈ rTG := by
  have e : u_ws "WordWright$Search" kT7 7 = [.laysFinal "WordWright$Search" "WordWright$Search" "copier" "LWordWright$Machine;", .laysFinal "WordWright$Search" "WordWright$Search" "nothing" "LWordWright$Language;", .laysFinal "WordWright$Search" "WordWright$Search" "words" "[I", .laysFinal "WordWright$Search" "WordWright$Search" "queue" "[I", .lays "WordWright$Search" "WordWright$Search" "queued" "I", .laysFinal "WordWright$Search" "WordWright$Search" "leads" "[I", .laysFinal "WordWright$Search" "WordWright$Search" "rounds" "[I"] := rfl
  rw [e]
  exact List.forall_mem_cons.mpr ⟨rTw 219 (by decide +kernel) (by decide +kernel), List.forall_mem_cons.mpr ⟨rTw 221 (by decide +kernel) (by decide +kernel), List.forall_mem_cons.mpr ⟨rTw 223 (by decide +kernel) (by decide +kernel), List.forall_mem_cons.mpr ⟨rTw 225 (by decide +kernel) (by decide +kernel), List.forall_mem_cons.mpr ⟨rTw 227 (by decide +kernel) (by decide +kernel), List.forall_mem_cons.mpr ⟨rTw 229 (by decide +kernel) (by decide +kernel), List.forall_mem_cons.mpr ⟨rTw 231 (by decide +kernel) (by decide +kernel), rNo⟩⟩⟩⟩⟩⟩⟩
theorem kf7 : rFact 7 ("WordWright$Search", kT7, 7) := ⟨ku7, by decide +kernel, by decide +kernel⟩
theorem ku8 : ∀ w ∈ u_ws "WordWright$Solver" kT8 11, w ∈ rTG := by
  have e : u_ws "WordWright$Solver" kT8 11 = [.lays "WordWright$Solver" "WordWright$Solver" "found" "I", .laysFinal "WordWright$Solver" "WordWright$Solver" "first" "[I", .laysFinal "WordWright$Solver" "WordWright$Solver" "allowed" "[I", .laysFinal "WordWright$Solver" "WordWright$Solver" "length" "[I", .laysFinal "WordWright$Solver" "WordWright$Solver" "ties" "[I", .laysFinal "WordWright$Solver" "WordWright$Solver" "spelled" "[I", .laysFinal "WordWright$Solver" "WordWright$Solver" "team" "[I", .laysFinal "WordWright$Solver" "WordWright$Solver" "open" "[I", .lays "WordWright$Solver" "WordWright$Solver" "opened" "I", .laysFinal "WordWright$Solver" "WordWright$Solver" "values" "[I", .laysFinal "WordWright$Solver" "WordWright$Solver" "guess" "[I"] := rfl
  rw [e]
  exact List.forall_mem_cons.mpr ⟨rTw 315 (by decide +kernel) (by decide +kernel), List.forall_mem_cons.mpr ⟨rTw 317 (by decide +kernel) (by decide +kernel), List.forall_mem_cons.mpr ⟨rTw 319 (by decide +kernel) (by decide +kernel), List.forall_mem_cons.mpr ⟨rTw 321 (by decide +kernel) (by decide +kernel), List.forall_mem_cons.mpr ⟨rTw 323 (by decide +kernel) (by decide +kernel), List.forall_mem_cons.mpr ⟨rTw 325 (by decide +kernel) (by decide +kernel), List.forall_mem_cons.mpr ⟨rTw 327 (by decide +kernel) (by decide +kernel), List.forall_mem_cons.mpr ⟨rTw 329 (by decide +kernel) (by decide +kernel), List.forall_mem_cons.mpr ⟨rTw 331 (by decide +kernel) (by decide +kernel), List.forall_mem_cons.mpr ⟨rTw 333 (by decide +kernel) (by decide +kernel), List.forall_mem_cons.mpr ⟨rTw 335 (by decide +kernel) (by decide +kernel), rNo⟩⟩⟩⟩⟩⟩⟩⟩⟩⟩⟩
theorem kf8 : rFact 8 ("WordWright$Solver", kT8, 11) := ⟨ku8, by decide +kernel, by decide +kernel⟩
theorem ku9 : ∀ w ∈ u_ws "WordWright$Workshop" kT9 1, w ∈ rTG := by
  have e : u_ws "WordWright$Workshop" kT9 1 = [.laysFinal "WordWright$Workshop" "WordWright$Workshop" "draft" "LWordWright$Draft;"] := rfl
  rw [e]
  exact List.forall_mem_cons.mpr ⟨rTw 149 (by decide +kernel) (by decide +kernel), rNo⟩
theorem kf9 : rFact 9 ("WordWright$Workshop", kT9, 1) := ⟨ku9, by decide +kernel, by decide +kernel⟩
theorem ku10 : ∀ w ∈ u_ws "WordWright$Writings" kT10 1, w ∈ rTG := by
  have e : u_ws "WordWright$Writings" kT10 1 = [.laysFinal "WordWright$Writings" "WordWright$Writings" "states" "[I"] := rfl
  rw [e]
  exact List.forall_mem_cons.mpr ⟨rTw 247 (by decide +kernel) (by decide +kernel), rNo⟩
theorem kf10 : rFact 10 ("WordWright$Writings", kT10, 1) := ⟨ku10, by decide +kernel, by decide +kernel⟩
theorem ku11 : ∀ w ∈ u_ws "WordWrightModel" kT11 10, w ∈ rTG := by
  have e : u_ws "WordWrightModel" kT11 10 = [.lays "WordWrightModel" "WordWrightModel" "thrown" "I", .laysFinal "WordWrightModel" "WordWrightModel" "all" "LWordWrightModel$Dfa;", .laysFinal "WordWrightModel" "WordWrightModel" "languages" "Ljava/util/List;", .laysFinal "WordWrightModel" "WordWrightModel" "machines" "Ljava/util/List;", .laysFinal "WordWrightModel" "WordWrightModel" "equations" "LWordWrightModel$Equations;", .laysFinal "WordWrightModel" "WordWrightModel" "schemas" "Ljava/util/List;", .laysFinal "WordWrightModel" "WordWrightModel" "letters" "[I", .laysFinal "WordWrightModel" "WordWrightModel" "parents" "[I", .lays "WordWrightModel" "WordWrightModel" "nodes" "I", .laysFinal "WordWrightModel" "WordWrightModel" "steps" "Ljava/util/List;"] := rfl
  rw [e]
  exact List.forall_mem_cons.mpr ⟨rTw 2039 (by decide +kernel) (by decide +kernel), List.forall_mem_cons.mpr ⟨rTw 2041 (by decide +kernel) (by decide +kernel), List.forall_mem_cons.mpr ⟨rTw 2043 (by decide +kernel) (by decide +kernel), List.forall_mem_cons.mpr ⟨rTw 2045 (by decide +kernel) (by decide +kernel), List.forall_mem_cons.mpr ⟨rTw 2047 (by decide +kernel) (by decide +kernel), List.forall_mem_cons.mpr ⟨rTw 2049 (by decide +kernel) (by decide +kernel), List.forall_mem_cons.mpr ⟨rTw 2051 (by decide +kernel) (by decide +kernel), List.forall_mem_cons.mpr ⟨rTw 2053 (by decide +kernel) (by decide +kernel), List.forall_mem_cons.mpr ⟨rTw 2055 (by decide +kernel) (by decide +kernel), List.forall_mem_cons.mpr ⟨rTw 2057 (by decide +kernel) (by decide +kernel), rNo⟩⟩⟩⟩⟩⟩⟩⟩⟩⟩
theorem kf11 : rFact 11 ("WordWrightModel", kT11, 10) := ⟨ku11, by decide +kernel, by decide +kernel⟩
theorem ku12 : ∀ w ∈ u_ws "WordWrightModel$1" kT12 2, w ∈ rTG := by
  have e : u_ws "WordWrightModel$1" kT12 2 = [.laysFinal "WordWrightModel$1" "WordWrightModel$1" "val$kind" "I", .laysFinal "WordWrightModel$1" "WordWrightModel$1" "val$a" "I"] := rfl
  rw [e]
  exact List.forall_mem_cons.mpr ⟨rTw 1686 (by decide +kernel) (by decide +kernel), List.forall_mem_cons.mpr ⟨rTw 1688 (by decide +kernel) (by decide +kernel), rNo⟩⟩
theorem kf12 : rFact 12 ("WordWrightModel$1", kT12, 2) := ⟨ku12, by decide +kernel, by decide +kernel⟩
theorem ku13 : ∀ w ∈ u_ws "WordWrightModel$2" kT13 3, w ∈ rTG := by
  have e : u_ws "WordWrightModel$2" kT13 3 = [.laysFinal "WordWrightModel$2" "WordWrightModel$2" "val$a" "LWordWrightModel$Dfa;", .laysFinal "WordWrightModel$2" "WordWrightModel$2" "val$b" "LWordWrightModel$Dfa;", .laysFinal "WordWrightModel$2" "WordWrightModel$2" "val$kind" "I"] := rfl
  rw [e]
  exact List.forall_mem_cons.mpr ⟨rTw 2142 (by decide +kernel) (by decide +kernel), List.forall_mem_cons.mpr ⟨rTw 2144 (by decide +kernel) (by decide +kernel), List.forall_mem_cons.mpr ⟨rTw 2146 (by decide +kernel) (by decide +kernel), rNo⟩⟩⟩
theorem kf13 : rFact 13 ("WordWrightModel$2", kT13, 3) := ⟨ku13, by decide +kernel, by decide +kernel⟩
theorem ku14 : ∀ w ∈ u_ws "WordWrightModel$3" kT14 2, w ∈ rTG := by
  have e : u_ws "WordWrightModel$3" kT14 2 = [.laysFinal "WordWrightModel$3" "WordWrightModel$3" "val$a" "LWordWrightModel$Dfa;", .laysFinal "WordWrightModel$3" "WordWrightModel$3" "val$b" "LWordWrightModel$Dfa;"] := rfl
  rw [e]
  exact List.forall_mem_cons.mpr ⟨rTw 2122 (by decide +kernel) (by decide +kernel), List.forall_mem_cons.mpr ⟨rTw 2124 (by decide +kernel) (by decide +kernel), rNo⟩⟩
theorem kf14 : rFact 14 ("WordWrightModel$3", kT14, 2) := ⟨ku14, by decide +kernel, by decide +kernel⟩
theorem ku15 : ∀ w ∈ u_ws "WordWrightModel$4" kT15 1, w ∈ rTG := by
  have e : u_ws "WordWrightModel$4" kT15 1 = [.laysFinal "WordWrightModel$4" "WordWrightModel$4" "val$a" "LWordWrightModel$Dfa;"] := rfl
  rw [e]
  exact List.forall_mem_cons.mpr ⟨rTw 2162 (by decide +kernel) (by decide +kernel), rNo⟩
theorem kf15 : rFact 15 ("WordWrightModel$4", kT15, 1) := ⟨ku15, by decide +kernel, by decide +kernel⟩
theorem ku16 : ∀ w ∈ u_ws "WordWrightModel$5" kT16 1, w ∈ rTG := by
  have e : u_ws "WordWrightModel$5" kT16 1 = [.laysFinal "WordWrightModel$5" "WordWrightModel$5" "val$a" "LWordWrightModel$Dfa;"] := rfl
  rw [e]
  exact List.forall_mem_cons.mpr ⟨rTw 2178 (by decide +kernel) (by decide +kernel), rNo⟩
theorem kf16 : rFact 16 ("WordWrightModel$5", kT16, 1) := ⟨ku16, by decide +kernel, by decide +kernel⟩
theorem ku17 : ∀ w ∈ u_ws "WordWrightModel$6" kT17 2, w ∈ rTG := by
  have e : u_ws "WordWrightModel$6" kT17 2 = [.laysFinal "WordWrightModel$6" "WordWrightModel$6" "val$a" "LWordWrightModel$Dfa;", .laysFinal "WordWrightModel$6" "WordWrightModel$6" "val$live" "[Z"] := rfl
  rw [e]
  exact List.forall_mem_cons.mpr ⟨rTw 2200 (by decide +kernel) (by decide +kernel), List.forall_mem_cons.mpr ⟨rTw 2202 (by decide +kernel) (by decide +kernel), rNo⟩⟩
theorem kf17 : rFact 17 ("WordWrightModel$6", kT17, 2) := ⟨ku17, by decide +kernel, by decide +kernel⟩
theorem ku18 : ∀ w ∈ u_ws "WordWrightModel$9" kT18 2, w ∈ rTG := by
  have e : u_ws "WordWrightModel$9" kT18 2 = [.laysFinal "WordWrightModel$9" "WordWrightModel$9" "val$a" "LWordWrightModel$Dfa;", .laysFinal "WordWrightModel$9" "WordWrightModel$9" "val$b" "LWordWrightModel$Dfa;"] := rfl
  rw [e]
  exact List.forall_mem_cons.mpr ⟨rTw 2280 (by decide +kernel) (by decide +kernel), List.forall_mem_cons.mpr ⟨rTw 2282 (by decide +kernel) (by decide +kernel), rNo⟩⟩
theorem kf18 : rFact 18 ("WordWrightModel$9", kT18, 2) := ⟨ku18, by decide +kernel, by decide +kernel⟩
theorem ku19 : ∀ w ∈ u_ws "WordWrightModel$Dfa" kT19 3, w ∈ rTG := by
  have e : u_ws "WordWrightModel$Dfa" kT19 3 = [.laysFinal "WordWrightModel$Dfa" "WordWrightModel$Dfa" "n" "I", .laysFinal "WordWrightModel$Dfa" "WordWrightModel$Dfa" "next" "[I", .laysFinal "WordWrightModel$Dfa" "WordWrightModel$Dfa" "ends" "[Z"] := rfl
  rw [e]
  exact List.forall_mem_cons.mpr ⟨rTw 1830 (by decide +kernel) (by decide +kernel), List.forall_mem_cons.mpr ⟨rTw 1832 (by decide +kernel) (by decide +kernel), List.forall_mem_cons.mpr ⟨rTw 1834 (by decide +kernel) (by decide +kernel), rNo⟩⟩⟩
theorem kf19 : rFact 19 ("WordWrightModel$Dfa", kT19, 3) := ⟨ku19, by decide +kernel, by decide +kernel⟩
theorem ku20 : ∀ w ∈ u_ws "WordWrightModel$Equations" kT20 6, w ∈ rTG := by
  have e : u_ws "WordWrightModel$Equations" kT20 6 = [.laysFinal "WordWrightModel$Equations" "WordWrightModel$Equations" "all" "Ljava/util/List;", .laysFinal "WordWrightModel$Equations" "WordWrightModel$Equations" "languages" "[LWordWrightModel$Dfa;", .laysFinal "WordWrightModel$Equations" "WordWrightModel$Equations" "mosts" "[I", .laysFinal "WordWrightModel$Equations" "WordWrightModel$Equations" "domains" "[[I", .lays "WordWrightModel$Equations" "WordWrightModel$Equations" "best" "[I", .lays "WordWrightModel$Equations" "WordWrightModel$Equations" "count" "I"] := rfl
  rw [e]
  exact List.forall_mem_cons.mpr ⟨rTw 1937 (by decide +kernel) (by decide +kernel), List.forall_mem_cons.mpr ⟨rTw 1939 (by decide +kernel) (by decide +kernel), List.forall_mem_cons.mpr ⟨rTw 1941 (by decide +kernel) (by decide +kernel), List.forall_mem_cons.mpr ⟨rTw 1943 (by decide +kernel) (by decide +kernel), List.forall_mem_cons.mpr ⟨rTw 1945 (by decide +kernel) (by decide +kernel), List.forall_mem_cons.mpr ⟨rTw 1947 (by decide +kernel) (by decide +kernel), rNo⟩⟩⟩⟩⟩⟩
theorem kf20 : rFact 20 ("WordWrightModel$Equations", kT20, 6) := ⟨ku20, by decide +kernel, by decide +kernel⟩
theorem ku21 : ∀ w ∈ u_ws "WordWrightModel$Machine" kT21 6, w ∈ rTG := by
  have e : u_ws "WordWrightModel$Machine" kT21 6 = [.laysFinal "WordWrightModel$Machine" "WordWrightModel$Machine" "from" "[I", .laysFinal "WordWrightModel$Machine" "WordWrightModel$Machine" "letter" "[I", .laysFinal "WordWrightModel$Machine" "WordWrightModel$Machine" "to" "[I", .laysFinal "WordWrightModel$Machine" "WordWrightModel$Machine" "out" "[I", .lays "WordWrightModel$Machine" "WordWrightModel$Machine" "arcs" "I", .lays "WordWrightModel$Machine" "WordWrightModel$Machine" "finals" "I"] := rfl
  rw [e]
  exact List.forall_mem_cons.mpr ⟨rTw 2453 (by decide +kernel) (by decide +kernel), List.forall_mem_cons.mpr ⟨rTw 2455 (by decide +kernel) (by decide +kernel), List.forall_mem_cons.mpr ⟨rTw 2457 (by decide +kernel) (by decide +kernel), List.forall_mem_cons.mpr ⟨rTw 2459 (by decide +kernel) (by decide +kernel), List.forall_mem_cons.mpr ⟨rTw 2461 (by decide +kernel) (by decide +kernel), List.forall_mem_cons.mpr ⟨rTw 2463 (by decide +kernel) (by decide +kernel), rNo⟩⟩⟩⟩⟩⟩
theorem kf21 : rFact 21 ("WordWrightModel$Machine", kT21, 6) := ⟨ku21, by decide +kernel, by decide +kernel⟩
theorem ku22 : ∀ w ∈ u_ws "WordWrightModel$Spans" kT22 5, w ∈ rTG := by
  have e : u_ws "WordWrightModel$Spans" kT22 5 = [.laysFinal "WordWrightModel$Spans" "WordWrightModel$Spans" "spans" "[[LWordWrightModel$Dfa;", .laysFinal "WordWrightModel$Spans" "WordWrightModel$Spans" "areThere" "[Z", .lays "WordWrightModel$Spans" "WordWrightModel$Spans" "rounds" "I", .lays "WordWrightModel$Spans" "WordWrightModel$Spans" "isMore" "Z", .laysFinal "WordWrightModel$Spans" "WordWrightModel$Spans" "this$0" "LWordWrightModel;"] := rfl
  rw [e]
  exact List.forall_mem_cons.mpr ⟨rTw 2806 (by decide +kernel) (by decide +kernel), List.forall_mem_cons.mpr ⟨rTw 2808 (by decide +kernel) (by decide +kernel), List.forall_mem_cons.mpr ⟨rTw 2810 (by decide +kernel) (by decide +kernel), List.forall_mem_cons.mpr ⟨rTw 2812 (by decide +kernel) (by decide +kernel), List.forall_mem_cons.mpr ⟨rTw 2814 (by decide +kernel) (by decide +kernel), rNo⟩⟩⟩⟩⟩
theorem kf22 : rFact 22 ("WordWrightModel$Spans", kT22, 5) := ⟨ku22, by decide +kernel, by decide +kernel⟩
theorem ku23 : ∀ w ∈ u_ws "WordWrightModel$Step" kT23 4, w ∈ rTG := by
  have e : u_ws "WordWrightModel$Step" kT23 4 = [.laysFinal "WordWrightModel$Step" "WordWrightModel$Step" "sort" "I", .laysFinal "WordWrightModel$Step" "WordWrightModel$Step" "a" "I", .laysFinal "WordWrightModel$Step" "WordWrightModel$Step" "b" "I", .laysFinal "WordWrightModel$Step" "WordWrightModel$Step" "c" "I"] := rfl
  rw [e]
  exact List.forall_mem_cons.mpr ⟨rTw 2733 (by decide +kernel) (by decide +kernel), List.forall_mem_cons.mpr ⟨rTw 2735 (by decide +kernel) (by decide +kernel), List.forall_mem_cons.mpr ⟨rTw 2737 (by decide +kernel) (by decide +kernel), List.forall_mem_cons.mpr ⟨rTw 2739 (by decide +kernel) (by decide +kernel), rNo⟩⟩⟩⟩
theorem kf23 : rFact 23 ("WordWrightModel$Step", kT23, 4) := ⟨ku23, by decide +kernel, by decide +kernel⟩
theorem ku24 : ∀ w ∈ u_ws "java/util/ArrayList" kT24 3, w ∈ rTG := by
  have e : u_ws "java/util/ArrayList" kT24 3 = [.lays "java/util/ArrayList" "java/util/AbstractList" "modCount" "I", .lays "java/util/ArrayList" "java/util/ArrayList" "elementData" "[Ljava/lang/Object;", .lays "java/util/ArrayList" "java/util/ArrayList" "size" "I"] := rfl
  rw [e]
  exact List.forall_mem_cons.mpr ⟨rTw 1911 (by decide +kernel) (by decide +kernel), List.forall_mem_cons.mpr ⟨rTw 1907 (by decide +kernel) (by decide +kernel), List.forall_mem_cons.mpr ⟨rTw 1909 (by decide +kernel) (by decide +kernel), rNo⟩⟩⟩
theorem kf24 : rFact 24 ("java/util/ArrayList", kT24, 3) := ⟨ku24, by decide +kernel, by decide +kernel⟩
theorem rFacts : ∀ (ci : Nat) (r : vw_C), rCls[ci]? = some r → rFact ci r := by
  intro ci r h
  match ci, h with
  | 0, h => cases h; exact kf0
  | 1, h => cases h; exact kf1
  | 2, h => cases h; exact kf2
  | 3, h => cases h; exact kf3
  | 4, h => cases h; exact kf4
  | 5, h => cases h; exact kf5
  | 6, h => cases h; exact kf6
  | 7, h => cases h; exact kf7
  | 8, h => cases h; exact kf8
  | 9, h => cases h; exact kf9
  | 10, h => cases h; exact kf10
  | 11, h => cases h; exact kf11
  | 12, h => cases h; exact kf12
  | 13, h => cases h; exact kf13
  | 14, h => cases h; exact kf14
  | 15, h => cases h; exact kf15
  | 16, h => cases h; exact kf16
  | 17, h => cases h; exact kf17
  | 18, h => cases h; exact kf18
  | 19, h => cases h; exact kf19
  | 20, h => cases h; exact kf20
  | 21, h => cases h; exact kf21
  | 22, h => cases h; exact kf22
  | 23, h => cases h; exact kf23
  | 24, h => cases h; exact kf24
  | ci + 25, h => cases h
-- words that a call does not keep by itself
def rNGs : List Cond := [(Jvm.Cond.methodLinkNest "WordWright" (21 : Nat) ({ cls := "WordWright$Language", name := "<init>", desc := "()V" } : Jvm.MethodName) "WordWright"), (Jvm.Cond.methodLinkNest "WordWright" (32 : Nat) ({ cls := "WordWright$Workshop", name := "<init>", desc := "()V" } : Jvm.MethodName) "WordWright"), (Jvm.Cond.methodLinkNest "WordWright" (46 : Nat) ({ cls := "WordWright$Writings", name := "<init>", desc := "()V" } : Jvm.MethodName) "WordWright"), (Jvm.Cond.methodLinkNest "WordWright" (60 : Nat) ({ cls := "WordWright$Solver", name := "<init>", desc := "()V" } : Jvm.MethodName) "WordWright"), (Jvm.Cond.methodLinkNest "WordWright" (67 : Nat) ({ cls := "WordWright$Schemas", name := "<init>", desc := "()V" } : Jvm.MethodName) "WordWright"), (Jvm.Cond.methodLinkNest "WordWright" (79 : Nat) ({ cls := "WordWright$Machine", name := "<init>", desc := "()V" } : Jvm.MethodName) "WordWright"), (Jvm.Cond.methodLinkNest "WordWrightModel$1" (10 : Nat) ({ cls := "WordWrightModel$Walk", name := "<init>", desc := "()V" } : Jvm.MethodName) "WordWrightModel"), (Jvm.Cond.methodLinkNest "WordWrightModel$2" (14 : Nat) ({ cls := "WordWrightModel$Walk", name := "<init>", desc := "()V" } : Jvm.MethodName) "WordWrightModel"), (Jvm.Cond.methodLinkNest "WordWrightModel$3" (38 : Nat) ({ cls := "WordWrightModel", name := "meets", desc := "(LWordWrightModel$Dfa;J)Z" } : Jvm.MethodName) "WordWrightModel"), (Jvm.Cond.methodLinkNest "WordWrightModel$3" (32 : Nat) ({ cls := "WordWrightModel", name := "step", desc := "(LWordWrightModel$Dfa;JI)J" } : Jvm.MethodName) "WordWrightModel"), (Jvm.Cond.methodLinkNest "WordWrightModel$3" (10 : Nat) ({ cls := "WordWrightModel$Walk", name := "<init>", desc := "()V" } : Jvm.MethodName) "WordWrightModel"), (Jvm.Cond.methodLinkNest "WordWrightModel$4" (23 : Nat) ({ cls := "WordWrightModel", name := "meets", desc := "(LWordWrightModel$Dfa;J)Z" } : Jvm.MethodName) "WordWrightModel"), (Jvm.Cond.methodLinkNest "WordWrightModel$4" (17 : Nat) ({ cls := "WordWrightModel", name := "step", desc := "(LWordWrightModel$Dfa;JI)J" } : Jvm.MethodName) "WordWrightModel"), (Jvm.Cond.methodLinkNest "WordWrightModel$4" (7 : Nat) ({ cls := "WordWrightModel$Walk", name := "<init>", desc := "()V" } : Jvm.MethodName) "WordWrightModel"), (Jvm.Cond.methodLinkNest "WordWrightModel$5" (7 : Nat) ({ cls := "WordWrightModel$Walk", name := "<init>", desc := "()V" } : Jvm.MethodName) "WordWrightModel"), (Jvm.Cond.methodLinkNest "WordWrightModel$6" (11 : Nat) ({ cls := "WordWrightModel$Walk", name := "<init>", desc := "()V" } : Jvm.MethodName) "WordWrightModel"), (Jvm.Cond.methodLinkNest "WordWrightModel$9" (26 : Nat) ({ cls := "WordWrightModel", name := "one", desc := "(II)[Z" } : Jvm.MethodName) "WordWrightModel"), (Jvm.Cond.methodLinkNest "WordWrightModel$9" (10 : Nat) ({ cls := "WordWrightModel$Search", name := "<init>", desc := "()V" } : Jvm.MethodName) "WordWrightModel"), (Jvm.Cond.methodLinkNest "WordWrightModel$Dfa" (27 : Nat) ({ cls := "WordWrightModel", name := "length", desc := "(I)I" } : Jvm.MethodName) "WordWrightModel"), (Jvm.Cond.methodLinkNest "WordWrightModel$Equations" (40 : Nat) ({ cls := "WordWrightModel", name := "length", desc := "(I)I" } : Jvm.MethodName) "WordWrightModel"), (Jvm.Cond.methodLinkNest "WordWrightModel$Equations" (36 : Nat) ({ cls := "WordWrightModel", name := "isWord", desc := "(I)Z" } : Jvm.MethodName) "WordWrightModel"), (Jvm.Cond.fieldLinkNest "WordWrightModel$Spans" (22 : Nat) "WordWrightModel" "steps" "Ljava/util/List;" "WordWrightModel"), (Jvm.Cond.methodLinkNest "WordWrightModel" (115 : Nat) ({ cls := "WordWrightModel$Equations", name := "<init>", desc := "()V" } : Jvm.MethodName) "WordWrightModel"), (Jvm.Cond.methodLinkNest "WordWrightModel" (245 : Nat) ({ cls := "WordWrightModel$Machine", name := "<init>", desc := "()V" } : Jvm.MethodName) "WordWrightModel"), (Jvm.Cond.methodLinkNest "WordWright$Language" (37 : Nat) ({ cls := "WordWright", name := "lengthOf", desc := "(I)I" } : Jvm.MethodName) "WordWright"), (Jvm.Cond.methodLinkNest "WordWright$Program" (37 : Nat) ({ cls := "WordWright$Language", name := "<init>", desc := "()V" } : Jvm.MethodName) "WordWright"), (Jvm.Cond.methodLinkNest "WordWright$Schemas" (29 : Nat) ({ cls := "WordWright$Machine", name := "<init>", desc := "()V" } : Jvm.MethodName) "WordWright"), (Jvm.Cond.methodLinkNest "WordWright$Search" (11 : Nat) ({ cls := "WordWright$Machine", name := "<init>", desc := "()V" } : Jvm.MethodName) "WordWright"), (Jvm.Cond.methodLinkNest "WordWright$Search" (20 : Nat) ({ cls := "WordWright$Language", name := "<init>", desc := "()V" } : Jvm.MethodName) "WordWright"), (Jvm.Cond.methodLinkNest "WordWright$Workshop" (11 : Nat) ({ cls := "WordWright$Draft", name := "<init>", desc := "()V" } : Jvm.MethodName) "WordWright"), (Jvm.Cond.arrayOver (Jvm.ClassFile.FieldType.object "WordWright$Language")), (Jvm.Cond.arrayOver (Jvm.ClassFile.FieldType.object "WordWright$Machine")), (Jvm.Cond.castable "java/lang/IllegalArgumentException" "java/lang/IllegalArgumentException"), (Jvm.Cond.declares ({ cls := "java/lang/RuntimeException", name := "<init>", desc := "()V" } : Jvm.MethodName)), (Jvm.Cond.declares ({ cls := "java/lang/RuntimeException", name := "<init>", desc := "(Ljava/lang/String;)V" } : Jvm.MethodName)), (Jvm.Cond.declares ({ cls := "java/lang/Exception", name := "<init>", desc := "()V" } : Jvm.MethodName)), (Jvm.Cond.declares ({ cls := "java/lang/Exception", name := "<init>", desc := "(Ljava/lang/String;)V" } : Jvm.MethodName)), (Jvm.Cond.declares ({ cls := "java/lang/Throwable", name := "<init>", desc := "()V" } : Jvm.MethodName)), (Jvm.Cond.declares ({ cls := "java/lang/Throwable", name := "<init>", desc := "(Ljava/lang/String;)V" } : Jvm.MethodName)), (Jvm.Cond.castable "[B" "java/lang/Cloneable"), (Jvm.Cond.castable "java/lang/ArrayIndexOutOfBoundsException" "java/lang/ArrayIndexOutOfBoundsException"), (Jvm.Cond.declares ({ cls := "java/lang/IndexOutOfBoundsException", name := "<init>", desc := "()V" } : Jvm.MethodName)), (Jvm.Cond.declares ({ cls := "java/lang/IndexOutOfBoundsException", name := "<init>", desc := "(Ljava/lang/String;)V" } : Jvm.MethodName)), (Jvm.Cond.castable "java/lang/IllegalStateException" "java/lang/IllegalStateException"), (Jvm.Cond.castable "java/lang/IndexOutOfBoundsException" "java/lang/IndexOutOfBoundsException"), (Jvm.Cond.castable "java/lang/ArithmeticException" "java/lang/ArithmeticException"), (Jvm.Cond.declares ({ cls := "WordWrightModel$Walk", name := "smallest", desc := "()LWordWrightModel$Dfa;" } : Jvm.MethodName)), (Jvm.Cond.declares ({ cls := "WordWrightModel$Walk", name := "first", desc := "()J" } : Jvm.MethodName)), (Jvm.Cond.declares ({ cls := "WordWrightModel$Walk", name := "go", desc := "(JI)J" } : Jvm.MethodName)), (Jvm.Cond.privateMethod ({ cls := "WordWrightModel$Walk", name := "parted", desc := "([J[II)LWordWrightModel$Dfa;" } : Jvm.MethodName)), (Jvm.Cond.declares ({ cls := "WordWrightModel$Walk", name := "ends", desc := "(J)Z" } : Jvm.MethodName)), (Jvm.Cond.privateMethod ({ cls := "WordWrightModel$Walk", name := "numbered", desc := "([J[I[I[II)LWordWrightModel$Dfa;" } : Jvm.MethodName)), (Jvm.Cond.arrayOver (Jvm.ClassFile.FieldType.object "WordWrightModel$Dfa")), (Jvm.Cond.arrayOver (Jvm.ClassFile.FieldType.array Jvm.ClassFile.FieldType.int)), (Jvm.Cond.declares ({ cls := "java/util/List", name := "add", desc := "(Ljava/lang/Object;)Z" } : Jvm.MethodName)), (Jvm.Cond.castable "java/util/ArrayList" "java/util/List"), (Jvm.Cond.arrayOver (Jvm.ClassFile.FieldType.object "java/lang/Object")), (Jvm.Cond.declares ({ cls := "java/util/List", name := "size", desc := "()I" } : Jvm.MethodName)), (Jvm.Cond.declares ({ cls := "java/util/List", name := "get", desc := "(I)Ljava/lang/Object;" } : Jvm.MethodName)), (Jvm.Cond.declares ({ cls := "WordWrightModel$Search", name := "least", desc := "()I" } : Jvm.MethodName)), (Jvm.Cond.declares ({ cls := "WordWrightModel$Search", name := "size", desc := "()I" } : Jvm.MethodName)), (Jvm.Cond.declares ({ cls := "WordWrightModel$Search", name := "first", desc := "()[Z" } : Jvm.MethodName)), (Jvm.Cond.declares ({ cls := "WordWrightModel$Search", name := "isWished", desc := "(I)Z" } : Jvm.MethodName)), (Jvm.Cond.declares ({ cls := "WordWrightModel$Search", name := "go", desc := "([ZI)[Z" } : Jvm.MethodName)), (Jvm.Cond.declares ({ cls := "java/util/List", name := "isEmpty", desc := "()Z" } : Jvm.MethodName)), (Jvm.Cond.declares ({ cls := "java/util/List", name := "remove", desc := "(I)Ljava/lang/Object;" } : Jvm.MethodName)), (Jvm.Cond.declares ({ cls := "java/util/List", name := "clear", desc := "()V" } : Jvm.MethodName)), (Jvm.Cond.arrayOver (Jvm.ClassFile.FieldType.array (Jvm.ClassFile.FieldType.object "WordWrightModel$Dfa"))), (Jvm.Cond.castable "java/lang/ArrayIndexOutOfBoundsException" "java/lang/IndexOutOfBoundsException"), (Jvm.Cond.castable "WordWright$Language" "java/lang/Object"), (Jvm.Cond.castable "WordWright$Machine" "java/lang/Object"), (Jvm.Cond.castable "WordWrightModel$Dfa" "java/lang/Object"), (Jvm.Cond.castable "java/lang/Integer" "java/lang/Object"), (Jvm.Cond.castable "WordWright" "java/lang/Object"), (Jvm.Cond.castable "WordWright$Workshop" "java/lang/Object"), (Jvm.Cond.castable "WordWright$Draft" "java/lang/Object"), (Jvm.Cond.castable "WordWright$Search" "java/lang/Object"), (Jvm.Cond.castable "WordWright$Writings" "java/lang/Object"), (Jvm.Cond.castable "WordWright$Equations" "java/lang/Object"), (Jvm.Cond.castable "WordWright$Solver" "java/lang/Object"), (Jvm.Cond.castable "WordWright$Schemas" "java/lang/Object"), (Jvm.Cond.castable "WordWright$Program" "java/lang/Object"), (Jvm.Cond.castable "WordWrightModel" "java/lang/Object"), (Jvm.Cond.castable "WordWrightModel$1" "java/lang/Object"), (Jvm.Cond.castable "java/util/ArrayList" "java/lang/Object"), (Jvm.Cond.castable "WordWrightModel$Equations" "java/lang/Object"), (Jvm.Cond.castable "java/lang/IllegalArgumentException" "java/lang/Object"), (Jvm.Cond.castable "java/lang/IllegalStateException" "java/lang/Object"), (Jvm.Cond.castable "WordWrightModel$3" "java/lang/Object"), (Jvm.Cond.castable "WordWrightModel$2" "java/lang/Object"), (Jvm.Cond.castable "WordWrightModel$4" "java/lang/Object"), (Jvm.Cond.castable "WordWrightModel$5" "java/lang/Object"), (Jvm.Cond.castable "WordWrightModel$6" "java/lang/Object"), (Jvm.Cond.castable "WordWrightModel$8" "java/lang/Object"), (Jvm.Cond.castable "WordWrightModel$7" "java/lang/Object"), (Jvm.Cond.castable "java/lang/ArrayIndexOutOfBoundsException" "java/lang/Object"), (Jvm.Cond.castable "java/lang/IndexOutOfBoundsException" "java/lang/Object"), (Jvm.Cond.castable "WordWrightModel$9" "java/lang/Object"), (Jvm.Cond.castable "java/lang/ArithmeticException" "java/lang/Object"), (Jvm.Cond.castable "WordWrightModel$Machine" "java/lang/Object"), (Jvm.Cond.castable "java/lang/StringBuilder" "java/lang/Object"), (Jvm.Cond.castable "java/lang/String" "java/lang/Object"), (Jvm.Cond.castable "WordWrightModel$11" "java/lang/Object"), (Jvm.Cond.castable "WordWrightModel$10" "java/lang/Object"), (Jvm.Cond.castable "WordWrightModel$Step" "java/lang/Object"), (Jvm.Cond.castable "WordWrightModel$Spans" "java/lang/Object"), (Jvm.Cond.castable "java/lang/Throwable" "java/lang/Object"), (Jvm.Cond.declares ({ cls := "java/lang/Object", name := "getClass", desc := "()Ljava/lang/Class;" } : Jvm.MethodName)), (Jvm.Cond.castable "[LWordWright$Language;" "java/lang/Object"), (Jvm.Cond.castable "[LWordWright$Machine;" "java/lang/Object"), (Jvm.Cond.castable "[I" "java/lang/Object"), (Jvm.Cond.castable "[J" "java/lang/Object"), (Jvm.Cond.castable "[Z" "java/lang/Object"), (Jvm.Cond.castable "[B" "java/lang/Object"), (Jvm.Cond.castable "[LWordWrightModel$Dfa;" "java/lang/Object"), (Jvm.Cond.castable "[[I" "java/lang/Object"), (Jvm.Cond.castable "[Ljava/lang/Object;" "java/lang/Object"), (Jvm.Cond.castable "[[LWordWrightModel$Dfa;" "java/lang/Object")]
theorem rNGs_in : ∀ w ∈ rNGs, w ∈ tables_1 := by decide +kernel
def rFws : List (String × MethodName × MethodName) := [("java/util/ArrayList", ⟨"java/util/List", "add", "(Ljava/lang/Object;)Z"⟩, ⟨"java/util/ArrayList", "add", "(Ljava/lang/Object;)Z"⟩), ("java/util/ArrayList", ⟨"java/util/List", "clear", "()V"⟩, ⟨"java/util/ArrayList", "clear", "()V"⟩), ("java/util/ArrayList", ⟨"java/util/List", "get", "(I)Ljava/lang/Object;"⟩, ⟨"java/util/ArrayList", "get", "(I)Ljava/lang/Object;"⟩), ("java/util/ArrayList", ⟨"java/util/List", "isEmpty", "()Z"⟩, ⟨"java/util/ArrayList", "isEmpty", "()Z"⟩), ("java/util/ArrayList", ⟨"java/util/List", "size", "()I"⟩, ⟨"java/util/ArrayList", "size", "()I"⟩)]
def rNcs : List (String × String) := [("java/lang/IllegalArgumentException", "java/lang/IndexOutOfBoundsException")]
def rStr : List (String × Nat × String) := [("WordWright", 174, "no such MACHINE"), ("WordWright", 340, "no such STEP"), ("WordWright", 277, "no such SCHEMA, or LETTER"), ("WordWright", 122, "no such LANGUAGE"), ("WordWright", 219, "no such MACHINE, or LANGUAGE"), ("WordWright", 228, "no such VARIABLE"), ("WordWright", 230, "no such LANGUAGE, or most is not 0 to 2"), ("WordWright", 146, "no WORD"), ("WordWright", 151, "letters is not 0 to 12"), ("WordWright", 93, "no such KIND, or no such a or b for it"), ("WordWright", 345, "what is not 0 to 9"), ("WordWright", 295, "no such SCHEMA"), ("WordWright", 137, "no such STATE, or LETTER"), ("WordWright", 285, "no such PARENT, or LETTER"), ("WordWright", 125, "what is not 0 to 5"), ("WordWright", 350, "most is not 0 to 2"), ("WordWright", 329, "no such STEP, or STRING"), ("WordWright", 331, "what is not 0 to 3"), ("WordWright", 318, "no such SORT, or no such a, b or c for it"), ("WordWright", 243, "no such EQUATION"), ("WordWright", 257, "there is no EQUATION")]
