/-! names, laid out by a program of mine from the Statement: classes, fields, methods, words -/
def zz_ws : List Cond := lw_tbl.filter goodWord
theorem zz_wsG : GoodIn zz_ws zz_ws := fun _ hw => ⟨hw, good_of_word (List.mem_filter.mp hw).2⟩
theorem zz_in {w : Cond} (h : w ∈ tables_1) (hg : goodWord w = true) : w ∈ zz_ws := List.mem_filter.mpr ⟨List.mem_append_right _ h, hg⟩
theorem zz_inp {y : MethodName} {n : Nat} (h : (y, n) ∈ lw_privs) : Cond.selects y.cls y y ∈ zz_ws := List.mem_filter.mpr ⟨List.mem_append_left _ (List.mem_map.mpr ⟨(y, n), h, rfl⟩), rfl⟩
def fF_0 : u_T := fun k => match k with
  | 0 => ("RequestGate", "buffer", "LRequestGate$Text;", true)
  | 1 => ("RequestGate", "path", "LRequestGate$PlainPath;", true)
  | 2 => ("RequestGate", "layer", "LRequestGate$Layer;", true)
  | 3 => ("RequestGate", "conditions", "LRequestGate$Conditions;", true)
  | 4 => ("RequestGate", "inclusions", "LRequestGate$Roles;", true)
  | 5 => ("RequestGate", "rules", "Ljava/util/ArrayList;", true)
  | 6 => ("RequestGate", "users", "Ljava/util/ArrayList;", true)
  | 7 => ("RequestGate", "services", "Ljava/util/ArrayList;", true)
  | 8 => ("RequestGate", "sessions", "LRequestGate$Tickets;", true)
  | 9 => ("RequestGate", "memory", "LRequestGate$Tickets;", true)
  | 10 => ("RequestGate", "subject", "I", false)
  | 11 => ("RequestGate", "requestIsOpen", "Z", false)
  | 12 => ("RequestGate", "time", "I", false)
  | 13 => ("RequestGate", "drawn", "I", false)
  | 14 => ("RequestGate", "opened", "I", false)
  | 15 => ("RequestGate", "bodiesRun", "I", false)
  | 16 => ("RequestGate", "bodiesBarred", "I", false)
  | 17 => ("RequestGate", "thefts", "I", false)
  | _ => ("RequestGate", "lockings", "I", false)
def fF_1 : u_T := fun k => match k with
  | 0 => ("RequestGate$Text", "characters", "[C", true)
  | _ => ("RequestGate$Text", "length", "I", false)
def fF_2 : u_T := fun k => match k with
  | 0 => ("RequestGate$Pieces", "characters", "[C", true)
  | 1 => ("RequestGate$Pieces", "starts", "[I", true)
  | 2 => ("RequestGate$Pieces", "ends", "[I", true)
  | 3 => ("RequestGate$Pieces", "begun", "I", false)
  | 4 => ("RequestGate$Pieces", "written", "I", false)
  | _ => ("RequestGate$Pieces", "size", "I", false)
def fF_3 : u_T := fun k => match k with
  | _ => ("RequestGate$PlainPath", "segments", "LRequestGate$Pieces;", true)
def fF_4 : u_T := fun k => match k with
  | 0 => ("RequestGate$Layer", "laid", "[Z", true)
  | _ => ("RequestGate$Layer", "reached", "[Z", true)
def fF_5 : u_T := fun k => match k with
  | 0 => ("RequestGate$Rule", "pattern", "LRequestGate$Pieces;", true)
  | 1 => ("RequestGate$Rule", "expression", "I", true)
  | _ => ("RequestGate$Rule", "methods", "I", true)
def fF_6 : u_T := fun k => match k with
  | _ => ("RequestGate$Roles", "included", "[I", true)
def fF_7 : u_T := fun k => match k with
  | 0 => ("RequestGate$Conditions", "ops", "[I", true)
  | 1 => ("RequestGate$Conditions", "firsts", "[I", true)
  | 2 => ("RequestGate$Conditions", "seconds", "[I", true)
  | 3 => ("RequestGate$Conditions", "values", "[I", true)
  | _ => ("RequestGate$Conditions", "size", "I", false)
def fF_8 : u_T := fun k => match k with
  | 0 => ("RequestGate$User", "given", "I", true)
  | 1 => ("RequestGate$User", "scheme", "I", false)
  | 2 => ("RequestGate$User", "salt", "I", false)
  | 3 => ("RequestGate$User", "hash", "I", false)
  | 4 => ("RequestGate$User", "wrongTries", "I", false)
  | _ => ("RequestGate$User", "lockedUntil", "I", false)
def fF_9 : u_T := fun k => match k with
  | 0 => ("RequestGate$Ticket", "user", "I", true)
  | 1 => ("RequestGate$Ticket", "id", "I", true)
  | 2 => ("RequestGate$Ticket", "token", "I", false)
  | 3 => ("RequestGate$Ticket", "remembered", "Z", true)
  | 4 => ("RequestGate$Ticket", "made", "I", true)
  | _ => ("RequestGate$Ticket", "lastUsed", "I", false)
def fF_10 : u_T := fun k => match k with
  | _ => ("RequestGate$Tickets", "all", "Ljava/util/ArrayList;", true)
def fF_11 : u_T := fun k => match k with
  | 0 => ("RequestGate$Service", "parent", "I", true)
  | 1 => ("RequestGate$Service", "face", "I", true)
  | 2 => ("RequestGate$Service", "condition", "I", true)
  | 3 => ("RequestGate$Service", "declared", "[Z", true)
  | _ => ("RequestGate$Service", "conditions", "[I", true)
def fF_12 : u_T := fun k => match k with
  | 0 => ("java/util/ArrayList", "elementData", "[Ljava/lang/Object;", false)
  | 1 => ("java/util/ArrayList", "size", "I", false)
  | _ => ("java/util/AbstractList", "modCount", "I", false)
def fF_13 : u_T := fun k => match k with
  | 0 => ("RequestGateModel", "drawn", "I", false)
  | 1 => ("RequestGateModel", "time", "I", false)
  | 2 => ("RequestGateModel", "opened", "I", false)
  | 3 => ("RequestGateModel", "ran", "I", false)
  | 4 => ("RequestGateModel", "kept", "I", false)
  | 5 => ("RequestGateModel", "thefts", "I", false)
  | 6 => ("RequestGateModel", "locks", "I", false)
  | 7 => ("RequestGateModel", "added", "[I", true)
  | 8 => ("RequestGateModel", "users", "I", false)
  | 9 => ("RequestGateModel", "given", "[I", true)
  | 10 => ("RequestGateModel", "scheme", "[I", true)
  | 11 => ("RequestGateModel", "salt", "[I", true)
  | 12 => ("RequestGateModel", "hash", "[I", true)
  | 13 => ("RequestGateModel", "fails", "[I", true)
  | 14 => ("RequestGateModel", "lockedTo", "[I", true)
  | 15 => ("RequestGateModel", "made", "[Z", true)
  | 16 => ("RequestGateModel", "sessionId", "[I", true)
  | 17 => ("RequestGateModel", "sessionToken", "[I", true)
  | 18 => ("RequestGateModel", "remembered", "[Z", true)
  | 19 => ("RequestGateModel", "madeAt", "[I", true)
  | 20 => ("RequestGateModel", "usedAt", "[I", true)
  | 21 => ("RequestGateModel", "lasting", "[Z", true)
  | 22 => ("RequestGateModel", "seriesId", "[I", true)
  | 23 => ("RequestGateModel", "seriesToken", "[I", true)
  | 24 => ("RequestGateModel", "expressions", "I", false)
  | 25 => ("RequestGateModel", "op", "[I", true)
  | 26 => ("RequestGateModel", "one", "[I", true)
  | 27 => ("RequestGateModel", "two", "[I", true)
  | 28 => ("RequestGateModel", "value", "[I", true)
  | 29 => ("RequestGateModel", "size", "I", false)
  | 30 => ("RequestGateModel", "buffer", "[I", true)
  | 31 => ("RequestGateModel", "plain", "[I", true)
  | 32 => ("RequestGateModel", "from", "[I", true)
  | 33 => ("RequestGateModel", "to", "[I", true)
  | 34 => ("RequestGateModel", "segment", "[I", true)
  | 35 => ("RequestGateModel", "segments", "I", false)
  | 36 => ("RequestGateModel", "here", "[Z", true)
  | 37 => ("RequestGateModel", "next", "[Z", true)
  | 38 => ("RequestGateModel", "mark", "[Z", true)
  | 39 => ("RequestGateModel", "beyond", "[Z", true)
  | 40 => ("RequestGateModel", "rules", "I", false)
  | 41 => ("RequestGateModel", "text", "[I", true)
  | 42 => ("RequestGateModel", "length", "[I", true)
  | 43 => ("RequestGateModel", "condition", "[I", true)
  | 44 => ("RequestGateModel", "methods", "[I", true)
  | 45 => ("RequestGateModel", "types", "I", false)
  | 46 => ("RequestGateModel", "parent", "[I", true)
  | 47 => ("RequestGateModel", "face", "[I", true)
  | 48 => ("RequestGateModel", "typeCondition", "[I", true)
  | 49 => ("RequestGateModel", "declares", "[Z", true)
  | 50 => ("RequestGateModel", "declared", "[I", true)
  | 51 => ("RequestGateModel", "isOpen", "Z", false)
  | 52 => ("RequestGateModel", "subject", "I", false)
  | 53 => ("RequestGateModel", "subjectRemembered", "Z", false)
  | 54 => ("RequestGateModel", "asker", "I", false)
  | _ => ("RequestGateModel", "askerRemembered", "Z", false)
abbrev zz_cl : List vw_C := [("RequestGate", fF_0, 19), ("RequestGate$Text", fF_1, 2), ("RequestGate$Pieces", fF_2, 6), ("RequestGate$PlainPath", fF_3, 1), ("RequestGate$Layer", fF_4, 2), ("RequestGate$Rule", fF_5, 3), ("RequestGate$Roles", fF_6, 1), ("RequestGate$Conditions", fF_7, 5), ("RequestGate$User", fF_8, 6), ("RequestGate$Ticket", fF_9, 6), ("RequestGate$Tickets", fF_10, 1), ("RequestGate$Service", fF_11, 5), ("java/util/ArrayList", fF_12, 3), ("RequestGateModel", fF_13, 56)]
def zz_ftl : List (List FieldType) := [[.object "RequestGate$Text", .object "RequestGate$PlainPath", .object "RequestGate$Layer", .object "RequestGate$Conditions", .object "RequestGate$Roles", .object "java/util/ArrayList", .object "java/util/ArrayList", .object "java/util/ArrayList", .object "RequestGate$Tickets", .object "RequestGate$Tickets", .int, .boolean, .int, .int, .int, .int, .int, .int, .int],
  [.array .char, .int],
  [.array .char, .array .int, .array .int, .int, .int, .int],
  [.object "RequestGate$Pieces"],
  [.array .boolean, .array .boolean],
  [.object "RequestGate$Pieces", .int, .int],
  [.array .int],
  [.array .int, .array .int, .array .int, .array .int, .int],
  [.int, .int, .int, .int, .int, .int],
  [.int, .int, .int, .boolean, .int, .int],
  [.object "java/util/ArrayList"],
  [.int, .int, .int, .array .boolean, .array .int],
  [.array (.object "java/lang/Object"), .int, .int],
  [.int, .int, .int, .int, .int, .int, .int, .array .int, .int, .array .int, .array .int, .array .int, .array .int, .array .int, .array .int, .array .boolean, .array .int, .array .int, .array .boolean, .array .int, .array .int, .array .boolean, .array .int, .array .int, .int, .array .int, .array .int, .array .int, .array .int, .int, .array .int, .array .int, .array .int, .array .int, .array .int, .int, .array .boolean, .array .boolean, .array .boolean, .array .boolean, .int, .array .int, .array .int, .array .int, .array .int, .int, .array .int, .array .int, .array .int, .array .boolean, .array .int, .boolean, .int, .boolean, .int, .boolean]]
def zz_fty (ci k : Nat) : FieldType := (zz_ftl.getD ci []).getD k .int
def zz_nl : List (String × Nat × MethodName × String) := [("RequestGate", 11, ⟨"RequestGate$Text", "<init>", "()V"⟩, "RequestGate"), ("RequestGate", 18, ⟨"RequestGate$PlainPath", "<init>", "()V"⟩, "RequestGate"), ("RequestGate$PlainPath", 11, ⟨"RequestGate$Pieces", "<init>", "()V"⟩, "RequestGate"), ("RequestGate", 25, ⟨"RequestGate$Layer", "<init>", "()V"⟩, "RequestGate"), ("RequestGate", 32, ⟨"RequestGate$Conditions", "<init>", "()V"⟩, "RequestGate"), ("RequestGate", 59, ⟨"RequestGate$Tickets", "<init>", "()V"⟩, "RequestGate"), ("RequestGate$Rule", 9, ⟨"RequestGate$Pieces", "<init>", "()V"⟩, "RequestGate"), ("RequestGate$Service", 29, ⟨"RequestGate", "isOperation", "(I)Z"⟩, "RequestGate")]
def zz_ca : List (String × String) := [("RequestGate$Service", "RequestGate$Service"), ("RequestGate$Ticket", "RequestGate$Ticket"), ("RequestGate$User", "RequestGate$User"), ("RequestGate$Rule", "RequestGate$Rule"), ("RequestGate", "java/lang/Object"), ("RequestGate$Text", "java/lang/Object"), ("RequestGate$PlainPath", "java/lang/Object"), ("RequestGate$Pieces", "java/lang/Object"), ("RequestGate$Layer", "java/lang/Object"), ("RequestGate$Conditions", "java/lang/Object"), ("RequestGate$Roles", "java/lang/Object"), ("RequestGate$Tickets", "java/lang/Object"), ("RequestGateModel", "java/lang/Object"), ("RequestGate$Rule", "java/lang/Object"), ("RequestGate$User", "java/lang/Object"), ("RequestGate$Service", "java/lang/Object"), ("RequestGate$Ticket", "java/lang/Object")]
theorem zw_0 : Cond.initialized "RequestGateLaw" ∈ zz_ws := zz_in (List.mem_of_getElem? (i := 0) (by decide +kernel)) rfl
theorem zw_1 : Cond.initialized "RequestGate" ∈ zz_ws := zz_in (List.mem_of_getElem? (i := 1) (by decide +kernel)) rfl
theorem zw_2 : Cond.initialized "RequestGate$Text" ∈ zz_ws := zz_in (List.mem_of_getElem? (i := 2) (by decide +kernel)) rfl
theorem zw_3 : Cond.initialized "RequestGate$PlainPath" ∈ zz_ws := zz_in (List.mem_of_getElem? (i := 3) (by decide +kernel)) rfl
theorem zw_4 : Cond.initialized "RequestGate$Pieces" ∈ zz_ws := zz_in (List.mem_of_getElem? (i := 4) (by decide +kernel)) rfl
theorem zw_5 : Cond.initialized "RequestGate$Layer" ∈ zz_ws := zz_in (List.mem_of_getElem? (i := 5) (by decide +kernel)) rfl
theorem zw_6 : Cond.initialized "RequestGate$Conditions" ∈ zz_ws := zz_in (List.mem_of_getElem? (i := 6) (by decide +kernel)) rfl
theorem zw_7 : Cond.initialized "RequestGate$Roles" ∈ zz_ws := zz_in (List.mem_of_getElem? (i := 7) (by decide +kernel)) rfl
theorem zw_8 : Cond.initialized "java/util/AbstractCollection" ∈ zz_ws := zz_in (List.mem_of_getElem? (i := 8) (by decide +kernel)) rfl
theorem zw_9 : Cond.initialized "java/util/AbstractList" ∈ zz_ws := zz_in (List.mem_of_getElem? (i := 9) (by decide +kernel)) rfl
theorem zw_10 : Cond.initialized "java/util/ArrayList" ∈ zz_ws := zz_in (List.mem_of_getElem? (i := 10) (by decide +kernel)) rfl
theorem zw_11 : Cond.initialized "RequestGate$Tickets" ∈ zz_ws := zz_in (List.mem_of_getElem? (i := 11) (by decide +kernel)) rfl
theorem zw_12 : Cond.initialized "RequestGateModel" ∈ zz_ws := zz_in (List.mem_of_getElem? (i := 12) (by decide +kernel)) rfl
theorem zw_13 : Cond.initialized "RequestGate$Rule" ∈ zz_ws := zz_in (List.mem_of_getElem? (i := 13) (by decide +kernel)) rfl
theorem zw_14 : Cond.initialized "jdk/internal/util/ArraysSupport" ∈ zz_ws := zz_in (List.mem_of_getElem? (i := 14) (by decide +kernel)) rfl
theorem zw_15 : Cond.initialized "java/lang/Math" ∈ zz_ws := zz_in (List.mem_of_getElem? (i := 15) (by decide +kernel)) rfl
theorem zw_16 : Cond.initialized "java/util/Arrays" ∈ zz_ws := zz_in (List.mem_of_getElem? (i := 16) (by decide +kernel)) rfl
theorem zw_17 : Cond.initialized "java/lang/System" ∈ zz_ws := zz_in (List.mem_of_getElem? (i := 17) (by decide +kernel)) rfl
theorem zw_18 : Cond.initialized "RequestGate$User" ∈ zz_ws := zz_in (List.mem_of_getElem? (i := 18) (by decide +kernel)) rfl
theorem zw_19 : Cond.initialized "RequestGate$Service" ∈ zz_ws := zz_in (List.mem_of_getElem? (i := 19) (by decide +kernel)) rfl
theorem zw_20 : Cond.initialized "java/util/Objects" ∈ zz_ws := zz_in (List.mem_of_getElem? (i := 20) (by decide +kernel)) rfl
theorem zw_21 : Cond.initialized "jdk/internal/util/Preconditions" ∈ zz_ws := zz_in (List.mem_of_getElem? (i := 21) (by decide +kernel)) rfl
theorem zw_22 : Cond.initialized "RequestGate$Ticket" ∈ zz_ws := zz_in (List.mem_of_getElem? (i := 22) (by decide +kernel)) rfl
theorem zw_23 : Cond.classLink "RequestGateLaw" (7 : Nat) "RequestGate" ∈ zz_ws := zz_in (List.mem_of_getElem? (i := 23) (by decide +kernel)) rfl
theorem zw_24 : Cond.instantiable "RequestGate" (19 : Nat) ∈ zz_ws := zz_in (List.mem_of_getElem? (i := 24) (by decide +kernel)) rfl
theorem zw_25 : Cond.methodLink "RequestGateLaw" (9 : Nat) ({ cls := "RequestGate", name := "<init>", desc := "()V" } : MethodName) ∈ zz_ws := zz_in (List.mem_of_getElem? (i := 25) (by decide +kernel)) rfl
theorem zw_26 : Cond.instanceMethod ({ cls := "RequestGate", name := "<init>", desc := "()V" } : MethodName) ∈ zz_ws := zz_in (List.mem_of_getElem? (i := 26) (by decide +kernel)) rfl
theorem zw_27 : Cond.code ({ cls := "RequestGate", name := "<init>", desc := "()V" } : MethodName) prog_1_method_1_code (1 : Nat) (none : Option FieldType) ∈ zz_ws := zz_in (List.mem_of_getElem? (i := 27) (by decide +kernel)) rfl
theorem zw_28 : Cond.methodLink "RequestGate" (3 : Nat) ({ cls := "java/lang/Object", name := "<init>", desc := "()V" } : MethodName) ∈ zz_ws := zz_in (List.mem_of_getElem? (i := 28) (by decide +kernel)) rfl
theorem zw_29 : Cond.instanceMethod ({ cls := "java/lang/Object", name := "<init>", desc := "()V" } : MethodName) ∈ zz_ws := zz_in (List.mem_of_getElem? (i := 29) (by decide +kernel)) rfl
theorem zw_30 : Cond.code ({ cls := "java/lang/Object", name := "<init>", desc := "()V" } : MethodName) object_method_1_code (1 : Nat) (none : Option FieldType) ∈ zz_ws := zz_in (List.mem_of_getElem? (i := 30) (by decide +kernel)) rfl
theorem zw_31 : Cond.classLink "RequestGate" (9 : Nat) "RequestGate$Text" ∈ zz_ws := zz_in (List.mem_of_getElem? (i := 31) (by decide +kernel)) rfl
theorem zw_32 : Cond.instantiable "RequestGate$Text" (2 : Nat) ∈ zz_ws := zz_in (List.mem_of_getElem? (i := 32) (by decide +kernel)) rfl
theorem zw_34 : Cond.instanceMethod ({ cls := "RequestGate$Text", name := "<init>", desc := "()V" } : MethodName) ∈ zz_ws := zz_in (List.mem_of_getElem? (i := 34) (by decide +kernel)) rfl
theorem zw_35 : Cond.code ({ cls := "RequestGate$Text", name := "<init>", desc := "()V" } : MethodName) prog_9_method_1_code (1 : Nat) (none : Option FieldType) ∈ zz_ws := zz_in (List.mem_of_getElem? (i := 35) (by decide +kernel)) rfl
theorem zw_36 : Cond.methodLink "RequestGate$Text" (3 : Nat) ({ cls := "java/lang/Object", name := "<init>", desc := "()V" } : MethodName) ∈ zz_ws := zz_in (List.mem_of_getElem? (i := 36) (by decide +kernel)) rfl
theorem zw_37 : Cond.fieldLink "RequestGate$Text" (9 : Nat) "RequestGate$Text" "characters" "[C" ∈ zz_ws := zz_in (List.mem_of_getElem? (i := 37) (by decide +kernel)) rfl
theorem zw_38 : Cond.fieldLink "RequestGate$Rule" (23 : Nat) "RequestGate$Text" "length" "I" ∈ zz_ws := zz_in (List.mem_of_getElem? (i := 38) (by decide +kernel)) rfl
theorem zw_39 : Cond.fieldLink "RequestGate$PlainPath" (31 : Nat) "RequestGate$Text" "length" "I" ∈ zz_ws := zz_in (List.mem_of_getElem? (i := 39) (by decide +kernel)) rfl
theorem zw_40 : Cond.fieldLink "RequestGate$Text" (19 : Nat) "RequestGate$Text" "length" "I" ∈ zz_ws := zz_in (List.mem_of_getElem? (i := 40) (by decide +kernel)) rfl
theorem zw_41 : Cond.laysFinal "RequestGate$Text" "RequestGate$Text" "characters" "[C" ∈ zz_ws := zz_in (List.mem_of_getElem? (i := 41) (by decide +kernel)) rfl
theorem zw_43 : Cond.lays "RequestGate$Text" "RequestGate$Text" "length" "I" ∈ zz_ws := zz_in (List.mem_of_getElem? (i := 43) (by decide +kernel)) rfl
theorem zw_46 : Cond.arrayClass FieldType.char ∈ zz_ws := zz_in (List.mem_of_getElem? (i := 46) (by decide +kernel)) rfl
theorem zw_47 : Cond.classLink "RequestGate" (16 : Nat) "RequestGate$PlainPath" ∈ zz_ws := zz_in (List.mem_of_getElem? (i := 47) (by decide +kernel)) rfl
theorem zw_48 : Cond.instantiable "RequestGate$PlainPath" (1 : Nat) ∈ zz_ws := zz_in (List.mem_of_getElem? (i := 48) (by decide +kernel)) rfl
theorem zw_50 : Cond.instanceMethod ({ cls := "RequestGate$PlainPath", name := "<init>", desc := "()V" } : MethodName) ∈ zz_ws := zz_in (List.mem_of_getElem? (i := 50) (by decide +kernel)) rfl
theorem zw_51 : Cond.code ({ cls := "RequestGate$PlainPath", name := "<init>", desc := "()V" } : MethodName) prog_5_method_1_code (1 : Nat) (none : Option FieldType) ∈ zz_ws := zz_in (List.mem_of_getElem? (i := 51) (by decide +kernel)) rfl
theorem zw_52 : Cond.methodLink "RequestGate$PlainPath" (3 : Nat) ({ cls := "java/lang/Object", name := "<init>", desc := "()V" } : MethodName) ∈ zz_ws := zz_in (List.mem_of_getElem? (i := 52) (by decide +kernel)) rfl
theorem zw_53 : Cond.classLink "RequestGate$PlainPath" (9 : Nat) "RequestGate$Pieces" ∈ zz_ws := zz_in (List.mem_of_getElem? (i := 53) (by decide +kernel)) rfl
theorem zw_54 : Cond.instantiable "RequestGate$Pieces" (6 : Nat) ∈ zz_ws := zz_in (List.mem_of_getElem? (i := 54) (by decide +kernel)) rfl
theorem zw_56 : Cond.instanceMethod ({ cls := "RequestGate$Pieces", name := "<init>", desc := "()V" } : MethodName) ∈ zz_ws := zz_in (List.mem_of_getElem? (i := 56) (by decide +kernel)) rfl
theorem zw_57 : Cond.code ({ cls := "RequestGate$Pieces", name := "<init>", desc := "()V" } : MethodName) prog_4_method_1_code (1 : Nat) (none : Option FieldType) ∈ zz_ws := zz_in (List.mem_of_getElem? (i := 57) (by decide +kernel)) rfl
theorem zw_58 : Cond.methodLink "RequestGate$Pieces" (3 : Nat) ({ cls := "java/lang/Object", name := "<init>", desc := "()V" } : MethodName) ∈ zz_ws := zz_in (List.mem_of_getElem? (i := 58) (by decide +kernel)) rfl
theorem zw_59 : Cond.fieldLink "RequestGate$Pieces" (9 : Nat) "RequestGate$Pieces" "characters" "[C" ∈ zz_ws := zz_in (List.mem_of_getElem? (i := 59) (by decide +kernel)) rfl
theorem zw_60 : Cond.fieldLink "RequestGate$Pieces" (15 : Nat) "RequestGate$Pieces" "starts" "[I" ∈ zz_ws := zz_in (List.mem_of_getElem? (i := 60) (by decide +kernel)) rfl
theorem zw_61 : Cond.fieldLink "RequestGate$Pieces" (19 : Nat) "RequestGate$Pieces" "ends" "[I" ∈ zz_ws := zz_in (List.mem_of_getElem? (i := 61) (by decide +kernel)) rfl
theorem zw_62 : Cond.fieldLink "RequestGate$Pieces" (22 : Nat) "RequestGate$Pieces" "begun" "I" ∈ zz_ws := zz_in (List.mem_of_getElem? (i := 62) (by decide +kernel)) rfl
theorem zw_63 : Cond.fieldLink "RequestGate$Pieces" (26 : Nat) "RequestGate$Pieces" "written" "I" ∈ zz_ws := zz_in (List.mem_of_getElem? (i := 63) (by decide +kernel)) rfl
theorem zw_64 : Cond.fieldLink "RequestGate$Layer" (22 : Nat) "RequestGate$Pieces" "size" "I" ∈ zz_ws := zz_in (List.mem_of_getElem? (i := 64) (by decide +kernel)) rfl
theorem zw_65 : Cond.fieldLink "RequestGate$Pieces" (29 : Nat) "RequestGate$Pieces" "size" "I" ∈ zz_ws := zz_in (List.mem_of_getElem? (i := 65) (by decide +kernel)) rfl
theorem zw_66 : Cond.fieldLink "RequestGate$PlainPath" (76 : Nat) "RequestGate$Pieces" "size" "I" ∈ zz_ws := zz_in (List.mem_of_getElem? (i := 66) (by decide +kernel)) rfl
theorem zw_67 : Cond.fieldLink "RequestGate" (275 : Nat) "RequestGate$Pieces" "size" "I" ∈ zz_ws := zz_in (List.mem_of_getElem? (i := 67) (by decide +kernel)) rfl
theorem zw_68 : Cond.laysFinal "RequestGate$Pieces" "RequestGate$Pieces" "characters" "[C" ∈ zz_ws := zz_in (List.mem_of_getElem? (i := 68) (by decide +kernel)) rfl
theorem zw_70 : Cond.laysFinal "RequestGate$Pieces" "RequestGate$Pieces" "starts" "[I" ∈ zz_ws := zz_in (List.mem_of_getElem? (i := 70) (by decide +kernel)) rfl
theorem zw_72 : Cond.laysFinal "RequestGate$Pieces" "RequestGate$Pieces" "ends" "[I" ∈ zz_ws := zz_in (List.mem_of_getElem? (i := 72) (by decide +kernel)) rfl
theorem zw_74 : Cond.lays "RequestGate$Pieces" "RequestGate$Pieces" "begun" "I" ∈ zz_ws := zz_in (List.mem_of_getElem? (i := 74) (by decide +kernel)) rfl
theorem zw_76 : Cond.lays "RequestGate$Pieces" "RequestGate$Pieces" "written" "I" ∈ zz_ws := zz_in (List.mem_of_getElem? (i := 76) (by decide +kernel)) rfl
theorem zw_78 : Cond.lays "RequestGate$Pieces" "RequestGate$Pieces" "size" "I" ∈ zz_ws := zz_in (List.mem_of_getElem? (i := 78) (by decide +kernel)) rfl
theorem zw_81 : Cond.arrayClass FieldType.int ∈ zz_ws := zz_in (List.mem_of_getElem? (i := 81) (by decide +kernel)) rfl
theorem zw_82 : Cond.fieldLink "RequestGate$PlainPath" (12 : Nat) "RequestGate$PlainPath" "segments" "LRequestGate$Pieces;" ∈ zz_ws := zz_in (List.mem_of_getElem? (i := 82) (by decide +kernel)) rfl
theorem zw_83 : Cond.fieldLink "RequestGate" (230 : Nat) "RequestGate$PlainPath" "segments" "LRequestGate$Pieces;" ∈ zz_ws := zz_in (List.mem_of_getElem? (i := 83) (by decide +kernel)) rfl
theorem zw_84 : Cond.laysFinal "RequestGate$PlainPath" "RequestGate$PlainPath" "segments" "LRequestGate$Pieces;" ∈ zz_ws := zz_in (List.mem_of_getElem? (i := 84) (by decide +kernel)) rfl
theorem zw_87 : Cond.classLink "RequestGate" (23 : Nat) "RequestGate$Layer" ∈ zz_ws := zz_in (List.mem_of_getElem? (i := 87) (by decide +kernel)) rfl
theorem zw_88 : Cond.instantiable "RequestGate$Layer" (2 : Nat) ∈ zz_ws := zz_in (List.mem_of_getElem? (i := 88) (by decide +kernel)) rfl
theorem zw_90 : Cond.instanceMethod ({ cls := "RequestGate$Layer", name := "<init>", desc := "()V" } : MethodName) ∈ zz_ws := zz_in (List.mem_of_getElem? (i := 90) (by decide +kernel)) rfl
theorem zw_91 : Cond.code ({ cls := "RequestGate$Layer", name := "<init>", desc := "()V" } : MethodName) prog_3_method_1_code (1 : Nat) (none : Option FieldType) ∈ zz_ws := zz_in (List.mem_of_getElem? (i := 91) (by decide +kernel)) rfl
theorem zw_92 : Cond.methodLink "RequestGate$Layer" (3 : Nat) ({ cls := "java/lang/Object", name := "<init>", desc := "()V" } : MethodName) ∈ zz_ws := zz_in (List.mem_of_getElem? (i := 92) (by decide +kernel)) rfl
theorem zw_93 : Cond.fieldLink "RequestGate$Layer" (9 : Nat) "RequestGate$Layer" "laid" "[Z" ∈ zz_ws := zz_in (List.mem_of_getElem? (i := 93) (by decide +kernel)) rfl
theorem zw_94 : Cond.fieldLink "RequestGate$Layer" (15 : Nat) "RequestGate$Layer" "reached" "[Z" ∈ zz_ws := zz_in (List.mem_of_getElem? (i := 94) (by decide +kernel)) rfl
theorem zw_95 : Cond.laysFinal "RequestGate$Layer" "RequestGate$Layer" "laid" "[Z" ∈ zz_ws := zz_in (List.mem_of_getElem? (i := 95) (by decide +kernel)) rfl
theorem zw_97 : Cond.laysFinal "RequestGate$Layer" "RequestGate$Layer" "reached" "[Z" ∈ zz_ws := zz_in (List.mem_of_getElem? (i := 97) (by decide +kernel)) rfl
theorem zw_100 : Cond.arrayClass FieldType.boolean ∈ zz_ws := zz_in (List.mem_of_getElem? (i := 100) (by decide +kernel)) rfl
theorem zw_101 : Cond.classLink "RequestGate" (30 : Nat) "RequestGate$Conditions" ∈ zz_ws := zz_in (List.mem_of_getElem? (i := 101) (by decide +kernel)) rfl
theorem zw_102 : Cond.instantiable "RequestGate$Conditions" (5 : Nat) ∈ zz_ws := zz_in (List.mem_of_getElem? (i := 102) (by decide +kernel)) rfl
theorem zw_104 : Cond.instanceMethod ({ cls := "RequestGate$Conditions", name := "<init>", desc := "()V" } : MethodName) ∈ zz_ws := zz_in (List.mem_of_getElem? (i := 104) (by decide +kernel)) rfl
theorem zw_105 : Cond.code ({ cls := "RequestGate$Conditions", name := "<init>", desc := "()V" } : MethodName) prog_2_method_1_code (1 : Nat) (none : Option FieldType) ∈ zz_ws := zz_in (List.mem_of_getElem? (i := 105) (by decide +kernel)) rfl
theorem zw_106 : Cond.methodLink "RequestGate$Conditions" (3 : Nat) ({ cls := "java/lang/Object", name := "<init>", desc := "()V" } : MethodName) ∈ zz_ws := zz_in (List.mem_of_getElem? (i := 106) (by decide +kernel)) rfl
theorem zw_107 : Cond.fieldLink "RequestGate$Conditions" (9 : Nat) "RequestGate$Conditions" "ops" "[I" ∈ zz_ws := zz_in (List.mem_of_getElem? (i := 107) (by decide +kernel)) rfl
theorem zw_108 : Cond.fieldLink "RequestGate$Conditions" (15 : Nat) "RequestGate$Conditions" "firsts" "[I" ∈ zz_ws := zz_in (List.mem_of_getElem? (i := 108) (by decide +kernel)) rfl
theorem zw_109 : Cond.fieldLink "RequestGate$Conditions" (18 : Nat) "RequestGate$Conditions" "seconds" "[I" ∈ zz_ws := zz_in (List.mem_of_getElem? (i := 109) (by decide +kernel)) rfl
theorem zw_110 : Cond.fieldLink "RequestGate$Conditions" (21 : Nat) "RequestGate$Conditions" "values" "[I" ∈ zz_ws := zz_in (List.mem_of_getElem? (i := 110) (by decide +kernel)) rfl
theorem zw_111 : Cond.fieldLink "RequestGate$Conditions" (24 : Nat) "RequestGate$Conditions" "size" "I" ∈ zz_ws := zz_in (List.mem_of_getElem? (i := 111) (by decide +kernel)) rfl
theorem zw_112 : Cond.laysFinal "RequestGate$Conditions" "RequestGate$Conditions" "ops" "[I" ∈ zz_ws := zz_in (List.mem_of_getElem? (i := 112) (by decide +kernel)) rfl
theorem zw_114 : Cond.laysFinal "RequestGate$Conditions" "RequestGate$Conditions" "firsts" "[I" ∈ zz_ws := zz_in (List.mem_of_getElem? (i := 114) (by decide +kernel)) rfl
theorem zw_116 : Cond.laysFinal "RequestGate$Conditions" "RequestGate$Conditions" "seconds" "[I" ∈ zz_ws := zz_in (List.mem_of_getElem? (i := 116) (by decide +kernel)) rfl
theorem zw_118 : Cond.laysFinal "RequestGate$Conditions" "RequestGate$Conditions" "values" "[I" ∈ zz_ws := zz_in (List.mem_of_getElem? (i := 118) (by decide +kernel)) rfl
theorem zw_120 : Cond.lays "RequestGate$Conditions" "RequestGate$Conditions" "size" "I" ∈ zz_ws := zz_in (List.mem_of_getElem? (i := 120) (by decide +kernel)) rfl
theorem zw_123 : Cond.classLink "RequestGate" (37 : Nat) "RequestGate$Roles" ∈ zz_ws := zz_in (List.mem_of_getElem? (i := 123) (by decide +kernel)) rfl
theorem zw_124 : Cond.instantiable "RequestGate$Roles" (1 : Nat) ∈ zz_ws := zz_in (List.mem_of_getElem? (i := 124) (by decide +kernel)) rfl
theorem zw_125 : Cond.methodLink "RequestGate" (39 : Nat) ({ cls := "RequestGate$Roles", name := "<init>", desc := "()V" } : MethodName) ∈ zz_ws := zz_in (List.mem_of_getElem? (i := 125) (by decide +kernel)) rfl
theorem zw_126 : Cond.instanceMethod ({ cls := "RequestGate$Roles", name := "<init>", desc := "()V" } : MethodName) ∈ zz_ws := zz_in (List.mem_of_getElem? (i := 126) (by decide +kernel)) rfl
theorem zw_127 : Cond.code ({ cls := "RequestGate$Roles", name := "<init>", desc := "()V" } : MethodName) prog_6_method_1_code (2 : Nat) (none : Option FieldType) ∈ zz_ws := zz_in (List.mem_of_getElem? (i := 127) (by decide +kernel)) rfl
theorem zw_128 : Cond.methodLink "RequestGate$Roles" (3 : Nat) ({ cls := "java/lang/Object", name := "<init>", desc := "()V" } : MethodName) ∈ zz_ws := zz_in (List.mem_of_getElem? (i := 128) (by decide +kernel)) rfl
theorem zw_129 : Cond.fieldLink "RequestGate$Roles" (9 : Nat) "RequestGate$Roles" "included" "[I" ∈ zz_ws := zz_in (List.mem_of_getElem? (i := 129) (by decide +kernel)) rfl
theorem zw_130 : Cond.laysFinal "RequestGate$Roles" "RequestGate$Roles" "included" "[I" ∈ zz_ws := zz_in (List.mem_of_getElem? (i := 130) (by decide +kernel)) rfl
theorem zw_133 : Cond.classLink "RequestGate" (44 : Nat) "java/util/ArrayList" ∈ zz_ws := zz_in (List.mem_of_getElem? (i := 133) (by decide +kernel)) rfl
theorem zw_134 : Cond.instantiable "java/util/ArrayList" (3 : Nat) ∈ zz_ws := zz_in (List.mem_of_getElem? (i := 134) (by decide +kernel)) rfl
theorem zw_135 : Cond.methodLink "RequestGate" (46 : Nat) ({ cls := "java/util/ArrayList", name := "<init>", desc := "()V" } : MethodName) ∈ zz_ws := zz_in (List.mem_of_getElem? (i := 135) (by decide +kernel)) rfl
theorem zw_136 : Cond.instanceMethod ({ cls := "java/util/ArrayList", name := "<init>", desc := "()V" } : MethodName) ∈ zz_ws := zz_in (List.mem_of_getElem? (i := 136) (by decide +kernel)) rfl
theorem zw_137 : Cond.code ({ cls := "java/util/ArrayList", name := "<init>", desc := "()V" } : MethodName) prog_22_method_2_code (1 : Nat) (none : Option FieldType) ∈ zz_ws := zz_in (List.mem_of_getElem? (i := 137) (by decide +kernel)) rfl
theorem zw_138 : Cond.methodLink "java/util/ArrayList" (1 : Nat) ({ cls := "java/util/AbstractList", name := "<init>", desc := "()V" } : MethodName) ∈ zz_ws := zz_in (List.mem_of_getElem? (i := 138) (by decide +kernel)) rfl
theorem zw_139 : Cond.instanceMethod ({ cls := "java/util/AbstractList", name := "<init>", desc := "()V" } : MethodName) ∈ zz_ws := zz_in (List.mem_of_getElem? (i := 139) (by decide +kernel)) rfl
theorem zw_140 : Cond.code ({ cls := "java/util/AbstractList", name := "<init>", desc := "()V" } : MethodName) prog_21_method_1_code (1 : Nat) (none : Option FieldType) ∈ zz_ws := zz_in (List.mem_of_getElem? (i := 140) (by decide +kernel)) rfl
theorem zw_141 : Cond.methodLink "java/util/AbstractList" (1 : Nat) ({ cls := "java/util/AbstractCollection", name := "<init>", desc := "()V" } : MethodName) ∈ zz_ws := zz_in (List.mem_of_getElem? (i := 141) (by decide +kernel)) rfl
theorem zw_142 : Cond.instanceMethod ({ cls := "java/util/AbstractCollection", name := "<init>", desc := "()V" } : MethodName) ∈ zz_ws := zz_in (List.mem_of_getElem? (i := 142) (by decide +kernel)) rfl
theorem zw_143 : Cond.code ({ cls := "java/util/AbstractCollection", name := "<init>", desc := "()V" } : MethodName) prog_20_method_1_code (1 : Nat) (none : Option FieldType) ∈ zz_ws := zz_in (List.mem_of_getElem? (i := 143) (by decide +kernel)) rfl
theorem zw_144 : Cond.methodLink "java/util/AbstractCollection" (1 : Nat) ({ cls := "java/lang/Object", name := "<init>", desc := "()V" } : MethodName) ∈ zz_ws := zz_in (List.mem_of_getElem? (i := 144) (by decide +kernel)) rfl
theorem zw_145 : Cond.fieldLink "java/util/ArrayList" (39 : Nat) "java/util/ArrayList" "DEFAULTCAPACITY_EMPTY_ELEMENTDATA" "[Ljava/lang/Object;" ∈ zz_ws := zz_in (List.mem_of_getElem? (i := 145) (by decide +kernel)) rfl
theorem zw_147 : Cond.fieldLink "java/util/ArrayList" (9 : Nat) "java/util/ArrayList" "elementData" "[Ljava/lang/Object;" ∈ zz_ws := zz_in (List.mem_of_getElem? (i := 147) (by decide +kernel)) rfl
theorem zw_148 : Cond.fieldLink "java/util/ArrayList" (48 : Nat) "java/util/ArrayList" "size" "I" ∈ zz_ws := zz_in (List.mem_of_getElem? (i := 148) (by decide +kernel)) rfl
theorem zw_149 : Cond.fieldLink "java/util/AbstractList" (7 : Nat) "java/util/AbstractList" "modCount" "I" ∈ zz_ws := zz_in (List.mem_of_getElem? (i := 149) (by decide +kernel)) rfl
theorem zw_150 : Cond.fieldLink "java/util/ArrayList" (63 : Nat) "java/util/ArrayList" "modCount" "I" ∈ zz_ws := zz_in (List.mem_of_getElem? (i := 150) (by decide +kernel)) rfl
theorem zw_151 : Cond.sameField "java/util/ArrayList" "java/util/AbstractList" "modCount" "I" ∈ zz_ws := zz_in (List.mem_of_getElem? (i := 151) (by decide +kernel)) rfl
theorem zw_152 : Cond.lays "java/util/ArrayList" "java/util/ArrayList" "elementData" "[Ljava/lang/Object;" ∈ zz_ws := zz_in (List.mem_of_getElem? (i := 152) (by decide +kernel)) rfl
theorem zw_154 : Cond.lays "java/util/ArrayList" "java/util/ArrayList" "size" "I" ∈ zz_ws := zz_in (List.mem_of_getElem? (i := 154) (by decide +kernel)) rfl
theorem zw_156 : Cond.lays "java/util/ArrayList" "java/util/AbstractList" "modCount" "I" ∈ zz_ws := zz_in (List.mem_of_getElem? (i := 156) (by decide +kernel)) rfl
theorem zw_159 : Cond.classLink "RequestGate" (57 : Nat) "RequestGate$Tickets" ∈ zz_ws := zz_in (List.mem_of_getElem? (i := 159) (by decide +kernel)) rfl
theorem zw_160 : Cond.instantiable "RequestGate$Tickets" (1 : Nat) ∈ zz_ws := zz_in (List.mem_of_getElem? (i := 160) (by decide +kernel)) rfl
theorem zw_162 : Cond.instanceMethod ({ cls := "RequestGate$Tickets", name := "<init>", desc := "()V" } : MethodName) ∈ zz_ws := zz_in (List.mem_of_getElem? (i := 162) (by decide +kernel)) rfl
theorem zw_163 : Cond.code ({ cls := "RequestGate$Tickets", name := "<init>", desc := "()V" } : MethodName) prog_11_method_1_code (1 : Nat) (none : Option FieldType) ∈ zz_ws := zz_in (List.mem_of_getElem? (i := 163) (by decide +kernel)) rfl
theorem zw_164 : Cond.methodLink "RequestGate$Tickets" (1 : Nat) ({ cls := "java/lang/Object", name := "<init>", desc := "()V" } : MethodName) ∈ zz_ws := zz_in (List.mem_of_getElem? (i := 164) (by decide +kernel)) rfl
theorem zw_165 : Cond.classLink "RequestGate$Tickets" (7 : Nat) "java/util/ArrayList" ∈ zz_ws := zz_in (List.mem_of_getElem? (i := 165) (by decide +kernel)) rfl
theorem zw_166 : Cond.methodLink "RequestGate$Tickets" (9 : Nat) ({ cls := "java/util/ArrayList", name := "<init>", desc := "()V" } : MethodName) ∈ zz_ws := zz_in (List.mem_of_getElem? (i := 166) (by decide +kernel)) rfl
theorem zw_167 : Cond.fieldLink "RequestGate$Tickets" (10 : Nat) "RequestGate$Tickets" "all" "Ljava/util/ArrayList;" ∈ zz_ws := zz_in (List.mem_of_getElem? (i := 167) (by decide +kernel)) rfl
theorem zw_168 : Cond.laysFinal "RequestGate$Tickets" "RequestGate$Tickets" "all" "Ljava/util/ArrayList;" ∈ zz_ws := zz_in (List.mem_of_getElem? (i := 168) (by decide +kernel)) rfl
theorem zw_171 : Cond.fieldLink "RequestGate" (12 : Nat) "RequestGate" "buffer" "LRequestGate$Text;" ∈ zz_ws := zz_in (List.mem_of_getElem? (i := 171) (by decide +kernel)) rfl
theorem zw_172 : Cond.fieldLink "RequestGate" (19 : Nat) "RequestGate" "path" "LRequestGate$PlainPath;" ∈ zz_ws := zz_in (List.mem_of_getElem? (i := 172) (by decide +kernel)) rfl
theorem zw_173 : Cond.fieldLink "RequestGate" (26 : Nat) "RequestGate" "layer" "LRequestGate$Layer;" ∈ zz_ws := zz_in (List.mem_of_getElem? (i := 173) (by decide +kernel)) rfl
theorem zw_174 : Cond.fieldLink "RequestGate" (33 : Nat) "RequestGate" "conditions" "LRequestGate$Conditions;" ∈ zz_ws := zz_in (List.mem_of_getElem? (i := 174) (by decide +kernel)) rfl
theorem zw_175 : Cond.fieldLink "RequestGate" (40 : Nat) "RequestGate" "inclusions" "LRequestGate$Roles;" ∈ zz_ws := zz_in (List.mem_of_getElem? (i := 175) (by decide +kernel)) rfl
theorem zw_176 : Cond.fieldLink "RequestGate" (47 : Nat) "RequestGate" "rules" "Ljava/util/ArrayList;" ∈ zz_ws := zz_in (List.mem_of_getElem? (i := 176) (by decide +kernel)) rfl
theorem zw_177 : Cond.fieldLink "RequestGate" (51 : Nat) "RequestGate" "users" "Ljava/util/ArrayList;" ∈ zz_ws := zz_in (List.mem_of_getElem? (i := 177) (by decide +kernel)) rfl
theorem zw_178 : Cond.fieldLink "RequestGate" (54 : Nat) "RequestGate" "services" "Ljava/util/ArrayList;" ∈ zz_ws := zz_in (List.mem_of_getElem? (i := 178) (by decide +kernel)) rfl
theorem zw_179 : Cond.fieldLink "RequestGate" (60 : Nat) "RequestGate" "sessions" "LRequestGate$Tickets;" ∈ zz_ws := zz_in (List.mem_of_getElem? (i := 179) (by decide +kernel)) rfl
theorem zw_180 : Cond.fieldLink "RequestGate" (64 : Nat) "RequestGate" "memory" "LRequestGate$Tickets;" ∈ zz_ws := zz_in (List.mem_of_getElem? (i := 180) (by decide +kernel)) rfl
theorem zw_181 : Cond.fieldLink "RequestGate" (67 : Nat) "RequestGate" "subject" "I" ∈ zz_ws := zz_in (List.mem_of_getElem? (i := 181) (by decide +kernel)) rfl
theorem zw_182 : Cond.fieldLink "RequestGate" (186 : Nat) "RequestGate" "requestIsOpen" "Z" ∈ zz_ws := zz_in (List.mem_of_getElem? (i := 182) (by decide +kernel)) rfl
theorem zw_183 : Cond.fieldLink "RequestGate" (134 : Nat) "RequestGate" "time" "I" ∈ zz_ws := zz_in (List.mem_of_getElem? (i := 183) (by decide +kernel)) rfl
theorem zw_184 : Cond.fieldLink "RequestGate" (256 : Nat) "RequestGate" "drawn" "I" ∈ zz_ws := zz_in (List.mem_of_getElem? (i := 184) (by decide +kernel)) rfl
theorem zw_185 : Cond.fieldLink "RequestGate" (250 : Nat) "RequestGate" "opened" "I" ∈ zz_ws := zz_in (List.mem_of_getElem? (i := 185) (by decide +kernel)) rfl
theorem zw_186 : Cond.fieldLink "RequestGate" (220 : Nat) "RequestGate" "bodiesRun" "I" ∈ zz_ws := zz_in (List.mem_of_getElem? (i := 186) (by decide +kernel)) rfl
theorem zw_187 : Cond.fieldLink "RequestGate" (223 : Nat) "RequestGate" "bodiesBarred" "I" ∈ zz_ws := zz_in (List.mem_of_getElem? (i := 187) (by decide +kernel)) rfl
theorem zw_188 : Cond.fieldLink "RequestGate" (253 : Nat) "RequestGate" "thefts" "I" ∈ zz_ws := zz_in (List.mem_of_getElem? (i := 188) (by decide +kernel)) rfl
theorem zw_189 : Cond.fieldLink "RequestGate" (153 : Nat) "RequestGate" "lockings" "I" ∈ zz_ws := zz_in (List.mem_of_getElem? (i := 189) (by decide +kernel)) rfl
theorem zw_190 : Cond.laysFinal "RequestGate" "RequestGate" "buffer" "LRequestGate$Text;" ∈ zz_ws := zz_in (List.mem_of_getElem? (i := 190) (by decide +kernel)) rfl
theorem zw_192 : Cond.laysFinal "RequestGate" "RequestGate" "path" "LRequestGate$PlainPath;" ∈ zz_ws := zz_in (List.mem_of_getElem? (i := 192) (by decide +kernel)) rfl
theorem zw_194 : Cond.laysFinal "RequestGate" "RequestGate" "layer" "LRequestGate$Layer;" ∈ zz_ws := zz_in (List.mem_of_getElem? (i := 194) (by decide +kernel)) rfl
theorem zw_196 : Cond.laysFinal "RequestGate" "RequestGate" "conditions" "LRequestGate$Conditions;" ∈ zz_ws := zz_in (List.mem_of_getElem? (i := 196) (by decide +kernel)) rfl
theorem zw_198 : Cond.laysFinal "RequestGate" "RequestGate" "inclusions" "LRequestGate$Roles;" ∈ zz_ws := zz_in (List.mem_of_getElem? (i := 198) (by decide +kernel)) rfl
theorem zw_200 : Cond.laysFinal "RequestGate" "RequestGate" "rules" "Ljava/util/ArrayList;" ∈ zz_ws := zz_in (List.mem_of_getElem? (i := 200) (by decide +kernel)) rfl
theorem zw_202 : Cond.laysFinal "RequestGate" "RequestGate" "users" "Ljava/util/ArrayList;" ∈ zz_ws := zz_in (List.mem_of_getElem? (i := 202) (by decide +kernel)) rfl
theorem zw_204 : Cond.laysFinal "RequestGate" "RequestGate" "services" "Ljava/util/ArrayList;" ∈ zz_ws := zz_in (List.mem_of_getElem? (i := 204) (by decide +kernel)) rfl
theorem zw_206 : Cond.laysFinal "RequestGate" "RequestGate" "sessions" "LRequestGate$Tickets;" ∈ zz_ws := zz_in (List.mem_of_getElem? (i := 206) (by decide +kernel)) rfl
theorem zw_208 : Cond.laysFinal "RequestGate" "RequestGate" "memory" "LRequestGate$Tickets;" ∈ zz_ws := zz_in (List.mem_of_getElem? (i := 208) (by decide +kernel)) rfl
theorem zw_210 : Cond.lays "RequestGate" "RequestGate" "subject" "I" ∈ zz_ws := zz_in (List.mem_of_getElem? (i := 210) (by decide +kernel)) rfl
theorem zw_212 : Cond.lays "RequestGate" "RequestGate" "requestIsOpen" "Z" ∈ zz_ws := zz_in (List.mem_of_getElem? (i := 212) (by decide +kernel)) rfl
theorem zw_214 : Cond.lays "RequestGate" "RequestGate" "time" "I" ∈ zz_ws := zz_in (List.mem_of_getElem? (i := 214) (by decide +kernel)) rfl
theorem zw_216 : Cond.lays "RequestGate" "RequestGate" "drawn" "I" ∈ zz_ws := zz_in (List.mem_of_getElem? (i := 216) (by decide +kernel)) rfl
theorem zw_218 : Cond.lays "RequestGate" "RequestGate" "opened" "I" ∈ zz_ws := zz_in (List.mem_of_getElem? (i := 218) (by decide +kernel)) rfl
theorem zw_220 : Cond.lays "RequestGate" "RequestGate" "bodiesRun" "I" ∈ zz_ws := zz_in (List.mem_of_getElem? (i := 220) (by decide +kernel)) rfl
theorem zw_222 : Cond.lays "RequestGate" "RequestGate" "bodiesBarred" "I" ∈ zz_ws := zz_in (List.mem_of_getElem? (i := 222) (by decide +kernel)) rfl
theorem zw_224 : Cond.lays "RequestGate" "RequestGate" "thefts" "I" ∈ zz_ws := zz_in (List.mem_of_getElem? (i := 224) (by decide +kernel)) rfl
theorem zw_226 : Cond.lays "RequestGate" "RequestGate" "lockings" "I" ∈ zz_ws := zz_in (List.mem_of_getElem? (i := 226) (by decide +kernel)) rfl
theorem zw_229 : Cond.methodLink "RequestGateLaw" (13 : Nat) ({ cls := "RequestGate", name := "type", desc := "(I)Z" } : MethodName) ∈ zz_ws := zz_in (List.mem_of_getElem? (i := 229) (by decide +kernel)) rfl
theorem zw_230 : Cond.instanceMethod ({ cls := "RequestGate", name := "type", desc := "(I)Z" } : MethodName) ∈ zz_ws := zz_in (List.mem_of_getElem? (i := 230) (by decide +kernel)) rfl
theorem zw_231 : Cond.selects "RequestGate" ({ cls := "RequestGate", name := "type", desc := "(I)Z" } : MethodName) ({ cls := "RequestGate", name := "type", desc := "(I)Z" } : MethodName) ∈ zz_ws := zz_in (List.mem_of_getElem? (i := 231) (by decide +kernel)) rfl
theorem zw_232 : Cond.code ({ cls := "RequestGate", name := "type", desc := "(I)Z" } : MethodName) prog_1_method_2_code (2 : Nat) (Option.some FieldType.boolean) ∈ zz_ws := zz_in (List.mem_of_getElem? (i := 232) (by decide +kernel)) rfl
theorem zw_233 : Cond.methodLink "RequestGate" (71 : Nat) ({ cls := "RequestGate$Text", name := "append", desc := "(I)Z" } : MethodName) ∈ zz_ws := zz_in (List.mem_of_getElem? (i := 233) (by decide +kernel)) rfl
theorem zw_234 : Cond.instanceMethod ({ cls := "RequestGate$Text", name := "append", desc := "(I)Z" } : MethodName) ∈ zz_ws := zz_in (List.mem_of_getElem? (i := 234) (by decide +kernel)) rfl
theorem zw_235 : Cond.selects "RequestGate$Text" ({ cls := "RequestGate$Text", name := "append", desc := "(I)Z" } : MethodName) ({ cls := "RequestGate$Text", name := "append", desc := "(I)Z" } : MethodName) ∈ zz_ws := zz_in (List.mem_of_getElem? (i := 235) (by decide +kernel)) rfl
theorem zw_236 : Cond.code ({ cls := "RequestGate$Text", name := "append", desc := "(I)Z" } : MethodName) prog_9_method_3_code (2 : Nat) (Option.some FieldType.boolean) ∈ zz_ws := zz_in (List.mem_of_getElem? (i := 236) (by decide +kernel)) rfl
theorem zw_237 : Cond.methodLink "RequestGate$Text" (15 : Nat) ({ cls := "RequestGate$Text", name := "isCode", desc := "(I)Z" } : MethodName) ∈ zz_ws := zz_in (List.mem_of_getElem? (i := 237) (by decide +kernel)) rfl
theorem zw_238 : Cond.static ({ cls := "RequestGate$Text", name := "isCode", desc := "(I)Z" } : MethodName) ∈ zz_ws := zz_in (List.mem_of_getElem? (i := 238) (by decide +kernel)) rfl
theorem zw_239 : Cond.code ({ cls := "RequestGate$Text", name := "isCode", desc := "(I)Z" } : MethodName) prog_9_method_2_code (1 : Nat) (Option.some FieldType.boolean) ∈ zz_ws := zz_in (List.mem_of_getElem? (i := 239) (by decide +kernel)) rfl
theorem zw_240 : Cond.methodLink "RequestGateLaw" (18 : Nat) ({ cls := "RequestGate", name := "clear", desc := "()V" } : MethodName) ∈ zz_ws := zz_in (List.mem_of_getElem? (i := 240) (by decide +kernel)) rfl
theorem zw_241 : Cond.instanceMethod ({ cls := "RequestGate", name := "clear", desc := "()V" } : MethodName) ∈ zz_ws := zz_in (List.mem_of_getElem? (i := 241) (by decide +kernel)) rfl
theorem zw_242 : Cond.selects "RequestGate" ({ cls := "RequestGate", name := "clear", desc := "()V" } : MethodName) ({ cls := "RequestGate", name := "clear", desc := "()V" } : MethodName) ∈ zz_ws := zz_in (List.mem_of_getElem? (i := 242) (by decide +kernel)) rfl
theorem zw_243 : Cond.code ({ cls := "RequestGate", name := "clear", desc := "()V" } : MethodName) prog_1_method_3_code (1 : Nat) (none : Option FieldType) ∈ zz_ws := zz_in (List.mem_of_getElem? (i := 243) (by decide +kernel)) rfl
theorem zw_244 : Cond.methodLink "RequestGate" (75 : Nat) ({ cls := "RequestGate$Text", name := "empty", desc := "()V" } : MethodName) ∈ zz_ws := zz_in (List.mem_of_getElem? (i := 244) (by decide +kernel)) rfl
theorem zw_245 : Cond.instanceMethod ({ cls := "RequestGate$Text", name := "empty", desc := "()V" } : MethodName) ∈ zz_ws := zz_in (List.mem_of_getElem? (i := 245) (by decide +kernel)) rfl
theorem zw_246 : Cond.selects "RequestGate$Text" ({ cls := "RequestGate$Text", name := "empty", desc := "()V" } : MethodName) ({ cls := "RequestGate$Text", name := "empty", desc := "()V" } : MethodName) ∈ zz_ws := zz_in (List.mem_of_getElem? (i := 246) (by decide +kernel)) rfl
theorem zw_247 : Cond.code ({ cls := "RequestGate$Text", name := "empty", desc := "()V" } : MethodName) prog_9_method_4_code (1 : Nat) (none : Option FieldType) ∈ zz_ws := zz_in (List.mem_of_getElem? (i := 247) (by decide +kernel)) rfl
theorem zw_248 : Cond.methodLink "RequestGateLaw" (22 : Nat) ({ cls := "RequestGate", name := "expression", desc := "(III)I" } : MethodName) ∈ zz_ws := zz_in (List.mem_of_getElem? (i := 248) (by decide +kernel)) rfl
theorem zw_249 : Cond.instanceMethod ({ cls := "RequestGate", name := "expression", desc := "(III)I" } : MethodName) ∈ zz_ws := zz_in (List.mem_of_getElem? (i := 249) (by decide +kernel)) rfl
theorem zw_250 : Cond.selects "RequestGate" ({ cls := "RequestGate", name := "expression", desc := "(III)I" } : MethodName) ({ cls := "RequestGate", name := "expression", desc := "(III)I" } : MethodName) ∈ zz_ws := zz_in (List.mem_of_getElem? (i := 250) (by decide +kernel)) rfl
theorem zw_251 : Cond.code ({ cls := "RequestGate", name := "expression", desc := "(III)I" } : MethodName) prog_1_method_4_code (4 : Nat) (Option.some FieldType.int) ∈ zz_ws := zz_in (List.mem_of_getElem? (i := 251) (by decide +kernel)) rfl
theorem zw_252 : Cond.methodLink "RequestGate" (78 : Nat) ({ cls := "RequestGate$Conditions", name := "add", desc := "(III)I" } : MethodName) ∈ zz_ws := zz_in (List.mem_of_getElem? (i := 252) (by decide +kernel)) rfl
theorem zw_253 : Cond.instanceMethod ({ cls := "RequestGate$Conditions", name := "add", desc := "(III)I" } : MethodName) ∈ zz_ws := zz_in (List.mem_of_getElem? (i := 253) (by decide +kernel)) rfl
theorem zw_254 : Cond.selects "RequestGate$Conditions" ({ cls := "RequestGate$Conditions", name := "add", desc := "(III)I" } : MethodName) ({ cls := "RequestGate$Conditions", name := "add", desc := "(III)I" } : MethodName) ∈ zz_ws := zz_in (List.mem_of_getElem? (i := 254) (by decide +kernel)) rfl
theorem zw_255 : Cond.code ({ cls := "RequestGate$Conditions", name := "add", desc := "(III)I" } : MethodName) prog_2_method_3_code (4 : Nat) (Option.some FieldType.int) ∈ zz_ws := zz_in (List.mem_of_getElem? (i := 255) (by decide +kernel)) rfl
theorem zw_256 : Cond.methodLink "RequestGate$Conditions" (28 : Nat) ({ cls := "RequestGate$Conditions", name := "canTake", desc := "(III)Z" } : MethodName) ∈ zz_ws := zz_in (List.mem_of_getElem? (i := 256) (by decide +kernel)) rfl
theorem zw_258 : Cond.instanceMethod ({ cls := "RequestGate$Conditions", name := "canTake", desc := "(III)Z" } : MethodName) ∈ zz_ws := zz_in (List.mem_of_getElem? (i := 258) (by decide +kernel)) rfl
theorem zw_259 : Cond.code ({ cls := "RequestGate$Conditions", name := "canTake", desc := "(III)Z" } : MethodName) prog_2_method_4_code (4 : Nat) (Option.some FieldType.boolean) ∈ zz_ws := zz_in (List.mem_of_getElem? (i := 259) (by decide +kernel)) rfl
theorem zw_260 : Cond.methodLink "RequestGate$Conditions" (32 : Nat) ({ cls := "RequestGate$Roles", name := "isRole", desc := "(I)Z" } : MethodName) ∈ zz_ws := zz_in (List.mem_of_getElem? (i := 260) (by decide +kernel)) rfl
theorem zw_261 : Cond.static ({ cls := "RequestGate$Roles", name := "isRole", desc := "(I)Z" } : MethodName) ∈ zz_ws := zz_in (List.mem_of_getElem? (i := 261) (by decide +kernel)) rfl
theorem zw_262 : Cond.code ({ cls := "RequestGate$Roles", name := "isRole", desc := "(I)Z" } : MethodName) prog_6_method_2_code (1 : Nat) (Option.some FieldType.boolean) ∈ zz_ws := zz_in (List.mem_of_getElem? (i := 262) (by decide +kernel)) rfl
theorem zw_263 : Cond.methodLink "RequestGate$Conditions" (38 : Nat) ({ cls := "RequestGate$Conditions", name := "has", desc := "(I)Z" } : MethodName) ∈ zz_ws := zz_in (List.mem_of_getElem? (i := 263) (by decide +kernel)) rfl
theorem zw_264 : Cond.instanceMethod ({ cls := "RequestGate$Conditions", name := "has", desc := "(I)Z" } : MethodName) ∈ zz_ws := zz_in (List.mem_of_getElem? (i := 264) (by decide +kernel)) rfl
theorem zw_265 : Cond.selects "RequestGate$Conditions" ({ cls := "RequestGate$Conditions", name := "has", desc := "(I)Z" } : MethodName) ({ cls := "RequestGate$Conditions", name := "has", desc := "(I)Z" } : MethodName) ∈ zz_ws := zz_in (List.mem_of_getElem? (i := 265) (by decide +kernel)) rfl
theorem zw_266 : Cond.code ({ cls := "RequestGate$Conditions", name := "has", desc := "(I)Z" } : MethodName) prog_2_method_2_code (2 : Nat) (Option.some FieldType.boolean) ∈ zz_ws := zz_in (List.mem_of_getElem? (i := 266) (by decide +kernel)) rfl
theorem zw_267 : Cond.methodLink "RequestGateLaw" (27 : Nat) ({ cls := "RequestGate", name := "rule", desc := "(II)I" } : MethodName) ∈ zz_ws := zz_in (List.mem_of_getElem? (i := 267) (by decide +kernel)) rfl
theorem zw_268 : Cond.instanceMethod ({ cls := "RequestGate", name := "rule", desc := "(II)I" } : MethodName) ∈ zz_ws := zz_in (List.mem_of_getElem? (i := 268) (by decide +kernel)) rfl
theorem zw_269 : Cond.selects "RequestGate" ({ cls := "RequestGate", name := "rule", desc := "(II)I" } : MethodName) ({ cls := "RequestGate", name := "rule", desc := "(II)I" } : MethodName) ∈ zz_ws := zz_in (List.mem_of_getElem? (i := 269) (by decide +kernel)) rfl
theorem zw_270 : Cond.code ({ cls := "RequestGate", name := "rule", desc := "(II)I" } : MethodName) prog_1_method_5_code (3 : Nat) (Option.some FieldType.int) ∈ zz_ws := zz_in (List.mem_of_getElem? (i := 270) (by decide +kernel)) rfl
theorem zw_271 : Cond.methodLink "RequestGate" (82 : Nat) ({ cls := "java/util/ArrayList", name := "size", desc := "()I" } : MethodName) ∈ zz_ws := zz_in (List.mem_of_getElem? (i := 271) (by decide +kernel)) rfl
theorem zw_272 : Cond.instanceMethod ({ cls := "java/util/ArrayList", name := "size", desc := "()I" } : MethodName) ∈ zz_ws := zz_in (List.mem_of_getElem? (i := 272) (by decide +kernel)) rfl
theorem zw_273 : Cond.selects "java/util/ArrayList" ({ cls := "java/util/ArrayList", name := "size", desc := "()I" } : MethodName) ({ cls := "java/util/ArrayList", name := "size", desc := "()I" } : MethodName) ∈ zz_ws := zz_in (List.mem_of_getElem? (i := 273) (by decide +kernel)) rfl
theorem zw_274 : Cond.code ({ cls := "java/util/ArrayList", name := "size", desc := "()I" } : MethodName) prog_22_method_8_code (1 : Nat) (Option.some FieldType.int) ∈ zz_ws := zz_in (List.mem_of_getElem? (i := 274) (by decide +kernel)) rfl
theorem zw_275 : Cond.methodLink "RequestGate" (86 : Nat) ({ cls := "RequestGate$Conditions", name := "has", desc := "(I)Z" } : MethodName) ∈ zz_ws := zz_in (List.mem_of_getElem? (i := 275) (by decide +kernel)) rfl
theorem zw_276 : Cond.methodLink "RequestGate" (89 : Nat) ({ cls := "RequestGate$Rule", name := "isPattern", desc := "(LRequestGate$Text;)Z" } : MethodName) ∈ zz_ws := zz_in (List.mem_of_getElem? (i := 276) (by decide +kernel)) rfl
theorem zw_277 : Cond.static ({ cls := "RequestGate$Rule", name := "isPattern", desc := "(LRequestGate$Text;)Z" } : MethodName) ∈ zz_ws := zz_in (List.mem_of_getElem? (i := 277) (by decide +kernel)) rfl
theorem zw_278 : Cond.code ({ cls := "RequestGate$Rule", name := "isPattern", desc := "(LRequestGate$Text;)Z" } : MethodName) prog_7_method_3_code (3 : Nat) (Option.some FieldType.boolean) ∈ zz_ws := zz_in (List.mem_of_getElem? (i := 278) (by decide +kernel)) rfl
theorem zw_279 : Cond.methodLink "RequestGate$Rule" (32 : Nat) ({ cls := "RequestGate$Text", name := "at", desc := "(I)C" } : MethodName) ∈ zz_ws := zz_in (List.mem_of_getElem? (i := 279) (by decide +kernel)) rfl
theorem zw_280 : Cond.instanceMethod ({ cls := "RequestGate$Text", name := "at", desc := "(I)C" } : MethodName) ∈ zz_ws := zz_in (List.mem_of_getElem? (i := 280) (by decide +kernel)) rfl
theorem zw_281 : Cond.selects "RequestGate$Text" ({ cls := "RequestGate$Text", name := "at", desc := "(I)C" } : MethodName) ({ cls := "RequestGate$Text", name := "at", desc := "(I)C" } : MethodName) ∈ zz_ws := zz_in (List.mem_of_getElem? (i := 281) (by decide +kernel)) rfl
theorem zw_282 : Cond.code ({ cls := "RequestGate$Text", name := "at", desc := "(I)C" } : MethodName) prog_9_method_5_code (2 : Nat) (Option.some FieldType.char) ∈ zz_ws := zz_in (List.mem_of_getElem? (i := 282) (by decide +kernel)) rfl
theorem zw_283 : Cond.methodLink "RequestGate$Rule" (43 : Nat) ({ cls := "RequestGate$Text", name := "holds", desc := "(C)Z" } : MethodName) ∈ zz_ws := zz_in (List.mem_of_getElem? (i := 283) (by decide +kernel)) rfl
theorem zw_284 : Cond.instanceMethod ({ cls := "RequestGate$Text", name := "holds", desc := "(C)Z" } : MethodName) ∈ zz_ws := zz_in (List.mem_of_getElem? (i := 284) (by decide +kernel)) rfl
theorem zw_285 : Cond.selects "RequestGate$Text" ({ cls := "RequestGate$Text", name := "holds", desc := "(C)Z" } : MethodName) ({ cls := "RequestGate$Text", name := "holds", desc := "(C)Z" } : MethodName) ∈ zz_ws := zz_in (List.mem_of_getElem? (i := 285) (by decide +kernel)) rfl
theorem zw_286 : Cond.code ({ cls := "RequestGate$Text", name := "holds", desc := "(C)Z" } : MethodName) prog_9_method_7_code (2 : Nat) (Option.some FieldType.boolean) ∈ zz_ws := zz_in (List.mem_of_getElem? (i := 286) (by decide +kernel)) rfl
theorem zw_287 : Cond.methodLink "RequestGate$Text" (27 : Nat) ({ cls := "RequestGate$Text", name := "find", desc := "(CII)I" } : MethodName) ∈ zz_ws := zz_in (List.mem_of_getElem? (i := 287) (by decide +kernel)) rfl
theorem zw_288 : Cond.instanceMethod ({ cls := "RequestGate$Text", name := "find", desc := "(CII)I" } : MethodName) ∈ zz_ws := zz_in (List.mem_of_getElem? (i := 288) (by decide +kernel)) rfl
theorem zw_289 : Cond.selects "RequestGate$Text" ({ cls := "RequestGate$Text", name := "find", desc := "(CII)I" } : MethodName) ({ cls := "RequestGate$Text", name := "find", desc := "(CII)I" } : MethodName) ∈ zz_ws := zz_in (List.mem_of_getElem? (i := 289) (by decide +kernel)) rfl
theorem zw_290 : Cond.code ({ cls := "RequestGate$Text", name := "find", desc := "(CII)I" } : MethodName) prog_9_method_6_code (5 : Nat) (Option.some FieldType.int) ∈ zz_ws := zz_in (List.mem_of_getElem? (i := 290) (by decide +kernel)) rfl
theorem zw_291 : Cond.methodLink "RequestGate$Text" (23 : Nat) ({ cls := "RequestGate$Text", name := "at", desc := "(I)C" } : MethodName) ∈ zz_ws := zz_in (List.mem_of_getElem? (i := 291) (by decide +kernel)) rfl
theorem zw_292 : Cond.methodLink "RequestGate$Rule" (28 : Nat) ({ cls := "RequestGate$Text", name := "endsPieceAt", desc := "(I)Z" } : MethodName) ∈ zz_ws := zz_in (List.mem_of_getElem? (i := 292) (by decide +kernel)) rfl
theorem zw_293 : Cond.instanceMethod ({ cls := "RequestGate$Text", name := "endsPieceAt", desc := "(I)Z" } : MethodName) ∈ zz_ws := zz_in (List.mem_of_getElem? (i := 293) (by decide +kernel)) rfl
theorem zw_294 : Cond.selects "RequestGate$Text" ({ cls := "RequestGate$Text", name := "endsPieceAt", desc := "(I)Z" } : MethodName) ({ cls := "RequestGate$Text", name := "endsPieceAt", desc := "(I)Z" } : MethodName) ∈ zz_ws := zz_in (List.mem_of_getElem? (i := 294) (by decide +kernel)) rfl
theorem zw_295 : Cond.code ({ cls := "RequestGate$Text", name := "endsPieceAt", desc := "(I)Z" } : MethodName) prog_9_method_8_code (2 : Nat) (Option.some FieldType.boolean) ∈ zz_ws := zz_in (List.mem_of_getElem? (i := 295) (by decide +kernel)) rfl
theorem zw_296 : Cond.methodLink "RequestGate$Rule" (47 : Nat) ({ cls := "RequestGate$Rule", name := "isPiece", desc := "(LRequestGate$Text;II)Z" } : MethodName) ∈ zz_ws := zz_in (List.mem_of_getElem? (i := 296) (by decide +kernel)) rfl
theorem zw_297 : Cond.static ({ cls := "RequestGate$Rule", name := "isPiece", desc := "(LRequestGate$Text;II)Z" } : MethodName) ∈ zz_ws := zz_in (List.mem_of_getElem? (i := 297) (by decide +kernel)) rfl
theorem zw_298 : Cond.code ({ cls := "RequestGate$Rule", name := "isPiece", desc := "(LRequestGate$Text;II)Z" } : MethodName) prog_7_method_4_code (4 : Nat) (Option.some FieldType.boolean) ∈ zz_ws := zz_in (List.mem_of_getElem? (i := 298) (by decide +kernel)) rfl
theorem zw_299 : Cond.classLink "RequestGate" (90 : Nat) "RequestGate$Rule" ∈ zz_ws := zz_in (List.mem_of_getElem? (i := 299) (by decide +kernel)) rfl
theorem zw_300 : Cond.instantiable "RequestGate$Rule" (3 : Nat) ∈ zz_ws := zz_in (List.mem_of_getElem? (i := 300) (by decide +kernel)) rfl
theorem zw_301 : Cond.methodLink "RequestGate" (95 : Nat) ({ cls := "RequestGate$Rule", name := "<init>", desc := "(LRequestGate$Text;II)V" } : MethodName) ∈ zz_ws := zz_in (List.mem_of_getElem? (i := 301) (by decide +kernel)) rfl
theorem zw_302 : Cond.instanceMethod ({ cls := "RequestGate$Rule", name := "<init>", desc := "(LRequestGate$Text;II)V" } : MethodName) ∈ zz_ws := zz_in (List.mem_of_getElem? (i := 302) (by decide +kernel)) rfl
theorem zw_303 : Cond.code ({ cls := "RequestGate$Rule", name := "<init>", desc := "(LRequestGate$Text;II)V" } : MethodName) prog_7_method_1_code (5 : Nat) (none : Option FieldType) ∈ zz_ws := zz_in (List.mem_of_getElem? (i := 303) (by decide +kernel)) rfl
theorem zw_304 : Cond.methodLink "RequestGate$Rule" (1 : Nat) ({ cls := "java/lang/Object", name := "<init>", desc := "()V" } : MethodName) ∈ zz_ws := zz_in (List.mem_of_getElem? (i := 304) (by decide +kernel)) rfl
theorem zw_305 : Cond.classLink "RequestGate$Rule" (7 : Nat) "RequestGate$Pieces" ∈ zz_ws := zz_in (List.mem_of_getElem? (i := 305) (by decide +kernel)) rfl
theorem zw_307 : Cond.methodLink "RequestGate$Rule" (36 : Nat) ({ cls := "RequestGate$Pieces", name := "write", desc := "(I)V" } : MethodName) ∈ zz_ws := zz_in (List.mem_of_getElem? (i := 307) (by decide +kernel)) rfl
theorem zw_308 : Cond.instanceMethod ({ cls := "RequestGate$Pieces", name := "write", desc := "(I)V" } : MethodName) ∈ zz_ws := zz_in (List.mem_of_getElem? (i := 308) (by decide +kernel)) rfl
theorem zw_309 : Cond.selects "RequestGate$Pieces" ({ cls := "RequestGate$Pieces", name := "write", desc := "(I)V" } : MethodName) ({ cls := "RequestGate$Pieces", name := "write", desc := "(I)V" } : MethodName) ∈ zz_ws := zz_in (List.mem_of_getElem? (i := 309) (by decide +kernel)) rfl
theorem zw_310 : Cond.code ({ cls := "RequestGate$Pieces", name := "write", desc := "(I)V" } : MethodName) prog_4_method_3_code (2 : Nat) (none : Option FieldType) ∈ zz_ws := zz_in (List.mem_of_getElem? (i := 310) (by decide +kernel)) rfl
theorem zw_311 : Cond.methodLink "RequestGate$Rule" (40 : Nat) ({ cls := "RequestGate$Pieces", name := "keepWritten", desc := "()V" } : MethodName) ∈ zz_ws := zz_in (List.mem_of_getElem? (i := 311) (by decide +kernel)) rfl
theorem zw_312 : Cond.instanceMethod ({ cls := "RequestGate$Pieces", name := "keepWritten", desc := "()V" } : MethodName) ∈ zz_ws := zz_in (List.mem_of_getElem? (i := 312) (by decide +kernel)) rfl
theorem zw_313 : Cond.selects "RequestGate$Pieces" ({ cls := "RequestGate$Pieces", name := "keepWritten", desc := "()V" } : MethodName) ({ cls := "RequestGate$Pieces", name := "keepWritten", desc := "()V" } : MethodName) ∈ zz_ws := zz_in (List.mem_of_getElem? (i := 313) (by decide +kernel)) rfl
theorem zw_314 : Cond.code ({ cls := "RequestGate$Pieces", name := "keepWritten", desc := "()V" } : MethodName) prog_4_method_6_code (1 : Nat) (none : Option FieldType) ∈ zz_ws := zz_in (List.mem_of_getElem? (i := 314) (by decide +kernel)) rfl
theorem zw_315 : Cond.fieldLink "RequestGate$Rule" (10 : Nat) "RequestGate$Rule" "pattern" "LRequestGate$Pieces;" ∈ zz_ws := zz_in (List.mem_of_getElem? (i := 315) (by decide +kernel)) rfl
theorem zw_316 : Cond.fieldLink "RequestGate" (226 : Nat) "RequestGate$Rule" "pattern" "LRequestGate$Pieces;" ∈ zz_ws := zz_in (List.mem_of_getElem? (i := 316) (by decide +kernel)) rfl
theorem zw_317 : Cond.fieldLink "RequestGate$Rule" (16 : Nat) "RequestGate$Rule" "expression" "I" ∈ zz_ws := zz_in (List.mem_of_getElem? (i := 317) (by decide +kernel)) rfl
theorem zw_318 : Cond.fieldLink "RequestGate" (272 : Nat) "RequestGate$Rule" "expression" "I" ∈ zz_ws := zz_in (List.mem_of_getElem? (i := 318) (by decide +kernel)) rfl
theorem zw_319 : Cond.fieldLink "RequestGate$Rule" (20 : Nat) "RequestGate$Rule" "methods" "I" ∈ zz_ws := zz_in (List.mem_of_getElem? (i := 319) (by decide +kernel)) rfl
theorem zw_320 : Cond.laysFinal "RequestGate$Rule" "RequestGate$Rule" "pattern" "LRequestGate$Pieces;" ∈ zz_ws := zz_in (List.mem_of_getElem? (i := 320) (by decide +kernel)) rfl
theorem zw_322 : Cond.laysFinal "RequestGate$Rule" "RequestGate$Rule" "expression" "I" ∈ zz_ws := zz_in (List.mem_of_getElem? (i := 322) (by decide +kernel)) rfl
theorem zw_324 : Cond.laysFinal "RequestGate$Rule" "RequestGate$Rule" "methods" "I" ∈ zz_ws := zz_in (List.mem_of_getElem? (i := 324) (by decide +kernel)) rfl
theorem zw_327 : Cond.methodLink "RequestGate" (98 : Nat) ({ cls := "java/util/ArrayList", name := "add", desc := "(Ljava/lang/Object;)Z" } : MethodName) ∈ zz_ws := zz_in (List.mem_of_getElem? (i := 327) (by decide +kernel)) rfl
theorem zw_328 : Cond.instanceMethod ({ cls := "java/util/ArrayList", name := "add", desc := "(Ljava/lang/Object;)Z" } : MethodName) ∈ zz_ws := zz_in (List.mem_of_getElem? (i := 328) (by decide +kernel)) rfl
theorem zw_329 : Cond.selects "java/util/ArrayList" ({ cls := "java/util/ArrayList", name := "add", desc := "(Ljava/lang/Object;)Z" } : MethodName) ({ cls := "java/util/ArrayList", name := "add", desc := "(Ljava/lang/Object;)Z" } : MethodName) ∈ zz_ws := zz_in (List.mem_of_getElem? (i := 329) (by decide +kernel)) rfl
theorem zw_330 : Cond.code ({ cls := "java/util/ArrayList", name := "add", desc := "(Ljava/lang/Object;)Z" } : MethodName) prog_22_method_25_code (2 : Nat) (Option.some FieldType.boolean) ∈ zz_ws := zz_in (List.mem_of_getElem? (i := 330) (by decide +kernel)) rfl
theorem zw_331 : Cond.methodLink "java/util/ArrayList" (131 : Nat) ({ cls := "java/util/ArrayList", name := "add", desc := "(Ljava/lang/Object;[Ljava/lang/Object;I)V" } : MethodName) ∈ zz_ws := zz_in (List.mem_of_getElem? (i := 331) (by decide +kernel)) rfl
theorem zw_333 : Cond.instanceMethod ({ cls := "java/util/ArrayList", name := "add", desc := "(Ljava/lang/Object;[Ljava/lang/Object;I)V" } : MethodName) ∈ zz_ws := zz_in (List.mem_of_getElem? (i := 333) (by decide +kernel)) rfl
theorem zw_334 : Cond.code ({ cls := "java/util/ArrayList", name := "add", desc := "(Ljava/lang/Object;[Ljava/lang/Object;I)V" } : MethodName) prog_22_method_24_code (4 : Nat) (none : Option FieldType) ∈ zz_ws := zz_in (List.mem_of_getElem? (i := 334) (by decide +kernel)) rfl
theorem zw_335 : Cond.methodLink "java/util/ArrayList" (129 : Nat) ({ cls := "java/util/ArrayList", name := "grow", desc := "()[Ljava/lang/Object;" } : MethodName) ∈ zz_ws := zz_in (List.mem_of_getElem? (i := 335) (by decide +kernel)) rfl
theorem zw_337 : Cond.instanceMethod ({ cls := "java/util/ArrayList", name := "grow", desc := "()[Ljava/lang/Object;" } : MethodName) ∈ zz_ws := zz_in (List.mem_of_getElem? (i := 337) (by decide +kernel)) rfl
theorem zw_338 : Cond.code ({ cls := "java/util/ArrayList", name := "grow", desc := "()[Ljava/lang/Object;" } : MethodName) prog_22_method_7_code (1 : Nat) (Option.some (FieldType.array (FieldType.object "java/lang/Object"))) ∈ zz_ws := zz_in (List.mem_of_getElem? (i := 338) (by decide +kernel)) rfl
theorem zw_339 : Cond.methodLink "java/util/ArrayList" (69 : Nat) ({ cls := "java/util/ArrayList", name := "grow", desc := "(I)[Ljava/lang/Object;" } : MethodName) ∈ zz_ws := zz_in (List.mem_of_getElem? (i := 339) (by decide +kernel)) rfl
theorem zw_341 : Cond.instanceMethod ({ cls := "java/util/ArrayList", name := "grow", desc := "(I)[Ljava/lang/Object;" } : MethodName) ∈ zz_ws := zz_in (List.mem_of_getElem? (i := 341) (by decide +kernel)) rfl
theorem zw_342 : Cond.code ({ cls := "java/util/ArrayList", name := "grow", desc := "(I)[Ljava/lang/Object;" } : MethodName) prog_22_method_6_code (4 : Nat) (Option.some (FieldType.array (FieldType.object "java/lang/Object"))) ∈ zz_ws := zz_in (List.mem_of_getElem? (i := 342) (by decide +kernel)) rfl
theorem zw_343 : Cond.methodLink "java/util/ArrayList" (73 : Nat) ({ cls := "jdk/internal/util/ArraysSupport", name := "newLength", desc := "(III)I" } : MethodName) ∈ zz_ws := zz_in (List.mem_of_getElem? (i := 343) (by decide +kernel)) rfl
theorem zw_344 : Cond.static ({ cls := "jdk/internal/util/ArraysSupport", name := "newLength", desc := "(III)I" } : MethodName) ∈ zz_ws := zz_in (List.mem_of_getElem? (i := 344) (by decide +kernel)) rfl
theorem zw_345 : Cond.code ({ cls := "jdk/internal/util/ArraysSupport", name := "newLength", desc := "(III)I" } : MethodName) prog_29_method_27_code (4 : Nat) (Option.some FieldType.int) ∈ zz_ws := zz_in (List.mem_of_getElem? (i := 345) (by decide +kernel)) rfl
theorem zw_346 : Cond.methodLink "jdk/internal/util/ArraysSupport" (194 : Nat) ({ cls := "java/lang/Math", name := "max", desc := "(II)I" } : MethodName) ∈ zz_ws := zz_in (List.mem_of_getElem? (i := 346) (by decide +kernel)) rfl
theorem zw_347 : Cond.static ({ cls := "java/lang/Math", name := "max", desc := "(II)I" } : MethodName) ∈ zz_ws := zz_in (List.mem_of_getElem? (i := 347) (by decide +kernel)) rfl
theorem zw_348 : Cond.code ({ cls := "java/lang/Math", name := "max", desc := "(II)I" } : MethodName) prog_18_method_65_code (2 : Nat) (Option.some FieldType.int) ∈ zz_ws := zz_in (List.mem_of_getElem? (i := 348) (by decide +kernel)) rfl
theorem zw_349 : Cond.constant "jdk/internal/util/ArraysSupport" (200 : Nat) (2147483639 : Int32) ∈ zz_ws := zz_in (List.mem_of_getElem? (i := 349) (by decide +kernel)) rfl
theorem zw_350 : Cond.methodLink "jdk/internal/util/ArraysSupport" (201 : Nat) ({ cls := "jdk/internal/util/ArraysSupport", name := "hugeLength", desc := "(II)I" } : MethodName) ∈ zz_ws := zz_in (List.mem_of_getElem? (i := 350) (by decide +kernel)) rfl
theorem zw_351 : Cond.static ({ cls := "jdk/internal/util/ArraysSupport", name := "hugeLength", desc := "(II)I" } : MethodName) ∈ zz_ws := zz_in (List.mem_of_getElem? (i := 351) (by decide +kernel)) rfl
theorem zw_352 : Cond.code ({ cls := "jdk/internal/util/ArraysSupport", name := "hugeLength", desc := "(II)I" } : MethodName) prog_29_method_28_code (3 : Nat) (Option.some FieldType.int) ∈ zz_ws := zz_in (List.mem_of_getElem? (i := 352) (by decide +kernel)) rfl
theorem zw_353 : Cond.methodLink "java/util/ArrayList" (66 : Nat) ({ cls := "java/util/Arrays", name := "copyOf", desc := "([Ljava/lang/Object;I)[Ljava/lang/Object;" } : MethodName) ∈ zz_ws := zz_in (List.mem_of_getElem? (i := 353) (by decide +kernel)) rfl
theorem zw_354 : Cond.static ({ cls := "java/util/Arrays", name := "copyOf", desc := "([Ljava/lang/Object;I)[Ljava/lang/Object;" } : MethodName) ∈ zz_ws := zz_in (List.mem_of_getElem? (i := 354) (by decide +kernel)) rfl
theorem zw_355 : Cond.code ({ cls := "java/util/Arrays", name := "copyOf", desc := "([Ljava/lang/Object;I)[Ljava/lang/Object;" } : MethodName) prog_23_method_119_code (2 : Nat) (Option.some (FieldType.array (FieldType.object "java/lang/Object"))) ∈ zz_ws := zz_in (List.mem_of_getElem? (i := 355) (by decide +kernel)) rfl
theorem zw_356 : Cond.methodLink "java/util/Arrays" (86 : Nat) ({ cls := "java/lang/Object", name := "getClass", desc := "()Ljava/lang/Class;" } : MethodName) ∈ zz_ws := zz_in (List.mem_of_getElem? (i := 356) (by decide +kernel)) rfl
theorem zw_357 : Cond.instanceMethod ({ cls := "java/lang/Object", name := "getClass", desc := "()Ljava/lang/Class;" } : MethodName) ∈ zz_ws := zz_in (List.mem_of_getElem? (i := 357) (by decide +kernel)) rfl
theorem zw_359 : Cond.selects "RequestGate" ({ cls := "java/lang/Object", name := "getClass", desc := "()Ljava/lang/Class;" } : MethodName) ({ cls := "java/lang/Object", name := "getClass", desc := "()Ljava/lang/Class;" } : MethodName) ∈ zz_ws := zz_in (List.mem_of_getElem? (i := 359) (by decide +kernel)) rfl
theorem zw_360 : Cond.selects "RequestGate$Conditions" ({ cls := "java/lang/Object", name := "getClass", desc := "()Ljava/lang/Class;" } : MethodName) ({ cls := "java/lang/Object", name := "getClass", desc := "()Ljava/lang/Class;" } : MethodName) ∈ zz_ws := zz_in (List.mem_of_getElem? (i := 360) (by decide +kernel)) rfl
theorem zw_361 : Cond.selects "RequestGate$Layer" ({ cls := "java/lang/Object", name := "getClass", desc := "()Ljava/lang/Class;" } : MethodName) ({ cls := "java/lang/Object", name := "getClass", desc := "()Ljava/lang/Class;" } : MethodName) ∈ zz_ws := zz_in (List.mem_of_getElem? (i := 361) (by decide +kernel)) rfl
theorem zw_362 : Cond.selects "RequestGate$Pieces" ({ cls := "java/lang/Object", name := "getClass", desc := "()Ljava/lang/Class;" } : MethodName) ({ cls := "java/lang/Object", name := "getClass", desc := "()Ljava/lang/Class;" } : MethodName) ∈ zz_ws := zz_in (List.mem_of_getElem? (i := 362) (by decide +kernel)) rfl
theorem zw_363 : Cond.selects "RequestGate$PlainPath" ({ cls := "java/lang/Object", name := "getClass", desc := "()Ljava/lang/Class;" } : MethodName) ({ cls := "java/lang/Object", name := "getClass", desc := "()Ljava/lang/Class;" } : MethodName) ∈ zz_ws := zz_in (List.mem_of_getElem? (i := 363) (by decide +kernel)) rfl
theorem zw_364 : Cond.selects "RequestGate$Roles" ({ cls := "java/lang/Object", name := "getClass", desc := "()Ljava/lang/Class;" } : MethodName) ({ cls := "java/lang/Object", name := "getClass", desc := "()Ljava/lang/Class;" } : MethodName) ∈ zz_ws := zz_in (List.mem_of_getElem? (i := 364) (by decide +kernel)) rfl
theorem zw_365 : Cond.selects "RequestGate$Rule" ({ cls := "java/lang/Object", name := "getClass", desc := "()Ljava/lang/Class;" } : MethodName) ({ cls := "java/lang/Object", name := "getClass", desc := "()Ljava/lang/Class;" } : MethodName) ∈ zz_ws := zz_in (List.mem_of_getElem? (i := 365) (by decide +kernel)) rfl
theorem zw_366 : Cond.selects "RequestGate$Service" ({ cls := "java/lang/Object", name := "getClass", desc := "()Ljava/lang/Class;" } : MethodName) ({ cls := "java/lang/Object", name := "getClass", desc := "()Ljava/lang/Class;" } : MethodName) ∈ zz_ws := zz_in (List.mem_of_getElem? (i := 366) (by decide +kernel)) rfl
theorem zw_367 : Cond.selects "RequestGate$Text" ({ cls := "java/lang/Object", name := "getClass", desc := "()Ljava/lang/Class;" } : MethodName) ({ cls := "java/lang/Object", name := "getClass", desc := "()Ljava/lang/Class;" } : MethodName) ∈ zz_ws := zz_in (List.mem_of_getElem? (i := 367) (by decide +kernel)) rfl
theorem zw_368 : Cond.selects "RequestGate$Ticket" ({ cls := "java/lang/Object", name := "getClass", desc := "()Ljava/lang/Class;" } : MethodName) ({ cls := "java/lang/Object", name := "getClass", desc := "()Ljava/lang/Class;" } : MethodName) ∈ zz_ws := zz_in (List.mem_of_getElem? (i := 368) (by decide +kernel)) rfl
theorem zw_369 : Cond.selects "RequestGate$Tickets" ({ cls := "java/lang/Object", name := "getClass", desc := "()Ljava/lang/Class;" } : MethodName) ({ cls := "java/lang/Object", name := "getClass", desc := "()Ljava/lang/Class;" } : MethodName) ∈ zz_ws := zz_in (List.mem_of_getElem? (i := 369) (by decide +kernel)) rfl
theorem zw_370 : Cond.selects "RequestGate$User" ({ cls := "java/lang/Object", name := "getClass", desc := "()Ljava/lang/Class;" } : MethodName) ({ cls := "java/lang/Object", name := "getClass", desc := "()Ljava/lang/Class;" } : MethodName) ∈ zz_ws := zz_in (List.mem_of_getElem? (i := 370) (by decide +kernel)) rfl
theorem zw_371 : Cond.selects "RequestGateModel" ({ cls := "java/lang/Object", name := "getClass", desc := "()Ljava/lang/Class;" } : MethodName) ({ cls := "java/lang/Object", name := "getClass", desc := "()Ljava/lang/Class;" } : MethodName) ∈ zz_ws := zz_in (List.mem_of_getElem? (i := 371) (by decide +kernel)) rfl
theorem zw_372 : Cond.selects "java/util/ArrayList" ({ cls := "java/lang/Object", name := "getClass", desc := "()Ljava/lang/Class;" } : MethodName) ({ cls := "java/lang/Object", name := "getClass", desc := "()Ljava/lang/Class;" } : MethodName) ∈ zz_ws := zz_in (List.mem_of_getElem? (i := 372) (by decide +kernel)) rfl
theorem zw_373 : Cond.native ({ cls := "java/lang/Object", name := "getClass", desc := "()Ljava/lang/Class;" } : MethodName) ∈ zz_ws := zz_in (List.mem_of_getElem? (i := 373) (by decide +kernel)) rfl
theorem zw_374 : Cond.methodLink "java/util/Arrays" (300 : Nat) ({ cls := "java/util/Arrays", name := "copyOf", desc := "([Ljava/lang/Object;ILjava/lang/Class;)[Ljava/lang/Object;" } : MethodName) ∈ zz_ws := zz_in (List.mem_of_getElem? (i := 374) (by decide +kernel)) rfl
theorem zw_375 : Cond.static ({ cls := "java/util/Arrays", name := "copyOf", desc := "([Ljava/lang/Object;ILjava/lang/Class;)[Ljava/lang/Object;" } : MethodName) ∈ zz_ws := zz_in (List.mem_of_getElem? (i := 375) (by decide +kernel)) rfl
theorem zw_376 : Cond.code ({ cls := "java/util/Arrays", name := "copyOf", desc := "([Ljava/lang/Object;ILjava/lang/Class;)[Ljava/lang/Object;" } : MethodName) prog_23_method_120_code (4 : Nat) (Option.some (FieldType.array (FieldType.object "java/lang/Object"))) ∈ zz_ws := zz_in (List.mem_of_getElem? (i := 376) (by decide +kernel)) rfl
theorem zw_377 : Cond.classLink "java/util/Arrays" (110 : Nat) "[Ljava/lang/Object;" ∈ zz_ws := zz_in (List.mem_of_getElem? (i := 377) (by decide +kernel)) rfl
theorem zw_379 : Cond.classLink "java/util/Arrays" (2 : Nat) "java/lang/Object" ∈ zz_ws := zz_in (List.mem_of_getElem? (i := 379) (by decide +kernel)) rfl
theorem zw_380 : Cond.methodLink "java/util/Arrays" (304 : Nat) ({ cls := "java/lang/Math", name := "min", desc := "(II)I" } : MethodName) ∈ zz_ws := zz_in (List.mem_of_getElem? (i := 380) (by decide +kernel)) rfl
theorem zw_381 : Cond.static ({ cls := "java/lang/Math", name := "min", desc := "(II)I" } : MethodName) ∈ zz_ws := zz_in (List.mem_of_getElem? (i := 381) (by decide +kernel)) rfl
theorem zw_382 : Cond.code ({ cls := "java/lang/Math", name := "min", desc := "(II)I" } : MethodName) prog_18_method_69_code (2 : Nat) (Option.some FieldType.int) ∈ zz_ws := zz_in (List.mem_of_getElem? (i := 382) (by decide +kernel)) rfl
theorem zw_383 : Cond.methodLink "java/util/Arrays" (150 : Nat) ({ cls := "java/lang/System", name := "arraycopy", desc := "(Ljava/lang/Object;ILjava/lang/Object;II)V" } : MethodName) ∈ zz_ws := zz_in (List.mem_of_getElem? (i := 383) (by decide +kernel)) rfl
theorem zw_384 : Cond.static ({ cls := "java/lang/System", name := "arraycopy", desc := "(Ljava/lang/Object;ILjava/lang/Object;II)V" } : MethodName) ∈ zz_ws := zz_in (List.mem_of_getElem? (i := 384) (by decide +kernel)) rfl
theorem zw_385 : Cond.native ({ cls := "java/lang/System", name := "arraycopy", desc := "(Ljava/lang/Object;ILjava/lang/Object;II)V" } : MethodName) ∈ zz_ws := zz_in (List.mem_of_getElem? (i := 385) (by decide +kernel)) rfl
theorem zw_386 : Cond.methodLink "java/util/ArrayList" (79 : Nat) ({ cls := "java/lang/Math", name := "max", desc := "(II)I" } : MethodName) ∈ zz_ws := zz_in (List.mem_of_getElem? (i := 386) (by decide +kernel)) rfl
theorem zw_387 : Cond.classLink "java/util/ArrayList" (7 : Nat) "java/lang/Object" ∈ zz_ws := zz_in (List.mem_of_getElem? (i := 387) (by decide +kernel)) rfl
theorem zw_388 : Cond.methodLink "RequestGateLaw" (32 : Nat) ({ cls := "RequestGate", name := "role", desc := "(II)Z" } : MethodName) ∈ zz_ws := zz_in (List.mem_of_getElem? (i := 388) (by decide +kernel)) rfl
theorem zw_389 : Cond.instanceMethod ({ cls := "RequestGate", name := "role", desc := "(II)Z" } : MethodName) ∈ zz_ws := zz_in (List.mem_of_getElem? (i := 389) (by decide +kernel)) rfl
theorem zw_390 : Cond.selects "RequestGate" ({ cls := "RequestGate", name := "role", desc := "(II)Z" } : MethodName) ({ cls := "RequestGate", name := "role", desc := "(II)Z" } : MethodName) ∈ zz_ws := zz_in (List.mem_of_getElem? (i := 390) (by decide +kernel)) rfl
theorem zw_391 : Cond.code ({ cls := "RequestGate", name := "role", desc := "(II)Z" } : MethodName) prog_1_method_6_code (3 : Nat) (Option.some FieldType.boolean) ∈ zz_ws := zz_in (List.mem_of_getElem? (i := 391) (by decide +kernel)) rfl
theorem zw_392 : Cond.methodLink "RequestGate" (101 : Nat) ({ cls := "RequestGate$Roles", name := "add", desc := "(II)Z" } : MethodName) ∈ zz_ws := zz_in (List.mem_of_getElem? (i := 392) (by decide +kernel)) rfl
theorem zw_393 : Cond.instanceMethod ({ cls := "RequestGate$Roles", name := "add", desc := "(II)Z" } : MethodName) ∈ zz_ws := zz_in (List.mem_of_getElem? (i := 393) (by decide +kernel)) rfl
theorem zw_394 : Cond.selects "RequestGate$Roles" ({ cls := "RequestGate$Roles", name := "add", desc := "(II)Z" } : MethodName) ({ cls := "RequestGate$Roles", name := "add", desc := "(II)Z" } : MethodName) ∈ zz_ws := zz_in (List.mem_of_getElem? (i := 394) (by decide +kernel)) rfl
theorem zw_395 : Cond.code ({ cls := "RequestGate$Roles", name := "add", desc := "(II)Z" } : MethodName) prog_6_method_4_code (4 : Nat) (Option.some FieldType.boolean) ∈ zz_ws := zz_in (List.mem_of_getElem? (i := 395) (by decide +kernel)) rfl
theorem zw_396 : Cond.methodLink "RequestGate$Roles" (15 : Nat) ({ cls := "RequestGate$Roles", name := "isRole", desc := "(I)Z" } : MethodName) ∈ zz_ws := zz_in (List.mem_of_getElem? (i := 396) (by decide +kernel)) rfl
theorem zw_397 : Cond.methodLink "RequestGate$Roles" (19 : Nat) ({ cls := "RequestGate$Roles", name := "contains", desc := "(II)Z" } : MethodName) ∈ zz_ws := zz_in (List.mem_of_getElem? (i := 397) (by decide +kernel)) rfl
theorem zw_398 : Cond.static ({ cls := "RequestGate$Roles", name := "contains", desc := "(II)Z" } : MethodName) ∈ zz_ws := zz_in (List.mem_of_getElem? (i := 398) (by decide +kernel)) rfl
theorem zw_399 : Cond.code ({ cls := "RequestGate$Roles", name := "contains", desc := "(II)Z" } : MethodName) prog_6_method_3_code (2 : Nat) (Option.some FieldType.boolean) ∈ zz_ws := zz_in (List.mem_of_getElem? (i := 399) (by decide +kernel)) rfl
theorem zw_400 : Cond.methodLink "RequestGateLaw" (37 : Nat) ({ cls := "RequestGate", name := "user", desc := "(III)I" } : MethodName) ∈ zz_ws := zz_in (List.mem_of_getElem? (i := 400) (by decide +kernel)) rfl
theorem zw_401 : Cond.instanceMethod ({ cls := "RequestGate", name := "user", desc := "(III)I" } : MethodName) ∈ zz_ws := zz_in (List.mem_of_getElem? (i := 401) (by decide +kernel)) rfl
theorem zw_402 : Cond.selects "RequestGate" ({ cls := "RequestGate", name := "user", desc := "(III)I" } : MethodName) ({ cls := "RequestGate", name := "user", desc := "(III)I" } : MethodName) ∈ zz_ws := zz_in (List.mem_of_getElem? (i := 402) (by decide +kernel)) rfl
theorem zw_403 : Cond.code ({ cls := "RequestGate", name := "user", desc := "(III)I" } : MethodName) prog_1_method_7_code (4 : Nat) (Option.some FieldType.int) ∈ zz_ws := zz_in (List.mem_of_getElem? (i := 403) (by decide +kernel)) rfl
theorem zw_404 : Cond.classLink "RequestGate" (104 : Nat) "RequestGate$User" ∈ zz_ws := zz_in (List.mem_of_getElem? (i := 404) (by decide +kernel)) rfl
theorem zw_405 : Cond.instantiable "RequestGate$User" (6 : Nat) ∈ zz_ws := zz_in (List.mem_of_getElem? (i := 405) (by decide +kernel)) rfl
theorem zw_406 : Cond.methodLink "RequestGate" (106 : Nat) ({ cls := "RequestGate", name := "draw", desc := "()I" } : MethodName) ∈ zz_ws := zz_in (List.mem_of_getElem? (i := 406) (by decide +kernel)) rfl
theorem zw_408 : Cond.instanceMethod ({ cls := "RequestGate", name := "draw", desc := "()I" } : MethodName) ∈ zz_ws := zz_in (List.mem_of_getElem? (i := 408) (by decide +kernel)) rfl
theorem zw_409 : Cond.code ({ cls := "RequestGate", name := "draw", desc := "()I" } : MethodName) prog_1_method_27_code (1 : Nat) (Option.some FieldType.int) ∈ zz_ws := zz_in (List.mem_of_getElem? (i := 409) (by decide +kernel)) rfl
theorem zw_410 : Cond.methodLink "RequestGate" (109 : Nat) ({ cls := "RequestGate$User", name := "<init>", desc := "(IIII)V" } : MethodName) ∈ zz_ws := zz_in (List.mem_of_getElem? (i := 410) (by decide +kernel)) rfl
theorem zw_411 : Cond.instanceMethod ({ cls := "RequestGate$User", name := "<init>", desc := "(IIII)V" } : MethodName) ∈ zz_ws := zz_in (List.mem_of_getElem? (i := 411) (by decide +kernel)) rfl
theorem zw_412 : Cond.code ({ cls := "RequestGate$User", name := "<init>", desc := "(IIII)V" } : MethodName) prog_12_method_1_code (5 : Nat) (none : Option FieldType) ∈ zz_ws := zz_in (List.mem_of_getElem? (i := 412) (by decide +kernel)) rfl
theorem zw_413 : Cond.methodLink "RequestGate$User" (1 : Nat) ({ cls := "java/lang/Object", name := "<init>", desc := "()V" } : MethodName) ∈ zz_ws := zz_in (List.mem_of_getElem? (i := 413) (by decide +kernel)) rfl
theorem zw_414 : Cond.methodLink "RequestGate$User" (19 : Nat) ({ cls := "RequestGate$User", name := "hashOf", desc := "(III)I" } : MethodName) ∈ zz_ws := zz_in (List.mem_of_getElem? (i := 414) (by decide +kernel)) rfl
theorem zw_415 : Cond.static ({ cls := "RequestGate$User", name := "hashOf", desc := "(III)I" } : MethodName) ∈ zz_ws := zz_in (List.mem_of_getElem? (i := 415) (by decide +kernel)) rfl
theorem zw_416 : Cond.code ({ cls := "RequestGate$User", name := "hashOf", desc := "(III)I" } : MethodName) prog_12_method_2_code (6 : Nat) (Option.some FieldType.int) ∈ zz_ws := zz_in (List.mem_of_getElem? (i := 416) (by decide +kernel)) rfl
theorem zw_417 : Cond.fieldLink "RequestGate$User" (7 : Nat) "RequestGate$User" "given" "I" ∈ zz_ws := zz_in (List.mem_of_getElem? (i := 417) (by decide +kernel)) rfl
theorem zw_418 : Cond.fieldLink "RequestGate" (282 : Nat) "RequestGate$User" "given" "I" ∈ zz_ws := zz_in (List.mem_of_getElem? (i := 418) (by decide +kernel)) rfl
theorem zw_419 : Cond.fieldLink "RequestGate$User" (13 : Nat) "RequestGate$User" "scheme" "I" ∈ zz_ws := zz_in (List.mem_of_getElem? (i := 419) (by decide +kernel)) rfl
theorem zw_420 : Cond.fieldLink "RequestGate$User" (16 : Nat) "RequestGate$User" "salt" "I" ∈ zz_ws := zz_in (List.mem_of_getElem? (i := 420) (by decide +kernel)) rfl
theorem zw_421 : Cond.fieldLink "RequestGate$User" (23 : Nat) "RequestGate$User" "hash" "I" ∈ zz_ws := zz_in (List.mem_of_getElem? (i := 421) (by decide +kernel)) rfl
theorem zw_422 : Cond.fieldLink "RequestGate" (247 : Nat) "RequestGate$User" "hash" "I" ∈ zz_ws := zz_in (List.mem_of_getElem? (i := 422) (by decide +kernel)) rfl
theorem zw_423 : Cond.fieldLink "RequestGate$User" (29 : Nat) "RequestGate$User" "wrongTries" "I" ∈ zz_ws := zz_in (List.mem_of_getElem? (i := 423) (by decide +kernel)) rfl
theorem zw_424 : Cond.fieldLink "RequestGate$User" (26 : Nat) "RequestGate$User" "lockedUntil" "I" ∈ zz_ws := zz_in (List.mem_of_getElem? (i := 424) (by decide +kernel)) rfl
theorem zw_425 : Cond.laysFinal "RequestGate$User" "RequestGate$User" "given" "I" ∈ zz_ws := zz_in (List.mem_of_getElem? (i := 425) (by decide +kernel)) rfl
theorem zw_427 : Cond.lays "RequestGate$User" "RequestGate$User" "scheme" "I" ∈ zz_ws := zz_in (List.mem_of_getElem? (i := 427) (by decide +kernel)) rfl
theorem zw_429 : Cond.lays "RequestGate$User" "RequestGate$User" "salt" "I" ∈ zz_ws := zz_in (List.mem_of_getElem? (i := 429) (by decide +kernel)) rfl
theorem zw_431 : Cond.lays "RequestGate$User" "RequestGate$User" "hash" "I" ∈ zz_ws := zz_in (List.mem_of_getElem? (i := 431) (by decide +kernel)) rfl
theorem zw_433 : Cond.lays "RequestGate$User" "RequestGate$User" "wrongTries" "I" ∈ zz_ws := zz_in (List.mem_of_getElem? (i := 433) (by decide +kernel)) rfl
theorem zw_435 : Cond.lays "RequestGate$User" "RequestGate$User" "lockedUntil" "I" ∈ zz_ws := zz_in (List.mem_of_getElem? (i := 435) (by decide +kernel)) rfl
theorem zw_438 : Cond.methodLink "RequestGateLaw" (41 : Nat) ({ cls := "RequestGate", name := "service", desc := "(III)I" } : MethodName) ∈ zz_ws := zz_in (List.mem_of_getElem? (i := 438) (by decide +kernel)) rfl
theorem zw_439 : Cond.instanceMethod ({ cls := "RequestGate", name := "service", desc := "(III)I" } : MethodName) ∈ zz_ws := zz_in (List.mem_of_getElem? (i := 439) (by decide +kernel)) rfl
theorem zw_440 : Cond.selects "RequestGate" ({ cls := "RequestGate", name := "service", desc := "(III)I" } : MethodName) ({ cls := "RequestGate", name := "service", desc := "(III)I" } : MethodName) ∈ zz_ws := zz_in (List.mem_of_getElem? (i := 440) (by decide +kernel)) rfl
theorem zw_441 : Cond.code ({ cls := "RequestGate", name := "service", desc := "(III)I" } : MethodName) prog_1_method_8_code (4 : Nat) (Option.some FieldType.int) ∈ zz_ws := zz_in (List.mem_of_getElem? (i := 441) (by decide +kernel)) rfl
theorem zw_442 : Cond.methodLink "RequestGate" (112 : Nat) ({ cls := "RequestGate", name := "isConditionOrNone", desc := "(I)Z" } : MethodName) ∈ zz_ws := zz_in (List.mem_of_getElem? (i := 442) (by decide +kernel)) rfl
theorem zw_444 : Cond.instanceMethod ({ cls := "RequestGate", name := "isConditionOrNone", desc := "(I)Z" } : MethodName) ∈ zz_ws := zz_in (List.mem_of_getElem? (i := 444) (by decide +kernel)) rfl
theorem zw_445 : Cond.code ({ cls := "RequestGate", name := "isConditionOrNone", desc := "(I)Z" } : MethodName) prog_1_method_25_code (2 : Nat) (Option.some FieldType.boolean) ∈ zz_ws := zz_in (List.mem_of_getElem? (i := 445) (by decide +kernel)) rfl
theorem zw_446 : Cond.methodLink "RequestGate" (115 : Nat) ({ cls := "RequestGate", name := "isTypeOrNone", desc := "(I)Z" } : MethodName) ∈ zz_ws := zz_in (List.mem_of_getElem? (i := 446) (by decide +kernel)) rfl
theorem zw_448 : Cond.instanceMethod ({ cls := "RequestGate", name := "isTypeOrNone", desc := "(I)Z" } : MethodName) ∈ zz_ws := zz_in (List.mem_of_getElem? (i := 448) (by decide +kernel)) rfl
theorem zw_449 : Cond.code ({ cls := "RequestGate", name := "isTypeOrNone", desc := "(I)Z" } : MethodName) prog_1_method_24_code (2 : Nat) (Option.some FieldType.boolean) ∈ zz_ws := zz_in (List.mem_of_getElem? (i := 449) (by decide +kernel)) rfl
theorem zw_450 : Cond.methodLink "RequestGate" (123 : Nat) ({ cls := "RequestGate", name := "isType", desc := "(I)Z" } : MethodName) ∈ zz_ws := zz_in (List.mem_of_getElem? (i := 450) (by decide +kernel)) rfl
theorem zw_452 : Cond.instanceMethod ({ cls := "RequestGate", name := "isType", desc := "(I)Z" } : MethodName) ∈ zz_ws := zz_in (List.mem_of_getElem? (i := 452) (by decide +kernel)) rfl
theorem zw_453 : Cond.code ({ cls := "RequestGate", name := "isType", desc := "(I)Z" } : MethodName) prog_1_method_23_code (2 : Nat) (Option.some FieldType.boolean) ∈ zz_ws := zz_in (List.mem_of_getElem? (i := 453) (by decide +kernel)) rfl
theorem zw_454 : Cond.classLink "RequestGate" (118 : Nat) "RequestGate$Service" ∈ zz_ws := zz_in (List.mem_of_getElem? (i := 454) (by decide +kernel)) rfl
theorem zw_455 : Cond.instantiable "RequestGate$Service" (5 : Nat) ∈ zz_ws := zz_in (List.mem_of_getElem? (i := 455) (by decide +kernel)) rfl
theorem zw_456 : Cond.methodLink "RequestGate" (120 : Nat) ({ cls := "RequestGate$Service", name := "<init>", desc := "(III)V" } : MethodName) ∈ zz_ws := zz_in (List.mem_of_getElem? (i := 456) (by decide +kernel)) rfl
theorem zw_457 : Cond.instanceMethod ({ cls := "RequestGate$Service", name := "<init>", desc := "(III)V" } : MethodName) ∈ zz_ws := zz_in (List.mem_of_getElem? (i := 457) (by decide +kernel)) rfl
theorem zw_458 : Cond.code ({ cls := "RequestGate$Service", name := "<init>", desc := "(III)V" } : MethodName) prog_8_method_1_code (4 : Nat) (none : Option FieldType) ∈ zz_ws := zz_in (List.mem_of_getElem? (i := 458) (by decide +kernel)) rfl
theorem zw_459 : Cond.methodLink "RequestGate$Service" (3 : Nat) ({ cls := "java/lang/Object", name := "<init>", desc := "()V" } : MethodName) ∈ zz_ws := zz_in (List.mem_of_getElem? (i := 459) (by decide +kernel)) rfl
theorem zw_460 : Cond.fieldLink "RequestGate$Service" (19 : Nat) "RequestGate$Service" "parent" "I" ∈ zz_ws := zz_in (List.mem_of_getElem? (i := 460) (by decide +kernel)) rfl
theorem zw_461 : Cond.fieldLink "RequestGate" (295 : Nat) "RequestGate$Service" "parent" "I" ∈ zz_ws := zz_in (List.mem_of_getElem? (i := 461) (by decide +kernel)) rfl
theorem zw_462 : Cond.fieldLink "RequestGate$Service" (23 : Nat) "RequestGate$Service" "face" "I" ∈ zz_ws := zz_in (List.mem_of_getElem? (i := 462) (by decide +kernel)) rfl
theorem zw_463 : Cond.fieldLink "RequestGate" (298 : Nat) "RequestGate$Service" "face" "I" ∈ zz_ws := zz_in (List.mem_of_getElem? (i := 463) (by decide +kernel)) rfl
theorem zw_464 : Cond.fieldLink "RequestGate$Service" (26 : Nat) "RequestGate$Service" "condition" "I" ∈ zz_ws := zz_in (List.mem_of_getElem? (i := 464) (by decide +kernel)) rfl
theorem zw_465 : Cond.fieldLink "RequestGate$Service" (9 : Nat) "RequestGate$Service" "declared" "[Z" ∈ zz_ws := zz_in (List.mem_of_getElem? (i := 465) (by decide +kernel)) rfl
theorem zw_466 : Cond.fieldLink "RequestGate$Service" (15 : Nat) "RequestGate$Service" "conditions" "[I" ∈ zz_ws := zz_in (List.mem_of_getElem? (i := 466) (by decide +kernel)) rfl
theorem zw_467 : Cond.laysFinal "RequestGate$Service" "RequestGate$Service" "parent" "I" ∈ zz_ws := zz_in (List.mem_of_getElem? (i := 467) (by decide +kernel)) rfl
theorem zw_469 : Cond.laysFinal "RequestGate$Service" "RequestGate$Service" "face" "I" ∈ zz_ws := zz_in (List.mem_of_getElem? (i := 469) (by decide +kernel)) rfl
theorem zw_471 : Cond.laysFinal "RequestGate$Service" "RequestGate$Service" "condition" "I" ∈ zz_ws := zz_in (List.mem_of_getElem? (i := 471) (by decide +kernel)) rfl
theorem zw_473 : Cond.laysFinal "RequestGate$Service" "RequestGate$Service" "declared" "[Z" ∈ zz_ws := zz_in (List.mem_of_getElem? (i := 473) (by decide +kernel)) rfl
theorem zw_475 : Cond.laysFinal "RequestGate$Service" "RequestGate$Service" "conditions" "[I" ∈ zz_ws := zz_in (List.mem_of_getElem? (i := 475) (by decide +kernel)) rfl
theorem zw_478 : Cond.methodLink "RequestGateLaw" (45 : Nat) ({ cls := "RequestGate", name := "declare", desc := "(III)Z" } : MethodName) ∈ zz_ws := zz_in (List.mem_of_getElem? (i := 478) (by decide +kernel)) rfl
theorem zw_479 : Cond.instanceMethod ({ cls := "RequestGate", name := "declare", desc := "(III)Z" } : MethodName) ∈ zz_ws := zz_in (List.mem_of_getElem? (i := 479) (by decide +kernel)) rfl
theorem zw_480 : Cond.selects "RequestGate" ({ cls := "RequestGate", name := "declare", desc := "(III)Z" } : MethodName) ({ cls := "RequestGate", name := "declare", desc := "(III)Z" } : MethodName) ∈ zz_ws := zz_in (List.mem_of_getElem? (i := 480) (by decide +kernel)) rfl
theorem zw_481 : Cond.code ({ cls := "RequestGate", name := "declare", desc := "(III)Z" } : MethodName) prog_1_method_9_code (4 : Nat) (Option.some FieldType.boolean) ∈ zz_ws := zz_in (List.mem_of_getElem? (i := 481) (by decide +kernel)) rfl
theorem zw_482 : Cond.methodLink "RequestGate" (126 : Nat) ({ cls := "RequestGate", name := "isOperation", desc := "(I)Z" } : MethodName) ∈ zz_ws := zz_in (List.mem_of_getElem? (i := 482) (by decide +kernel)) rfl
theorem zw_483 : Cond.static ({ cls := "RequestGate", name := "isOperation", desc := "(I)Z" } : MethodName) ∈ zz_ws := zz_in (List.mem_of_getElem? (i := 483) (by decide +kernel)) rfl
theorem zw_484 : Cond.code ({ cls := "RequestGate", name := "isOperation", desc := "(I)Z" } : MethodName) prog_1_method_26_code (1 : Nat) (Option.some FieldType.boolean) ∈ zz_ws := zz_in (List.mem_of_getElem? (i := 484) (by decide +kernel)) rfl
theorem zw_485 : Cond.methodLink "RequestGate" (129 : Nat) ({ cls := "java/util/ArrayList", name := "get", desc := "(I)Ljava/lang/Object;" } : MethodName) ∈ zz_ws := zz_in (List.mem_of_getElem? (i := 485) (by decide +kernel)) rfl
theorem zw_486 : Cond.instanceMethod ({ cls := "java/util/ArrayList", name := "get", desc := "(I)Ljava/lang/Object;" } : MethodName) ∈ zz_ws := zz_in (List.mem_of_getElem? (i := 486) (by decide +kernel)) rfl
theorem zw_487 : Cond.selects "java/util/ArrayList" ({ cls := "java/util/ArrayList", name := "get", desc := "(I)Ljava/lang/Object;" } : MethodName) ({ cls := "java/util/ArrayList", name := "get", desc := "(I)Ljava/lang/Object;" } : MethodName) ∈ zz_ws := zz_in (List.mem_of_getElem? (i := 487) (by decide +kernel)) rfl
theorem zw_488 : Cond.code ({ cls := "java/util/ArrayList", name := "get", desc := "(I)Ljava/lang/Object;" } : MethodName) prog_22_method_20_code (2 : Nat) (Option.some (FieldType.object "java/lang/Object")) ∈ zz_ws := zz_in (List.mem_of_getElem? (i := 488) (by decide +kernel)) rfl
theorem zw_489 : Cond.methodLink "java/util/ArrayList" (118 : Nat) ({ cls := "java/util/Objects", name := "checkIndex", desc := "(II)I" } : MethodName) ∈ zz_ws := zz_in (List.mem_of_getElem? (i := 489) (by decide +kernel)) rfl
theorem zw_490 : Cond.static ({ cls := "java/util/Objects", name := "checkIndex", desc := "(II)I" } : MethodName) ∈ zz_ws := zz_in (List.mem_of_getElem? (i := 490) (by decide +kernel)) rfl
theorem zw_491 : Cond.code ({ cls := "java/util/Objects", name := "checkIndex", desc := "(II)I" } : MethodName) prog_26_method_17_code (2 : Nat) (Option.some FieldType.int) ∈ zz_ws := zz_in (List.mem_of_getElem? (i := 491) (by decide +kernel)) rfl
theorem zw_492 : Cond.methodLink "java/util/Objects" (105 : Nat) ({ cls := "jdk/internal/util/Preconditions", name := "checkIndex", desc := "(IILjava/util/function/BiFunction;)I" } : MethodName) ∈ zz_ws := zz_in (List.mem_of_getElem? (i := 492) (by decide +kernel)) rfl
theorem zw_493 : Cond.static ({ cls := "jdk/internal/util/Preconditions", name := "checkIndex", desc := "(IILjava/util/function/BiFunction;)I" } : MethodName) ∈ zz_ws := zz_in (List.mem_of_getElem? (i := 493) (by decide +kernel)) rfl
theorem zw_494 : Cond.code ({ cls := "jdk/internal/util/Preconditions", name := "checkIndex", desc := "(IILjava/util/function/BiFunction;)I" } : MethodName) prog_30_method_11_code (3 : Nat) (Option.some FieldType.int) ∈ zz_ws := zz_in (List.mem_of_getElem? (i := 494) (by decide +kernel)) rfl
theorem zw_495 : Cond.methodLink "java/util/ArrayList" (123 : Nat) ({ cls := "java/util/ArrayList", name := "elementData", desc := "(I)Ljava/lang/Object;" } : MethodName) ∈ zz_ws := zz_in (List.mem_of_getElem? (i := 495) (by decide +kernel)) rfl
theorem zw_496 : Cond.instanceMethod ({ cls := "java/util/ArrayList", name := "elementData", desc := "(I)Ljava/lang/Object;" } : MethodName) ∈ zz_ws := zz_in (List.mem_of_getElem? (i := 496) (by decide +kernel)) rfl
theorem zw_497 : Cond.selects "java/util/ArrayList" ({ cls := "java/util/ArrayList", name := "elementData", desc := "(I)Ljava/lang/Object;" } : MethodName) ({ cls := "java/util/ArrayList", name := "elementData", desc := "(I)Ljava/lang/Object;" } : MethodName) ∈ zz_ws := zz_in (List.mem_of_getElem? (i := 497) (by decide +kernel)) rfl
theorem zw_498 : Cond.code ({ cls := "java/util/ArrayList", name := "elementData", desc := "(I)Ljava/lang/Object;" } : MethodName) prog_22_method_18_code (2 : Nat) (Option.some (FieldType.object "java/lang/Object")) ∈ zz_ws := zz_in (List.mem_of_getElem? (i := 498) (by decide +kernel)) rfl
theorem zw_499 : Cond.methodLink "RequestGate" (133 : Nat) ({ cls := "RequestGate$Service", name := "add", desc := "(II)Z" } : MethodName) ∈ zz_ws := zz_in (List.mem_of_getElem? (i := 499) (by decide +kernel)) rfl
theorem zw_500 : Cond.instanceMethod ({ cls := "RequestGate$Service", name := "add", desc := "(II)Z" } : MethodName) ∈ zz_ws := zz_in (List.mem_of_getElem? (i := 500) (by decide +kernel)) rfl
theorem zw_501 : Cond.selects "RequestGate$Service" ({ cls := "RequestGate$Service", name := "add", desc := "(II)Z" } : MethodName) ({ cls := "RequestGate$Service", name := "add", desc := "(II)Z" } : MethodName) ∈ zz_ws := zz_in (List.mem_of_getElem? (i := 501) (by decide +kernel)) rfl
theorem zw_502 : Cond.code ({ cls := "RequestGate$Service", name := "add", desc := "(II)Z" } : MethodName) prog_8_method_3_code (3 : Nat) (Option.some FieldType.boolean) ∈ zz_ws := zz_in (List.mem_of_getElem? (i := 502) (by decide +kernel)) rfl
theorem zw_504 : Cond.methodLink "RequestGateLaw" (50 : Nat) ({ cls := "RequestGate", name := "tick", desc := "(I)Z" } : MethodName) ∈ zz_ws := zz_in (List.mem_of_getElem? (i := 504) (by decide +kernel)) rfl
theorem zw_505 : Cond.instanceMethod ({ cls := "RequestGate", name := "tick", desc := "(I)Z" } : MethodName) ∈ zz_ws := zz_in (List.mem_of_getElem? (i := 505) (by decide +kernel)) rfl
theorem zw_506 : Cond.selects "RequestGate" ({ cls := "RequestGate", name := "tick", desc := "(I)Z" } : MethodName) ({ cls := "RequestGate", name := "tick", desc := "(I)Z" } : MethodName) ∈ zz_ws := zz_in (List.mem_of_getElem? (i := 506) (by decide +kernel)) rfl
theorem zw_507 : Cond.code ({ cls := "RequestGate", name := "tick", desc := "(I)Z" } : MethodName) prog_1_method_10_code (2 : Nat) (Option.some FieldType.boolean) ∈ zz_ws := zz_in (List.mem_of_getElem? (i := 507) (by decide +kernel)) rfl
theorem zw_508 : Cond.methodLink "RequestGate" (137 : Nat) ({ cls := "RequestGate$Tickets", name := "dropDead", desc := "(I)V" } : MethodName) ∈ zz_ws := zz_in (List.mem_of_getElem? (i := 508) (by decide +kernel)) rfl
theorem zw_509 : Cond.instanceMethod ({ cls := "RequestGate$Tickets", name := "dropDead", desc := "(I)V" } : MethodName) ∈ zz_ws := zz_in (List.mem_of_getElem? (i := 509) (by decide +kernel)) rfl
theorem zw_510 : Cond.selects "RequestGate$Tickets" ({ cls := "RequestGate$Tickets", name := "dropDead", desc := "(I)V" } : MethodName) ({ cls := "RequestGate$Tickets", name := "dropDead", desc := "(I)V" } : MethodName) ∈ zz_ws := zz_in (List.mem_of_getElem? (i := 510) (by decide +kernel)) rfl
theorem zw_511 : Cond.code ({ cls := "RequestGate$Tickets", name := "dropDead", desc := "(I)V" } : MethodName) prog_11_method_7_code (3 : Nat) (none : Option FieldType) ∈ zz_ws := zz_in (List.mem_of_getElem? (i := 511) (by decide +kernel)) rfl
theorem zw_512 : Cond.methodLink "RequestGate$Tickets" (16 : Nat) ({ cls := "java/util/ArrayList", name := "size", desc := "()I" } : MethodName) ∈ zz_ws := zz_in (List.mem_of_getElem? (i := 512) (by decide +kernel)) rfl
theorem zw_513 : Cond.methodLink "RequestGate$Tickets" (20 : Nat) ({ cls := "java/util/ArrayList", name := "get", desc := "(I)Ljava/lang/Object;" } : MethodName) ∈ zz_ws := zz_in (List.mem_of_getElem? (i := 513) (by decide +kernel)) rfl
theorem zw_514 : Cond.classLink "RequestGate$Tickets" (24 : Nat) "RequestGate$Ticket" ∈ zz_ws := zz_in (List.mem_of_getElem? (i := 514) (by decide +kernel)) rfl
theorem zw_515 : Cond.methodLink "RequestGate$Tickets" (51 : Nat) ({ cls := "RequestGate$Ticket", name := "isDead", desc := "(I)Z" } : MethodName) ∈ zz_ws := zz_in (List.mem_of_getElem? (i := 515) (by decide +kernel)) rfl
theorem zw_516 : Cond.instanceMethod ({ cls := "RequestGate$Ticket", name := "isDead", desc := "(I)Z" } : MethodName) ∈ zz_ws := zz_in (List.mem_of_getElem? (i := 516) (by decide +kernel)) rfl
theorem zw_517 : Cond.selects "RequestGate$Ticket" ({ cls := "RequestGate$Ticket", name := "isDead", desc := "(I)Z" } : MethodName) ({ cls := "RequestGate$Ticket", name := "isDead", desc := "(I)Z" } : MethodName) ∈ zz_ws := zz_in (List.mem_of_getElem? (i := 517) (by decide +kernel)) rfl
theorem zw_518 : Cond.code ({ cls := "RequestGate$Ticket", name := "isDead", desc := "(I)Z" } : MethodName) prog_10_method_2_code (2 : Nat) (Option.some FieldType.boolean) ∈ zz_ws := zz_in (List.mem_of_getElem? (i := 518) (by decide +kernel)) rfl
theorem zw_519 : Cond.methodLink "RequestGate$Tickets" (48 : Nat) ({ cls := "java/util/ArrayList", name := "remove", desc := "(I)Ljava/lang/Object;" } : MethodName) ∈ zz_ws := zz_in (List.mem_of_getElem? (i := 519) (by decide +kernel)) rfl
theorem zw_520 : Cond.instanceMethod ({ cls := "java/util/ArrayList", name := "remove", desc := "(I)Ljava/lang/Object;" } : MethodName) ∈ zz_ws := zz_in (List.mem_of_getElem? (i := 520) (by decide +kernel)) rfl
theorem zw_521 : Cond.selects "java/util/ArrayList" ({ cls := "java/util/ArrayList", name := "remove", desc := "(I)Ljava/lang/Object;" } : MethodName) ({ cls := "java/util/ArrayList", name := "remove", desc := "(I)Ljava/lang/Object;" } : MethodName) ∈ zz_ws := zz_in (List.mem_of_getElem? (i := 521) (by decide +kernel)) rfl
theorem zw_522 : Cond.code ({ cls := "java/util/ArrayList", name := "remove", desc := "(I)Ljava/lang/Object;" } : MethodName) prog_22_method_29_code (4 : Nat) (Option.some (FieldType.object "java/lang/Object")) ∈ zz_ws := zz_in (List.mem_of_getElem? (i := 522) (by decide +kernel)) rfl
theorem zw_523 : Cond.methodLink "java/util/ArrayList" (144 : Nat) ({ cls := "java/util/ArrayList", name := "fastRemove", desc := "([Ljava/lang/Object;I)V" } : MethodName) ∈ zz_ws := zz_in (List.mem_of_getElem? (i := 523) (by decide +kernel)) rfl
theorem zw_525 : Cond.instanceMethod ({ cls := "java/util/ArrayList", name := "fastRemove", desc := "([Ljava/lang/Object;I)V" } : MethodName) ∈ zz_ws := zz_in (List.mem_of_getElem? (i := 525) (by decide +kernel)) rfl
theorem zw_526 : Cond.code ({ cls := "java/util/ArrayList", name := "fastRemove", desc := "([Ljava/lang/Object;I)V" } : MethodName) prog_22_method_39_code (4 : Nat) (none : Option FieldType) ∈ zz_ws := zz_in (List.mem_of_getElem? (i := 526) (by decide +kernel)) rfl
theorem zw_527 : Cond.methodLink "java/util/ArrayList" (112 : Nat) ({ cls := "java/lang/System", name := "arraycopy", desc := "(Ljava/lang/Object;ILjava/lang/Object;II)V" } : MethodName) ∈ zz_ws := zz_in (List.mem_of_getElem? (i := 527) (by decide +kernel)) rfl
theorem zw_528 : Cond.methodLink "RequestGateLaw" (54 : Nat) ({ cls := "RequestGate", name := "login", desc := "(IIIZ)I" } : MethodName) ∈ zz_ws := zz_in (List.mem_of_getElem? (i := 528) (by decide +kernel)) rfl
theorem zw_529 : Cond.instanceMethod ({ cls := "RequestGate", name := "login", desc := "(IIIZ)I" } : MethodName) ∈ zz_ws := zz_in (List.mem_of_getElem? (i := 529) (by decide +kernel)) rfl
theorem zw_530 : Cond.selects "RequestGate" ({ cls := "RequestGate", name := "login", desc := "(IIIZ)I" } : MethodName) ({ cls := "RequestGate", name := "login", desc := "(IIIZ)I" } : MethodName) ∈ zz_ws := zz_in (List.mem_of_getElem? (i := 530) (by decide +kernel)) rfl
theorem zw_531 : Cond.code ({ cls := "RequestGate", name := "login", desc := "(IIIZ)I" } : MethodName) prog_1_method_11_code (7 : Nat) (Option.some FieldType.int) ∈ zz_ws := zz_in (List.mem_of_getElem? (i := 531) (by decide +kernel)) rfl
theorem zw_532 : Cond.methodLink "RequestGate" (141 : Nat) ({ cls := "RequestGate", name := "isUser", desc := "(I)Z" } : MethodName) ∈ zz_ws := zz_in (List.mem_of_getElem? (i := 532) (by decide +kernel)) rfl
theorem zw_534 : Cond.instanceMethod ({ cls := "RequestGate", name := "isUser", desc := "(I)Z" } : MethodName) ∈ zz_ws := zz_in (List.mem_of_getElem? (i := 534) (by decide +kernel)) rfl
theorem zw_535 : Cond.code ({ cls := "RequestGate", name := "isUser", desc := "(I)Z" } : MethodName) prog_1_method_22_code (2 : Nat) (Option.some FieldType.boolean) ∈ zz_ws := zz_in (List.mem_of_getElem? (i := 535) (by decide +kernel)) rfl
theorem zw_536 : Cond.methodLink "RequestGate" (144 : Nat) ({ cls := "RequestGate$User", name := "isLocked", desc := "(I)Z" } : MethodName) ∈ zz_ws := zz_in (List.mem_of_getElem? (i := 536) (by decide +kernel)) rfl
theorem zw_537 : Cond.instanceMethod ({ cls := "RequestGate$User", name := "isLocked", desc := "(I)Z" } : MethodName) ∈ zz_ws := zz_in (List.mem_of_getElem? (i := 537) (by decide +kernel)) rfl
theorem zw_538 : Cond.selects "RequestGate$User" ({ cls := "RequestGate$User", name := "isLocked", desc := "(I)Z" } : MethodName) ({ cls := "RequestGate$User", name := "isLocked", desc := "(I)Z" } : MethodName) ∈ zz_ws := zz_in (List.mem_of_getElem? (i := 538) (by decide +kernel)) rfl
theorem zw_539 : Cond.code ({ cls := "RequestGate$User", name := "isLocked", desc := "(I)Z" } : MethodName) prog_12_method_6_code (2 : Nat) (Option.some FieldType.boolean) ∈ zz_ws := zz_in (List.mem_of_getElem? (i := 539) (by decide +kernel)) rfl
theorem zw_540 : Cond.methodLink "RequestGate" (147 : Nat) ({ cls := "RequestGate$User", name := "hasPassword", desc := "(I)Z" } : MethodName) ∈ zz_ws := zz_in (List.mem_of_getElem? (i := 540) (by decide +kernel)) rfl
theorem zw_541 : Cond.instanceMethod ({ cls := "RequestGate$User", name := "hasPassword", desc := "(I)Z" } : MethodName) ∈ zz_ws := zz_in (List.mem_of_getElem? (i := 541) (by decide +kernel)) rfl
theorem zw_542 : Cond.selects "RequestGate$User" ({ cls := "RequestGate$User", name := "hasPassword", desc := "(I)Z" } : MethodName) ({ cls := "RequestGate$User", name := "hasPassword", desc := "(I)Z" } : MethodName) ∈ zz_ws := zz_in (List.mem_of_getElem? (i := 542) (by decide +kernel)) rfl
theorem zw_543 : Cond.code ({ cls := "RequestGate$User", name := "hasPassword", desc := "(I)Z" } : MethodName) prog_12_method_3_code (2 : Nat) (Option.some FieldType.boolean) ∈ zz_ws := zz_in (List.mem_of_getElem? (i := 543) (by decide +kernel)) rfl
theorem zw_544 : Cond.methodLink "RequestGate" (150 : Nat) ({ cls := "RequestGate$User", name := "lockAfterTooManyTries", desc := "(I)Z" } : MethodName) ∈ zz_ws := zz_in (List.mem_of_getElem? (i := 544) (by decide +kernel)) rfl
theorem zw_545 : Cond.instanceMethod ({ cls := "RequestGate$User", name := "lockAfterTooManyTries", desc := "(I)Z" } : MethodName) ∈ zz_ws := zz_in (List.mem_of_getElem? (i := 545) (by decide +kernel)) rfl
theorem zw_546 : Cond.selects "RequestGate$User" ({ cls := "RequestGate$User", name := "lockAfterTooManyTries", desc := "(I)Z" } : MethodName) ({ cls := "RequestGate$User", name := "lockAfterTooManyTries", desc := "(I)Z" } : MethodName) ∈ zz_ws := zz_in (List.mem_of_getElem? (i := 546) (by decide +kernel)) rfl
theorem zw_547 : Cond.code ({ cls := "RequestGate$User", name := "lockAfterTooManyTries", desc := "(I)Z" } : MethodName) prog_12_method_8_code (2 : Nat) (Option.some FieldType.boolean) ∈ zz_ws := zz_in (List.mem_of_getElem? (i := 547) (by decide +kernel)) rfl
theorem zw_548 : Cond.methodLink "RequestGate$User" (32 : Nat) ({ cls := "RequestGate$User", name := "forgetWrongTries", desc := "()V" } : MethodName) ∈ zz_ws := zz_in (List.mem_of_getElem? (i := 548) (by decide +kernel)) rfl
theorem zw_549 : Cond.instanceMethod ({ cls := "RequestGate$User", name := "forgetWrongTries", desc := "()V" } : MethodName) ∈ zz_ws := zz_in (List.mem_of_getElem? (i := 549) (by decide +kernel)) rfl
theorem zw_550 : Cond.selects "RequestGate$User" ({ cls := "RequestGate$User", name := "forgetWrongTries", desc := "()V" } : MethodName) ({ cls := "RequestGate$User", name := "forgetWrongTries", desc := "()V" } : MethodName) ∈ zz_ws := zz_in (List.mem_of_getElem? (i := 550) (by decide +kernel)) rfl
theorem zw_551 : Cond.code ({ cls := "RequestGate$User", name := "forgetWrongTries", desc := "()V" } : MethodName) prog_12_method_7_code (1 : Nat) (none : Option FieldType) ∈ zz_ws := zz_in (List.mem_of_getElem? (i := 551) (by decide +kernel)) rfl
theorem zw_552 : Cond.methodLink "RequestGate" (156 : Nat) ({ cls := "RequestGate$User", name := "forgetWrongTries", desc := "()V" } : MethodName) ∈ zz_ws := zz_in (List.mem_of_getElem? (i := 552) (by decide +kernel)) rfl
theorem zw_553 : Cond.methodLink "RequestGate" (159 : Nat) ({ cls := "RequestGate$User", name := "isOfOldScheme", desc := "()Z" } : MethodName) ∈ zz_ws := zz_in (List.mem_of_getElem? (i := 553) (by decide +kernel)) rfl
theorem zw_554 : Cond.instanceMethod ({ cls := "RequestGate$User", name := "isOfOldScheme", desc := "()Z" } : MethodName) ∈ zz_ws := zz_in (List.mem_of_getElem? (i := 554) (by decide +kernel)) rfl
theorem zw_555 : Cond.selects "RequestGate$User" ({ cls := "RequestGate$User", name := "isOfOldScheme", desc := "()Z" } : MethodName) ({ cls := "RequestGate$User", name := "isOfOldScheme", desc := "()Z" } : MethodName) ∈ zz_ws := zz_in (List.mem_of_getElem? (i := 555) (by decide +kernel)) rfl
theorem zw_556 : Cond.code ({ cls := "RequestGate$User", name := "isOfOldScheme", desc := "()Z" } : MethodName) prog_12_method_4_code (1 : Nat) (Option.some FieldType.boolean) ∈ zz_ws := zz_in (List.mem_of_getElem? (i := 556) (by decide +kernel)) rfl
theorem zw_557 : Cond.methodLink "RequestGate" (163 : Nat) ({ cls := "RequestGate$User", name := "moveToNewScheme", desc := "(II)V" } : MethodName) ∈ zz_ws := zz_in (List.mem_of_getElem? (i := 557) (by decide +kernel)) rfl
theorem zw_558 : Cond.instanceMethod ({ cls := "RequestGate$User", name := "moveToNewScheme", desc := "(II)V" } : MethodName) ∈ zz_ws := zz_in (List.mem_of_getElem? (i := 558) (by decide +kernel)) rfl
theorem zw_559 : Cond.selects "RequestGate$User" ({ cls := "RequestGate$User", name := "moveToNewScheme", desc := "(II)V" } : MethodName) ({ cls := "RequestGate$User", name := "moveToNewScheme", desc := "(II)V" } : MethodName) ∈ zz_ws := zz_in (List.mem_of_getElem? (i := 559) (by decide +kernel)) rfl
theorem zw_560 : Cond.code ({ cls := "RequestGate$User", name := "moveToNewScheme", desc := "(II)V" } : MethodName) prog_12_method_5_code (3 : Nat) (none : Option FieldType) ∈ zz_ws := zz_in (List.mem_of_getElem? (i := 560) (by decide +kernel)) rfl
theorem zw_561 : Cond.methodLink "RequestGate" (167 : Nat) ({ cls := "RequestGate$Tickets", name := "end", desc := "(I)V" } : MethodName) ∈ zz_ws := zz_in (List.mem_of_getElem? (i := 561) (by decide +kernel)) rfl
theorem zw_562 : Cond.instanceMethod ({ cls := "RequestGate$Tickets", name := "end", desc := "(I)V" } : MethodName) ∈ zz_ws := zz_in (List.mem_of_getElem? (i := 562) (by decide +kernel)) rfl
theorem zw_563 : Cond.selects "RequestGate$Tickets" ({ cls := "RequestGate$Tickets", name := "end", desc := "(I)V" } : MethodName) ({ cls := "RequestGate$Tickets", name := "end", desc := "(I)V" } : MethodName) ∈ zz_ws := zz_in (List.mem_of_getElem? (i := 563) (by decide +kernel)) rfl
theorem zw_564 : Cond.code ({ cls := "RequestGate$Tickets", name := "end", desc := "(I)V" } : MethodName) prog_11_method_5_code (3 : Nat) (none : Option FieldType) ∈ zz_ws := zz_in (List.mem_of_getElem? (i := 564) (by decide +kernel)) rfl
theorem zw_565 : Cond.methodLink "RequestGate" (170 : Nat) ({ cls := "RequestGate", name := "make", desc := "(LRequestGate$Tickets;IZ)I" } : MethodName) ∈ zz_ws := zz_in (List.mem_of_getElem? (i := 565) (by decide +kernel)) rfl
theorem zw_567 : Cond.instanceMethod ({ cls := "RequestGate", name := "make", desc := "(LRequestGate$Tickets;IZ)I" } : MethodName) ∈ zz_ws := zz_in (List.mem_of_getElem? (i := 567) (by decide +kernel)) rfl
theorem zw_568 : Cond.code ({ cls := "RequestGate", name := "make", desc := "(LRequestGate$Tickets;IZ)I" } : MethodName) prog_1_method_28_code (6 : Nat) (Option.some FieldType.int) ∈ zz_ws := zz_in (List.mem_of_getElem? (i := 568) (by decide +kernel)) rfl
theorem zw_569 : Cond.classLink "RequestGate" (179 : Nat) "RequestGate$Ticket" ∈ zz_ws := zz_in (List.mem_of_getElem? (i := 569) (by decide +kernel)) rfl
theorem zw_570 : Cond.instantiable "RequestGate$Ticket" (6 : Nat) ∈ zz_ws := zz_in (List.mem_of_getElem? (i := 570) (by decide +kernel)) rfl
theorem zw_571 : Cond.methodLink "RequestGate" (259 : Nat) ({ cls := "RequestGate$Ticket", name := "<init>", desc := "(IIIZI)V" } : MethodName) ∈ zz_ws := zz_in (List.mem_of_getElem? (i := 571) (by decide +kernel)) rfl
theorem zw_572 : Cond.instanceMethod ({ cls := "RequestGate$Ticket", name := "<init>", desc := "(IIIZI)V" } : MethodName) ∈ zz_ws := zz_in (List.mem_of_getElem? (i := 572) (by decide +kernel)) rfl
theorem zw_573 : Cond.code ({ cls := "RequestGate$Ticket", name := "<init>", desc := "(IIIZI)V" } : MethodName) prog_10_method_1_code (6 : Nat) (none : Option FieldType) ∈ zz_ws := zz_in (List.mem_of_getElem? (i := 573) (by decide +kernel)) rfl
theorem zw_574 : Cond.methodLink "RequestGate$Ticket" (1 : Nat) ({ cls := "java/lang/Object", name := "<init>", desc := "()V" } : MethodName) ∈ zz_ws := zz_in (List.mem_of_getElem? (i := 574) (by decide +kernel)) rfl
theorem zw_575 : Cond.fieldLink "RequestGate$Ticket" (7 : Nat) "RequestGate$Ticket" "user" "I" ∈ zz_ws := zz_in (List.mem_of_getElem? (i := 575) (by decide +kernel)) rfl
theorem zw_576 : Cond.fieldLink "RequestGate$Tickets" (30 : Nat) "RequestGate$Ticket" "user" "I" ∈ zz_ws := zz_in (List.mem_of_getElem? (i := 576) (by decide +kernel)) rfl
theorem zw_577 : Cond.fieldLink "RequestGate" (178 : Nat) "RequestGate$Ticket" "user" "I" ∈ zz_ws := zz_in (List.mem_of_getElem? (i := 577) (by decide +kernel)) rfl
theorem zw_578 : Cond.fieldLink "RequestGate$Ticket" (13 : Nat) "RequestGate$Ticket" "id" "I" ∈ zz_ws := zz_in (List.mem_of_getElem? (i := 578) (by decide +kernel)) rfl
theorem zw_579 : Cond.fieldLink "RequestGate$Tickets" (26 : Nat) "RequestGate$Ticket" "id" "I" ∈ zz_ws := zz_in (List.mem_of_getElem? (i := 579) (by decide +kernel)) rfl
theorem zw_580 : Cond.fieldLink "RequestGate" (241 : Nat) "RequestGate$Ticket" "id" "I" ∈ zz_ws := zz_in (List.mem_of_getElem? (i := 580) (by decide +kernel)) rfl
theorem zw_581 : Cond.fieldLink "RequestGate$Ticket" (16 : Nat) "RequestGate$Ticket" "token" "I" ∈ zz_ws := zz_in (List.mem_of_getElem? (i := 581) (by decide +kernel)) rfl
theorem zw_582 : Cond.fieldLink "RequestGate" (201 : Nat) "RequestGate$Ticket" "token" "I" ∈ zz_ws := zz_in (List.mem_of_getElem? (i := 582) (by decide +kernel)) rfl
theorem zw_583 : Cond.fieldLink "RequestGate$Ticket" (19 : Nat) "RequestGate$Ticket" "remembered" "Z" ∈ zz_ws := zz_in (List.mem_of_getElem? (i := 583) (by decide +kernel)) rfl
theorem zw_584 : Cond.fieldLink "RequestGate" (244 : Nat) "RequestGate$Ticket" "remembered" "Z" ∈ zz_ws := zz_in (List.mem_of_getElem? (i := 584) (by decide +kernel)) rfl
theorem zw_585 : Cond.fieldLink "RequestGate$Ticket" (23 : Nat) "RequestGate$Ticket" "made" "I" ∈ zz_ws := zz_in (List.mem_of_getElem? (i := 585) (by decide +kernel)) rfl
theorem zw_586 : Cond.fieldLink "RequestGate$Ticket" (26 : Nat) "RequestGate$Ticket" "lastUsed" "I" ∈ zz_ws := zz_in (List.mem_of_getElem? (i := 586) (by decide +kernel)) rfl
theorem zw_587 : Cond.fieldLink "RequestGate$Tickets" (37 : Nat) "RequestGate$Ticket" "lastUsed" "I" ∈ zz_ws := zz_in (List.mem_of_getElem? (i := 587) (by decide +kernel)) rfl
theorem zw_588 : Cond.fieldLink "RequestGate" (265 : Nat) "RequestGate$Ticket" "lastUsed" "I" ∈ zz_ws := zz_in (List.mem_of_getElem? (i := 588) (by decide +kernel)) rfl
theorem zw_589 : Cond.laysFinal "RequestGate$Ticket" "RequestGate$Ticket" "user" "I" ∈ zz_ws := zz_in (List.mem_of_getElem? (i := 589) (by decide +kernel)) rfl
theorem zw_591 : Cond.laysFinal "RequestGate$Ticket" "RequestGate$Ticket" "id" "I" ∈ zz_ws := zz_in (List.mem_of_getElem? (i := 591) (by decide +kernel)) rfl
theorem zw_593 : Cond.lays "RequestGate$Ticket" "RequestGate$Ticket" "token" "I" ∈ zz_ws := zz_in (List.mem_of_getElem? (i := 593) (by decide +kernel)) rfl
theorem zw_595 : Cond.laysFinal "RequestGate$Ticket" "RequestGate$Ticket" "remembered" "Z" ∈ zz_ws := zz_in (List.mem_of_getElem? (i := 595) (by decide +kernel)) rfl
theorem zw_597 : Cond.laysFinal "RequestGate$Ticket" "RequestGate$Ticket" "made" "I" ∈ zz_ws := zz_in (List.mem_of_getElem? (i := 597) (by decide +kernel)) rfl
theorem zw_599 : Cond.lays "RequestGate$Ticket" "RequestGate$Ticket" "lastUsed" "I" ∈ zz_ws := zz_in (List.mem_of_getElem? (i := 599) (by decide +kernel)) rfl
theorem zw_602 : Cond.methodLink "RequestGate" (262 : Nat) ({ cls := "RequestGate$Tickets", name := "add", desc := "(LRequestGate$Ticket;)V" } : MethodName) ∈ zz_ws := zz_in (List.mem_of_getElem? (i := 602) (by decide +kernel)) rfl
theorem zw_603 : Cond.instanceMethod ({ cls := "RequestGate$Tickets", name := "add", desc := "(LRequestGate$Ticket;)V" } : MethodName) ∈ zz_ws := zz_in (List.mem_of_getElem? (i := 603) (by decide +kernel)) rfl
theorem zw_604 : Cond.selects "RequestGate$Tickets" ({ cls := "RequestGate$Tickets", name := "add", desc := "(LRequestGate$Ticket;)V" } : MethodName) ({ cls := "RequestGate$Tickets", name := "add", desc := "(LRequestGate$Ticket;)V" } : MethodName) ∈ zz_ws := zz_in (List.mem_of_getElem? (i := 604) (by decide +kernel)) rfl
theorem zw_605 : Cond.code ({ cls := "RequestGate$Tickets", name := "add", desc := "(LRequestGate$Ticket;)V" } : MethodName) prog_11_method_4_code (4 : Nat) (none : Option FieldType) ∈ zz_ws := zz_in (List.mem_of_getElem? (i := 605) (by decide +kernel)) rfl
theorem zw_606 : Cond.methodLink "RequestGate$Tickets" (33 : Nat) ({ cls := "RequestGate$Tickets", name := "findOf", desc := "(II)LRequestGate$Ticket;" } : MethodName) ∈ zz_ws := zz_in (List.mem_of_getElem? (i := 606) (by decide +kernel)) rfl
theorem zw_607 : Cond.instanceMethod ({ cls := "RequestGate$Tickets", name := "findOf", desc := "(II)LRequestGate$Ticket;" } : MethodName) ∈ zz_ws := zz_in (List.mem_of_getElem? (i := 607) (by decide +kernel)) rfl
theorem zw_608 : Cond.selects "RequestGate$Tickets" ({ cls := "RequestGate$Tickets", name := "findOf", desc := "(II)LRequestGate$Ticket;" } : MethodName) ({ cls := "RequestGate$Tickets", name := "findOf", desc := "(II)LRequestGate$Ticket;" } : MethodName) ∈ zz_ws := zz_in (List.mem_of_getElem? (i := 608) (by decide +kernel)) rfl
theorem zw_609 : Cond.code ({ cls := "RequestGate$Tickets", name := "findOf", desc := "(II)LRequestGate$Ticket;" } : MethodName) prog_11_method_3_code (6 : Nat) (Option.some (FieldType.object "RequestGate$Ticket")) ∈ zz_ws := zz_in (List.mem_of_getElem? (i := 609) (by decide +kernel)) rfl
theorem zw_610 : Cond.methodLink "RequestGate$Tickets" (40 : Nat) ({ cls := "RequestGate$Tickets", name := "end", desc := "(I)V" } : MethodName) ∈ zz_ws := zz_in (List.mem_of_getElem? (i := 610) (by decide +kernel)) rfl
theorem zw_611 : Cond.methodLink "RequestGate$Tickets" (44 : Nat) ({ cls := "java/util/ArrayList", name := "add", desc := "(Ljava/lang/Object;)Z" } : MethodName) ∈ zz_ws := zz_in (List.mem_of_getElem? (i := 611) (by decide +kernel)) rfl
theorem zw_612 : Cond.methodLink "RequestGateLaw" (59 : Nat) ({ cls := "RequestGate", name := "logout", desc := "(I)Z" } : MethodName) ∈ zz_ws := zz_in (List.mem_of_getElem? (i := 612) (by decide +kernel)) rfl
theorem zw_613 : Cond.instanceMethod ({ cls := "RequestGate", name := "logout", desc := "(I)Z" } : MethodName) ∈ zz_ws := zz_in (List.mem_of_getElem? (i := 613) (by decide +kernel)) rfl
theorem zw_614 : Cond.selects "RequestGate" ({ cls := "RequestGate", name := "logout", desc := "(I)Z" } : MethodName) ({ cls := "RequestGate", name := "logout", desc := "(I)Z" } : MethodName) ∈ zz_ws := zz_in (List.mem_of_getElem? (i := 614) (by decide +kernel)) rfl
theorem zw_615 : Cond.code ({ cls := "RequestGate", name := "logout", desc := "(I)Z" } : MethodName) prog_1_method_12_code (3 : Nat) (Option.some FieldType.boolean) ∈ zz_ws := zz_in (List.mem_of_getElem? (i := 615) (by decide +kernel)) rfl
theorem zw_616 : Cond.methodLink "RequestGate" (174 : Nat) ({ cls := "RequestGate$Tickets", name := "find", desc := "(I)LRequestGate$Ticket;" } : MethodName) ∈ zz_ws := zz_in (List.mem_of_getElem? (i := 616) (by decide +kernel)) rfl
theorem zw_617 : Cond.instanceMethod ({ cls := "RequestGate$Tickets", name := "find", desc := "(I)LRequestGate$Ticket;" } : MethodName) ∈ zz_ws := zz_in (List.mem_of_getElem? (i := 617) (by decide +kernel)) rfl
theorem zw_618 : Cond.selects "RequestGate$Tickets" ({ cls := "RequestGate$Tickets", name := "find", desc := "(I)LRequestGate$Ticket;" } : MethodName) ({ cls := "RequestGate$Tickets", name := "find", desc := "(I)LRequestGate$Ticket;" } : MethodName) ∈ zz_ws := zz_in (List.mem_of_getElem? (i := 618) (by decide +kernel)) rfl
theorem zw_619 : Cond.code ({ cls := "RequestGate$Tickets", name := "find", desc := "(I)LRequestGate$Ticket;" } : MethodName) prog_11_method_2_code (4 : Nat) (Option.some (FieldType.object "RequestGate$Ticket")) ∈ zz_ws := zz_in (List.mem_of_getElem? (i := 619) (by decide +kernel)) rfl
theorem zw_620 : Cond.methodLink "RequestGate" (183 : Nat) ({ cls := "RequestGate$Tickets", name := "endAllOf", desc := "(I)V" } : MethodName) ∈ zz_ws := zz_in (List.mem_of_getElem? (i := 620) (by decide +kernel)) rfl
theorem zw_621 : Cond.instanceMethod ({ cls := "RequestGate$Tickets", name := "endAllOf", desc := "(I)V" } : MethodName) ∈ zz_ws := zz_in (List.mem_of_getElem? (i := 621) (by decide +kernel)) rfl
theorem zw_622 : Cond.selects "RequestGate$Tickets" ({ cls := "RequestGate$Tickets", name := "endAllOf", desc := "(I)V" } : MethodName) ({ cls := "RequestGate$Tickets", name := "endAllOf", desc := "(I)V" } : MethodName) ∈ zz_ws := zz_in (List.mem_of_getElem? (i := 622) (by decide +kernel)) rfl
theorem zw_623 : Cond.code ({ cls := "RequestGate$Tickets", name := "endAllOf", desc := "(I)V" } : MethodName) prog_11_method_6_code (3 : Nat) (none : Option FieldType) ∈ zz_ws := zz_in (List.mem_of_getElem? (i := 623) (by decide +kernel)) rfl
theorem zw_624 : Cond.methodLink "RequestGateLaw" (63 : Nat) ({ cls := "RequestGate", name := "open", desc := "(IIIII)I" } : MethodName) ∈ zz_ws := zz_in (List.mem_of_getElem? (i := 624) (by decide +kernel)) rfl
theorem zw_625 : Cond.instanceMethod ({ cls := "RequestGate", name := "open", desc := "(IIIII)I" } : MethodName) ∈ zz_ws := zz_in (List.mem_of_getElem? (i := 625) (by decide +kernel)) rfl
theorem zw_626 : Cond.selects "RequestGate" ({ cls := "RequestGate", name := "open", desc := "(IIIII)I" } : MethodName) ({ cls := "RequestGate", name := "open", desc := "(IIIII)I" } : MethodName) ∈ zz_ws := zz_in (List.mem_of_getElem? (i := 626) (by decide +kernel)) rfl
theorem zw_627 : Cond.code ({ cls := "RequestGate", name := "open", desc := "(IIIII)I" } : MethodName) prog_1_method_13_code (10 : Nat) (Option.some FieldType.int) ∈ zz_ws := zz_in (List.mem_of_getElem? (i := 627) (by decide +kernel)) rfl
theorem zw_628 : Cond.methodLink "RequestGate" (190 : Nat) ({ cls := "RequestGate$PlainPath", name := "read", desc := "(LRequestGate$Text;)Z" } : MethodName) ∈ zz_ws := zz_in (List.mem_of_getElem? (i := 628) (by decide +kernel)) rfl
theorem zw_629 : Cond.instanceMethod ({ cls := "RequestGate$PlainPath", name := "read", desc := "(LRequestGate$Text;)Z" } : MethodName) ∈ zz_ws := zz_in (List.mem_of_getElem? (i := 629) (by decide +kernel)) rfl
theorem zw_630 : Cond.selects "RequestGate$PlainPath" ({ cls := "RequestGate$PlainPath", name := "read", desc := "(LRequestGate$Text;)Z" } : MethodName) ({ cls := "RequestGate$PlainPath", name := "read", desc := "(LRequestGate$Text;)Z" } : MethodName) ∈ zz_ws := zz_in (List.mem_of_getElem? (i := 630) (by decide +kernel)) rfl
theorem zw_631 : Cond.code ({ cls := "RequestGate$PlainPath", name := "read", desc := "(LRequestGate$Text;)Z" } : MethodName) prog_5_method_2_code (5 : Nat) (Option.some FieldType.boolean) ∈ zz_ws := zz_in (List.mem_of_getElem? (i := 631) (by decide +kernel)) rfl
theorem zw_632 : Cond.methodLink "RequestGate$PlainPath" (18 : Nat) ({ cls := "RequestGate$Pieces", name := "empty", desc := "()V" } : MethodName) ∈ zz_ws := zz_in (List.mem_of_getElem? (i := 632) (by decide +kernel)) rfl
theorem zw_633 : Cond.instanceMethod ({ cls := "RequestGate$Pieces", name := "empty", desc := "()V" } : MethodName) ∈ zz_ws := zz_in (List.mem_of_getElem? (i := 633) (by decide +kernel)) rfl
theorem zw_634 : Cond.selects "RequestGate$Pieces" ({ cls := "RequestGate$Pieces", name := "empty", desc := "()V" } : MethodName) ({ cls := "RequestGate$Pieces", name := "empty", desc := "()V" } : MethodName) ∈ zz_ws := zz_in (List.mem_of_getElem? (i := 634) (by decide +kernel)) rfl
theorem zw_635 : Cond.code ({ cls := "RequestGate$Pieces", name := "empty", desc := "()V" } : MethodName) prog_4_method_2_code (1 : Nat) (none : Option FieldType) ∈ zz_ws := zz_in (List.mem_of_getElem? (i := 635) (by decide +kernel)) rfl
theorem zw_636 : Cond.methodLink "RequestGate$PlainPath" (21 : Nat) ({ cls := "RequestGate$Text", name := "at", desc := "(I)C" } : MethodName) ∈ zz_ws := zz_in (List.mem_of_getElem? (i := 636) (by decide +kernel)) rfl
theorem zw_637 : Cond.methodLink "RequestGate$PlainPath" (27 : Nat) ({ cls := "RequestGate$Text", name := "holds", desc := "(C)Z" } : MethodName) ∈ zz_ws := zz_in (List.mem_of_getElem? (i := 637) (by decide +kernel)) rfl
theorem zw_638 : Cond.methodLink "RequestGate$PlainPath" (35 : Nat) ({ cls := "RequestGate$Text", name := "endsPieceAt", desc := "(I)Z" } : MethodName) ∈ zz_ws := zz_in (List.mem_of_getElem? (i := 638) (by decide +kernel)) rfl
theorem zw_639 : Cond.methodLink "RequestGate$PlainPath" (39 : Nat) ({ cls := "RequestGate$Text", name := "find", desc := "(CII)I" } : MethodName) ∈ zz_ws := zz_in (List.mem_of_getElem? (i := 639) (by decide +kernel)) rfl
theorem zw_640 : Cond.methodLink "RequestGate$PlainPath" (43 : Nat) ({ cls := "RequestGate$PlainPath", name := "decode", desc := "(LRequestGate$Text;II)Z" } : MethodName) ∈ zz_ws := zz_in (List.mem_of_getElem? (i := 640) (by decide +kernel)) rfl
theorem zw_642 : Cond.instanceMethod ({ cls := "RequestGate$PlainPath", name := "decode", desc := "(LRequestGate$Text;II)Z" } : MethodName) ∈ zz_ws := zz_in (List.mem_of_getElem? (i := 642) (by decide +kernel)) rfl
theorem zw_643 : Cond.code ({ cls := "RequestGate$PlainPath", name := "decode", desc := "(LRequestGate$Text;II)Z" } : MethodName) prog_5_method_3_code (6 : Nat) (Option.some FieldType.boolean) ∈ zz_ws := zz_in (List.mem_of_getElem? (i := 643) (by decide +kernel)) rfl
theorem zw_644 : Cond.methodLink "RequestGate$PlainPath" (51 : Nat) ({ cls := "RequestGate$PlainPath", name := "codeOf", desc := "(CC)I" } : MethodName) ∈ zz_ws := zz_in (List.mem_of_getElem? (i := 644) (by decide +kernel)) rfl
theorem zw_645 : Cond.static ({ cls := "RequestGate$PlainPath", name := "codeOf", desc := "(CC)I" } : MethodName) ∈ zz_ws := zz_in (List.mem_of_getElem? (i := 645) (by decide +kernel)) rfl
theorem zw_646 : Cond.code ({ cls := "RequestGate$PlainPath", name := "codeOf", desc := "(CC)I" } : MethodName) prog_5_method_4_code (6 : Nat) (Option.some FieldType.int) ∈ zz_ws := zz_in (List.mem_of_getElem? (i := 646) (by decide +kernel)) rfl
theorem zw_647 : Cond.methodLink "RequestGate$PlainPath" (59 : Nat) ({ cls := "RequestGate$PlainPath", name := "digitOf", desc := "(C)I" } : MethodName) ∈ zz_ws := zz_in (List.mem_of_getElem? (i := 647) (by decide +kernel)) rfl
theorem zw_648 : Cond.static ({ cls := "RequestGate$PlainPath", name := "digitOf", desc := "(C)I" } : MethodName) ∈ zz_ws := zz_in (List.mem_of_getElem? (i := 648) (by decide +kernel)) rfl
theorem zw_649 : Cond.code ({ cls := "RequestGate$PlainPath", name := "digitOf", desc := "(C)I" } : MethodName) prog_5_method_5_code (1 : Nat) (Option.some FieldType.int) ∈ zz_ws := zz_in (List.mem_of_getElem? (i := 649) (by decide +kernel)) rfl
theorem zw_650 : Cond.methodLink "RequestGate$PlainPath" (63 : Nat) ({ cls := "RequestGate$Text", name := "isCode", desc := "(I)Z" } : MethodName) ∈ zz_ws := zz_in (List.mem_of_getElem? (i := 650) (by decide +kernel)) rfl
theorem zw_651 : Cond.methodLink "RequestGate$PlainPath" (55 : Nat) ({ cls := "RequestGate$Pieces", name := "write", desc := "(I)V" } : MethodName) ∈ zz_ws := zz_in (List.mem_of_getElem? (i := 651) (by decide +kernel)) rfl
theorem zw_652 : Cond.methodLink "RequestGate$PlainPath" (47 : Nat) ({ cls := "RequestGate$PlainPath", name := "place", desc := "(Z)Z" } : MethodName) ∈ zz_ws := zz_in (List.mem_of_getElem? (i := 652) (by decide +kernel)) rfl
theorem zw_654 : Cond.instanceMethod ({ cls := "RequestGate$PlainPath", name := "place", desc := "(Z)Z" } : MethodName) ∈ zz_ws := zz_in (List.mem_of_getElem? (i := 654) (by decide +kernel)) rfl
theorem zw_655 : Cond.code ({ cls := "RequestGate$PlainPath", name := "place", desc := "(Z)Z" } : MethodName) prog_5_method_6_code (3 : Nat) (Option.some FieldType.boolean) ∈ zz_ws := zz_in (List.mem_of_getElem? (i := 655) (by decide +kernel)) rfl
theorem zw_656 : Cond.methodLink "RequestGate$PlainPath" (66 : Nat) ({ cls := "RequestGate$Pieces", name := "writtenLength", desc := "()I" } : MethodName) ∈ zz_ws := zz_in (List.mem_of_getElem? (i := 656) (by decide +kernel)) rfl
theorem zw_657 : Cond.instanceMethod ({ cls := "RequestGate$Pieces", name := "writtenLength", desc := "()I" } : MethodName) ∈ zz_ws := zz_in (List.mem_of_getElem? (i := 657) (by decide +kernel)) rfl
theorem zw_658 : Cond.selects "RequestGate$Pieces" ({ cls := "RequestGate$Pieces", name := "writtenLength", desc := "()I" } : MethodName) ({ cls := "RequestGate$Pieces", name := "writtenLength", desc := "()I" } : MethodName) ∈ zz_ws := zz_in (List.mem_of_getElem? (i := 658) (by decide +kernel)) rfl
theorem zw_659 : Cond.code ({ cls := "RequestGate$Pieces", name := "writtenLength", desc := "()I" } : MethodName) prog_4_method_4_code (1 : Nat) (Option.some FieldType.int) ∈ zz_ws := zz_in (List.mem_of_getElem? (i := 659) (by decide +kernel)) rfl
theorem zw_660 : Cond.methodLink "RequestGate$PlainPath" (70 : Nat) ({ cls := "RequestGate$Pieces", name := "wroteDots", desc := "(I)Z" } : MethodName) ∈ zz_ws := zz_in (List.mem_of_getElem? (i := 660) (by decide +kernel)) rfl
theorem zw_661 : Cond.instanceMethod ({ cls := "RequestGate$Pieces", name := "wroteDots", desc := "(I)Z" } : MethodName) ∈ zz_ws := zz_in (List.mem_of_getElem? (i := 661) (by decide +kernel)) rfl
theorem zw_662 : Cond.selects "RequestGate$Pieces" ({ cls := "RequestGate$Pieces", name := "wroteDots", desc := "(I)Z" } : MethodName) ({ cls := "RequestGate$Pieces", name := "wroteDots", desc := "(I)Z" } : MethodName) ∈ zz_ws := zz_in (List.mem_of_getElem? (i := 662) (by decide +kernel)) rfl
theorem zw_663 : Cond.code ({ cls := "RequestGate$Pieces", name := "wroteDots", desc := "(I)Z" } : MethodName) prog_4_method_5_code (3 : Nat) (Option.some FieldType.boolean) ∈ zz_ws := zz_in (List.mem_of_getElem? (i := 663) (by decide +kernel)) rfl
theorem zw_664 : Cond.methodLink "RequestGate$Pieces" (32 : Nat) ({ cls := "RequestGate$Pieces", name := "writtenLength", desc := "()I" } : MethodName) ∈ zz_ws := zz_in (List.mem_of_getElem? (i := 664) (by decide +kernel)) rfl
theorem zw_665 : Cond.methodLink "RequestGate$PlainPath" (73 : Nat) ({ cls := "RequestGate$Pieces", name := "dropWritten", desc := "()V" } : MethodName) ∈ zz_ws := zz_in (List.mem_of_getElem? (i := 665) (by decide +kernel)) rfl
theorem zw_666 : Cond.instanceMethod ({ cls := "RequestGate$Pieces", name := "dropWritten", desc := "()V" } : MethodName) ∈ zz_ws := zz_in (List.mem_of_getElem? (i := 666) (by decide +kernel)) rfl
theorem zw_667 : Cond.selects "RequestGate$Pieces" ({ cls := "RequestGate$Pieces", name := "dropWritten", desc := "()V" } : MethodName) ({ cls := "RequestGate$Pieces", name := "dropWritten", desc := "()V" } : MethodName) ∈ zz_ws := zz_in (List.mem_of_getElem? (i := 667) (by decide +kernel)) rfl
theorem zw_668 : Cond.code ({ cls := "RequestGate$Pieces", name := "dropWritten", desc := "()V" } : MethodName) prog_4_method_7_code (1 : Nat) (none : Option FieldType) ∈ zz_ws := zz_in (List.mem_of_getElem? (i := 668) (by decide +kernel)) rfl
theorem zw_669 : Cond.methodLink "RequestGate$PlainPath" (79 : Nat) ({ cls := "RequestGate$Pieces", name := "dropLastKept", desc := "()V" } : MethodName) ∈ zz_ws := zz_in (List.mem_of_getElem? (i := 669) (by decide +kernel)) rfl
theorem zw_670 : Cond.instanceMethod ({ cls := "RequestGate$Pieces", name := "dropLastKept", desc := "()V" } : MethodName) ∈ zz_ws := zz_in (List.mem_of_getElem? (i := 670) (by decide +kernel)) rfl
theorem zw_671 : Cond.selects "RequestGate$Pieces" ({ cls := "RequestGate$Pieces", name := "dropLastKept", desc := "()V" } : MethodName) ({ cls := "RequestGate$Pieces", name := "dropLastKept", desc := "()V" } : MethodName) ∈ zz_ws := zz_in (List.mem_of_getElem? (i := 671) (by decide +kernel)) rfl
theorem zw_672 : Cond.code ({ cls := "RequestGate$Pieces", name := "dropLastKept", desc := "()V" } : MethodName) prog_4_method_8_code (1 : Nat) (none : Option FieldType) ∈ zz_ws := zz_in (List.mem_of_getElem? (i := 672) (by decide +kernel)) rfl
theorem zw_673 : Cond.methodLink "RequestGate$PlainPath" (82 : Nat) ({ cls := "RequestGate$Pieces", name := "keepWritten", desc := "()V" } : MethodName) ∈ zz_ws := zz_in (List.mem_of_getElem? (i := 673) (by decide +kernel)) rfl
theorem zw_674 : Cond.methodLink "RequestGate" (193 : Nat) ({ cls := "RequestGate", name := "subjectOf", desc := "(LRequestGate$Ticket;)I" } : MethodName) ∈ zz_ws := zz_in (List.mem_of_getElem? (i := 674) (by decide +kernel)) rfl
theorem zw_676 : Cond.instanceMethod ({ cls := "RequestGate", name := "subjectOf", desc := "(LRequestGate$Ticket;)I" } : MethodName) ∈ zz_ws := zz_in (List.mem_of_getElem? (i := 676) (by decide +kernel)) rfl
theorem zw_677 : Cond.code ({ cls := "RequestGate", name := "subjectOf", desc := "(LRequestGate$Ticket;)I" } : MethodName) prog_1_method_29_code (2 : Nat) (Option.some FieldType.int) ∈ zz_ws := zz_in (List.mem_of_getElem? (i := 677) (by decide +kernel)) rfl
theorem zw_678 : Cond.methodLink "RequestGate" (197 : Nat) ({ cls := "RequestGate", name := "subjectBySeries", desc := "(II)I" } : MethodName) ∈ zz_ws := zz_in (List.mem_of_getElem? (i := 678) (by decide +kernel)) rfl
theorem zw_680 : Cond.instanceMethod ({ cls := "RequestGate", name := "subjectBySeries", desc := "(II)I" } : MethodName) ∈ zz_ws := zz_in (List.mem_of_getElem? (i := 680) (by decide +kernel)) rfl
theorem zw_681 : Cond.code ({ cls := "RequestGate", name := "subjectBySeries", desc := "(II)I" } : MethodName) prog_1_method_30_code (4 : Nat) (Option.some FieldType.int) ∈ zz_ws := zz_in (List.mem_of_getElem? (i := 681) (by decide +kernel)) rfl
theorem zw_682 : Cond.methodLink "RequestGate" (204 : Nat) ({ cls := "RequestGate", name := "decide", desc := "(II)I" } : MethodName) ∈ zz_ws := zz_in (List.mem_of_getElem? (i := 682) (by decide +kernel)) rfl
theorem zw_684 : Cond.instanceMethod ({ cls := "RequestGate", name := "decide", desc := "(II)I" } : MethodName) ∈ zz_ws := zz_in (List.mem_of_getElem? (i := 684) (by decide +kernel)) rfl
theorem zw_685 : Cond.code ({ cls := "RequestGate", name := "decide", desc := "(II)I" } : MethodName) prog_1_method_31_code (4 : Nat) (Option.some FieldType.int) ∈ zz_ws := zz_in (List.mem_of_getElem? (i := 685) (by decide +kernel)) rfl
theorem zw_686 : Cond.methodLink "RequestGate" (268 : Nat) ({ cls := "RequestGate", name := "firstRuleThatFits", desc := "(I)I" } : MethodName) ∈ zz_ws := zz_in (List.mem_of_getElem? (i := 686) (by decide +kernel)) rfl
theorem zw_688 : Cond.instanceMethod ({ cls := "RequestGate", name := "firstRuleThatFits", desc := "(I)I" } : MethodName) ∈ zz_ws := zz_in (List.mem_of_getElem? (i := 688) (by decide +kernel)) rfl
theorem zw_689 : Cond.code ({ cls := "RequestGate", name := "firstRuleThatFits", desc := "(I)I" } : MethodName) prog_1_method_32_code (4 : Nat) (Option.some FieldType.int) ∈ zz_ws := zz_in (List.mem_of_getElem? (i := 689) (by decide +kernel)) rfl
theorem zw_690 : Cond.methodLink "RequestGate" (279 : Nat) ({ cls := "RequestGate$Rule", name := "isFor", desc := "(I)Z" } : MethodName) ∈ zz_ws := zz_in (List.mem_of_getElem? (i := 690) (by decide +kernel)) rfl
theorem zw_691 : Cond.instanceMethod ({ cls := "RequestGate$Rule", name := "isFor", desc := "(I)Z" } : MethodName) ∈ zz_ws := zz_in (List.mem_of_getElem? (i := 691) (by decide +kernel)) rfl
theorem zw_692 : Cond.selects "RequestGate$Rule" ({ cls := "RequestGate$Rule", name := "isFor", desc := "(I)Z" } : MethodName) ({ cls := "RequestGate$Rule", name := "isFor", desc := "(I)Z" } : MethodName) ∈ zz_ws := zz_in (List.mem_of_getElem? (i := 692) (by decide +kernel)) rfl
theorem zw_693 : Cond.code ({ cls := "RequestGate$Rule", name := "isFor", desc := "(I)Z" } : MethodName) prog_7_method_2_code (2 : Nat) (Option.some FieldType.boolean) ∈ zz_ws := zz_in (List.mem_of_getElem? (i := 693) (by decide +kernel)) rfl
theorem zw_694 : Cond.methodLink "RequestGate" (233 : Nat) ({ cls := "RequestGate$Layer", name := "canLay", desc := "(LRequestGate$Pieces;LRequestGate$Pieces;)Z" } : MethodName) ∈ zz_ws := zz_in (List.mem_of_getElem? (i := 694) (by decide +kernel)) rfl
theorem zw_695 : Cond.instanceMethod ({ cls := "RequestGate$Layer", name := "canLay", desc := "(LRequestGate$Pieces;LRequestGate$Pieces;)Z" } : MethodName) ∈ zz_ws := zz_in (List.mem_of_getElem? (i := 695) (by decide +kernel)) rfl
theorem zw_696 : Cond.selects "RequestGate$Layer" ({ cls := "RequestGate$Layer", name := "canLay", desc := "(LRequestGate$Pieces;LRequestGate$Pieces;)Z" } : MethodName) ({ cls := "RequestGate$Layer", name := "canLay", desc := "(LRequestGate$Pieces;LRequestGate$Pieces;)Z" } : MethodName) ∈ zz_ws := zz_in (List.mem_of_getElem? (i := 696) (by decide +kernel)) rfl
theorem zw_697 : Cond.code ({ cls := "RequestGate$Layer", name := "canLay", desc := "(LRequestGate$Pieces;LRequestGate$Pieces;)Z" } : MethodName) prog_3_method_2_code (4 : Nat) (Option.some FieldType.boolean) ∈ zz_ws := zz_in (List.mem_of_getElem? (i := 697) (by decide +kernel)) rfl
theorem zw_698 : Cond.methodLink "RequestGate$Layer" (18 : Nat) ({ cls := "RequestGate$Layer", name := "begin", desc := "([Z)V" } : MethodName) ∈ zz_ws := zz_in (List.mem_of_getElem? (i := 698) (by decide +kernel)) rfl
theorem zw_699 : Cond.static ({ cls := "RequestGate$Layer", name := "begin", desc := "([Z)V" } : MethodName) ∈ zz_ws := zz_in (List.mem_of_getElem? (i := 699) (by decide +kernel)) rfl
theorem zw_700 : Cond.code ({ cls := "RequestGate$Layer", name := "begin", desc := "([Z)V" } : MethodName) prog_3_method_5_code (2 : Nat) (none : Option FieldType) ∈ zz_ws := zz_in (List.mem_of_getElem? (i := 700) (by decide +kernel)) rfl
theorem zw_701 : Cond.methodLink "RequestGate$Layer" (28 : Nat) ({ cls := "RequestGate$Pieces", name := "isTwoStars", desc := "(I)Z" } : MethodName) ∈ zz_ws := zz_in (List.mem_of_getElem? (i := 701) (by decide +kernel)) rfl
theorem zw_702 : Cond.instanceMethod ({ cls := "RequestGate$Pieces", name := "isTwoStars", desc := "(I)Z" } : MethodName) ∈ zz_ws := zz_in (List.mem_of_getElem? (i := 702) (by decide +kernel)) rfl
theorem zw_703 : Cond.selects "RequestGate$Pieces" ({ cls := "RequestGate$Pieces", name := "isTwoStars", desc := "(I)Z" } : MethodName) ({ cls := "RequestGate$Pieces", name := "isTwoStars", desc := "(I)Z" } : MethodName) ∈ zz_ws := zz_in (List.mem_of_getElem? (i := 703) (by decide +kernel)) rfl
theorem zw_704 : Cond.code ({ cls := "RequestGate$Pieces", name := "isTwoStars", desc := "(I)Z" } : MethodName) prog_4_method_11_code (2 : Nat) (Option.some FieldType.boolean) ∈ zz_ws := zz_in (List.mem_of_getElem? (i := 704) (by decide +kernel)) rfl
theorem zw_705 : Cond.methodLink "RequestGate$Pieces" (36 : Nat) ({ cls := "RequestGate$Pieces", name := "lengthOf", desc := "(I)I" } : MethodName) ∈ zz_ws := zz_in (List.mem_of_getElem? (i := 705) (by decide +kernel)) rfl
theorem zw_706 : Cond.instanceMethod ({ cls := "RequestGate$Pieces", name := "lengthOf", desc := "(I)I" } : MethodName) ∈ zz_ws := zz_in (List.mem_of_getElem? (i := 706) (by decide +kernel)) rfl
theorem zw_707 : Cond.selects "RequestGate$Pieces" ({ cls := "RequestGate$Pieces", name := "lengthOf", desc := "(I)I" } : MethodName) ({ cls := "RequestGate$Pieces", name := "lengthOf", desc := "(I)I" } : MethodName) ∈ zz_ws := zz_in (List.mem_of_getElem? (i := 707) (by decide +kernel)) rfl
theorem zw_708 : Cond.code ({ cls := "RequestGate$Pieces", name := "lengthOf", desc := "(I)I" } : MethodName) prog_4_method_9_code (2 : Nat) (Option.some FieldType.int) ∈ zz_ws := zz_in (List.mem_of_getElem? (i := 708) (by decide +kernel)) rfl
theorem zw_709 : Cond.methodLink "RequestGate$Pieces" (40 : Nat) ({ cls := "RequestGate$Pieces", name := "at", desc := "(II)C" } : MethodName) ∈ zz_ws := zz_in (List.mem_of_getElem? (i := 709) (by decide +kernel)) rfl
theorem zw_710 : Cond.instanceMethod ({ cls := "RequestGate$Pieces", name := "at", desc := "(II)C" } : MethodName) ∈ zz_ws := zz_in (List.mem_of_getElem? (i := 710) (by decide +kernel)) rfl
theorem zw_711 : Cond.selects "RequestGate$Pieces" ({ cls := "RequestGate$Pieces", name := "at", desc := "(II)C" } : MethodName) ({ cls := "RequestGate$Pieces", name := "at", desc := "(II)C" } : MethodName) ∈ zz_ws := zz_in (List.mem_of_getElem? (i := 711) (by decide +kernel)) rfl
theorem zw_712 : Cond.code ({ cls := "RequestGate$Pieces", name := "at", desc := "(II)C" } : MethodName) prog_4_method_10_code (3 : Nat) (Option.some FieldType.char) ∈ zz_ws := zz_in (List.mem_of_getElem? (i := 712) (by decide +kernel)) rfl
theorem zw_713 : Cond.methodLink "RequestGate$Layer" (32 : Nat) ({ cls := "RequestGate$Layer", name := "spread", desc := "([Z)V" } : MethodName) ∈ zz_ws := zz_in (List.mem_of_getElem? (i := 713) (by decide +kernel)) rfl
theorem zw_714 : Cond.static ({ cls := "RequestGate$Layer", name := "spread", desc := "([Z)V" } : MethodName) ∈ zz_ws := zz_in (List.mem_of_getElem? (i := 714) (by decide +kernel)) rfl
theorem zw_715 : Cond.code ({ cls := "RequestGate$Layer", name := "spread", desc := "([Z)V" } : MethodName) prog_3_method_6_code (2 : Nat) (none : Option FieldType) ∈ zz_ws := zz_in (List.mem_of_getElem? (i := 715) (by decide +kernel)) rfl
theorem zw_716 : Cond.methodLink "RequestGate$Layer" (35 : Nat) ({ cls := "RequestGate$Layer", name := "layOnOne", desc := "(LRequestGate$Pieces;ILRequestGate$Pieces;)V" } : MethodName) ∈ zz_ws := zz_in (List.mem_of_getElem? (i := 716) (by decide +kernel)) rfl
theorem zw_718 : Cond.instanceMethod ({ cls := "RequestGate$Layer", name := "layOnOne", desc := "(LRequestGate$Pieces;ILRequestGate$Pieces;)V" } : MethodName) ∈ zz_ws := zz_in (List.mem_of_getElem? (i := 718) (by decide +kernel)) rfl
theorem zw_719 : Cond.code ({ cls := "RequestGate$Layer", name := "layOnOne", desc := "(LRequestGate$Pieces;ILRequestGate$Pieces;)V" } : MethodName) prog_3_method_3_code (5 : Nat) (none : Option FieldType) ∈ zz_ws := zz_in (List.mem_of_getElem? (i := 719) (by decide +kernel)) rfl
theorem zw_720 : Cond.methodLink "RequestGate$Layer" (39 : Nat) ({ cls := "RequestGate$Layer", name := "covers", desc := "(LRequestGate$Pieces;ILRequestGate$Pieces;I)Z" } : MethodName) ∈ zz_ws := zz_in (List.mem_of_getElem? (i := 720) (by decide +kernel)) rfl
theorem zw_722 : Cond.instanceMethod ({ cls := "RequestGate$Layer", name := "covers", desc := "(LRequestGate$Pieces;ILRequestGate$Pieces;I)Z" } : MethodName) ∈ zz_ws := zz_in (List.mem_of_getElem? (i := 722) (by decide +kernel)) rfl
theorem zw_723 : Cond.code ({ cls := "RequestGate$Layer", name := "covers", desc := "(LRequestGate$Pieces;ILRequestGate$Pieces;I)Z" } : MethodName) prog_3_method_4_code (9 : Nat) (Option.some FieldType.boolean) ∈ zz_ws := zz_in (List.mem_of_getElem? (i := 723) (by decide +kernel)) rfl
theorem zw_724 : Cond.methodLink "RequestGate$Layer" (43 : Nat) ({ cls := "RequestGate$Pieces", name := "lengthOf", desc := "(I)I" } : MethodName) ∈ zz_ws := zz_in (List.mem_of_getElem? (i := 724) (by decide +kernel)) rfl
theorem zw_725 : Cond.methodLink "RequestGate$Layer" (47 : Nat) ({ cls := "RequestGate$Pieces", name := "at", desc := "(II)C" } : MethodName) ∈ zz_ws := zz_in (List.mem_of_getElem? (i := 725) (by decide +kernel)) rfl
theorem zw_726 : Cond.methodLink "RequestGate" (216 : Nat) ({ cls := "RequestGate", name := "isTrue", desc := "(III)Z" } : MethodName) ∈ zz_ws := zz_in (List.mem_of_getElem? (i := 726) (by decide +kernel)) rfl
theorem zw_728 : Cond.instanceMethod ({ cls := "RequestGate", name := "isTrue", desc := "(III)Z" } : MethodName) ∈ zz_ws := zz_in (List.mem_of_getElem? (i := 728) (by decide +kernel)) rfl
theorem zw_729 : Cond.code ({ cls := "RequestGate", name := "isTrue", desc := "(III)Z" } : MethodName) prog_1_method_33_code (6 : Nat) (Option.some FieldType.boolean) ∈ zz_ws := zz_in (List.mem_of_getElem? (i := 729) (by decide +kernel)) rfl
theorem zw_730 : Cond.methodLink "RequestGate" (285 : Nat) ({ cls := "RequestGate$Roles", name := "includedIn", desc := "(I)I" } : MethodName) ∈ zz_ws := zz_in (List.mem_of_getElem? (i := 730) (by decide +kernel)) rfl
theorem zw_731 : Cond.instanceMethod ({ cls := "RequestGate$Roles", name := "includedIn", desc := "(I)I" } : MethodName) ∈ zz_ws := zz_in (List.mem_of_getElem? (i := 731) (by decide +kernel)) rfl
theorem zw_732 : Cond.selects "RequestGate$Roles" ({ cls := "RequestGate$Roles", name := "includedIn", desc := "(I)I" } : MethodName) ({ cls := "RequestGate$Roles", name := "includedIn", desc := "(I)I" } : MethodName) ∈ zz_ws := zz_in (List.mem_of_getElem? (i := 732) (by decide +kernel)) rfl
theorem zw_733 : Cond.code ({ cls := "RequestGate$Roles", name := "includedIn", desc := "(I)I" } : MethodName) prog_6_method_5_code (4 : Nat) (Option.some FieldType.int) ∈ zz_ws := zz_in (List.mem_of_getElem? (i := 733) (by decide +kernel)) rfl
theorem zw_734 : Cond.methodLink "RequestGate" (288 : Nat) ({ cls := "RequestGate$Conditions", name := "isTrueFor", desc := "(IIII)Z" } : MethodName) ∈ zz_ws := zz_in (List.mem_of_getElem? (i := 734) (by decide +kernel)) rfl
theorem zw_735 : Cond.instanceMethod ({ cls := "RequestGate$Conditions", name := "isTrueFor", desc := "(IIII)Z" } : MethodName) ∈ zz_ws := zz_in (List.mem_of_getElem? (i := 735) (by decide +kernel)) rfl
theorem zw_736 : Cond.selects "RequestGate$Conditions" ({ cls := "RequestGate$Conditions", name := "isTrueFor", desc := "(IIII)Z" } : MethodName) ({ cls := "RequestGate$Conditions", name := "isTrueFor", desc := "(IIII)Z" } : MethodName) ∈ zz_ws := zz_in (List.mem_of_getElem? (i := 736) (by decide +kernel)) rfl
theorem zw_737 : Cond.code ({ cls := "RequestGate$Conditions", name := "isTrueFor", desc := "(IIII)Z" } : MethodName) prog_2_method_5_code (7 : Nat) (Option.some FieldType.boolean) ∈ zz_ws := zz_in (List.mem_of_getElem? (i := 737) (by decide +kernel)) rfl
theorem zw_738 : Cond.methodLink "RequestGate$Conditions" (41 : Nat) ({ cls := "RequestGate$Conditions", name := "jointValue", desc := "(I)I" } : MethodName) ∈ zz_ws := zz_in (List.mem_of_getElem? (i := 738) (by decide +kernel)) rfl
theorem zw_740 : Cond.instanceMethod ({ cls := "RequestGate$Conditions", name := "jointValue", desc := "(I)I" } : MethodName) ∈ zz_ws := zz_in (List.mem_of_getElem? (i := 740) (by decide +kernel)) rfl
theorem zw_741 : Cond.code ({ cls := "RequestGate$Conditions", name := "jointValue", desc := "(I)I" } : MethodName) prog_2_method_6_code (4 : Nat) (Option.some FieldType.int) ∈ zz_ws := zz_in (List.mem_of_getElem? (i := 741) (by decide +kernel)) rfl
theorem zw_742 : Cond.methodLink "RequestGate$Conditions" (49 : Nat) ({ cls := "RequestGate$Conditions", name := "truth", desc := "(Z)I" } : MethodName) ∈ zz_ws := zz_in (List.mem_of_getElem? (i := 742) (by decide +kernel)) rfl
theorem zw_743 : Cond.static ({ cls := "RequestGate$Conditions", name := "truth", desc := "(Z)I" } : MethodName) ∈ zz_ws := zz_in (List.mem_of_getElem? (i := 743) (by decide +kernel)) rfl
theorem zw_744 : Cond.code ({ cls := "RequestGate$Conditions", name := "truth", desc := "(Z)I" } : MethodName) prog_2_method_8_code (1 : Nat) (Option.some FieldType.int) ∈ zz_ws := zz_in (List.mem_of_getElem? (i := 744) (by decide +kernel)) rfl
theorem zw_745 : Cond.methodLink "RequestGate$Conditions" (45 : Nat) ({ cls := "RequestGate$Conditions", name := "singleValue", desc := "(IIII)I" } : MethodName) ∈ zz_ws := zz_in (List.mem_of_getElem? (i := 745) (by decide +kernel)) rfl
theorem zw_747 : Cond.instanceMethod ({ cls := "RequestGate$Conditions", name := "singleValue", desc := "(IIII)I" } : MethodName) ∈ zz_ws := zz_in (List.mem_of_getElem? (i := 747) (by decide +kernel)) rfl
theorem zw_748 : Cond.code ({ cls := "RequestGate$Conditions", name := "singleValue", desc := "(IIII)I" } : MethodName) prog_2_method_7_code (7 : Nat) (Option.some FieldType.int) ∈ zz_ws := zz_in (List.mem_of_getElem? (i := 748) (by decide +kernel)) rfl
theorem zw_749 : Cond.methodLink "RequestGate$Conditions" (53 : Nat) ({ cls := "RequestGate$Roles", name := "contains", desc := "(II)Z" } : MethodName) ∈ zz_ws := zz_in (List.mem_of_getElem? (i := 749) (by decide +kernel)) rfl
theorem zw_750 : Cond.methodLink "RequestGateLaw" (68 : Nat) ({ cls := "RequestGate", name := "call", desc := "(III)I" } : MethodName) ∈ zz_ws := zz_in (List.mem_of_getElem? (i := 750) (by decide +kernel)) rfl
theorem zw_751 : Cond.instanceMethod ({ cls := "RequestGate", name := "call", desc := "(III)I" } : MethodName) ∈ zz_ws := zz_in (List.mem_of_getElem? (i := 751) (by decide +kernel)) rfl
theorem zw_752 : Cond.selects "RequestGate" ({ cls := "RequestGate", name := "call", desc := "(III)I" } : MethodName) ({ cls := "RequestGate", name := "call", desc := "(III)I" } : MethodName) ∈ zz_ws := zz_in (List.mem_of_getElem? (i := 752) (by decide +kernel)) rfl
theorem zw_753 : Cond.code ({ cls := "RequestGate", name := "call", desc := "(III)I" } : MethodName) prog_1_method_14_code (6 : Nat) (Option.some FieldType.int) ∈ zz_ws := zz_in (List.mem_of_getElem? (i := 753) (by decide +kernel)) rfl
theorem zw_754 : Cond.methodLink "RequestGate" (207 : Nat) ({ cls := "RequestGate", name := "typeThatDeclares", desc := "(II)I" } : MethodName) ∈ zz_ws := zz_in (List.mem_of_getElem? (i := 754) (by decide +kernel)) rfl
theorem zw_756 : Cond.instanceMethod ({ cls := "RequestGate", name := "typeThatDeclares", desc := "(II)I" } : MethodName) ∈ zz_ws := zz_in (List.mem_of_getElem? (i := 756) (by decide +kernel)) rfl
theorem zw_757 : Cond.code ({ cls := "RequestGate", name := "typeThatDeclares", desc := "(II)I" } : MethodName) prog_1_method_34_code (6 : Nat) (Option.some FieldType.int) ∈ zz_ws := zz_in (List.mem_of_getElem? (i := 757) (by decide +kernel)) rfl
theorem zw_758 : Cond.methodLink "RequestGate" (292 : Nat) ({ cls := "RequestGate$Service", name := "declares", desc := "(I)Z" } : MethodName) ∈ zz_ws := zz_in (List.mem_of_getElem? (i := 758) (by decide +kernel)) rfl
theorem zw_759 : Cond.instanceMethod ({ cls := "RequestGate$Service", name := "declares", desc := "(I)Z" } : MethodName) ∈ zz_ws := zz_in (List.mem_of_getElem? (i := 759) (by decide +kernel)) rfl
theorem zw_760 : Cond.selects "RequestGate$Service" ({ cls := "RequestGate$Service", name := "declares", desc := "(I)Z" } : MethodName) ({ cls := "RequestGate$Service", name := "declares", desc := "(I)Z" } : MethodName) ∈ zz_ws := zz_in (List.mem_of_getElem? (i := 760) (by decide +kernel)) rfl
theorem zw_761 : Cond.code ({ cls := "RequestGate$Service", name := "declares", desc := "(I)Z" } : MethodName) prog_8_method_2_code (2 : Nat) (Option.some FieldType.boolean) ∈ zz_ws := zz_in (List.mem_of_getElem? (i := 761) (by decide +kernel)) rfl
theorem zw_762 : Cond.methodLink "RequestGate" (210 : Nat) ({ cls := "RequestGate", name := "conditionAt", desc := "(II)I" } : MethodName) ∈ zz_ws := zz_in (List.mem_of_getElem? (i := 762) (by decide +kernel)) rfl
theorem zw_764 : Cond.instanceMethod ({ cls := "RequestGate", name := "conditionAt", desc := "(II)I" } : MethodName) ∈ zz_ws := zz_in (List.mem_of_getElem? (i := 764) (by decide +kernel)) rfl
theorem zw_765 : Cond.code ({ cls := "RequestGate", name := "conditionAt", desc := "(II)I" } : MethodName) prog_1_method_36_code (3 : Nat) (Option.some FieldType.int) ∈ zz_ws := zz_in (List.mem_of_getElem? (i := 765) (by decide +kernel)) rfl
theorem zw_766 : Cond.methodLink "RequestGate" (301 : Nat) ({ cls := "RequestGate$Service", name := "conditionOf", desc := "(I)I" } : MethodName) ∈ zz_ws := zz_in (List.mem_of_getElem? (i := 766) (by decide +kernel)) rfl
theorem zw_767 : Cond.instanceMethod ({ cls := "RequestGate$Service", name := "conditionOf", desc := "(I)I" } : MethodName) ∈ zz_ws := zz_in (List.mem_of_getElem? (i := 767) (by decide +kernel)) rfl
theorem zw_768 : Cond.selects "RequestGate$Service" ({ cls := "RequestGate$Service", name := "conditionOf", desc := "(I)I" } : MethodName) ({ cls := "RequestGate$Service", name := "conditionOf", desc := "(I)I" } : MethodName) ∈ zz_ws := zz_in (List.mem_of_getElem? (i := 768) (by decide +kernel)) rfl
theorem zw_769 : Cond.code ({ cls := "RequestGate$Service", name := "conditionOf", desc := "(I)I" } : MethodName) prog_8_method_4_code (2 : Nat) (Option.some FieldType.int) ∈ zz_ws := zz_in (List.mem_of_getElem? (i := 769) (by decide +kernel)) rfl
theorem zw_770 : Cond.methodLink "RequestGate$Service" (33 : Nat) ({ cls := "RequestGate$Service", name := "declares", desc := "(I)Z" } : MethodName) ∈ zz_ws := zz_in (List.mem_of_getElem? (i := 770) (by decide +kernel)) rfl
theorem zw_771 : Cond.methodLink "RequestGate" (213 : Nat) ({ cls := "RequestGate", name := "conditionByInterfaces", desc := "(II)I" } : MethodName) ∈ zz_ws := zz_in (List.mem_of_getElem? (i := 771) (by decide +kernel)) rfl
theorem zw_773 : Cond.instanceMethod ({ cls := "RequestGate", name := "conditionByInterfaces", desc := "(II)I" } : MethodName) ∈ zz_ws := zz_in (List.mem_of_getElem? (i := 773) (by decide +kernel)) rfl
theorem zw_774 : Cond.code ({ cls := "RequestGate", name := "conditionByInterfaces", desc := "(II)I" } : MethodName) prog_1_method_35_code (7 : Nat) (Option.some FieldType.int) ∈ zz_ws := zz_in (List.mem_of_getElem? (i := 774) (by decide +kernel)) rfl
theorem zw_775 : Cond.methodLink "RequestGateLaw" (72 : Nat) ({ cls := "RequestGate", name := "close", desc := "()Z" } : MethodName) ∈ zz_ws := zz_in (List.mem_of_getElem? (i := 775) (by decide +kernel)) rfl
theorem zw_776 : Cond.instanceMethod ({ cls := "RequestGate", name := "close", desc := "()Z" } : MethodName) ∈ zz_ws := zz_in (List.mem_of_getElem? (i := 776) (by decide +kernel)) rfl
theorem zw_777 : Cond.selects "RequestGate" ({ cls := "RequestGate", name := "close", desc := "()Z" } : MethodName) ({ cls := "RequestGate", name := "close", desc := "()Z" } : MethodName) ∈ zz_ws := zz_in (List.mem_of_getElem? (i := 777) (by decide +kernel)) rfl
theorem zw_778 : Cond.code ({ cls := "RequestGate", name := "close", desc := "()Z" } : MethodName) prog_1_method_15_code (1 : Nat) (Option.some FieldType.boolean) ∈ zz_ws := zz_in (List.mem_of_getElem? (i := 778) (by decide +kernel)) rfl
theorem zw_779 : Cond.methodLink "RequestGateLaw" (77 : Nat) ({ cls := "RequestGate", name := "who", desc := "()I" } : MethodName) ∈ zz_ws := zz_in (List.mem_of_getElem? (i := 779) (by decide +kernel)) rfl
theorem zw_780 : Cond.instanceMethod ({ cls := "RequestGate", name := "who", desc := "()I" } : MethodName) ∈ zz_ws := zz_in (List.mem_of_getElem? (i := 780) (by decide +kernel)) rfl
theorem zw_781 : Cond.selects "RequestGate" ({ cls := "RequestGate", name := "who", desc := "()I" } : MethodName) ({ cls := "RequestGate", name := "who", desc := "()I" } : MethodName) ∈ zz_ws := zz_in (List.mem_of_getElem? (i := 781) (by decide +kernel)) rfl
theorem zw_782 : Cond.code ({ cls := "RequestGate", name := "who", desc := "()I" } : MethodName) prog_1_method_16_code (1 : Nat) (Option.some FieldType.int) ∈ zz_ws := zz_in (List.mem_of_getElem? (i := 782) (by decide +kernel)) rfl
theorem zw_783 : Cond.methodLink "RequestGateLaw" (82 : Nat) ({ cls := "RequestGate", name := "fits", desc := "(I)I" } : MethodName) ∈ zz_ws := zz_in (List.mem_of_getElem? (i := 783) (by decide +kernel)) rfl
theorem zw_784 : Cond.instanceMethod ({ cls := "RequestGate", name := "fits", desc := "(I)I" } : MethodName) ∈ zz_ws := zz_in (List.mem_of_getElem? (i := 784) (by decide +kernel)) rfl
theorem zw_785 : Cond.selects "RequestGate" ({ cls := "RequestGate", name := "fits", desc := "(I)I" } : MethodName) ({ cls := "RequestGate", name := "fits", desc := "(I)I" } : MethodName) ∈ zz_ws := zz_in (List.mem_of_getElem? (i := 785) (by decide +kernel)) rfl
theorem zw_786 : Cond.code ({ cls := "RequestGate", name := "fits", desc := "(I)I" } : MethodName) prog_1_method_17_code (2 : Nat) (Option.some FieldType.int) ∈ zz_ws := zz_in (List.mem_of_getElem? (i := 786) (by decide +kernel)) rfl
theorem zw_787 : Cond.methodLink "RequestGateLaw" (87 : Nat) ({ cls := "RequestGate", name := "session", desc := "(III)I" } : MethodName) ∈ zz_ws := zz_in (List.mem_of_getElem? (i := 787) (by decide +kernel)) rfl
theorem zw_788 : Cond.instanceMethod ({ cls := "RequestGate", name := "session", desc := "(III)I" } : MethodName) ∈ zz_ws := zz_in (List.mem_of_getElem? (i := 788) (by decide +kernel)) rfl
theorem zw_789 : Cond.selects "RequestGate" ({ cls := "RequestGate", name := "session", desc := "(III)I" } : MethodName) ({ cls := "RequestGate", name := "session", desc := "(III)I" } : MethodName) ∈ zz_ws := zz_in (List.mem_of_getElem? (i := 789) (by decide +kernel)) rfl
theorem zw_790 : Cond.code ({ cls := "RequestGate", name := "session", desc := "(III)I" } : MethodName) prog_1_method_18_code (5 : Nat) (Option.some FieldType.int) ∈ zz_ws := zz_in (List.mem_of_getElem? (i := 790) (by decide +kernel)) rfl
theorem zw_791 : Cond.methodLink "RequestGate" (237 : Nat) ({ cls := "RequestGate$Tickets", name := "findOf", desc := "(II)LRequestGate$Ticket;" } : MethodName) ∈ zz_ws := zz_in (List.mem_of_getElem? (i := 791) (by decide +kernel)) rfl
theorem zw_792 : Cond.methodLink "RequestGateLaw" (91 : Nat) ({ cls := "RequestGate", name := "series", desc := "(III)I" } : MethodName) ∈ zz_ws := zz_in (List.mem_of_getElem? (i := 792) (by decide +kernel)) rfl
theorem zw_793 : Cond.instanceMethod ({ cls := "RequestGate", name := "series", desc := "(III)I" } : MethodName) ∈ zz_ws := zz_in (List.mem_of_getElem? (i := 793) (by decide +kernel)) rfl
theorem zw_794 : Cond.selects "RequestGate" ({ cls := "RequestGate", name := "series", desc := "(III)I" } : MethodName) ({ cls := "RequestGate", name := "series", desc := "(III)I" } : MethodName) ∈ zz_ws := zz_in (List.mem_of_getElem? (i := 794) (by decide +kernel)) rfl
theorem zw_795 : Cond.code ({ cls := "RequestGate", name := "series", desc := "(III)I" } : MethodName) prog_1_method_19_code (5 : Nat) (Option.some FieldType.int) ∈ zz_ws := zz_in (List.mem_of_getElem? (i := 795) (by decide +kernel)) rfl
theorem zw_796 : Cond.methodLink "RequestGateLaw" (95 : Nat) ({ cls := "RequestGate", name := "hash", desc := "(I)I" } : MethodName) ∈ zz_ws := zz_in (List.mem_of_getElem? (i := 796) (by decide +kernel)) rfl
theorem zw_797 : Cond.instanceMethod ({ cls := "RequestGate", name := "hash", desc := "(I)I" } : MethodName) ∈ zz_ws := zz_in (List.mem_of_getElem? (i := 797) (by decide +kernel)) rfl
theorem zw_798 : Cond.selects "RequestGate" ({ cls := "RequestGate", name := "hash", desc := "(I)I" } : MethodName) ({ cls := "RequestGate", name := "hash", desc := "(I)I" } : MethodName) ∈ zz_ws := zz_in (List.mem_of_getElem? (i := 798) (by decide +kernel)) rfl
theorem zw_799 : Cond.code ({ cls := "RequestGate", name := "hash", desc := "(I)I" } : MethodName) prog_1_method_20_code (2 : Nat) (Option.some FieldType.int) ∈ zz_ws := zz_in (List.mem_of_getElem? (i := 799) (by decide +kernel)) rfl
theorem zw_800 : Cond.methodLink "RequestGateLaw" (99 : Nat) ({ cls := "RequestGate", name := "count", desc := "(I)I" } : MethodName) ∈ zz_ws := zz_in (List.mem_of_getElem? (i := 800) (by decide +kernel)) rfl
theorem zw_801 : Cond.instanceMethod ({ cls := "RequestGate", name := "count", desc := "(I)I" } : MethodName) ∈ zz_ws := zz_in (List.mem_of_getElem? (i := 801) (by decide +kernel)) rfl
theorem zw_802 : Cond.selects "RequestGate" ({ cls := "RequestGate", name := "count", desc := "(I)I" } : MethodName) ({ cls := "RequestGate", name := "count", desc := "(I)I" } : MethodName) ∈ zz_ws := zz_in (List.mem_of_getElem? (i := 802) (by decide +kernel)) rfl
theorem zw_803 : Cond.code ({ cls := "RequestGate", name := "count", desc := "(I)I" } : MethodName) prog_1_method_21_code (2 : Nat) (Option.some FieldType.int) ∈ zz_ws := zz_in (List.mem_of_getElem? (i := 803) (by decide +kernel)) rfl
theorem zw_804 : Cond.classLink "RequestGateLaw" (10 : Nat) "RequestGateModel" ∈ zz_ws := zz_in (List.mem_of_getElem? (i := 804) (by decide +kernel)) rfl
theorem zw_805 : Cond.instantiable "RequestGateModel" (56 : Nat) ∈ zz_ws := zz_in (List.mem_of_getElem? (i := 805) (by decide +kernel)) rfl
theorem zw_806 : Cond.methodLink "RequestGateLaw" (12 : Nat) ({ cls := "RequestGateModel", name := "<init>", desc := "()V" } : MethodName) ∈ zz_ws := zz_in (List.mem_of_getElem? (i := 806) (by decide +kernel)) rfl
theorem zw_807 : Cond.instanceMethod ({ cls := "RequestGateModel", name := "<init>", desc := "()V" } : MethodName) ∈ zz_ws := zz_in (List.mem_of_getElem? (i := 807) (by decide +kernel)) rfl
theorem zw_808 : Cond.code ({ cls := "RequestGateModel", name := "<init>", desc := "()V" } : MethodName) prog_14_method_1_code (1 : Nat) (none : Option FieldType) ∈ zz_ws := zz_in (List.mem_of_getElem? (i := 808) (by decide +kernel)) rfl
theorem zw_809 : Cond.methodLink "RequestGateModel" (1 : Nat) ({ cls := "java/lang/Object", name := "<init>", desc := "()V" } : MethodName) ∈ zz_ws := zz_in (List.mem_of_getElem? (i := 809) (by decide +kernel)) rfl
theorem zw_810 : Cond.fieldLink "RequestGateModel" (178 : Nat) "RequestGateModel" "drawn" "I" ∈ zz_ws := zz_in (List.mem_of_getElem? (i := 810) (by decide +kernel)) rfl
theorem zw_811 : Cond.fieldLink "RequestGateModel" (192 : Nat) "RequestGateModel" "time" "I" ∈ zz_ws := zz_in (List.mem_of_getElem? (i := 811) (by decide +kernel)) rfl
theorem zw_812 : Cond.fieldLink "RequestGateModel" (264 : Nat) "RequestGateModel" "opened" "I" ∈ zz_ws := zz_in (List.mem_of_getElem? (i := 812) (by decide +kernel)) rfl
theorem zw_813 : Cond.fieldLink "RequestGateModel" (234 : Nat) "RequestGateModel" "ran" "I" ∈ zz_ws := zz_in (List.mem_of_getElem? (i := 813) (by decide +kernel)) rfl
theorem zw_814 : Cond.fieldLink "RequestGateModel" (237 : Nat) "RequestGateModel" "kept" "I" ∈ zz_ws := zz_in (List.mem_of_getElem? (i := 814) (by decide +kernel)) rfl
theorem zw_815 : Cond.fieldLink "RequestGateModel" (249 : Nat) "RequestGateModel" "thefts" "I" ∈ zz_ws := zz_in (List.mem_of_getElem? (i := 815) (by decide +kernel)) rfl
theorem zw_816 : Cond.fieldLink "RequestGateModel" (201 : Nat) "RequestGateModel" "locks" "I" ∈ zz_ws := zz_in (List.mem_of_getElem? (i := 816) (by decide +kernel)) rfl
theorem zw_817 : Cond.fieldLink "RequestGateModel" (7 : Nat) "RequestGateModel" "added" "[I" ∈ zz_ws := zz_in (List.mem_of_getElem? (i := 817) (by decide +kernel)) rfl
theorem zw_818 : Cond.fieldLink "RequestGateModel" (181 : Nat) "RequestGateModel" "users" "I" ∈ zz_ws := zz_in (List.mem_of_getElem? (i := 818) (by decide +kernel)) rfl
theorem zw_819 : Cond.fieldLink "RequestGateModel" (13 : Nat) "RequestGateModel" "given" "[I" ∈ zz_ws := zz_in (List.mem_of_getElem? (i := 819) (by decide +kernel)) rfl
theorem zw_820 : Cond.fieldLink "RequestGateModel" (16 : Nat) "RequestGateModel" "scheme" "[I" ∈ zz_ws := zz_in (List.mem_of_getElem? (i := 820) (by decide +kernel)) rfl
theorem zw_821 : Cond.fieldLink "RequestGateModel" (19 : Nat) "RequestGateModel" "salt" "[I" ∈ zz_ws := zz_in (List.mem_of_getElem? (i := 821) (by decide +kernel)) rfl
theorem zw_822 : Cond.fieldLink "RequestGateModel" (22 : Nat) "RequestGateModel" "hash" "[I" ∈ zz_ws := zz_in (List.mem_of_getElem? (i := 822) (by decide +kernel)) rfl
theorem zw_823 : Cond.fieldLink "RequestGateModel" (25 : Nat) "RequestGateModel" "fails" "[I" ∈ zz_ws := zz_in (List.mem_of_getElem? (i := 823) (by decide +kernel)) rfl
theorem zw_824 : Cond.fieldLink "RequestGateModel" (28 : Nat) "RequestGateModel" "lockedTo" "[I" ∈ zz_ws := zz_in (List.mem_of_getElem? (i := 824) (by decide +kernel)) rfl
theorem zw_825 : Cond.fieldLink "RequestGateModel" (31 : Nat) "RequestGateModel" "made" "[Z" ∈ zz_ws := zz_in (List.mem_of_getElem? (i := 825) (by decide +kernel)) rfl
theorem zw_826 : Cond.fieldLink "RequestGateModel" (35 : Nat) "RequestGateModel" "sessionId" "[I" ∈ zz_ws := zz_in (List.mem_of_getElem? (i := 826) (by decide +kernel)) rfl
theorem zw_827 : Cond.fieldLink "RequestGateModel" (38 : Nat) "RequestGateModel" "sessionToken" "[I" ∈ zz_ws := zz_in (List.mem_of_getElem? (i := 827) (by decide +kernel)) rfl
theorem zw_828 : Cond.fieldLink "RequestGateModel" (41 : Nat) "RequestGateModel" "remembered" "[Z" ∈ zz_ws := zz_in (List.mem_of_getElem? (i := 828) (by decide +kernel)) rfl
theorem zw_829 : Cond.fieldLink "RequestGateModel" (44 : Nat) "RequestGateModel" "madeAt" "[I" ∈ zz_ws := zz_in (List.mem_of_getElem? (i := 829) (by decide +kernel)) rfl
theorem zw_830 : Cond.fieldLink "RequestGateModel" (47 : Nat) "RequestGateModel" "usedAt" "[I" ∈ zz_ws := zz_in (List.mem_of_getElem? (i := 830) (by decide +kernel)) rfl
theorem zw_831 : Cond.fieldLink "RequestGateModel" (50 : Nat) "RequestGateModel" "lasting" "[Z" ∈ zz_ws := zz_in (List.mem_of_getElem? (i := 831) (by decide +kernel)) rfl
theorem zw_832 : Cond.fieldLink "RequestGateModel" (53 : Nat) "RequestGateModel" "seriesId" "[I" ∈ zz_ws := zz_in (List.mem_of_getElem? (i := 832) (by decide +kernel)) rfl
theorem zw_833 : Cond.fieldLink "RequestGateModel" (56 : Nat) "RequestGateModel" "seriesToken" "[I" ∈ zz_ws := zz_in (List.mem_of_getElem? (i := 833) (by decide +kernel)) rfl
theorem zw_834 : Cond.fieldLink "RequestGateModel" (154 : Nat) "RequestGateModel" "expressions" "I" ∈ zz_ws := zz_in (List.mem_of_getElem? (i := 834) (by decide +kernel)) rfl
theorem zw_835 : Cond.fieldLink "RequestGateModel" (59 : Nat) "RequestGateModel" "op" "[I" ∈ zz_ws := zz_in (List.mem_of_getElem? (i := 835) (by decide +kernel)) rfl
theorem zw_836 : Cond.fieldLink "RequestGateModel" (62 : Nat) "RequestGateModel" "one" "[I" ∈ zz_ws := zz_in (List.mem_of_getElem? (i := 836) (by decide +kernel)) rfl
theorem zw_837 : Cond.fieldLink "RequestGateModel" (65 : Nat) "RequestGateModel" "two" "[I" ∈ zz_ws := zz_in (List.mem_of_getElem? (i := 837) (by decide +kernel)) rfl
theorem zw_838 : Cond.fieldLink "RequestGateModel" (68 : Nat) "RequestGateModel" "value" "[I" ∈ zz_ws := zz_in (List.mem_of_getElem? (i := 838) (by decide +kernel)) rfl
theorem zw_839 : Cond.fieldLink "RequestGateModel" (129 : Nat) "RequestGateModel" "size" "I" ∈ zz_ws := zz_in (List.mem_of_getElem? (i := 839) (by decide +kernel)) rfl
theorem zw_840 : Cond.fieldLink "RequestGateModel" (71 : Nat) "RequestGateModel" "buffer" "[I" ∈ zz_ws := zz_in (List.mem_of_getElem? (i := 840) (by decide +kernel)) rfl
theorem zw_841 : Cond.fieldLink "RequestGateModel" (74 : Nat) "RequestGateModel" "plain" "[I" ∈ zz_ws := zz_in (List.mem_of_getElem? (i := 841) (by decide +kernel)) rfl
theorem zw_842 : Cond.fieldLink "RequestGateModel" (77 : Nat) "RequestGateModel" "from" "[I" ∈ zz_ws := zz_in (List.mem_of_getElem? (i := 842) (by decide +kernel)) rfl
theorem zw_843 : Cond.fieldLink "RequestGateModel" (80 : Nat) "RequestGateModel" "to" "[I" ∈ zz_ws := zz_in (List.mem_of_getElem? (i := 843) (by decide +kernel)) rfl
theorem zw_844 : Cond.fieldLink "RequestGateModel" (83 : Nat) "RequestGateModel" "segment" "[I" ∈ zz_ws := zz_in (List.mem_of_getElem? (i := 844) (by decide +kernel)) rfl
theorem zw_845 : Cond.fieldLink "RequestGateModel" (143 : Nat) "RequestGateModel" "segments" "I" ∈ zz_ws := zz_in (List.mem_of_getElem? (i := 845) (by decide +kernel)) rfl
theorem zw_846 : Cond.fieldLink "RequestGateModel" (86 : Nat) "RequestGateModel" "here" "[Z" ∈ zz_ws := zz_in (List.mem_of_getElem? (i := 846) (by decide +kernel)) rfl
theorem zw_847 : Cond.fieldLink "RequestGateModel" (89 : Nat) "RequestGateModel" "next" "[Z" ∈ zz_ws := zz_in (List.mem_of_getElem? (i := 847) (by decide +kernel)) rfl
theorem zw_848 : Cond.fieldLink "RequestGateModel" (92 : Nat) "RequestGateModel" "mark" "[Z" ∈ zz_ws := zz_in (List.mem_of_getElem? (i := 848) (by decide +kernel)) rfl
theorem zw_849 : Cond.fieldLink "RequestGateModel" (95 : Nat) "RequestGateModel" "beyond" "[Z" ∈ zz_ws := zz_in (List.mem_of_getElem? (i := 849) (by decide +kernel)) rfl
theorem zw_850 : Cond.fieldLink "RequestGateModel" (171 : Nat) "RequestGateModel" "rules" "I" ∈ zz_ws := zz_in (List.mem_of_getElem? (i := 850) (by decide +kernel)) rfl
theorem zw_851 : Cond.fieldLink "RequestGateModel" (98 : Nat) "RequestGateModel" "text" "[I" ∈ zz_ws := zz_in (List.mem_of_getElem? (i := 851) (by decide +kernel)) rfl
theorem zw_852 : Cond.fieldLink "RequestGateModel" (101 : Nat) "RequestGateModel" "length" "[I" ∈ zz_ws := zz_in (List.mem_of_getElem? (i := 852) (by decide +kernel)) rfl
theorem zw_853 : Cond.fieldLink "RequestGateModel" (104 : Nat) "RequestGateModel" "condition" "[I" ∈ zz_ws := zz_in (List.mem_of_getElem? (i := 853) (by decide +kernel)) rfl
theorem zw_854 : Cond.fieldLink "RequestGateModel" (107 : Nat) "RequestGateModel" "methods" "[I" ∈ zz_ws := zz_in (List.mem_of_getElem? (i := 854) (by decide +kernel)) rfl
theorem zw_855 : Cond.fieldLink "RequestGateModel" (218 : Nat) "RequestGateModel" "types" "I" ∈ zz_ws := zz_in (List.mem_of_getElem? (i := 855) (by decide +kernel)) rfl
theorem zw_856 : Cond.fieldLink "RequestGateModel" (110 : Nat) "RequestGateModel" "parent" "[I" ∈ zz_ws := zz_in (List.mem_of_getElem? (i := 856) (by decide +kernel)) rfl
theorem zw_857 : Cond.fieldLink "RequestGateModel" (113 : Nat) "RequestGateModel" "face" "[I" ∈ zz_ws := zz_in (List.mem_of_getElem? (i := 857) (by decide +kernel)) rfl
theorem zw_858 : Cond.fieldLink "RequestGateModel" (116 : Nat) "RequestGateModel" "typeCondition" "[I" ∈ zz_ws := zz_in (List.mem_of_getElem? (i := 858) (by decide +kernel)) rfl
theorem zw_859 : Cond.fieldLink "RequestGateModel" (119 : Nat) "RequestGateModel" "declares" "[Z" ∈ zz_ws := zz_in (List.mem_of_getElem? (i := 859) (by decide +kernel)) rfl
theorem zw_860 : Cond.fieldLink "RequestGateModel" (122 : Nat) "RequestGateModel" "declared" "[I" ∈ zz_ws := zz_in (List.mem_of_getElem? (i := 860) (by decide +kernel)) rfl
theorem zw_861 : Cond.fieldLink "RequestGateModel" (252 : Nat) "RequestGateModel" "isOpen" "Z" ∈ zz_ws := zz_in (List.mem_of_getElem? (i := 861) (by decide +kernel)) rfl
theorem zw_862 : Cond.fieldLink "RequestGateModel" (125 : Nat) "RequestGateModel" "subject" "I" ∈ zz_ws := zz_in (List.mem_of_getElem? (i := 862) (by decide +kernel)) rfl
theorem zw_863 : Cond.fieldLink "RequestGateModel" (227 : Nat) "RequestGateModel" "subjectRemembered" "Z" ∈ zz_ws := zz_in (List.mem_of_getElem? (i := 863) (by decide +kernel)) rfl
theorem zw_864 : Cond.fieldLink "RequestGateModel" (240 : Nat) "RequestGateModel" "asker" "I" ∈ zz_ws := zz_in (List.mem_of_getElem? (i := 864) (by decide +kernel)) rfl
theorem zw_865 : Cond.fieldLink "RequestGateModel" (243 : Nat) "RequestGateModel" "askerRemembered" "Z" ∈ zz_ws := zz_in (List.mem_of_getElem? (i := 865) (by decide +kernel)) rfl
theorem zw_866 : Cond.lays "RequestGateModel" "RequestGateModel" "drawn" "I" ∈ zz_ws := zz_in (List.mem_of_getElem? (i := 866) (by decide +kernel)) rfl
theorem zw_868 : Cond.lays "RequestGateModel" "RequestGateModel" "time" "I" ∈ zz_ws := zz_in (List.mem_of_getElem? (i := 868) (by decide +kernel)) rfl
theorem zw_870 : Cond.lays "RequestGateModel" "RequestGateModel" "opened" "I" ∈ zz_ws := zz_in (List.mem_of_getElem? (i := 870) (by decide +kernel)) rfl
theorem zw_872 : Cond.lays "RequestGateModel" "RequestGateModel" "ran" "I" ∈ zz_ws := zz_in (List.mem_of_getElem? (i := 872) (by decide +kernel)) rfl
theorem zw_874 : Cond.lays "RequestGateModel" "RequestGateModel" "kept" "I" ∈ zz_ws := zz_in (List.mem_of_getElem? (i := 874) (by decide +kernel)) rfl
theorem zw_876 : Cond.lays "RequestGateModel" "RequestGateModel" "thefts" "I" ∈ zz_ws := zz_in (List.mem_of_getElem? (i := 876) (by decide +kernel)) rfl
theorem zw_878 : Cond.lays "RequestGateModel" "RequestGateModel" "locks" "I" ∈ zz_ws := zz_in (List.mem_of_getElem? (i := 878) (by decide +kernel)) rfl
theorem zw_880 : Cond.laysFinal "RequestGateModel" "RequestGateModel" "added" "[I" ∈ zz_ws := zz_in (List.mem_of_getElem? (i := 880) (by decide +kernel)) rfl
theorem zw_882 : Cond.lays "RequestGateModel" "RequestGateModel" "users" "I" ∈ zz_ws := zz_in (List.mem_of_getElem? (i := 882) (by decide +kernel)) rfl
theorem zw_884 : Cond.laysFinal "RequestGateModel" "RequestGateModel" "given" "[I" ∈ zz_ws := zz_in (List.mem_of_getElem? (i := 884) (by decide +kernel)) rfl
theorem zw_886 : Cond.laysFinal "RequestGateModel" "RequestGateModel" "scheme" "[I" ∈ zz_ws := zz_in (List.mem_of_getElem? (i := 886) (by decide +kernel)) rfl
theorem zw_888 : Cond.laysFinal "RequestGateModel" "RequestGateModel" "salt" "[I" ∈ zz_ws := zz_in (List.mem_of_getElem? (i := 888) (by decide +kernel)) rfl
theorem zw_890 : Cond.laysFinal "RequestGateModel" "RequestGateModel" "hash" "[I" ∈ zz_ws := zz_in (List.mem_of_getElem? (i := 890) (by decide +kernel)) rfl
theorem zw_892 : Cond.laysFinal "RequestGateModel" "RequestGateModel" "fails" "[I" ∈ zz_ws := zz_in (List.mem_of_getElem? (i := 892) (by decide +kernel)) rfl
theorem zw_894 : Cond.laysFinal "RequestGateModel" "RequestGateModel" "lockedTo" "[I" ∈ zz_ws := zz_in (List.mem_of_getElem? (i := 894) (by decide +kernel)) rfl
theorem zw_896 : Cond.laysFinal "RequestGateModel" "RequestGateModel" "made" "[Z" ∈ zz_ws := zz_in (List.mem_of_getElem? (i := 896) (by decide +kernel)) rfl
theorem zw_898 : Cond.laysFinal "RequestGateModel" "RequestGateModel" "sessionId" "[I" ∈ zz_ws := zz_in (List.mem_of_getElem? (i := 898) (by decide +kernel)) rfl
theorem zw_900 : Cond.laysFinal "RequestGateModel" "RequestGateModel" "sessionToken" "[I" ∈ zz_ws := zz_in (List.mem_of_getElem? (i := 900) (by decide +kernel)) rfl
theorem zw_902 : Cond.laysFinal "RequestGateModel" "RequestGateModel" "remembered" "[Z" ∈ zz_ws := zz_in (List.mem_of_getElem? (i := 902) (by decide +kernel)) rfl
theorem zw_904 : Cond.laysFinal "RequestGateModel" "RequestGateModel" "madeAt" "[I" ∈ zz_ws := zz_in (List.mem_of_getElem? (i := 904) (by decide +kernel)) rfl
theorem zw_906 : Cond.laysFinal "RequestGateModel" "RequestGateModel" "usedAt" "[I" ∈ zz_ws := zz_in (List.mem_of_getElem? (i := 906) (by decide +kernel)) rfl
theorem zw_908 : Cond.laysFinal "RequestGateModel" "RequestGateModel" "lasting" "[Z" ∈ zz_ws := zz_in (List.mem_of_getElem? (i := 908) (by decide +kernel)) rfl
theorem zw_910 : Cond.laysFinal "RequestGateModel" "RequestGateModel" "seriesId" "[I" ∈ zz_ws := zz_in (List.mem_of_getElem? (i := 910) (by decide +kernel)) rfl
theorem zw_912 : Cond.laysFinal "RequestGateModel" "RequestGateModel" "seriesToken" "[I" ∈ zz_ws := zz_in (List.mem_of_getElem? (i := 912) (by decide +kernel)) rfl
theorem zw_914 : Cond.lays "RequestGateModel" "RequestGateModel" "expressions" "I" ∈ zz_ws := zz_in (List.mem_of_getElem? (i := 914) (by decide +kernel)) rfl
theorem zw_916 : Cond.laysFinal "RequestGateModel" "RequestGateModel" "op" "[I" ∈ zz_ws := zz_in (List.mem_of_getElem? (i := 916) (by decide +kernel)) rfl
theorem zw_918 : Cond.laysFinal "RequestGateModel" "RequestGateModel" "one" "[I" ∈ zz_ws := zz_in (List.mem_of_getElem? (i := 918) (by decide +kernel)) rfl
theorem zw_920 : Cond.laysFinal "RequestGateModel" "RequestGateModel" "two" "[I" ∈ zz_ws := zz_in (List.mem_of_getElem? (i := 920) (by decide +kernel)) rfl
theorem zw_922 : Cond.laysFinal "RequestGateModel" "RequestGateModel" "value" "[I" ∈ zz_ws := zz_in (List.mem_of_getElem? (i := 922) (by decide +kernel)) rfl
theorem zw_924 : Cond.lays "RequestGateModel" "RequestGateModel" "size" "I" ∈ zz_ws := zz_in (List.mem_of_getElem? (i := 924) (by decide +kernel)) rfl
theorem zw_926 : Cond.laysFinal "RequestGateModel" "RequestGateModel" "buffer" "[I" ∈ zz_ws := zz_in (List.mem_of_getElem? (i := 926) (by decide +kernel)) rfl
theorem zw_928 : Cond.laysFinal "RequestGateModel" "RequestGateModel" "plain" "[I" ∈ zz_ws := zz_in (List.mem_of_getElem? (i := 928) (by decide +kernel)) rfl
theorem zw_930 : Cond.laysFinal "RequestGateModel" "RequestGateModel" "from" "[I" ∈ zz_ws := zz_in (List.mem_of_getElem? (i := 930) (by decide +kernel)) rfl
theorem zw_932 : Cond.laysFinal "RequestGateModel" "RequestGateModel" "to" "[I" ∈ zz_ws := zz_in (List.mem_of_getElem? (i := 932) (by decide +kernel)) rfl
theorem zw_934 : Cond.laysFinal "RequestGateModel" "RequestGateModel" "segment" "[I" ∈ zz_ws := zz_in (List.mem_of_getElem? (i := 934) (by decide +kernel)) rfl
theorem zw_936 : Cond.lays "RequestGateModel" "RequestGateModel" "segments" "I" ∈ zz_ws := zz_in (List.mem_of_getElem? (i := 936) (by decide +kernel)) rfl
theorem zw_938 : Cond.laysFinal "RequestGateModel" "RequestGateModel" "here" "[Z" ∈ zz_ws := zz_in (List.mem_of_getElem? (i := 938) (by decide +kernel)) rfl
theorem zw_940 : Cond.laysFinal "RequestGateModel" "RequestGateModel" "next" "[Z" ∈ zz_ws := zz_in (List.mem_of_getElem? (i := 940) (by decide +kernel)) rfl
theorem zw_942 : Cond.laysFinal "RequestGateModel" "RequestGateModel" "mark" "[Z" ∈ zz_ws := zz_in (List.mem_of_getElem? (i := 942) (by decide +kernel)) rfl
theorem zw_944 : Cond.laysFinal "RequestGateModel" "RequestGateModel" "beyond" "[Z" ∈ zz_ws := zz_in (List.mem_of_getElem? (i := 944) (by decide +kernel)) rfl
theorem zw_946 : Cond.lays "RequestGateModel" "RequestGateModel" "rules" "I" ∈ zz_ws := zz_in (List.mem_of_getElem? (i := 946) (by decide +kernel)) rfl
theorem zw_948 : Cond.laysFinal "RequestGateModel" "RequestGateModel" "text" "[I" ∈ zz_ws := zz_in (List.mem_of_getElem? (i := 948) (by decide +kernel)) rfl
theorem zw_950 : Cond.laysFinal "RequestGateModel" "RequestGateModel" "length" "[I" ∈ zz_ws := zz_in (List.mem_of_getElem? (i := 950) (by decide +kernel)) rfl
theorem zw_952 : Cond.laysFinal "RequestGateModel" "RequestGateModel" "condition" "[I" ∈ zz_ws := zz_in (List.mem_of_getElem? (i := 952) (by decide +kernel)) rfl
theorem zw_954 : Cond.laysFinal "RequestGateModel" "RequestGateModel" "methods" "[I" ∈ zz_ws := zz_in (List.mem_of_getElem? (i := 954) (by decide +kernel)) rfl
theorem zw_956 : Cond.lays "RequestGateModel" "RequestGateModel" "types" "I" ∈ zz_ws := zz_in (List.mem_of_getElem? (i := 956) (by decide +kernel)) rfl
theorem zw_958 : Cond.laysFinal "RequestGateModel" "RequestGateModel" "parent" "[I" ∈ zz_ws := zz_in (List.mem_of_getElem? (i := 958) (by decide +kernel)) rfl
theorem zw_960 : Cond.laysFinal "RequestGateModel" "RequestGateModel" "face" "[I" ∈ zz_ws := zz_in (List.mem_of_getElem? (i := 960) (by decide +kernel)) rfl
theorem zw_962 : Cond.laysFinal "RequestGateModel" "RequestGateModel" "typeCondition" "[I" ∈ zz_ws := zz_in (List.mem_of_getElem? (i := 962) (by decide +kernel)) rfl
theorem zw_964 : Cond.laysFinal "RequestGateModel" "RequestGateModel" "declares" "[Z" ∈ zz_ws := zz_in (List.mem_of_getElem? (i := 964) (by decide +kernel)) rfl
theorem zw_966 : Cond.laysFinal "RequestGateModel" "RequestGateModel" "declared" "[I" ∈ zz_ws := zz_in (List.mem_of_getElem? (i := 966) (by decide +kernel)) rfl
theorem zw_968 : Cond.lays "RequestGateModel" "RequestGateModel" "isOpen" "Z" ∈ zz_ws := zz_in (List.mem_of_getElem? (i := 968) (by decide +kernel)) rfl
theorem zw_970 : Cond.lays "RequestGateModel" "RequestGateModel" "subject" "I" ∈ zz_ws := zz_in (List.mem_of_getElem? (i := 970) (by decide +kernel)) rfl
theorem zw_972 : Cond.lays "RequestGateModel" "RequestGateModel" "subjectRemembered" "Z" ∈ zz_ws := zz_in (List.mem_of_getElem? (i := 972) (by decide +kernel)) rfl
theorem zw_974 : Cond.lays "RequestGateModel" "RequestGateModel" "asker" "I" ∈ zz_ws := zz_in (List.mem_of_getElem? (i := 974) (by decide +kernel)) rfl
theorem zw_976 : Cond.lays "RequestGateModel" "RequestGateModel" "askerRemembered" "Z" ∈ zz_ws := zz_in (List.mem_of_getElem? (i := 976) (by decide +kernel)) rfl
theorem zw_979 : Cond.methodLink "RequestGateLaw" (17 : Nat) ({ cls := "RequestGateModel", name := "type", desc := "(I)Z" } : MethodName) ∈ zz_ws := zz_in (List.mem_of_getElem? (i := 979) (by decide +kernel)) rfl
theorem zw_980 : Cond.instanceMethod ({ cls := "RequestGateModel", name := "type", desc := "(I)Z" } : MethodName) ∈ zz_ws := zz_in (List.mem_of_getElem? (i := 980) (by decide +kernel)) rfl
theorem zw_981 : Cond.selects "RequestGateModel" ({ cls := "RequestGateModel", name := "type", desc := "(I)Z" } : MethodName) ({ cls := "RequestGateModel", name := "type", desc := "(I)Z" } : MethodName) ∈ zz_ws := zz_in (List.mem_of_getElem? (i := 981) (by decide +kernel)) rfl
theorem zw_982 : Cond.code ({ cls := "RequestGateModel", name := "type", desc := "(I)Z" } : MethodName) prog_14_method_2_code (2 : Nat) (Option.some FieldType.boolean) ∈ zz_ws := zz_in (List.mem_of_getElem? (i := 982) (by decide +kernel)) rfl
theorem zw_983 : Cond.methodLink "RequestGateLaw" (21 : Nat) ({ cls := "RequestGateModel", name := "clear", desc := "()V" } : MethodName) ∈ zz_ws := zz_in (List.mem_of_getElem? (i := 983) (by decide +kernel)) rfl
theorem zw_984 : Cond.instanceMethod ({ cls := "RequestGateModel", name := "clear", desc := "()V" } : MethodName) ∈ zz_ws := zz_in (List.mem_of_getElem? (i := 984) (by decide +kernel)) rfl
theorem zw_985 : Cond.selects "RequestGateModel" ({ cls := "RequestGateModel", name := "clear", desc := "()V" } : MethodName) ({ cls := "RequestGateModel", name := "clear", desc := "()V" } : MethodName) ∈ zz_ws := zz_in (List.mem_of_getElem? (i := 985) (by decide +kernel)) rfl
theorem zw_986 : Cond.code ({ cls := "RequestGateModel", name := "clear", desc := "()V" } : MethodName) prog_14_method_3_code (1 : Nat) (none : Option FieldType) ∈ zz_ws := zz_in (List.mem_of_getElem? (i := 986) (by decide +kernel)) rfl
theorem zw_987 : Cond.methodLink "RequestGateLaw" (26 : Nat) ({ cls := "RequestGateModel", name := "expression", desc := "(III)I" } : MethodName) ∈ zz_ws := zz_in (List.mem_of_getElem? (i := 987) (by decide +kernel)) rfl
theorem zw_988 : Cond.instanceMethod ({ cls := "RequestGateModel", name := "expression", desc := "(III)I" } : MethodName) ∈ zz_ws := zz_in (List.mem_of_getElem? (i := 988) (by decide +kernel)) rfl
theorem zw_989 : Cond.selects "RequestGateModel" ({ cls := "RequestGateModel", name := "expression", desc := "(III)I" } : MethodName) ({ cls := "RequestGateModel", name := "expression", desc := "(III)I" } : MethodName) ∈ zz_ws := zz_in (List.mem_of_getElem? (i := 989) (by decide +kernel)) rfl
theorem zw_990 : Cond.code ({ cls := "RequestGateModel", name := "expression", desc := "(III)I" } : MethodName) prog_14_method_13_code (4 : Nat) (Option.some FieldType.int) ∈ zz_ws := zz_in (List.mem_of_getElem? (i := 990) (by decide +kernel)) rfl
theorem zw_991 : Cond.methodLink "RequestGateModel" (157 : Nat) ({ cls := "RequestGateModel", name := "isExpression", desc := "(I)Z" } : MethodName) ∈ zz_ws := zz_in (List.mem_of_getElem? (i := 991) (by decide +kernel)) rfl
theorem zw_993 : Cond.instanceMethod ({ cls := "RequestGateModel", name := "isExpression", desc := "(I)Z" } : MethodName) ∈ zz_ws := zz_in (List.mem_of_getElem? (i := 993) (by decide +kernel)) rfl
theorem zw_994 : Cond.code ({ cls := "RequestGateModel", name := "isExpression", desc := "(I)Z" } : MethodName) prog_14_method_12_code (2 : Nat) (Option.some FieldType.boolean) ∈ zz_ws := zz_in (List.mem_of_getElem? (i := 994) (by decide +kernel)) rfl
theorem zw_995 : Cond.methodLink "RequestGateLaw" (36 : Nat) ({ cls := "RequestGateModel", name := "role", desc := "(II)Z" } : MethodName) ∈ zz_ws := zz_in (List.mem_of_getElem? (i := 995) (by decide +kernel)) rfl
theorem zw_996 : Cond.instanceMethod ({ cls := "RequestGateModel", name := "role", desc := "(II)Z" } : MethodName) ∈ zz_ws := zz_in (List.mem_of_getElem? (i := 996) (by decide +kernel)) rfl
theorem zw_997 : Cond.selects "RequestGateModel" ({ cls := "RequestGateModel", name := "role", desc := "(II)Z" } : MethodName) ({ cls := "RequestGateModel", name := "role", desc := "(II)Z" } : MethodName) ∈ zz_ws := zz_in (List.mem_of_getElem? (i := 997) (by decide +kernel)) rfl
theorem zw_998 : Cond.code ({ cls := "RequestGateModel", name := "role", desc := "(II)Z" } : MethodName) prog_14_method_15_code (3 : Nat) (Option.some FieldType.boolean) ∈ zz_ws := zz_in (List.mem_of_getElem? (i := 998) (by decide +kernel)) rfl
theorem zw_999 : Cond.methodLink "RequestGateModel" (160 : Nat) ({ cls := "RequestGateModel", name := "included", desc := "(I)I" } : MethodName) ∈ zz_ws := zz_in (List.mem_of_getElem? (i := 999) (by decide +kernel)) rfl
theorem zw_1001 : Cond.instanceMethod ({ cls := "RequestGateModel", name := "included", desc := "(I)I" } : MethodName) ∈ zz_ws := zz_in (List.mem_of_getElem? (i := 1001) (by decide +kernel)) rfl
theorem zw_1002 : Cond.code ({ cls := "RequestGateModel", name := "included", desc := "(I)I" } : MethodName) prog_14_method_14_code (5 : Nat) (Option.some FieldType.int) ∈ zz_ws := zz_in (List.mem_of_getElem? (i := 1002) (by decide +kernel)) rfl
theorem zw_1003 : Cond.methodLink "RequestGateLaw" (31 : Nat) ({ cls := "RequestGateModel", name := "rule", desc := "(II)I" } : MethodName) ∈ zz_ws := zz_in (List.mem_of_getElem? (i := 1003) (by decide +kernel)) rfl
theorem zw_1004 : Cond.instanceMethod ({ cls := "RequestGateModel", name := "rule", desc := "(II)I" } : MethodName) ∈ zz_ws := zz_in (List.mem_of_getElem? (i := 1004) (by decide +kernel)) rfl
theorem zw_1005 : Cond.selects "RequestGateModel" ({ cls := "RequestGateModel", name := "rule", desc := "(II)I" } : MethodName) ({ cls := "RequestGateModel", name := "rule", desc := "(II)I" } : MethodName) ∈ zz_ws := zz_in (List.mem_of_getElem? (i := 1005) (by decide +kernel)) rfl
theorem zw_1006 : Cond.code ({ cls := "RequestGateModel", name := "rule", desc := "(II)I" } : MethodName) prog_14_method_19_code (4 : Nat) (Option.some FieldType.int) ∈ zz_ws := zz_in (List.mem_of_getElem? (i := 1006) (by decide +kernel)) rfl
theorem zw_1007 : Cond.methodLink "RequestGateModel" (174 : Nat) ({ cls := "RequestGateModel", name := "isPattern", desc := "()Z" } : MethodName) ∈ zz_ws := zz_in (List.mem_of_getElem? (i := 1007) (by decide +kernel)) rfl
theorem zw_1009 : Cond.instanceMethod ({ cls := "RequestGateModel", name := "isPattern", desc := "()Z" } : MethodName) ∈ zz_ws := zz_in (List.mem_of_getElem? (i := 1009) (by decide +kernel)) rfl
theorem zw_1010 : Cond.code ({ cls := "RequestGateModel", name := "isPattern", desc := "()Z" } : MethodName) prog_14_method_9_code (4 : Nat) (Option.some FieldType.boolean) ∈ zz_ws := zz_in (List.mem_of_getElem? (i := 1010) (by decide +kernel)) rfl
theorem zw_1011 : Cond.methodLink "RequestGateModel" (136 : Nat) ({ cls := "RequestGateModel", name := "barred", desc := "(I)Z" } : MethodName) ∈ zz_ws := zz_in (List.mem_of_getElem? (i := 1011) (by decide +kernel)) rfl
theorem zw_1012 : Cond.static ({ cls := "RequestGateModel", name := "barred", desc := "(I)Z" } : MethodName) ∈ zz_ws := zz_in (List.mem_of_getElem? (i := 1012) (by decide +kernel)) rfl
theorem zw_1013 : Cond.code ({ cls := "RequestGateModel", name := "barred", desc := "(I)Z" } : MethodName) prog_14_method_5_code (1 : Nat) (Option.some FieldType.boolean) ∈ zz_ws := zz_in (List.mem_of_getElem? (i := 1013) (by decide +kernel)) rfl
theorem zw_1014 : Cond.methodLink "RequestGateLaw" (40 : Nat) ({ cls := "RequestGateModel", name := "user", desc := "(III)I" } : MethodName) ∈ zz_ws := zz_in (List.mem_of_getElem? (i := 1014) (by decide +kernel)) rfl
theorem zw_1015 : Cond.instanceMethod ({ cls := "RequestGateModel", name := "user", desc := "(III)I" } : MethodName) ∈ zz_ws := zz_in (List.mem_of_getElem? (i := 1015) (by decide +kernel)) rfl
theorem zw_1016 : Cond.selects "RequestGateModel" ({ cls := "RequestGateModel", name := "user", desc := "(III)I" } : MethodName) ({ cls := "RequestGateModel", name := "user", desc := "(III)I" } : MethodName) ∈ zz_ws := zz_in (List.mem_of_getElem? (i := 1016) (by decide +kernel)) rfl
theorem zw_1017 : Cond.code ({ cls := "RequestGateModel", name := "user", desc := "(III)I" } : MethodName) prog_14_method_23_code (4 : Nat) (Option.some FieldType.int) ∈ zz_ws := zz_in (List.mem_of_getElem? (i := 1017) (by decide +kernel)) rfl
theorem zw_1018 : Cond.methodLink "RequestGateModel" (184 : Nat) ({ cls := "RequestGateModel", name := "draw", desc := "()I" } : MethodName) ∈ zz_ws := zz_in (List.mem_of_getElem? (i := 1018) (by decide +kernel)) rfl
theorem zw_1020 : Cond.instanceMethod ({ cls := "RequestGateModel", name := "draw", desc := "()I" } : MethodName) ∈ zz_ws := zz_in (List.mem_of_getElem? (i := 1020) (by decide +kernel)) rfl
theorem zw_1021 : Cond.code ({ cls := "RequestGateModel", name := "draw", desc := "()I" } : MethodName) prog_14_method_20_code (1 : Nat) (Option.some FieldType.int) ∈ zz_ws := zz_in (List.mem_of_getElem? (i := 1021) (by decide +kernel)) rfl
theorem zw_1022 : Cond.methodLink "RequestGateModel" (188 : Nat) ({ cls := "RequestGateModel", name := "hashOf", desc := "(III)I" } : MethodName) ∈ zz_ws := zz_in (List.mem_of_getElem? (i := 1022) (by decide +kernel)) rfl
theorem zw_1023 : Cond.static ({ cls := "RequestGateModel", name := "hashOf", desc := "(III)I" } : MethodName) ∈ zz_ws := zz_in (List.mem_of_getElem? (i := 1023) (by decide +kernel)) rfl
theorem zw_1024 : Cond.code ({ cls := "RequestGateModel", name := "hashOf", desc := "(III)I" } : MethodName) prog_14_method_21_code (6 : Nat) (Option.some FieldType.int) ∈ zz_ws := zz_in (List.mem_of_getElem? (i := 1024) (by decide +kernel)) rfl
theorem zw_1025 : Cond.methodLink "RequestGateLaw" (58 : Nat) ({ cls := "RequestGateModel", name := "login", desc := "(IIIZ)I" } : MethodName) ∈ zz_ws := zz_in (List.mem_of_getElem? (i := 1025) (by decide +kernel)) rfl
theorem zw_1026 : Cond.instanceMethod ({ cls := "RequestGateModel", name := "login", desc := "(IIIZ)I" } : MethodName) ∈ zz_ws := zz_in (List.mem_of_getElem? (i := 1026) (by decide +kernel)) rfl
theorem zw_1027 : Cond.selects "RequestGateModel" ({ cls := "RequestGateModel", name := "login", desc := "(IIIZ)I" } : MethodName) ({ cls := "RequestGateModel", name := "login", desc := "(IIIZ)I" } : MethodName) ∈ zz_ws := zz_in (List.mem_of_getElem? (i := 1027) (by decide +kernel)) rfl
theorem zw_1028 : Cond.code ({ cls := "RequestGateModel", name := "login", desc := "(IIIZ)I" } : MethodName) prog_14_method_29_code (7 : Nat) (Option.some FieldType.int) ∈ zz_ws := zz_in (List.mem_of_getElem? (i := 1028) (by decide +kernel)) rfl
theorem zw_1029 : Cond.methodLink "RequestGateModel" (198 : Nat) ({ cls := "RequestGateModel", name := "isUser", desc := "(I)Z" } : MethodName) ∈ zz_ws := zz_in (List.mem_of_getElem? (i := 1029) (by decide +kernel)) rfl
theorem zw_1031 : Cond.instanceMethod ({ cls := "RequestGateModel", name := "isUser", desc := "(I)Z" } : MethodName) ∈ zz_ws := zz_in (List.mem_of_getElem? (i := 1031) (by decide +kernel)) rfl
theorem zw_1032 : Cond.code ({ cls := "RequestGateModel", name := "isUser", desc := "(I)Z" } : MethodName) prog_14_method_22_code (2 : Nat) (Option.some FieldType.boolean) ∈ zz_ws := zz_in (List.mem_of_getElem? (i := 1032) (by decide +kernel)) rfl
theorem zw_1033 : Cond.methodLink "RequestGateModel" (204 : Nat) ({ cls := "RequestGateModel", name := "sessionBy", desc := "(I)I" } : MethodName) ∈ zz_ws := zz_in (List.mem_of_getElem? (i := 1033) (by decide +kernel)) rfl
theorem zw_1035 : Cond.instanceMethod ({ cls := "RequestGateModel", name := "sessionBy", desc := "(I)I" } : MethodName) ∈ zz_ws := zz_in (List.mem_of_getElem? (i := 1035) (by decide +kernel)) rfl
theorem zw_1036 : Cond.code ({ cls := "RequestGateModel", name := "sessionBy", desc := "(I)I" } : MethodName) prog_14_method_25_code (4 : Nat) (Option.some FieldType.int) ∈ zz_ws := zz_in (List.mem_of_getElem? (i := 1036) (by decide +kernel)) rfl
theorem zw_1037 : Cond.methodLink "RequestGateModel" (195 : Nat) ({ cls := "RequestGateModel", name := "live", desc := "(I)Z" } : MethodName) ∈ zz_ws := zz_in (List.mem_of_getElem? (i := 1037) (by decide +kernel)) rfl
theorem zw_1039 : Cond.instanceMethod ({ cls := "RequestGateModel", name := "live", desc := "(I)Z" } : MethodName) ∈ zz_ws := zz_in (List.mem_of_getElem? (i := 1039) (by decide +kernel)) rfl
theorem zw_1040 : Cond.code ({ cls := "RequestGateModel", name := "live", desc := "(I)Z" } : MethodName) prog_14_method_24_code (2 : Nat) (Option.some FieldType.boolean) ∈ zz_ws := zz_in (List.mem_of_getElem? (i := 1040) (by decide +kernel)) rfl
theorem zw_1041 : Cond.methodLink "RequestGateModel" (207 : Nat) ({ cls := "RequestGateModel", name := "makeSession", desc := "(IZ)I" } : MethodName) ∈ zz_ws := zz_in (List.mem_of_getElem? (i := 1041) (by decide +kernel)) rfl
theorem zw_1043 : Cond.instanceMethod ({ cls := "RequestGateModel", name := "makeSession", desc := "(IZ)I" } : MethodName) ∈ zz_ws := zz_in (List.mem_of_getElem? (i := 1043) (by decide +kernel)) rfl
theorem zw_1044 : Cond.code ({ cls := "RequestGateModel", name := "makeSession", desc := "(IZ)I" } : MethodName) prog_14_method_27_code (7 : Nat) (Option.some FieldType.int) ∈ zz_ws := zz_in (List.mem_of_getElem? (i := 1044) (by decide +kernel)) rfl
theorem zw_1045 : Cond.methodLink "RequestGateModel" (211 : Nat) ({ cls := "RequestGateModel", name := "makeSeries", desc := "(I)V" } : MethodName) ∈ zz_ws := zz_in (List.mem_of_getElem? (i := 1045) (by decide +kernel)) rfl
theorem zw_1047 : Cond.instanceMethod ({ cls := "RequestGateModel", name := "makeSeries", desc := "(I)V" } : MethodName) ∈ zz_ws := zz_in (List.mem_of_getElem? (i := 1047) (by decide +kernel)) rfl
theorem zw_1048 : Cond.code ({ cls := "RequestGateModel", name := "makeSeries", desc := "(I)V" } : MethodName) prog_14_method_28_code (5 : Nat) (none : Option FieldType) ∈ zz_ws := zz_in (List.mem_of_getElem? (i := 1048) (by decide +kernel)) rfl
theorem zw_1049 : Cond.methodLink "RequestGateLaw" (62 : Nat) ({ cls := "RequestGateModel", name := "logout", desc := "(I)Z" } : MethodName) ∈ zz_ws := zz_in (List.mem_of_getElem? (i := 1049) (by decide +kernel)) rfl
theorem zw_1050 : Cond.instanceMethod ({ cls := "RequestGateModel", name := "logout", desc := "(I)Z" } : MethodName) ∈ zz_ws := zz_in (List.mem_of_getElem? (i := 1050) (by decide +kernel)) rfl
theorem zw_1051 : Cond.selects "RequestGateModel" ({ cls := "RequestGateModel", name := "logout", desc := "(I)Z" } : MethodName) ({ cls := "RequestGateModel", name := "logout", desc := "(I)Z" } : MethodName) ∈ zz_ws := zz_in (List.mem_of_getElem? (i := 1051) (by decide +kernel)) rfl
theorem zw_1052 : Cond.code ({ cls := "RequestGateModel", name := "logout", desc := "(I)Z" } : MethodName) prog_14_method_31_code (3 : Nat) (Option.some FieldType.boolean) ∈ zz_ws := zz_in (List.mem_of_getElem? (i := 1052) (by decide +kernel)) rfl
theorem zw_1053 : Cond.methodLink "RequestGateModel" (215 : Nat) ({ cls := "RequestGateModel", name := "endSeries", desc := "(I)V" } : MethodName) ∈ zz_ws := zz_in (List.mem_of_getElem? (i := 1053) (by decide +kernel)) rfl
theorem zw_1055 : Cond.instanceMethod ({ cls := "RequestGateModel", name := "endSeries", desc := "(I)V" } : MethodName) ∈ zz_ws := zz_in (List.mem_of_getElem? (i := 1055) (by decide +kernel)) rfl
theorem zw_1056 : Cond.code ({ cls := "RequestGateModel", name := "endSeries", desc := "(I)V" } : MethodName) prog_14_method_30_code (2 : Nat) (none : Option FieldType) ∈ zz_ws := zz_in (List.mem_of_getElem? (i := 1056) (by decide +kernel)) rfl
theorem zw_1057 : Cond.methodLink "RequestGateLaw" (53 : Nat) ({ cls := "RequestGateModel", name := "tick", desc := "(I)Z" } : MethodName) ∈ zz_ws := zz_in (List.mem_of_getElem? (i := 1057) (by decide +kernel)) rfl
theorem zw_1058 : Cond.instanceMethod ({ cls := "RequestGateModel", name := "tick", desc := "(I)Z" } : MethodName) ∈ zz_ws := zz_in (List.mem_of_getElem? (i := 1058) (by decide +kernel)) rfl
theorem zw_1059 : Cond.selects "RequestGateModel" ({ cls := "RequestGateModel", name := "tick", desc := "(I)Z" } : MethodName) ({ cls := "RequestGateModel", name := "tick", desc := "(I)Z" } : MethodName) ∈ zz_ws := zz_in (List.mem_of_getElem? (i := 1059) (by decide +kernel)) rfl
theorem zw_1060 : Cond.code ({ cls := "RequestGateModel", name := "tick", desc := "(I)Z" } : MethodName) prog_14_method_32_code (2 : Nat) (Option.some FieldType.boolean) ∈ zz_ws := zz_in (List.mem_of_getElem? (i := 1060) (by decide +kernel)) rfl
theorem zw_1061 : Cond.methodLink "RequestGateLaw" (44 : Nat) ({ cls := "RequestGateModel", name := "service", desc := "(III)I" } : MethodName) ∈ zz_ws := zz_in (List.mem_of_getElem? (i := 1061) (by decide +kernel)) rfl
theorem zw_1062 : Cond.instanceMethod ({ cls := "RequestGateModel", name := "service", desc := "(III)I" } : MethodName) ∈ zz_ws := zz_in (List.mem_of_getElem? (i := 1062) (by decide +kernel)) rfl
theorem zw_1063 : Cond.selects "RequestGateModel" ({ cls := "RequestGateModel", name := "service", desc := "(III)I" } : MethodName) ({ cls := "RequestGateModel", name := "service", desc := "(III)I" } : MethodName) ∈ zz_ws := zz_in (List.mem_of_getElem? (i := 1063) (by decide +kernel)) rfl
theorem zw_1064 : Cond.code ({ cls := "RequestGateModel", name := "service", desc := "(III)I" } : MethodName) prog_14_method_34_code (4 : Nat) (Option.some FieldType.int) ∈ zz_ws := zz_in (List.mem_of_getElem? (i := 1064) (by decide +kernel)) rfl
theorem zw_1065 : Cond.methodLink "RequestGateModel" (221 : Nat) ({ cls := "RequestGateModel", name := "mayBe", desc := "(II)Z" } : MethodName) ∈ zz_ws := zz_in (List.mem_of_getElem? (i := 1065) (by decide +kernel)) rfl
theorem zw_1067 : Cond.instanceMethod ({ cls := "RequestGateModel", name := "mayBe", desc := "(II)Z" } : MethodName) ∈ zz_ws := zz_in (List.mem_of_getElem? (i := 1067) (by decide +kernel)) rfl
theorem zw_1068 : Cond.code ({ cls := "RequestGateModel", name := "mayBe", desc := "(II)Z" } : MethodName) prog_14_method_33_code (3 : Nat) (Option.some FieldType.boolean) ∈ zz_ws := zz_in (List.mem_of_getElem? (i := 1068) (by decide +kernel)) rfl
theorem zw_1069 : Cond.methodLink "RequestGateLaw" (49 : Nat) ({ cls := "RequestGateModel", name := "declare", desc := "(III)Z" } : MethodName) ∈ zz_ws := zz_in (List.mem_of_getElem? (i := 1069) (by decide +kernel)) rfl
theorem zw_1070 : Cond.instanceMethod ({ cls := "RequestGateModel", name := "declare", desc := "(III)Z" } : MethodName) ∈ zz_ws := zz_in (List.mem_of_getElem? (i := 1070) (by decide +kernel)) rfl
theorem zw_1071 : Cond.selects "RequestGateModel" ({ cls := "RequestGateModel", name := "declare", desc := "(III)Z" } : MethodName) ({ cls := "RequestGateModel", name := "declare", desc := "(III)Z" } : MethodName) ∈ zz_ws := zz_in (List.mem_of_getElem? (i := 1071) (by decide +kernel)) rfl
theorem zw_1072 : Cond.code ({ cls := "RequestGateModel", name := "declare", desc := "(III)Z" } : MethodName) prog_14_method_35_code (5 : Nat) (Option.some FieldType.boolean) ∈ zz_ws := zz_in (List.mem_of_getElem? (i := 1072) (by decide +kernel)) rfl
theorem zw_1073 : Cond.methodLink "RequestGateLaw" (71 : Nat) ({ cls := "RequestGateModel", name := "call", desc := "(III)I" } : MethodName) ∈ zz_ws := zz_in (List.mem_of_getElem? (i := 1073) (by decide +kernel)) rfl
theorem zw_1074 : Cond.instanceMethod ({ cls := "RequestGateModel", name := "call", desc := "(III)I" } : MethodName) ∈ zz_ws := zz_in (List.mem_of_getElem? (i := 1074) (by decide +kernel)) rfl
theorem zw_1075 : Cond.selects "RequestGateModel" ({ cls := "RequestGateModel", name := "call", desc := "(III)I" } : MethodName) ({ cls := "RequestGateModel", name := "call", desc := "(III)I" } : MethodName) ∈ zz_ws := zz_in (List.mem_of_getElem? (i := 1075) (by decide +kernel)) rfl
theorem zw_1076 : Cond.code ({ cls := "RequestGateModel", name := "call", desc := "(III)I" } : MethodName) prog_14_method_37_code (7 : Nat) (Option.some FieldType.int) ∈ zz_ws := zz_in (List.mem_of_getElem? (i := 1076) (by decide +kernel)) rfl
theorem zw_1077 : Cond.methodLink "RequestGateModel" (224 : Nat) ({ cls := "RequestGateModel", name := "guard", desc := "(III)I" } : MethodName) ∈ zz_ws := zz_in (List.mem_of_getElem? (i := 1077) (by decide +kernel)) rfl
theorem zw_1079 : Cond.instanceMethod ({ cls := "RequestGateModel", name := "guard", desc := "(III)I" } : MethodName) ∈ zz_ws := zz_in (List.mem_of_getElem? (i := 1079) (by decide +kernel)) rfl
theorem zw_1080 : Cond.code ({ cls := "RequestGateModel", name := "guard", desc := "(III)I" } : MethodName) prog_14_method_36_code (8 : Nat) (Option.some FieldType.int) ∈ zz_ws := zz_in (List.mem_of_getElem? (i := 1080) (by decide +kernel)) rfl
theorem zw_1081 : Cond.methodLink "RequestGateModel" (231 : Nat) ({ cls := "RequestGateModel", name := "valueOf", desc := "(IIZI)I" } : MethodName) ∈ zz_ws := zz_in (List.mem_of_getElem? (i := 1081) (by decide +kernel)) rfl
theorem zw_1083 : Cond.instanceMethod ({ cls := "RequestGateModel", name := "valueOf", desc := "(IIZI)I" } : MethodName) ∈ zz_ws := zz_in (List.mem_of_getElem? (i := 1083) (by decide +kernel)) rfl
theorem zw_1084 : Cond.code ({ cls := "RequestGateModel", name := "valueOf", desc := "(IIZI)I" } : MethodName) prog_14_method_18_code (9 : Nat) (Option.some FieldType.int) ∈ zz_ws := zz_in (List.mem_of_getElem? (i := 1084) (by decide +kernel)) rfl
theorem zw_1085 : Cond.methodLink "RequestGateModel" (167 : Nat) ({ cls := "RequestGateModel", name := "simple", desc := "(IIZI)I" } : MethodName) ∈ zz_ws := zz_in (List.mem_of_getElem? (i := 1085) (by decide +kernel)) rfl
theorem zw_1087 : Cond.instanceMethod ({ cls := "RequestGateModel", name := "simple", desc := "(IIZI)I" } : MethodName) ∈ zz_ws := zz_in (List.mem_of_getElem? (i := 1087) (by decide +kernel)) rfl
theorem zw_1088 : Cond.code ({ cls := "RequestGateModel", name := "simple", desc := "(IIZI)I" } : MethodName) prog_14_method_17_code (5 : Nat) (Option.some FieldType.int) ∈ zz_ws := zz_in (List.mem_of_getElem? (i := 1088) (by decide +kernel)) rfl
theorem zw_1089 : Cond.methodLink "RequestGateModel" (163 : Nat) ({ cls := "RequestGateModel", name := "truth", desc := "(Z)I" } : MethodName) ∈ zz_ws := zz_in (List.mem_of_getElem? (i := 1089) (by decide +kernel)) rfl
theorem zw_1090 : Cond.static ({ cls := "RequestGateModel", name := "truth", desc := "(Z)I" } : MethodName) ∈ zz_ws := zz_in (List.mem_of_getElem? (i := 1090) (by decide +kernel)) rfl
theorem zw_1091 : Cond.code ({ cls := "RequestGateModel", name := "truth", desc := "(Z)I" } : MethodName) prog_14_method_16_code (1 : Nat) (Option.some FieldType.int) ∈ zz_ws := zz_in (List.mem_of_getElem? (i := 1091) (by decide +kernel)) rfl
theorem zw_1092 : Cond.methodLink "RequestGateLaw" (67 : Nat) ({ cls := "RequestGateModel", name := "open", desc := "(IIIII)I" } : MethodName) ∈ zz_ws := zz_in (List.mem_of_getElem? (i := 1092) (by decide +kernel)) rfl
theorem zw_1093 : Cond.instanceMethod ({ cls := "RequestGateModel", name := "open", desc := "(IIIII)I" } : MethodName) ∈ zz_ws := zz_in (List.mem_of_getElem? (i := 1093) (by decide +kernel)) rfl
theorem zw_1094 : Cond.selects "RequestGateModel" ({ cls := "RequestGateModel", name := "open", desc := "(IIIII)I" } : MethodName) ({ cls := "RequestGateModel", name := "open", desc := "(IIIII)I" } : MethodName) ∈ zz_ws := zz_in (List.mem_of_getElem? (i := 1094) (by decide +kernel)) rfl
theorem zw_1095 : Cond.code ({ cls := "RequestGateModel", name := "open", desc := "(IIIII)I" } : MethodName) prog_14_method_39_code (9 : Nat) (Option.some FieldType.int) ∈ zz_ws := zz_in (List.mem_of_getElem? (i := 1095) (by decide +kernel)) rfl
theorem zw_1096 : Cond.methodLink "RequestGateModel" (255 : Nat) ({ cls := "RequestGateModel", name := "read", desc := "()Z" } : MethodName) ∈ zz_ws := zz_in (List.mem_of_getElem? (i := 1096) (by decide +kernel)) rfl
theorem zw_1098 : Cond.instanceMethod ({ cls := "RequestGateModel", name := "read", desc := "()Z" } : MethodName) ∈ zz_ws := zz_in (List.mem_of_getElem? (i := 1098) (by decide +kernel)) rfl
theorem zw_1099 : Cond.code ({ cls := "RequestGateModel", name := "read", desc := "()Z" } : MethodName) prog_14_method_6_code (10 : Nat) (Option.some FieldType.boolean) ∈ zz_ws := zz_in (List.mem_of_getElem? (i := 1099) (by decide +kernel)) rfl
theorem zw_1100 : Cond.methodLink "RequestGateModel" (132 : Nat) ({ cls := "RequestGateModel", name := "digit", desc := "(I)I" } : MethodName) ∈ zz_ws := zz_in (List.mem_of_getElem? (i := 1100) (by decide +kernel)) rfl
theorem zw_1101 : Cond.static ({ cls := "RequestGateModel", name := "digit", desc := "(I)I" } : MethodName) ∈ zz_ws := zz_in (List.mem_of_getElem? (i := 1101) (by decide +kernel)) rfl
theorem zw_1102 : Cond.code ({ cls := "RequestGateModel", name := "digit", desc := "(I)I" } : MethodName) prog_14_method_4_code (1 : Nat) (Option.some FieldType.int) ∈ zz_ws := zz_in (List.mem_of_getElem? (i := 1102) (by decide +kernel)) rfl
theorem zw_1103 : Cond.methodLink "RequestGateModel" (140 : Nat) ({ cls := "RequestGateModel", name := "settle", desc := "(I)Z" } : MethodName) ∈ zz_ws := zz_in (List.mem_of_getElem? (i := 1103) (by decide +kernel)) rfl
theorem zw_1105 : Cond.instanceMethod ({ cls := "RequestGateModel", name := "settle", desc := "(I)Z" } : MethodName) ∈ zz_ws := zz_in (List.mem_of_getElem? (i := 1105) (by decide +kernel)) rfl
theorem zw_1106 : Cond.code ({ cls := "RequestGateModel", name := "settle", desc := "(I)Z" } : MethodName) prog_14_method_8_code (4 : Nat) (Option.some FieldType.boolean) ∈ zz_ws := zz_in (List.mem_of_getElem? (i := 1106) (by decide +kernel)) rfl
theorem zw_1107 : Cond.methodLink "RequestGateModel" (146 : Nat) ({ cls := "RequestGateModel", name := "dots", desc := "(II)Z" } : MethodName) ∈ zz_ws := zz_in (List.mem_of_getElem? (i := 1107) (by decide +kernel)) rfl
theorem zw_1109 : Cond.instanceMethod ({ cls := "RequestGateModel", name := "dots", desc := "(II)Z" } : MethodName) ∈ zz_ws := zz_in (List.mem_of_getElem? (i := 1109) (by decide +kernel)) rfl
theorem zw_1110 : Cond.code ({ cls := "RequestGateModel", name := "dots", desc := "(II)Z" } : MethodName) prog_14_method_7_code (5 : Nat) (Option.some FieldType.boolean) ∈ zz_ws := zz_in (List.mem_of_getElem? (i := 1110) (by decide +kernel)) rfl
theorem zw_1111 : Cond.methodLink "RequestGateModel" (258 : Nat) ({ cls := "RequestGateModel", name := "ask", desc := "(III)I" } : MethodName) ∈ zz_ws := zz_in (List.mem_of_getElem? (i := 1111) (by decide +kernel)) rfl
theorem zw_1113 : Cond.instanceMethod ({ cls := "RequestGateModel", name := "ask", desc := "(III)I" } : MethodName) ∈ zz_ws := zz_in (List.mem_of_getElem? (i := 1113) (by decide +kernel)) rfl
theorem zw_1114 : Cond.code ({ cls := "RequestGateModel", name := "ask", desc := "(III)I" } : MethodName) prog_14_method_38_code (6 : Nat) (Option.some FieldType.int) ∈ zz_ws := zz_in (List.mem_of_getElem? (i := 1114) (by decide +kernel)) rfl
theorem zw_1115 : Cond.methodLink "RequestGateModel" (246 : Nat) ({ cls := "RequestGateModel", name := "seriesBy", desc := "(I)I" } : MethodName) ∈ zz_ws := zz_in (List.mem_of_getElem? (i := 1115) (by decide +kernel)) rfl
theorem zw_1117 : Cond.instanceMethod ({ cls := "RequestGateModel", name := "seriesBy", desc := "(I)I" } : MethodName) ∈ zz_ws := zz_in (List.mem_of_getElem? (i := 1117) (by decide +kernel)) rfl
theorem zw_1118 : Cond.code ({ cls := "RequestGateModel", name := "seriesBy", desc := "(I)I" } : MethodName) prog_14_method_26_code (4 : Nat) (Option.some FieldType.int) ∈ zz_ws := zz_in (List.mem_of_getElem? (i := 1118) (by decide +kernel)) rfl
theorem zw_1119 : Cond.methodLink "RequestGateModel" (261 : Nat) ({ cls := "RequestGateModel", name := "ruleFits", desc := "(I)Z" } : MethodName) ∈ zz_ws := zz_in (List.mem_of_getElem? (i := 1119) (by decide +kernel)) rfl
theorem zw_1121 : Cond.instanceMethod ({ cls := "RequestGateModel", name := "ruleFits", desc := "(I)Z" } : MethodName) ∈ zz_ws := zz_in (List.mem_of_getElem? (i := 1121) (by decide +kernel)) rfl
theorem zw_1122 : Cond.code ({ cls := "RequestGateModel", name := "ruleFits", desc := "(I)Z" } : MethodName) prog_14_method_11_code (8 : Nat) (Option.some FieldType.boolean) ∈ zz_ws := zz_in (List.mem_of_getElem? (i := 1122) (by decide +kernel)) rfl
theorem zw_1123 : Cond.methodLink "RequestGateModel" (150 : Nat) ({ cls := "RequestGateModel", name := "pieceFits", desc := "(III)Z" } : MethodName) ∈ zz_ws := zz_in (List.mem_of_getElem? (i := 1123) (by decide +kernel)) rfl
theorem zw_1125 : Cond.instanceMethod ({ cls := "RequestGateModel", name := "pieceFits", desc := "(III)Z" } : MethodName) ∈ zz_ws := zz_in (List.mem_of_getElem? (i := 1125) (by decide +kernel)) rfl
theorem zw_1126 : Cond.code ({ cls := "RequestGateModel", name := "pieceFits", desc := "(III)Z" } : MethodName) prog_14_method_10_code (9 : Nat) (Option.some FieldType.boolean) ∈ zz_ws := zz_in (List.mem_of_getElem? (i := 1126) (by decide +kernel)) rfl
theorem zw_1127 : Cond.methodLink "RequestGateLaw" (76 : Nat) ({ cls := "RequestGateModel", name := "close", desc := "()Z" } : MethodName) ∈ zz_ws := zz_in (List.mem_of_getElem? (i := 1127) (by decide +kernel)) rfl
theorem zw_1128 : Cond.instanceMethod ({ cls := "RequestGateModel", name := "close", desc := "()Z" } : MethodName) ∈ zz_ws := zz_in (List.mem_of_getElem? (i := 1128) (by decide +kernel)) rfl
theorem zw_1129 : Cond.selects "RequestGateModel" ({ cls := "RequestGateModel", name := "close", desc := "()Z" } : MethodName) ({ cls := "RequestGateModel", name := "close", desc := "()Z" } : MethodName) ∈ zz_ws := zz_in (List.mem_of_getElem? (i := 1129) (by decide +kernel)) rfl
theorem zw_1130 : Cond.code ({ cls := "RequestGateModel", name := "close", desc := "()Z" } : MethodName) prog_14_method_40_code (2 : Nat) (Option.some FieldType.boolean) ∈ zz_ws := zz_in (List.mem_of_getElem? (i := 1130) (by decide +kernel)) rfl
theorem zw_1131 : Cond.methodLink "RequestGateLaw" (81 : Nat) ({ cls := "RequestGateModel", name := "who", desc := "()I" } : MethodName) ∈ zz_ws := zz_in (List.mem_of_getElem? (i := 1131) (by decide +kernel)) rfl
theorem zw_1132 : Cond.instanceMethod ({ cls := "RequestGateModel", name := "who", desc := "()I" } : MethodName) ∈ zz_ws := zz_in (List.mem_of_getElem? (i := 1132) (by decide +kernel)) rfl
theorem zw_1133 : Cond.selects "RequestGateModel" ({ cls := "RequestGateModel", name := "who", desc := "()I" } : MethodName) ({ cls := "RequestGateModel", name := "who", desc := "()I" } : MethodName) ∈ zz_ws := zz_in (List.mem_of_getElem? (i := 1133) (by decide +kernel)) rfl
theorem zw_1134 : Cond.code ({ cls := "RequestGateModel", name := "who", desc := "()I" } : MethodName) prog_14_method_41_code (1 : Nat) (Option.some FieldType.int) ∈ zz_ws := zz_in (List.mem_of_getElem? (i := 1134) (by decide +kernel)) rfl
theorem zw_1135 : Cond.methodLink "RequestGateLaw" (86 : Nat) ({ cls := "RequestGateModel", name := "fits", desc := "(I)I" } : MethodName) ∈ zz_ws := zz_in (List.mem_of_getElem? (i := 1135) (by decide +kernel)) rfl
theorem zw_1136 : Cond.instanceMethod ({ cls := "RequestGateModel", name := "fits", desc := "(I)I" } : MethodName) ∈ zz_ws := zz_in (List.mem_of_getElem? (i := 1136) (by decide +kernel)) rfl
theorem zw_1137 : Cond.selects "RequestGateModel" ({ cls := "RequestGateModel", name := "fits", desc := "(I)I" } : MethodName) ({ cls := "RequestGateModel", name := "fits", desc := "(I)I" } : MethodName) ∈ zz_ws := zz_in (List.mem_of_getElem? (i := 1137) (by decide +kernel)) rfl
theorem zw_1138 : Cond.code ({ cls := "RequestGateModel", name := "fits", desc := "(I)I" } : MethodName) prog_14_method_42_code (2 : Nat) (Option.some FieldType.int) ∈ zz_ws := zz_in (List.mem_of_getElem? (i := 1138) (by decide +kernel)) rfl
theorem zw_1139 : Cond.methodLink "RequestGateLaw" (90 : Nat) ({ cls := "RequestGateModel", name := "session", desc := "(III)I" } : MethodName) ∈ zz_ws := zz_in (List.mem_of_getElem? (i := 1139) (by decide +kernel)) rfl
theorem zw_1140 : Cond.instanceMethod ({ cls := "RequestGateModel", name := "session", desc := "(III)I" } : MethodName) ∈ zz_ws := zz_in (List.mem_of_getElem? (i := 1140) (by decide +kernel)) rfl
theorem zw_1141 : Cond.selects "RequestGateModel" ({ cls := "RequestGateModel", name := "session", desc := "(III)I" } : MethodName) ({ cls := "RequestGateModel", name := "session", desc := "(III)I" } : MethodName) ∈ zz_ws := zz_in (List.mem_of_getElem? (i := 1141) (by decide +kernel)) rfl
theorem zw_1142 : Cond.code ({ cls := "RequestGateModel", name := "session", desc := "(III)I" } : MethodName) prog_14_method_43_code (9 : Nat) (Option.some FieldType.int) ∈ zz_ws := zz_in (List.mem_of_getElem? (i := 1142) (by decide +kernel)) rfl
theorem zw_1143 : Cond.methodLink "RequestGateLaw" (94 : Nat) ({ cls := "RequestGateModel", name := "series", desc := "(III)I" } : MethodName) ∈ zz_ws := zz_in (List.mem_of_getElem? (i := 1143) (by decide +kernel)) rfl
theorem zw_1144 : Cond.instanceMethod ({ cls := "RequestGateModel", name := "series", desc := "(III)I" } : MethodName) ∈ zz_ws := zz_in (List.mem_of_getElem? (i := 1144) (by decide +kernel)) rfl
theorem zw_1145 : Cond.selects "RequestGateModel" ({ cls := "RequestGateModel", name := "series", desc := "(III)I" } : MethodName) ({ cls := "RequestGateModel", name := "series", desc := "(III)I" } : MethodName) ∈ zz_ws := zz_in (List.mem_of_getElem? (i := 1145) (by decide +kernel)) rfl
theorem zw_1146 : Cond.code ({ cls := "RequestGateModel", name := "series", desc := "(III)I" } : MethodName) prog_14_method_44_code (9 : Nat) (Option.some FieldType.int) ∈ zz_ws := zz_in (List.mem_of_getElem? (i := 1146) (by decide +kernel)) rfl
theorem zw_1147 : Cond.methodLink "RequestGateLaw" (98 : Nat) ({ cls := "RequestGateModel", name := "hash", desc := "(I)I" } : MethodName) ∈ zz_ws := zz_in (List.mem_of_getElem? (i := 1147) (by decide +kernel)) rfl
theorem zw_1148 : Cond.instanceMethod ({ cls := "RequestGateModel", name := "hash", desc := "(I)I" } : MethodName) ∈ zz_ws := zz_in (List.mem_of_getElem? (i := 1148) (by decide +kernel)) rfl
theorem zw_1149 : Cond.selects "RequestGateModel" ({ cls := "RequestGateModel", name := "hash", desc := "(I)I" } : MethodName) ({ cls := "RequestGateModel", name := "hash", desc := "(I)I" } : MethodName) ∈ zz_ws := zz_in (List.mem_of_getElem? (i := 1149) (by decide +kernel)) rfl
theorem zw_1150 : Cond.code ({ cls := "RequestGateModel", name := "hash", desc := "(I)I" } : MethodName) prog_14_method_45_code (2 : Nat) (Option.some FieldType.int) ∈ zz_ws := zz_in (List.mem_of_getElem? (i := 1150) (by decide +kernel)) rfl
theorem zw_1151 : Cond.methodLink "RequestGateLaw" (102 : Nat) ({ cls := "RequestGateModel", name := "count", desc := "(I)I" } : MethodName) ∈ zz_ws := zz_in (List.mem_of_getElem? (i := 1151) (by decide +kernel)) rfl
theorem zw_1152 : Cond.instanceMethod ({ cls := "RequestGateModel", name := "count", desc := "(I)I" } : MethodName) ∈ zz_ws := zz_in (List.mem_of_getElem? (i := 1152) (by decide +kernel)) rfl
theorem zw_1153 : Cond.selects "RequestGateModel" ({ cls := "RequestGateModel", name := "count", desc := "(I)I" } : MethodName) ({ cls := "RequestGateModel", name := "count", desc := "(I)I" } : MethodName) ∈ zz_ws := zz_in (List.mem_of_getElem? (i := 1153) (by decide +kernel)) rfl
theorem zw_1154 : Cond.code ({ cls := "RequestGateModel", name := "count", desc := "(I)I" } : MethodName) prog_14_method_46_code (2 : Nat) (Option.some FieldType.int) ∈ zz_ws := zz_in (List.mem_of_getElem? (i := 1154) (by decide +kernel)) rfl
theorem zw_1160 : Cond.selects "[Ljava/lang/Object;" ({ cls := "java/lang/Object", name := "getClass", desc := "()Ljava/lang/Class;" } : MethodName) ({ cls := "java/lang/Object", name := "getClass", desc := "()Ljava/lang/Class;" } : MethodName) ∈ zz_ws := zz_in (List.mem_of_getElem? (i := 1160) (by decide +kernel)) rfl
