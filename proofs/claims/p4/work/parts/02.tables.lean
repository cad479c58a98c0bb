def mm_T0 : u_T := fun k => match k with
  | 0 => ("LispForge", "text", "LLispForge$Bytes;", true)
  | 1 => ("LispForge", "reader", "LLispForge$Reader;", true)
  | 2 => ("LispForge", "shelf", "LLispForge$Shelf;", true)
  | 3 => ("LispForge", "compiler", "LLispForge$Compiler;", true)
  | 4 => ("LispForge", "linker", "LLispForge$Linker;", true)
  | 5 => ("LispForge", "machine", "LLispForge$Machine;", true)
  | 6 => ("LispForge", "errorPosition", "I", false)
  | _ => ("LispForge", "linkFailure", "I", false)
def mm_T1 : u_T := fun k => match k with
  | 0 => ("LispForge$Bytes", "row", "[I", true)
  | _ => ("LispForge$Bytes", "length", "I", false)
def mm_T2 : u_T := fun k => match k with
  | 0 => ("LispForge$Compiler", "shelf", "LLispForge$Shelf;", true)
  | 1 => ("LispForge$Compiler", "code", "LLispForge$Bytes;", true)
  | 2 => ("LispForge$Compiler", "file", "LLispForge$Bytes;", true)
  | 3 => ("LispForge$Compiler", "fixPlaces", "[I", true)
  | 4 => ("LispForge$Compiler", "fixNames", "[I", true)
  | 5 => ("LispForge$Compiler", "fixCount", "I", false)
  | 6 => ("LispForge$Compiler", "boundNames", "[I", true)
  | 7 => ("LispForge$Compiler", "boundSlots", "[I", true)
  | 8 => ("LispForge$Compiler", "boundCount", "I", false)
  | 9 => ("LispForge$Compiler", "replacedCount", "I", false)
  | 10 => ("LispForge$Compiler", "seen", "LLispForge$Form;", false)
  | _ => ("LispForge$Compiler", "seenWithin", "LLispForge$Replacement;", false)
def mm_T3 : u_T := fun k => match k with
  | 0 => ("LispForge$Form", "kind", "I", false)
  | 1 => ("LispForge$Form", "value", "I", false)
  | 2 => ("LispForge$Form", "size", "I", false)
  | 3 => ("LispForge$Form", "first", "LLispForge$Form;", false)
  | 4 => ("LispForge$Form", "last", "LLispForge$Form;", false)
  | _ => ("LispForge$Form", "next", "LLispForge$Form;", false)
def mm_T4 : u_T := fun k => match k with
  | 0 => ("LispForge$Linker", "shelf", "LLispForge$Shelf;", true)
  | 1 => ("LispForge$Linker", "order", "[LLispForge$Unit;", true)
  | 2 => ("LispForge$Linker", "beginnings", "[I", true)
  | 3 => ("LispForge$Linker", "count", "I", false)
  | _ => ("LispForge$Linker", "length", "I", false)
def mm_T5 : u_T := fun k => match k with
  | 0 => ("LispForge$Machine", "program", "LLispForge$Bytes;", true)
  | 1 => ("LispForge$Machine", "numbers", "[I", true)
  | 2 => ("LispForge$Machine", "size", "I", false)
  | 3 => ("LispForge$Machine", "callerFrames", "[I", true)
  | 4 => ("LispForge$Machine", "callerPlaces", "[I", true)
  | 5 => ("LispForge$Machine", "calls", "I", false)
  | 6 => ("LispForge$Machine", "state", "I", false)
  | 7 => ("LispForge$Machine", "place", "I", false)
  | 8 => ("LispForge$Machine", "frame", "I", false)
  | _ => ("LispForge$Machine", "steps", "I", false)
def mm_T6 : u_T := fun k => match k with
  | 0 => ("LispForge$Reader", "open", "[LLispForge$Form;", true)
  | 1 => ("LispForge$Reader", "depth", "I", false)
  | 2 => ("LispForge$Reader", "whole", "LLispForge$Form;", false)
  | 3 => ("LispForge$Reader", "atom", "LLispForge$Form;", false)
  | 4 => ("LispForge$Reader", "atomLength", "I", false)
  | 5 => ("LispForge$Reader", "isNegative", "Z", false)
  | _ => ("LispForge$Reader", "errorPosition", "I", false)
def mm_T7 : u_T := fun k => match k with
  | 0 => ("LispForge$Replacement", "macro", "LLispForge$Unit;", true)
  | 1 => ("LispForge$Replacement", "firstArgument", "LLispForge$Form;", true)
  | _ => ("LispForge$Replacement", "around", "LLispForge$Replacement;", true)
def mm_T8 : u_T := fun k => match k with
  | 0 => ("LispForge$Shelf", "units", "[LLispForge$Unit;", true)
  | _ => ("LispForge$Shelf", "count", "I", false)
def mm_T9 : u_T := fun k => match k with
  | 0 => ("LispForge$Unit", "kind", "I", true)
  | 1 => ("LispForge$Unit", "name", "I", true)
  | 2 => ("LispForge$Unit", "parameters", "[I", true)
  | 3 => ("LispForge$Unit", "body", "LLispForge$Form;", true)
  | 4 => ("LispForge$Unit", "code", "LLispForge$Bytes;", false)
  | 5 => ("LispForge$Unit", "file", "LLispForge$Bytes;", false)
  | 6 => ("LispForge$Unit", "fixPlaces", "[I", false)
  | _ => ("LispForge$Unit", "fixNames", "[I", false)
def mm_T10 : u_T := fun k => match k with
  | 0 => ("LispForgeModel", "thrown", "I", false)
  | 1 => ("LispForgeModel", "typed", "I", false)
  | 2 => ("LispForgeModel", "units", "I", false)
  | 3 => ("LispForgeModel", "position", "I", false)
  | 4 => ("LispForgeModel", "failure", "I", false)
  | 5 => ("LispForgeModel", "text", "[C", true)
  | 6 => ("LispForgeModel", "sort", "[I", true)
  | 7 => ("LispForgeModel", "named", "[I", true)
  | 8 => ("LispForgeModel", "parameters", "[I", true)
  | 9 => ("LispForgeModel", "sizes", "[I", true)
  | 10 => ("LispForgeModel", "codes", "[B", true)
  | 11 => ("LispForgeModel", "fixes", "[I", true)
  | 12 => ("LispForgeModel", "fixAt", "[I", true)
  | 13 => ("LispForgeModel", "fixName", "[I", true)
  | 14 => ("LispForgeModel", "wanted", "[I", true)
  | 15 => ("LispForgeModel", "kept", "[C", true)
  | 16 => ("LispForgeModel", "long0", "[I", true)
  | 17 => ("LispForgeModel", "forms", "I", false)
  | 18 => ("LispForgeModel", "cells", "I", false)
  | 19 => ("LispForgeModel", "kind", "[I", true)
  | 20 => ("LispForgeModel", "value", "[I", true)
  | 21 => ("LispForgeModel", "held", "[I", true)
  | 22 => ("LispForgeModel", "next", "[I", true)
  | 23 => ("LispForgeModel", "p", "I", false)
  | 24 => ("LispForgeModel", "wrong", "I", false)
  | 25 => ("LispForgeModel", "open", "I", false)
  | 26 => ("LispForgeModel", "list", "[I", true)
  | 27 => ("LispForgeModel", "lastCell", "[I", true)
  | 28 => ("LispForgeModel", "bad", "Z", false)
  | 29 => ("LispForgeModel", "tasks", "I", false)
  | 30 => ("LispForgeModel", "size", "I", false)
  | 31 => ("LispForgeModel", "deep", "I", false)
  | 32 => ("LispForgeModel", "names", "I", false)
  | 33 => ("LispForgeModel", "replaced", "I", false)
  | 34 => ("LispForgeModel", "marks", "I", false)
  | 35 => ("LispForgeModel", "task", "[I", true)
  | 36 => ("LispForgeModel", "first", "[I", true)
  | 37 => ("LispForgeModel", "second", "[I", true)
  | 38 => ("LispForgeModel", "code", "[B", true)
  | 39 => ("LispForgeModel", "symbol", "[I", true)
  | 40 => ("LispForgeModel", "slot", "[I", true)
  | 41 => ("LispForgeModel", "markAt", "[I", true)
  | 42 => ("LispForgeModel", "markName", "[I", true)
  | 43 => ("LispForgeModel", "linked", "I", false)
  | 44 => ("LispForgeModel", "order", "[I", true)
  | 45 => ("LispForgeModel", "begins", "[I", true)
  | 46 => ("LispForgeModel", "imageSize", "I", false)
  | 47 => ("LispForgeModel", "image", "[B", true)
  | 48 => ("LispForgeModel", "state", "I", false)
  | 49 => ("LispForgeModel", "place", "I", false)
  | 50 => ("LispForgeModel", "frame", "I", false)
  | 51 => ("LispForgeModel", "top", "I", false)
  | 52 => ("LispForgeModel", "calls", "I", false)
  | 53 => ("LispForgeModel", "steps", "I", false)
  | 54 => ("LispForgeModel", "stack", "[I", true)
  | 55 => ("LispForgeModel", "callFrame", "[I", true)
  | _ => ("LispForgeModel", "callPlace", "[I", true)
def vwCl : List vw_C := [("LispForge", mm_T0, 8), ("LispForge$Bytes", mm_T1, 2), ("LispForge$Compiler", mm_T2, 12), ("LispForge$Form", mm_T3, 6), ("LispForge$Linker", mm_T4, 5), ("LispForge$Machine", mm_T5, 10), ("LispForge$Reader", mm_T6, 7), ("LispForge$Replacement", mm_T7, 3), ("LispForge$Shelf", mm_T8, 2), ("LispForge$Unit", mm_T9, 8), ("LispForgeModel", mm_T10, 57)]
def mm_K0 : List FieldType := [.object "LispForge$Bytes", .object "LispForge$Reader", .object "LispForge$Shelf", .object "LispForge$Compiler", .object "LispForge$Linker", .object "LispForge$Machine", .int, .int]
def mm_K1 : List FieldType := [.array (.int), .int]
def mm_K2 : List FieldType := [.object "LispForge$Shelf", .object "LispForge$Bytes", .object "LispForge$Bytes", .array (.int), .array (.int), .int, .array (.int), .array (.int), .int, .int, .object "LispForge$Form", .object "LispForge$Replacement"]
def mm_K3 : List FieldType := [.int, .int, .int, .object "LispForge$Form", .object "LispForge$Form", .object "LispForge$Form"]
def mm_K4 : List FieldType := [.object "LispForge$Shelf", .array (.object "LispForge$Unit"), .array (.int), .int, .int]
def mm_K5 : List FieldType := [.object "LispForge$Bytes", .array (.int), .int, .array (.int), .array (.int), .int, .int, .int, .int, .int]
def mm_K6 : List FieldType := [.array (.object "LispForge$Form"), .int, .object "LispForge$Form", .object "LispForge$Form", .int, .boolean, .int]
def mm_K7 : List FieldType := [.object "LispForge$Unit", .object "LispForge$Form", .object "LispForge$Replacement"]
def mm_K8 : List FieldType := [.array (.object "LispForge$Unit"), .int]
def mm_K9 : List FieldType := [.int, .int, .array (.int), .object "LispForge$Form", .object "LispForge$Bytes", .object "LispForge$Bytes", .array (.int), .array (.int)]
def mm_K10 : List FieldType := [.int, .int, .int, .int, .int, .array (.char), .array (.int), .array (.int), .array (.int), .array (.int), .array (.byte), .array (.int), .array (.int), .array (.int), .array (.int), .array (.char), .array (.int), .int, .int, .array (.int), .array (.int), .array (.int), .array (.int), .int, .int, .int, .array (.int), .array (.int), .boolean, .int, .int, .int, .int, .int, .int, .array (.int), .array (.int), .array (.int), .array (.byte), .array (.int), .array (.int), .array (.int), .array (.int), .int, .array (.int), .array (.int), .int, .array (.byte), .int, .int, .int, .int, .int, .int, .array (.int), .array (.int), .array (.int)]
def mm_K (ci : Nat) : List FieldType := match ci with
  | 0 => mm_K0
  | 1 => mm_K1
  | 2 => mm_K2
  | 3 => mm_K3
  | 4 => mm_K4
  | 5 => mm_K5
  | 6 => mm_K6
  | 7 => mm_K7
  | 8 => mm_K8
  | 9 => mm_K9
  | 10 => mm_K10
  | _ => []
/-- the classes of the arrays of references: their elements' class -/
def mm_el (j : Nat) : Nat := match j with
  | 0 => 3
  | _ => 9
def mm_tys (cT : Nat → ClassId) : List (ClassId × FieldType) := [(cT 0, .int), (cT 1, .byte), (cT 2, .char), (cT 3, .long), (cT 4, .object "LispForge$Form"), (cT 5, .object "LispForge$Unit")]
def mm_over : List String := ["LispForge$Form", "LispForge$Unit"]
def mm_ex (e : Nat) : String := match e with
  | 0 => "java/lang/IllegalArgumentException"
  | 1 => "java/lang/UnsupportedOperationException"
  | _ => "java/lang/IllegalStateException"
def mm_meths : List (MethodName × (ByteArray × (Nat × (Option FieldType × Nat)))) := [
  (⟨"LispForge", "<init>", "()V"⟩, prog_1_method_1_code, 1, none, 1),
  (⟨"LispForge$Bytes", "<init>", "(I)V"⟩, prog_2_method_1_code, 2, none, 2),
  (⟨"java/lang/Math", "max", "(II)I"⟩, prog_17_method_65_code, 2, (some .int), 2),
  (⟨"LispForge$Reader", "<init>", "()V"⟩, prog_7_method_1_code, 1, none, 1),
  (⟨"LispForge$Shelf", "<init>", "()V"⟩, prog_9_method_1_code, 1, none, 1),
  (⟨"LispForge$Compiler", "<init>", "(LLispForge$Shelf;)V"⟩, prog_3_method_1_code, 2, none, 2),
  (⟨"LispForge$Linker", "<init>", "(LLispForge$Shelf;)V"⟩, prog_5_method_1_code, 2, none, 2),
  (⟨"LispForge$Machine", "<init>", "()V"⟩, prog_6_method_1_code, 1, none, 1),
  (⟨"LispForge", "write", "(J)Z"⟩, prog_1_method_2_code, 6, (some .boolean), 2),
  (⟨"LispForge", "characterAt", "(JI)I"⟩, prog_1_method_15_code, 3, (some .int), 2),
  (⟨"LispForge$Bytes", "room", "()I"⟩, prog_2_method_3_code, 1, (some .int), 1),
  (⟨"LispForge$Bytes", "put", "(I)V"⟩, prog_2_method_5_code, 2, none, 2),
  (⟨"LispForge", "position", "()I"⟩, prog_1_method_4_code, 1, (some .int), 1),
  (⟨"LispForge", "object", "(II)I"⟩, prog_1_method_5_code, 4, (some .int), 3),
  (⟨"LispForge$Shelf", "unit", "(I)LLispForge$Unit;"⟩, prog_9_method_5_code, 2, (some (.object "LispForge$Unit")), 2),
  (⟨"LispForge$Bytes", "lengthOrByte", "(I)I"⟩, prog_2_method_12_code, 2, (some .int), 2),
  (⟨"LispForge$Bytes", "at", "(I)I"⟩, prog_2_method_10_code, 2, (some .int), 2),
  (⟨"LispForge", "clear", "()V"⟩, prog_1_method_6_code, 1, none, 1),
  (⟨"LispForge$Shelf", "empty", "()V"⟩, prog_9_method_4_code, 1, none, 1),
  (⟨"LispForge", "failure", "()I"⟩, prog_1_method_8_code, 1, (some .int), 1),
  (⟨"LispForge", "image", "(I)I"⟩, prog_1_method_9_code, 2, (some .int), 2),
  (⟨"LispForge", "restart", "()Z"⟩, prog_1_method_10_code, 1, (some .boolean), 1),
  (⟨"LispForge$Machine", "begin", "()V"⟩, prog_6_method_2_code, 1, none, 1),
  (⟨"LispForge", "about", "(I)I"⟩, prog_1_method_12_code, 2, (some .int), 2),
  (⟨"LispForge", "stack", "(I)I"⟩, prog_1_method_13_code, 2, (some .int), 2),
  (⟨"LispForge$Machine", "numberAt", "(I)I"⟩, prog_6_method_4_code, 2, (some .int), 2),
  (⟨"LispForge", "top", "()I"⟩, prog_1_method_14_code, 1, (some .int), 1),
  (⟨"LispForge", "compile", "()I"⟩, prog_1_method_3_code, 3, (some .int), 1),
  (⟨"LispForge$Reader", "read", "(LLispForge$Bytes;)LLispForge$Form;"⟩, prog_7_method_2_code, 3, (some (.object "LispForge$Form")), 2),
  (⟨"LispForge$Reader", "takes", "(I)Z"⟩, prog_7_method_3_code, 3, (some .boolean), 2),
  (⟨"LispForge$Reader", "lengthensAtom", "(I)Z"⟩, prog_7_method_4_code, 2, (some .boolean), 2),
  (⟨"LispForge$Reader", "isDigit", "(I)Z"⟩, prog_7_method_10_code, 1, (some .boolean), 1),
  (⟨"LispForge$Reader", "addsDigit", "(I)Z"⟩, prog_7_method_5_code, 2, (some .boolean), 2),
  (⟨"LispForge$Reader", "isLetter", "(I)Z"⟩, prog_7_method_11_code, 1, (some .boolean), 1),
  (⟨"LispForge$Form", "isSymbolOfLetters", "()Z"⟩, prog_4_method_2_code, 1, (some .boolean), 1),
  (⟨"LispForge", "isOfLetters", "(I)Z"⟩, prog_1_method_16_code, 1, (some .boolean), 1),
  (⟨"LispForge$Reader", "opensList", "()Z"⟩, prog_7_method_7_code, 2, (some .boolean), 1),
  (⟨"LispForge$Form", "<init>", "(II)V"⟩, prog_4_method_1_code, 3, none, 3),
  (⟨"LispForge$Reader", "adds", "(LLispForge$Form;)Z"⟩, prog_7_method_9_code, 3, (some .boolean), 2),
  (⟨"LispForge$Form", "append", "(LLispForge$Form;)V"⟩, prog_4_method_3_code, 2, none, 2),
  (⟨"LispForge$Reader", "closesList", "()Z"⟩, prog_7_method_8_code, 1, (some .boolean), 1),
  (⟨"LispForge$Reader", "beginsAtom", "(I)Z"⟩, prog_7_method_6_code, 3, (some .boolean), 2),
  (⟨"LispForge$Reader", "isSign", "(I)Z"⟩, prog_7_method_12_code, 1, (some .boolean), 1),
  (⟨"LispForge$Bytes", "empty", "()V"⟩, prog_2_method_4_code, 1, none, 1),
  (⟨"LispForge$Compiler", "unitOf", "(LLispForge$Form;)LLispForge$Unit;"⟩, prog_3_method_2_code, 3, (some (.object "LispForge$Unit")), 2),
  (⟨"LispForge$Form", "part", "(I)LLispForge$Form;"⟩, prog_4_method_4_code, 4, (some (.object "LispForge$Form")), 2),
  (⟨"LispForge$Compiler", "definitionOf", "(LLispForge$Form;I)LLispForge$Unit;"⟩, prog_3_method_3_code, 6, (some (.object "LispForge$Unit")), 3),
  (⟨"LispForge$Compiler", "isWord", "(I)Z"⟩, prog_3_method_4_code, 1, (some .boolean), 1),
  (⟨"LispForge$Compiler", "areParameters", "(LLispForge$Form;)Z"⟩, prog_3_method_5_code, 2, (some .boolean), 1),
  (⟨"LispForge$Compiler", "isRepeatedBehind", "(LLispForge$Form;)Z"⟩, prog_3_method_6_code, 2, (some .boolean), 1),
  (⟨"LispForge$Compiler", "symbolsOf", "(LLispForge$Form;)[I"⟩, prog_3_method_7_code, 4, (some (.array .int)), 1),
  (⟨"LispForge$Unit", "<init>", "(II[ILLispForge$Form;)V"⟩, prog_10_method_1_code, 5, none, 5),
  (⟨"LispForge$Compiler", "complete", "(LLispForge$Unit;)V"⟩, prog_3_method_8_code, 4, none, 2),
  (⟨"LispForge$Compiler", "bind", "(II)V"⟩, prog_3_method_23_code, 3, none, 3),
  (⟨"LispForge$Compiler", "translate", "(LLispForge$Form;LLispForge$Replacement;II)V"⟩, prog_3_method_10_code, 8, none, 5),
  (⟨"LispForge$Compiler", "settle", "(LLispForge$Form;LLispForge$Replacement;)V"⟩, prog_3_method_27_code, 7, none, 3),
  (⟨"LispForge$Compiler", "follow", "(LLispForge$Form;LLispForge$Replacement;)V"⟩, prog_3_method_28_code, 5, none, 3),
  (⟨"LispForge$Replacement", "argumentFor", "(I)LLispForge$Form;"⟩, prog_8_method_2_code, 4, (some (.object "LispForge$Form")), 2),
  (⟨"LispForge$Compiler", "macroSeen", "()LLispForge$Unit;"⟩, prog_3_method_29_code, 1, (some (.object "LispForge$Unit")), 1),
  (⟨"LispForge$Shelf", "latest", "(II)LLispForge$Unit;"⟩, prog_9_method_6_code, 5, (some (.object "LispForge$Unit")), 3),
  (⟨"LispForge$Compiler", "replacementBy", "(LLispForge$Unit;LLispForge$Form;LLispForge$Replacement;)LLispForge$Replacement;"⟩, prog_3_method_30_code, 4, (some (.object "LispForge$Replacement")), 4),
  (⟨"LispForge$Compiler", "requireSize", "(LLispForge$Form;I)V"⟩, prog_3_method_25_code, 2, none, 2),
  (⟨"LispForge$Replacement", "<init>", "(LLispForge$Unit;LLispForge$Form;LLispForge$Replacement;)V"⟩, prog_8_method_1_code, 4, none, 4),
  (⟨"LispForge$Compiler", "putNumber", "(I)V"⟩, prog_3_method_19_code, 2, none, 2),
  (⟨"LispForge$Compiler", "emit", "(I)V"⟩, prog_3_method_21_code, 2, none, 2),
  (⟨"LispForge$Compiler", "slotOf", "(I)I"⟩, prog_3_method_24_code, 3, (some .int), 2),
  (⟨"LispForge$Compiler", "symbolSeen", "()I"⟩, prog_3_method_26_code, 1, (some .int), 1),
  (⟨"LispForge$Compiler", "operationOf", "(I)I"⟩, prog_3_method_11_code, 1, (some .int), 1),
  (⟨"LispForge$Compiler", "putPair", "(LLispForge$Form;LLispForge$Replacement;III)V"⟩, prog_3_method_12_code, 6, none, 6),
  (⟨"LispForge$Compiler", "putIf", "(LLispForge$Form;LLispForge$Replacement;II)V"⟩, prog_3_method_13_code, 7, none, 5),
  (⟨"LispForge$Compiler", "putJump", "(I)I"⟩, prog_3_method_20_code, 2, (some .int), 2),
  (⟨"LispForge$Bytes", "setTwo", "(II)V"⟩, prog_2_method_9_code, 3, none, 3),
  (⟨"LispForge$Compiler", "putLet", "(LLispForge$Form;LLispForge$Replacement;II)V"⟩, prog_3_method_14_code, 6, none, 5),
  (⟨"LispForge$Compiler", "putDo", "(LLispForge$Form;LLispForge$Replacement;II)V"⟩, prog_3_method_15_code, 6, none, 5),
  (⟨"LispForge$Compiler", "putSet", "(LLispForge$Form;LLispForge$Replacement;II)V"⟩, prog_3_method_16_code, 6, none, 5),
  (⟨"LispForge$Compiler", "putRun", "(LLispForge$Form;LLispForge$Replacement;II)V"⟩, prog_3_method_17_code, 8, none, 5),
  (⟨"LispForge$Compiler", "putCall", "(ILLispForge$Form;LLispForge$Replacement;II)V"⟩, prog_3_method_18_code, 8, none, 6),
  (⟨"LispForge$Compiler", "addFix", "(II)V"⟩, prog_3_method_22_code, 3, none, 3),
  (⟨"LispForge$Bytes", "copy", "()LLispForge$Bytes;"⟩, prog_2_method_2_code, 2, (some (.object "LispForge$Bytes")), 1),
  (⟨"LispForge$Bytes", "putAll", "(LLispForge$Bytes;)V"⟩, prog_2_method_8_code, 3, none, 2),
  (⟨"java/util/Arrays", "copyOf", "([II)[I"⟩, prog_23_method_123_code, 3, (some (.array .int)), 2),
  (⟨"java/lang/Math", "min", "(II)I"⟩, prog_17_method_69_code, 2, (some .int), 2),
  (⟨"LispForge$Compiler", "fileOf", "(LLispForge$Unit;)LLispForge$Bytes;"⟩, prog_3_method_9_code, 3, (some (.object "LispForge$Bytes")), 2),
  (⟨"LispForge$Bytes", "putName", "(I)V"⟩, prog_2_method_7_code, 4, none, 2),
  (⟨"LispForge$Bytes", "putTwo", "(I)V"⟩, prog_2_method_6_code, 2, none, 2),
  (⟨"LispForge$Shelf", "isFull", "()Z"⟩, prog_9_method_2_code, 1, (some .boolean), 1),
  (⟨"LispForge$Shelf", "put", "(LLispForge$Unit;)I"⟩, prog_9_method_3_code, 2, (some .int), 2),
  (⟨"LispForge", "link", "()I"⟩, prog_1_method_7_code, 1, (some .int), 1),
  (⟨"LispForge$Linker", "gather", "()I"⟩, prog_5_method_2_code, 4, (some .int), 1),
  (⟨"LispForge$Linker", "add", "(LLispForge$Unit;)V"⟩, prog_5_method_4_code, 2, none, 2),
  (⟨"LispForge$Linker", "gatherCalledBy", "(LLispForge$Unit;)I"⟩, prog_5_method_3_code, 4, (some .int), 2),
  (⟨"LispForge$Linker", "beginningOf", "(LLispForge$Unit;)I"⟩, prog_5_method_5_code, 3, (some .int), 2),
  (⟨"LispForge$Linker", "fill", "(LLispForge$Bytes;)V"⟩, prog_5_method_6_code, 3, none, 2),
  (⟨"LispForge$Linker", "moveJumps", "(LLispForge$Bytes;LLispForge$Bytes;I)V"⟩, prog_5_method_7_code, 6, none, 4),
  (⟨"LispForge$Bytes", "twoAt", "(I)I"⟩, prog_2_method_11_code, 2, (some .int), 2),
  (⟨"LispForge$Linker", "lengthOf", "(I)I"⟩, prog_5_method_8_code, 1, (some .int), 1),
  (⟨"LispForge$Linker", "setCalls", "(LLispForge$Unit;LLispForge$Bytes;I)V"⟩, prog_5_method_9_code, 6, none, 4),
  (⟨"LispForge", "run", "(I)I"⟩, prog_1_method_11_code, 2, (some .int), 2),
  (⟨"LispForge$Machine", "makeSteps", "(I)I"⟩, prog_6_method_3_code, 3, (some .int), 2),
  (⟨"LispForge$Machine", "makeStep", "()V"⟩, prog_6_method_5_code, 2, none, 1),
  (⟨"LispForge$Machine", "hasNoRoomFor", "(I)Z"⟩, prog_6_method_6_code, 2, (some .boolean), 2),
  (⟨"LispForge$Machine", "put", "(I)V"⟩, prog_6_method_7_code, 2, none, 2),
  (⟨"LispForge$Machine", "joinTwo", "(I)V"⟩, prog_6_method_9_code, 4, none, 2),
  (⟨"LispForge$Machine", "takeOff", "()I"⟩, prog_6_method_8_code, 2, (some .int), 1),
  (⟨"LispForge$Machine", "takeOutBelow", "()V"⟩, prog_6_method_10_code, 2, none, 1),
  (⟨"LispForge$Machine", "store", "(I)V"⟩, prog_6_method_11_code, 2, none, 2),
  (⟨"LispForge$Machine", "enter", "()V"⟩, prog_6_method_12_code, 1, none, 1),
  (⟨"LispForge$Machine", "leave", "()V"⟩, prog_6_method_13_code, 2, none, 1),
  (⟨"LispForgeModel", "<init>", "()V"⟩, prog_12_method_1_code, 1, none, 1),
  (⟨"LispForgeModel", "write", "(J)Z"⟩, prog_12_method_3_code, 7, (some .boolean), 2),
  (⟨"LispForgeModel", "compile", "()I"⟩, prog_12_method_35_code, 7, (some .int), 1),
  (⟨"LispForgeModel", "read", "(III)I"⟩, prog_12_method_12_code, 10, (some .int), 4),
  (⟨"LispForgeModel", "at", "(II)I"⟩, prog_12_method_4_code, 3, (some .int), 3),
  (⟨"LispForgeModel", "isDigit", "(I)Z"⟩, prog_12_method_5_code, 1, (some .boolean), 1),
  (⟨"LispForgeModel", "isLetter", "(I)Z"⟩, prog_12_method_6_code, 1, (some .boolean), 1),
  (⟨"LispForgeModel", "isSign", "(I)Z"⟩, prog_12_method_7_code, 1, (some .boolean), 1),
  (⟨"LispForgeModel", "form", "(II)I"⟩, prog_12_method_8_code, 3, (some .int), 3),
  (⟨"LispForgeModel", "joins", "(I)V"⟩, prog_12_method_9_code, 2, none, 2),
  (⟨"LispForgeModel", "number", "(I)I"⟩, prog_12_method_10_code, 5, (some .int), 2),
  (⟨"LispForgeModel", "symbolForm", "(II)I"⟩, prog_12_method_11_code, 6, (some .int), 3),
  (⟨"LispForgeModel", "head", "(I)I"⟩, prog_12_method_18_code, 3, (some .int), 2),
  (⟨"LispForgeModel", "count", "(I)I"⟩, prog_12_method_13_code, 4, (some .int), 2),
  (⟨"LispForgeModel", "part", "(II)I"⟩, prog_12_method_14_code, 5, (some .int), 3),
  (⟨"LispForgeModel", "word", "(III)I"⟩, prog_12_method_16_code, 3, (some .int), 3),
  (⟨"LispForgeModel", "isSymbol", "(I)Z"⟩, prog_12_method_15_code, 2, (some .boolean), 2),
  (⟨"LispForgeModel", "isWord", "(I)Z"⟩, prog_12_method_17_code, 1, (some .boolean), 1),
  (⟨"LispForgeModel", "parametersOf", "(I)I"⟩, prog_12_method_32_code, 6, (some .int), 2),
  (⟨"LispForgeModel", "know", "(II)V"⟩, prog_12_method_24_code, 3, none, 3),
  (⟨"LispForgeModel", "body", "(III)V"⟩, prog_12_method_31_code, 4, none, 4),
  (⟨"LispForgeModel", "push", "(III)V"⟩, prog_12_method_23_code, 4, none, 4),
  (⟨"LispForgeModel", "perform", "(III)V"⟩, prog_12_method_30_code, 4, none, 4),
  (⟨"LispForgeModel", "listed", "(I)V"⟩, prog_12_method_29_code, 6, none, 2),
  (⟨"LispForgeModel", "macro", "(I)I"⟩, prog_12_method_19_code, 3, (some .int), 2),
  (⟨"LispForgeModel", "replace", "(III)V"⟩, prog_12_method_28_code, 4, none, 4),
  (⟨"LispForgeModel", "sign", "(I)I"⟩, prog_12_method_27_code, 1, (some .int), 1),
  (⟨"LispForgeModel", "atom", "(I)V"⟩, prog_12_method_26_code, 3, none, 2),
  (⟨"LispForgeModel", "emit", "(I)V"⟩, prog_12_method_20_code, 2, none, 2),
  (⟨"LispForgeModel", "emitPlace", "(I)V"⟩, prog_12_method_21_code, 2, none, 2),
  (⟨"LispForgeModel", "slotOf", "(I)I"⟩, prog_12_method_25_code, 3, (some .int), 2),
  (⟨"LispForgeModel", "aim", "(I)V"⟩, prog_12_method_22_code, 2, none, 2),
  (⟨"LispForgeModel", "fourth", "()I"⟩, prog_12_method_34_code, 8, (some .int), 1),
  (⟨"LispForgeModel", "keep", "(IIII)I"⟩, prog_12_method_33_code, 7, (some .int), 5),
  (⟨"LispForgeModel", "position", "()I"⟩, prog_12_method_36_code, 1, (some .int), 1),
  (⟨"LispForgeModel", "object", "(II)I"⟩, prog_12_method_39_code, 11, (some .int), 3),
  (⟨"LispForgeModel", "letters", "(I)I"⟩, prog_12_method_37_code, 1, (some .int), 1),
  (⟨"LispForgeModel", "nameByte", "(II)I"⟩, prog_12_method_38_code, 3, (some .int), 2),
  (⟨"LispForgeModel", "clear", "()V"⟩, prog_12_method_40_code, 1, none, 1),
  (⟨"LispForgeModel", "link", "()I"⟩, prog_12_method_47_code, 4, (some .int), 1),
  (⟨"LispForgeModel", "latest", "(II)I"⟩, prog_12_method_41_code, 4, (some .int), 3),
  (⟨"LispForgeModel", "meet", "(I)I"⟩, prog_12_method_43_code, 4, (some .int), 2),
  (⟨"LispForgeModel", "stands", "(I)I"⟩, prog_12_method_42_code, 3, (some .int), 2),
  (⟨"LispForgeModel", "copy", "(II)V"⟩, prog_12_method_46_code, 5, none, 3),
  (⟨"LispForgeModel", "putPlace", "(II)V"⟩, prog_12_method_45_code, 3, none, 3),
  (⟨"LispForgeModel", "wide", "(I)I"⟩, prog_12_method_44_code, 1, (some .int), 1),
  (⟨"LispForgeModel", "begin", "()V"⟩, prog_12_method_50_code, 1, none, 1),
  (⟨"LispForgeModel", "failure", "()I"⟩, prog_12_method_48_code, 1, (some .int), 1),
  (⟨"LispForgeModel", "image", "(I)I"⟩, prog_12_method_49_code, 2, (some .int), 2),
  (⟨"LispForgeModel", "restart", "()Z"⟩, prog_12_method_51_code, 1, (some .boolean), 1),
  (⟨"LispForgeModel", "run", "(I)I"⟩, prog_12_method_56_code, 3, (some .int), 2),
  (⟨"LispForgeModel", "step", "()V"⟩, prog_12_method_55_code, 4, none, 1),
  (⟨"LispForgeModel", "placeAt", "(I)I"⟩, prog_12_method_52_code, 2, (some .int), 2),
  (⟨"LispForgeModel", "put", "(I)V"⟩, prog_12_method_53_code, 2, none, 2),
  (⟨"LispForgeModel", "work", "(I)V"⟩, prog_12_method_54_code, 4, none, 2),
  (⟨"LispForgeModel", "about", "(I)I"⟩, prog_12_method_57_code, 2, (some .int), 2),
  (⟨"LispForgeModel", "stack", "(I)I"⟩, prog_12_method_58_code, 2, (some .int), 2),
  (⟨"LispForgeModel", "top", "()I"⟩, prog_12_method_59_code, 1, (some .int), 1),
  (⟨"LispForgeLaw", "law", "([I)Z"⟩, code, 7, (some .boolean), 1),
  (⟨"LispForgeLaw", "compile", "(LLispForge;[J)I"⟩, method_3_code, 3, (some .int), 2),
  (⟨"LispForgeLaw", "link", "(LLispForge;[J)I"⟩, method_4_code, 3, (some .int), 2),
  (⟨"LispForgeLaw", "run", "(LLispForge;I[J)I"⟩, method_5_code, 4, (some .int), 3)]
def mm_mt (mi : Nat) : MethodName × (ByteArray × (Nat × (Option FieldType × Nat))) := mm_meths.getD mi (⟨"", "", ""⟩, ⟨#[]⟩, 0, none, 0)
def mm_hdl : List (Nat × List (Nat × Nat × Nat × Nat)) := [(167, [(0, 8, 11, 13), (0, 8, 14, 15), (0, 8, 17, 17)]), (168, [(0, 8, 11, 17)]), (169, [(0, 9, 12, 13)])]
/-- a method's handlers: from, to, handler, class -/
def mm_hd (mi : Nat) : List (Nat × Nat × Nat × Nat) := (mm_hdl.lookup mi).getD []
def mm_et (x : ExceptionTableEntry) : Nat × Nat × Nat × Nat := (x.startPc, x.endPc, x.handlerPc, x.catchType)
def mm_nm (mi : Nat) : MethodName := (mm_mt mi).1
def mm_cd (mi : Nat) : ByteArray := (mm_mt mi).2.1
def mm_ml (mi : Nat) : Nat := (mm_mt mi).2.2.1
def mm_rt (mi : Nat) : Option FieldType := (mm_mt mi).2.2.2.1
def mm_na (mi : Nat) : Nat := (mm_mt mi).2.2.2.2
/-- words that go with the tables from frame to frame -/
def mm_gd (w : Cond) : Bool := match w with
  | .fieldLinkNest _ _ _ _ _ _ => true
  | .methodLinkNest _ _ _ _ => true
  | .castable _ _ => true
  | .declares _ => true
  | .stringRef _ _ _ => true
  | w => goodWord w
theorem mm_gd_warm {s U : State} {w : Cond} {a a' : Array Value} (hW : s.WarmedH U.vm) (hg : mm_gd w = true) (h : w.before a s = true) : w.before a' U = true := by
  unfold mm_gd at hg
  split at hg
  · exact va_Nw.use rfl (va_Nw.warmF hW (va_Nw.of rfl h))
  · exact va_Nw.use rfl (va_Nw.warmM hW (va_Nw.of rfl h))
  · exact va_Nw.use rfl (va_Nw.warmC hW (va_Nw.of rfl h))
  · exact va_Nw.use rfl (va_Nw.warmD hW (va_Nw.of rfl h))
  · rename_i own k tx
    have h1 := Cond.stringRef_warmed hW h
    first
      | exact h1
      | (simp only [Cond.before, Cond.holds, Cond.value, State.names, State.poolOf?, State.resolvedAt?] at h1 ⊢; exact h1)
  · exact word_at hW (good_of_word hg) h
theorem mm_gd_args {s : State} {w : Cond} {a a' : Array Value} (hg : mm_gd w = true) (h : w.before a s = true) : w.before a' s = true := mm_gd_warm (State.WarmedH.refl s) hg h
theorem mm_in0 : ∀ w ∈ u_ws "LispForge" mm_T0 8, w ∈ lw_tbl := by decide +kernel
theorem mm_ty0 : ∀ k, k < 8 → parseFieldDescriptor (mm_T0 k).2.2.1 = some (mm_K0.getD k .int) := by decide +kernel
theorem mm_nn0 : ∀ a, a < 8 → ∀ b, b < 8 → a ≠ b → (mm_T0 a).2.1 ≠ (mm_T0 b).2.1 := by decide +kernel
theorem mm_cc0 : ∀ k, k < 8 → (mm_T0 k).1 = "LispForge" := by decide +kernel
theorem mm_in1 : ∀ w ∈ u_ws "LispForge$Bytes" mm_T1 2, w ∈ lw_tbl := by decide +kernel
theorem mm_ty1 : ∀ k, k < 2 → parseFieldDescriptor (mm_T1 k).2.2.1 = some (mm_K1.getD k .int) := by decide +kernel
theorem mm_nn1 : ∀ a, a < 2 → ∀ b, b < 2 → a ≠ b → (mm_T1 a).2.1 ≠ (mm_T1 b).2.1 := by decide +kernel
theorem mm_cc1 : ∀ k, k < 2 → (mm_T1 k).1 = "LispForge$Bytes" := by decide +kernel
theorem mm_in2 : ∀ w ∈ u_ws "LispForge$Compiler" mm_T2 12, w ∈ lw_tbl := by decide +kernel
theorem mm_ty2 : ∀ k, k < 12 → parseFieldDescriptor (mm_T2 k).2.2.1 = some (mm_K2.getD k .int) := by decide +kernel
theorem mm_nn2 : ∀ a, a < 12 → ∀ b, b < 12 → a ≠ b → (mm_T2 a).2.1 ≠ (mm_T2 b).2.1 := by decide +kernel
theorem mm_cc2 : ∀ k, k < 12 → (mm_T2 k).1 = "LispForge$Compiler" := by decide +kernel
theorem mm_in3 : ∀ w ∈ u_ws "LispForge$Form" mm_T3 6, w ∈ lw_tbl := by decide +kernel
theorem mm_ty3 : ∀ k, k < 6 → parseFieldDescriptor (mm_T3 k).2.2.1 = some (mm_K3.getD k .int) := by decide +kernel
theorem mm_nn3 : ∀ a, a < 6 → ∀ b, b < 6 → a ≠ b → (mm_T3 a).2.1 ≠ (mm_T3 b).2.1 := by decide +kernel
theorem mm_cc3 : ∀ k, k < 6 → (mm_T3 k).1 = "LispForge$Form" := by decide +kernel
theorem mm_in4 : ∀ w ∈ u_ws "LispForge$Linker" mm_T4 5, w ∈ lw_tbl := by decide +kernel
theorem mm_ty4 : ∀ k, k < 5 → parseFieldDescriptor (mm_T4 k).2.2.1 = some (mm_K4.getD k .int) := by decide +kernel
theorem mm_nn4 : ∀ a, a < 5 → ∀ b, b < 5 → a ≠ b → (mm_T4 a).2.1 ≠ (mm_T4 b).2.1 := by decide +kernel
theorem mm_cc4 : ∀ k, k < 5 → (mm_T4 k).1 = "LispForge$Linker" := by decide +kernel
theorem mm_in5 : ∀ w ∈ u_ws "LispForge$Machine" mm_T5 10, w ∈ lw_tbl := by decide +kernel
theorem mm_ty5 : ∀ k, k < 10 → parseFieldDescriptor (mm_T5 k).2.2.1 = some (mm_K5.getD k .int) := by decide +kernel
theorem mm_nn5 : ∀ a, a < 10 → ∀ b, b < 10 → a ≠ b → (mm_T5 a).2.1 ≠ (mm_T5 b).2.1 := by decide +kernel
theorem mm_cc5 : ∀ k, k < 10 → (mm_T5 k).1 = "LispForge$Machine" := by decide +kernel
theorem mm_in6 : ∀ w ∈ u_ws "LispForge$Reader" mm_T6 7, w ∈ lw_tbl := by decide +kernel
theorem mm_ty6 : ∀ k, k < 7 → parseFieldDescriptor (mm_T6 k).2.2.1 = some (mm_K6.getD k .int) := by decide +kernel
theorem mm_nn6 : ∀ a, a < 7 → ∀ b, b < 7 → a ≠ b → (mm_T6 a).2.1 ≠ (mm_T6 b).2.1 := by decide +kernel
theorem mm_cc6 : ∀ k, k < 7 → (mm_T6 k).1 = "LispForge$Reader" := by decide +kernel
theorem mm_in7 : ∀ w ∈ u_ws "LispForge$Replacement" mm_T7 3, w ∈ lw_tbl := by decide +kernel
theorem mm_ty7 : ∀ k, k < 3 → parseFieldDescriptor (mm_T7 k).2.2.1 = some (mm_K7.getD k .int) := by decide +kernel
theorem mm_nn7 : ∀ a, a < 3 → ∀ b, b < 3 → a ≠ b → (mm_T7 a).2.1 ≠ (mm_T7 b).2.1 := by decide +kernel
theorem mm_cc7 : ∀ k, k < 3 → (mm_T7 k).1 = "LispForge$Replacement" := by decide +kernel
theorem mm_in8 : ∀ w ∈ u_ws "LispForge$Shelf" mm_T8 2, w ∈ lw_tbl := by decide +kernel
theorem mm_ty8 : ∀ k, k < 2 → parseFieldDescriptor (mm_T8 k).2.2.1 = some (mm_K8.getD k .int) := by decide +kernel
theorem mm_nn8 : ∀ a, a < 2 → ∀ b, b < 2 → a ≠ b → (mm_T8 a).2.1 ≠ (mm_T8 b).2.1 := by decide +kernel
theorem mm_cc8 : ∀ k, k < 2 → (mm_T8 k).1 = "LispForge$Shelf" := by decide +kernel
theorem mm_in9 : ∀ w ∈ u_ws "LispForge$Unit" mm_T9 8, w ∈ lw_tbl := by decide +kernel
theorem mm_ty9 : ∀ k, k < 8 → parseFieldDescriptor (mm_T9 k).2.2.1 = some (mm_K9.getD k .int) := by decide +kernel
theorem mm_nn9 : ∀ a, a < 8 → ∀ b, b < 8 → a ≠ b → (mm_T9 a).2.1 ≠ (mm_T9 b).2.1 := by decide +kernel
theorem mm_cc9 : ∀ k, k < 8 → (mm_T9 k).1 = "LispForge$Unit" := by decide +kernel
theorem mm_in10 : ∀ w ∈ u_ws "LispForgeModel" mm_T10 57, w ∈ lw_tbl := by decide +kernel
theorem mm_ty10 : ∀ k, k < 57 → parseFieldDescriptor (mm_T10 k).2.2.1 = some (mm_K10.getD k .int) := by decide +kernel
theorem mm_nn10 : ∀ a, a < 57 → ∀ b, b < 57 → a ≠ b → (mm_T10 a).2.1 ≠ (mm_T10 b).2.1 := by decide +kernel
theorem mm_cc10 : ∀ k, k < 57 → (mm_T10 k).1 = "LispForgeModel" := by decide +kernel
def mm_clsOk (ci : Nat) (q : vw_C) : Prop := (∀ w ∈ u_ws q.1 q.2.1 q.2.2, w ∈ lw_tbl) ∧ (∀ k, k < q.2.2 → parseFieldDescriptor (q.2.1 k).2.2.1 = some ((mm_K ci).getD k .int)) ∧ (∀ a, a < q.2.2 → ∀ b, b < q.2.2 → a ≠ b → (q.2.1 a).2.1 ≠ (q.2.1 b).2.1) ∧ (mm_K ci).length = q.2.2 ∧ ∀ k, k < q.2.2 → (q.2.1 k).1 = q.1
theorem mm_cls_ok {ci : Nat} {q : vw_C} (h : vwCl[ci]? = some q) : mm_clsOk ci q := by
  match ci, h with
  | 0, h => cases h; exact ⟨mm_in0, mm_ty0, mm_nn0, rfl, mm_cc0⟩
  | 1, h => cases h; exact ⟨mm_in1, mm_ty1, mm_nn1, rfl, mm_cc1⟩
  | 2, h => cases h; exact ⟨mm_in2, mm_ty2, mm_nn2, rfl, mm_cc2⟩
  | 3, h => cases h; exact ⟨mm_in3, mm_ty3, mm_nn3, rfl, mm_cc3⟩
  | 4, h => cases h; exact ⟨mm_in4, mm_ty4, mm_nn4, rfl, mm_cc4⟩
  | 5, h => cases h; exact ⟨mm_in5, mm_ty5, mm_nn5, rfl, mm_cc5⟩
  | 6, h => cases h; exact ⟨mm_in6, mm_ty6, mm_nn6, rfl, mm_cc6⟩
  | 7, h => cases h; exact ⟨mm_in7, mm_ty7, mm_nn7, rfl, mm_cc7⟩
  | 8, h => cases h; exact ⟨mm_in8, mm_ty8, mm_nn8, rfl, mm_cc8⟩
  | 9, h => cases h; exact ⟨mm_in9, mm_ty9, mm_nn9, rfl, mm_cc9⟩
  | 10, h => cases h; exact ⟨mm_in10, mm_ty10, mm_nn10, rfl, mm_cc10⟩
  | n + 11, h => simp [vwCl] at h
